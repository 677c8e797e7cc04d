def Ct0 (v : Nat → Int32) (fk : Nat → Int64) (K : List Int64) : Prop := K.length ≤ 600 ∧ v 8 = nI K.length ∧ ∀ j, j < K.length → fk j = K.getD j 0
/-- what the reference's readers stand on -/
def Ctx3 (v : Nat → Int32) (fk : Nat → Int64) (gl go gi ga : Nat → Nat) (K : List Int64) (L N S P A : List Nat) : Prop :=
  Rel3 K L N S P A fk gl go gi ga ∧ J2 K L N S P ∧ K.length ≤ 600 ∧ v 8 = nI K.length ∧ v 11 = nI S.length ∧ (∀ k, gl k < 2 ^ 31) ∧ (∀ k, go k < 2 ^ 31) ∧ (∀ k, gi k < 2 ^ 31) ∧ (∀ k, ga k < 2 ^ 31) ∧ srt K
theorem Ctx3.ct0 {v : Nat → Int32} {fk : Nat → Int64} {gl go gi ga : Nat → Nat} {K : List Int64} {L N S P A : List Nat} (h : Ctx3 v fk gl go gi ga K L N S P A) : Ct0 v fk K := ⟨h.2.2.1, h.2.2.2.1, h.1.1⟩
theorem sm_take (L : List Nat) (a b : Nat) : sm L a b + (L.take (min a b)).sum = (L.take b).sum := by
  have h := sum_split (L.take b) a
  rw [List.take_take] at h
  unfold sm
  omega
theorem sm_mono (L : List Nat) {a b c : Nat} (h : b ≤ c) : sm L a b ≤ sm L a c := by
  have h1 := sm_take L a b
  have h2 := sm_take L a c
  have h3 := sum_split (L.take c) b
  rw [List.take_take, Nat.min_eq_left h] at h3
  rcases Nat.le_total b a with q | q
  · rw [Nat.min_eq_right q] at h1
    omega
  · rw [Nat.min_eq_left q] at h1
    rw [Nat.min_eq_left (by omega)] at h2
    omega
theorem gIx_step {P : List Nat} (h : ∀ x ∈ P, 1 ≤ x) {k : Nat} (hk : k + 1 < P.sum) : gIx P (k + 1) = gIx P k ∨ gIx P (k + 1) = gIx P k + 1 := by
  have h1 := gIx_spec (L := P) (m := k) (by omega)
  have hl := gIx_lt (L := P) (m := k) (by omega)
  by_cases q : k + 1 < sm P 0 (gIx P k) + P.getD (gIx P k) 0
  · exact Or.inl ((gIx_iff hk hl).mpr ⟨by omega, q⟩)
  · have e := sm0_s hl
    have hl2 : gIx P k + 1 < P.length := by
      rcases Nat.lt_or_ge (gIx P k + 1) P.length with z | z
      · exact z
      · exfalso
        have := sm0 P (gIx P k + 1)
        rw [List.take_of_length_le z] at this
        omega
    have h2 := h _ (getD_mem hl2)
    exact Or.inr ((gIx_iff hk hl2).mpr ⟨by omega, by omega⟩)
theorem kbl_char (L : List Nat) (start most half : Nat) (hl : start + most < L.length) : ∀ (n kept tog : Nat), most ≤ kept + n → 1 ≤ kept → kept ≤ most → tog = sm L start (start + kept) → (kept = 1 ∨ tog ≤ half) → ((kbl L start most half n kept tog = 1 ∨ sm L start (start + kbl L start most half n kept tog) ≤ half) ∧ (kbl L start most half n kept tog = most ∨ half < sm L start (start + kbl L start most half n kept tog + 1))) := by
  intro n
  induction n with
  | zero =>
    intro kept tog h1 h2 h3 h4 h5
    simp only [kbl]
    exact ⟨by omega, Or.inl (by omega)⟩
  | succ n ih =>
    intro kept tog h1 h2 h3 h4 h5
    simp only [kbl]
    have e := sm_snoc (L := L) (a := start) (b := start + kept) (by omega) (by omega)
    split
    · rename_i hc
      exact ih (kept + 1) (tog + L.getD (start + kept) 0) (by omega) (by omega) (by omega) (by rw [h4]; exact e.symm) (Or.inr hc.2)
    · rename_i hc
      refine ⟨by omega, ?_⟩
      by_cases hk : kept < most
      · right
        rw [e]
        have : ¬ tog + L.getD (start + kept) 0 ≤ half := fun z => hc ⟨hk, z⟩
        omega
      · left; omega
/-- what is kept, told by the sums: q of c records -/
theorem kbh_is {L S : List Nat} {i q : Nat} (h2 : 2 ≤ S.getD i 0) (hl : sm S 0 i + S.getD i 0 ≤ L.length) (hq1 : 1 ≤ q) (hq2 : q + 1 ≤ S.getD i 0) (ha : q = 1 ∨ 2 * sm L (sm S 0 i) (sm S 0 i + q) ≤ lin L S i) (hb : lin L S i < 2 * sm L (sm S 0 i) (sm S 0 i + q + 1)) : kbh L S i = q := by
  have hc := kbl_char L (sm S 0 i) (S.getD i 0 - 1) (lin L S i / 2) (by omega) (S.getD i 0) 1 (L.getD (sm S 0 i) 0) (by omega) (Nat.le_refl _) (by omega) (by rw [sm_snoc (Nat.le_refl _) (by omega), sm_end (Or.inl (Nat.le_refl _)), Nat.zero_add]) (Or.inl rfl)
  have hk := kbh_b (L := L) h2
  change (kbh L S i = 1 ∨ _) ∧ (kbh L S i = _ ∨ _) at hc
  change (_ ∨ sm L (sm S 0 i) (sm S 0 i + kbh L S i) ≤ _) ∧ (_ ∨ _ < sm L (sm S 0 i) (sm S 0 i + kbh L S i + 1)) at hc
  rcases Nat.lt_trichotomy (kbh L S i) q with z | z | z
  · exfalso
    have m1 := sm_mono L (a := sm S 0 i) (b := sm S 0 i + kbh L S i + 1) (c := sm S 0 i + q) (by omega)
    rcases hc.2 with y | y
    · omega
    · rcases ha with x | x <;> omega
  · exact z
  · exfalso
    have m1 := sm_mono L (a := sm S 0 i) (b := sm S 0 i + q + 1) (c := sm S 0 i + kbh L S i) (by omega)
    rcases hc.1 with y | y <;> omega
set_option maxHeartbeats 4000000 in
set_option maxRecDepth 100000 in
theorem l3_less {p : Program} {l : Launch} {e : Env} {s : State} {m : MethodId} {args : Array Value} {below : List Frame} {meth : Method} {c : Code} {E : Gq} {A : Nat → Prop} {z : Nat → Nat} {v : Nat → Int32} {fk : Nat → Int64} {gl go gi ga : Nat → Nat} {gs : Nat → Int32} (C : Cx E p s m args meth c cX3_less 5 (some .int) RX3 A) (X : X3w E A z v fk gl go gi ga gs s s.heap []) {K : List Int64} (h0 : Ct0 v fk K) {key : Int64} {t : Nat} (hT : lsT K key t) : ∀ (n j : Nat), K.length - j = n → j ≤ K.length → ∀ ls : Array Slot, lv_has ls 5 [(4, .int (nI (j))), (3, .int (nI (min j t))), (0, .ref (z 0)), (1, .long (key))] → W p l e (Rm 0 0 0) s m args below meth c s.heap [] 0 0 (MQ below (Qr (fun r => r = some (.int (nI t)))) args s 0 0 (fun _ => False)) (F0 m 5 ls []) := by
  obtain ⟨hk, hs8, r1⟩ := id h0
  obtain ⟨t1, t2⟩ := hT
  intro n
  induction n with
  | zero =>
    intro j hn hj ls hl
    refine lv_iload C.hx C.hb dX3_less_5 (lv_at hl 0 rfl) ?_
    refine lv_aload_n C.hx C.hb dX3_less_7 rfl (lv_at hl 2 rfl) ?_
    refine x3g_8 C X (x := nI (K.length)) hs8 dX3_less_8 ?_
    refine n_icmp_ge (tgt := 40) C dX3_less_11 (by decide) (by omega) (by omega) (fun c11 => ?_) (fun c11 => ?_)
    · refine lv_iload_n C.hx C.hb dX3_less_40 rfl (lv_at hl 1 rfl) ?_
      exact ret_ir C (by rw [show min j t = t by omega]) dX3_less_41
    · omega
  | succ n ih =>
    intro j hn hj ls hl
    have hq := t2 j (by omega)
    rw [← r1 j (by omega)] at hq
    refine lv_iload C.hx C.hb dX3_less_5 (lv_at hl 0 rfl) ?_
    refine lv_aload_n C.hx C.hb dX3_less_7 rfl (lv_at hl 2 rfl) ?_
    refine x3g_8 C X (x := nI (K.length)) hs8 dX3_less_8 ?_
    refine n_icmp_ge (tgt := 40) C dX3_less_11 (by decide) (by omega) (by omega) (fun c11 => ?_) (fun c11 => ?_)
    · omega
    · refine lv_iload_n C.hx C.hb dX3_less_14 rfl (lv_at hl 1 rfl) ?_
      refine lv_aload_n C.hx C.hb dX3_less_15 rfl (lv_at hl 2 rfl) ?_
      refine x3g_5 C X dX3_less_16 ?_
      refine lv_iload C.hx C.hb dX3_less_19 (lv_at hl 0 rfl) ?_
      refine x3l_1 C X (by omega) dX3_less_21 ?_
      refine lv_lload_n C.hx C.hb dX3_less_22 rfl (lv_at hl 3 rfl) ?_
      refine n_lcmp_ge (tgt := 31) C dX3_less_23 dX3_less_24 (by decide) (fun c23 => ?_) (fun c23 => ?_)
      · have hq2 : ¬ j < t := fun h => absurd (hq.mpr h) (Int64.not_lt.mpr c23)
        refine lv_iconst (v := nI (0)) C.hx C.hb dX3_less_31 (by decide) ?_
        refine n_add C dX3_less_32 ?_
        refine lv_istore_n (lv' := [(3, .int (nI ((min j t) + 0))), (4, .int (nI (j))), (0, .ref (z 0)), (1, .long (key))]) C.hx C.hb dX3_less_33 rfl hl (by decide) rfl (fun ls hl => ?_)
        refine lv_iinc (v := nI (j + 1)) (lv' := [(4, .int (nI (j + 1))), (3, .int (nI ((min j t) + 0))), (0, .ref (z 0)), (1, .long (key))]) C.hx C.hb dX3_less_34 hl (k := 1) rfl (nI_1 _) (by decide) rfl (fun ls hl => ?_)
        refine lv_goto (tgt := 5) C.hx C.hb dX3_less_37 (by decide) ?_
        exact ih (j + 1) (by omega) (by omega) ls (by rw [show min (j + 1) t = (min j t) + 0 by omega]; exact lv_sub hl [0, 1, 2, 3] rfl)
      · have hq2 : j < t := hq.mp c23
        refine lv_iconst (v := nI (1)) C.hx C.hb dX3_less_27 (by decide) ?_
        refine lv_goto (tgt := 32) C.hx C.hb dX3_less_28 (by decide) ?_
        refine n_add C dX3_less_32 ?_
        refine lv_istore_n (lv' := [(3, .int (nI ((min j t) + 1))), (4, .int (nI (j))), (0, .ref (z 0)), (1, .long (key))]) C.hx C.hb dX3_less_33 rfl hl (by decide) rfl (fun ls hl => ?_)
        refine lv_iinc (v := nI (j + 1)) (lv' := [(4, .int (nI (j + 1))), (3, .int (nI ((min j t) + 1))), (0, .ref (z 0)), (1, .long (key))]) C.hx C.hb dX3_less_34 hl (k := 1) rfl (nI_1 _) (by decide) rfl (fun ls hl => ?_)
        refine lv_goto (tgt := 5) C.hx C.hb dX3_less_37 (by decide) ?_
        exact ih (j + 1) (by omega) (by omega) ls (by rw [show min (j + 1) t = (min j t) + 1 by omega]; exact lv_sub hl [0, 1, 2, 3] rfl)
set_option maxHeartbeats 4000000 in
set_option maxRecDepth 100000 in
/-- the reference: how many keys are less -/
theorem c3_less {l : Launch} {E : Gq} {z : Nat → Nat} {v : Nat → Int32} {fk : Nat → Int64} {gl go gi ga : Nat → Nat} {gs : Nat → Int32} {K : List Int64} (h0 : Ct0 v fk K) {key : Int64} {t : Nat} (hT : lsT K key t) : M3r l E yX3_less cX3_less 5 (some .int) 0 [.ref (z 0), .long (key)] z v fk gl go gi ga gs (fun r => r = some (.int (nI t))) := by
  refine mk_r (by decide) (Nat.le_of_ble_eq_true rfl) ?_
  intro p e s m below meth c ls C Wd hl
  have X : X3w E _ z v fk gl go gi ga gs s s.heap [] := Wd
  have hl : lv_has ls 5 [(0, .ref (z 0)), (1, .long (key))] := hl
  refine lv_iconst (v := nI (0)) C.hx C.hb dX3_less_0 (by decide) ?_
  refine lv_istore_n (lv' := [(3, .int (nI (0))), (0, .ref (z 0)), (1, .long (key))]) C.hx C.hb dX3_less_1 rfl hl (by decide) rfl (fun ls hl => ?_)
  refine lv_iconst (v := nI (0)) C.hx C.hb dX3_less_2 (by decide) ?_
  refine lv_istore (lv' := [(4, .int (nI (0))), (3, .int (nI (0))), (0, .ref (z 0)), (1, .long (key))]) C.hx C.hb dX3_less_3 hl (by decide) rfl (fun ls hl => ?_)
  exact l3_less C X h0 hT _ 0 rfl (Nat.zero_le _) ls (by rw [Nat.zero_min]; exact lv_sub hl [0, 1, 2, 3] rfl)
set_option maxHeartbeats 4000000 in
set_option maxRecDepth 100000 in
/-- the reference: whether a key is there -/
theorem c3_has_y {l : Launch} {E : Gq} {z : Nat → Nat} {v : Nat → Int32} {fk : Nat → Int64} {gl go gi ga : Nat → Nat} {gs : Nat → Int32} {K : List Int64} {L N S P A : List Nat} (h3 : Ctx3 v fk gl go gi ga K L N S P A) {key : Int64} (hh : hask K key) : M3r l E yX3_has cX3_has 4 (some .boolean) 1 [.ref (z 0), .long (key)] z v fk gl go gi ga gs (fun r => r = some (.int (nI 1))) := by
  refine mk_r (by decide) (Nat.le_of_ble_eq_true rfl) ?_
  intro p e s m below meth c ls C Wd hl
  have X : X3w E _ z v fk gl go gi ga gs s s.heap [] := Wd
  have hl : lv_has ls 4 [(0, .ref (z 0)), (1, .long (key))] := hl
  obtain ⟨hR, hJ, hk, hs8, hm, hbl, hbo, hbi, hba, hso⟩ := id h3
  obtain ⟨r1, r2, r3, r4, r5, r6, r7, r8⟩ := id hR
  obtain ⟨j1, j2, j3, j4, j5, j6, j7, j8⟩ := id hJ
  obtain ⟨k1, k2, k3, k4⟩ := hJ.b
  have hng := ngt_le K key
  have hh1 := hh.1
  refine lv_aload_n C.hx C.hb dX3_has_0 rfl (lv_at hl 0 rfl) ?_
  refine lv_lload_n C.hx C.hb dX3_has_1 rfl (lv_at hl 1 rfl) ?_
  refine x3_cr (As := [.long (key)]) (rest := []) C X (c3_less h3.ct0 (t := ngt K key - 1) (lsT_y hso hh)) wy_X3_less ts_30 tw_439 rfl ⟨by decide, by decide⟩ rfl hl.1 rfl (Nat.le_of_ble_eq_true rfl) ⟨Nat.le_refl _, Nat.le_refl _⟩ dX3_has_2 (fun r hp => ?_)
  subst hp
  refine W.eq (g2 := F0 m 5 ls [.int (nI (ngt K key - 1))]) rfl ?_
  refine lv_istore_n (lv' := [(3, .int (nI (ngt K key - 1))), (0, .ref (z 0)), (1, .long (key))]) C.hx C.hb dX3_has_5 rfl hl (by decide) rfl (fun ls hl => ?_)
  refine lv_iload_n C.hx C.hb dX3_has_6 rfl (lv_at hl 0 rfl) ?_
  refine lv_aload_n C.hx C.hb dX3_has_7 rfl (lv_at hl 1 rfl) ?_
  refine x3g_8 C X (x := nI (K.length)) hs8 dX3_has_8 ?_
  refine n_icmp_ge (tgt := 29) C dX3_has_11 (by decide) (by first | omega | exact hbo _ | exact hbi _ | exact hba _ | exact hbl _) (by first | omega | exact hbo _ | exact hbi _ | exact hba _ | exact hbl _) (fun c11 => ?_) (fun c11 => ?_)
  · omega
  · refine lv_aload_n C.hx C.hb dX3_has_14 rfl (lv_at hl 1 rfl) ?_
    refine x3g_5 C X dX3_has_15 ?_
    refine lv_iload_n C.hx C.hb dX3_has_18 rfl (lv_at hl 0 rfl) ?_
    refine x3l_1 C X (by first | omega | exact hbo _ | exact hbi _ | exact hba _ | exact hbl _) dX3_has_19 ?_
    refine lv_lload_n C.hx C.hb dX3_has_20 rfl (lv_at hl 2 rfl) ?_
    refine n_lcmp_ne (tgt := 29) C dX3_has_21 dX3_has_22 (by decide) (fun c21 => ?_) (fun c21 => ?_)
    · exact absurd (by rw [r1 _ (by omega)]; exact hh.2) c21
    · refine lv_iconst (v := nI (1)) C.hx C.hb dX3_has_25 (by decide) ?_
      refine lv_goto (tgt := 30) C.hx C.hb dX3_has_26 (by decide) ?_
      exact ret_zr C (rfl) (by decide) dX3_has_30
set_option maxHeartbeats 4000000 in
set_option maxRecDepth 100000 in
/-- the reference: whether a key is there -/
theorem c3_has_n {l : Launch} {E : Gq} {z : Nat → Nat} {v : Nat → Int32} {fk : Nat → Int64} {gl go gi ga : Nat → Nat} {gs : Nat → Int32} {K : List Int64} {L N S P A : List Nat} (h3 : Ctx3 v fk gl go gi ga K L N S P A) {key : Int64} (hh : ¬ hask K key) : M3r l E yX3_has cX3_has 4 (some .boolean) 1 [.ref (z 0), .long (key)] z v fk gl go gi ga gs (fun r => r = some (.int (nI 0))) := by
  refine mk_r (by decide) (Nat.le_of_ble_eq_true rfl) ?_
  intro p e s m below meth c ls C Wd hl
  have X : X3w E _ z v fk gl go gi ga gs s s.heap [] := Wd
  have hl : lv_has ls 4 [(0, .ref (z 0)), (1, .long (key))] := hl
  obtain ⟨hR, hJ, hk, hs8, hm, hbl, hbo, hbi, hba, hso⟩ := id h3
  obtain ⟨r1, r2, r3, r4, r5, r6, r7, r8⟩ := id hR
  obtain ⟨j1, j2, j3, j4, j5, j6, j7, j8⟩ := id hJ
  obtain ⟨k1, k2, k3, k4⟩ := hJ.b
  have hng := ngt_le K key
  refine lv_aload_n C.hx C.hb dX3_has_0 rfl (lv_at hl 0 rfl) ?_
  refine lv_lload_n C.hx C.hb dX3_has_1 rfl (lv_at hl 1 rfl) ?_
  refine x3_cr (As := [.long (key)]) (rest := []) C X (c3_less h3.ct0 (t := ngt K key) (lsT_n hso hh)) wy_X3_less ts_30 tw_439 rfl ⟨by decide, by decide⟩ rfl hl.1 rfl (Nat.le_of_ble_eq_true rfl) ⟨Nat.le_refl _, Nat.le_refl _⟩ dX3_has_2 (fun r hp => ?_)
  subst hp
  refine W.eq (g2 := F0 m 5 ls [.int (nI (ngt K key))]) rfl ?_
  refine lv_istore_n (lv' := [(3, .int (nI (ngt K key))), (0, .ref (z 0)), (1, .long (key))]) C.hx C.hb dX3_has_5 rfl hl (by decide) rfl (fun ls hl => ?_)
  refine lv_iload_n C.hx C.hb dX3_has_6 rfl (lv_at hl 0 rfl) ?_
  refine lv_aload_n C.hx C.hb dX3_has_7 rfl (lv_at hl 1 rfl) ?_
  refine x3g_8 C X (x := nI (K.length)) hs8 dX3_has_8 ?_
  refine n_icmp_ge (tgt := 29) C dX3_has_11 (by decide) (by first | omega | exact hbo _ | exact hbi _ | exact hba _ | exact hbl _) (by first | omega | exact hbo _ | exact hbi _ | exact hba _ | exact hbl _) (fun c11 => ?_) (fun c11 => ?_)
  · refine lv_iconst (v := nI (0)) C.hx C.hb dX3_has_29 (by decide) ?_
    exact ret_zr C (rfl) (by decide) dX3_has_30
  · refine lv_aload_n C.hx C.hb dX3_has_14 rfl (lv_at hl 1 rfl) ?_
    refine x3g_5 C X dX3_has_15 ?_
    refine lv_iload_n C.hx C.hb dX3_has_18 rfl (lv_at hl 0 rfl) ?_
    refine x3l_1 C X (by first | omega | exact hbo _ | exact hbi _ | exact hba _ | exact hbl _) dX3_has_19 ?_
    refine lv_lload_n C.hx C.hb dX3_has_20 rfl (lv_at hl 2 rfl) ?_
    refine n_lcmp_ne (tgt := 29) C dX3_has_21 dX3_has_22 (by decide) (fun c21 => ?_) (fun c21 => ?_)
    · refine lv_iconst (v := nI (0)) C.hx C.hb dX3_has_29 (by decide) ?_
      exact ret_zr C (rfl) (by decide) dX3_has_30
    · exact absurd (ngt_out c11) (by rw [← r1 _ c11, c21]; exact fun h => Int64.lt_irrefl h)
set_option maxHeartbeats 4000000 in
set_option maxRecDepth 100000 in
theorem l3_first {p : Program} {l : Launch} {e : Env} {s : State} {m : MethodId} {args : Array Value} {below : List Frame} {meth : Method} {c : Code} {E : Gq} {A : Nat → Prop} {z : Nat → Nat} {v : Nat → Int32} {fk : Nat → Int64} {gl go gi ga : Nat → Nat} {gs : Nat → Int32} (C : Cx E p s m args meth c cX3_first 3 (some .int) RX3 A) (X : X3w E A z v fk gl go gi ga gs s s.heap []) {K : List Int64} {L N S P Ar : List Nat} (h3 : Ctx3 v fk gl go gi ga K L N S P Ar) {i : Nat} (hi : i < S.length) (h1 : 1 ≤ S.getD i 0) : ∀ (n j : Nat), sm S 0 i - j = n → j ≤ sm S 0 i → ∀ ls : Array Slot, lv_has ls 3 [(2, .int (nI (j))), (0, .ref (z 0)), (1, .int (nI (i)))] → W p l e (Rm 0 0 0) s m args below meth c s.heap [] 0 0 (MQ below (Qr (fun r => r = some (.int (nI (sm S 0 i))))) args s 0 0 (fun _ => False)) (F0 m 2 ls []) := by
  obtain ⟨hR, hJ, hk, hs8, hm, hbl, hbo, hbi, hba, hso⟩ := id h3
  obtain ⟨r1, r2, r3, r4, r5, r6, r7, r8⟩ := id hR
  obtain ⟨j1, j2, j3, j4, j5, j6, j7, j8⟩ := id hJ
  obtain ⟨k1, k2, k3, k4⟩ := hJ.b
  have q1 := sm0_get S i
  intro n
  induction n with
  | zero =>
    intro j hn hj ls hl
    have e : j = sm S 0 i := by omega
    subst e
    refine lv_iload_n C.hx C.hb dX3_first_2 rfl (lv_at hl 0 rfl) ?_
    refine lv_aload_n C.hx C.hb dX3_first_3 rfl (lv_at hl 1 rfl) ?_
    refine x3g_8 C X (x := nI (K.length)) hs8 dX3_first_4 ?_
    refine n_icmp_ge (tgt := 33) C dX3_first_7 (by decide) (by first | omega | exact hbo _ | exact hbi _ | exact hba _ | exact hbl _) (by first | omega | exact hbo _ | exact hbi _ | exact hba _ | exact hbl _) (fun c7 => ?_) (fun c7 => ?_)
    · omega
    · refine lv_aload_n C.hx C.hb dX3_first_10 rfl (lv_at hl 1 rfl) ?_
      refine x3g_7 C X dX3_first_11 ?_
      refine lv_iload_n C.hx C.hb dX3_first_14 rfl (lv_at hl 0 rfl) ?_
      refine x3l_3 C X (by first | omega | exact hbo _ | exact hbi _ | exact hba _ | exact hbl _) dX3_first_15 ?_
      refine lv_aload_n C.hx C.hb dX3_first_16 rfl (lv_at hl 1 rfl) ?_
      refine x3g_9 C X dX3_first_17 ?_
      refine lv_iload_n C.hx C.hb dX3_first_20 rfl (lv_at hl 2 rfl) ?_
      refine x3l_4 C X (by first | omega | exact hbo _ | exact hbi _ | exact hba _ | exact hbl _) dX3_first_21 ?_
      refine n_icmp_ne (tgt := 27) C dX3_first_22 (by decide) (by first | omega | exact hbo _ | exact hbi _ | exact hba _ | exact hbl _) (by first | omega | exact hbo _ | exact hbi _ | exact hba _ | exact hbl _) (fun c22 => ?_) (fun c22 => ?_)
      · exact absurd ((hR.of hJ hi (by omega)).mpr ⟨Nat.le_refl _, by omega⟩) c22
      · refine lv_iload_n C.hx C.hb dX3_first_25 rfl (lv_at hl 0 rfl) ?_
        exact ret_ir C (rfl) dX3_first_26
  | succ n ih =>
    intro j hn hj ls hl
    refine lv_iload_n C.hx C.hb dX3_first_2 rfl (lv_at hl 0 rfl) ?_
    refine lv_aload_n C.hx C.hb dX3_first_3 rfl (lv_at hl 1 rfl) ?_
    refine x3g_8 C X (x := nI (K.length)) hs8 dX3_first_4 ?_
    refine n_icmp_ge (tgt := 33) C dX3_first_7 (by decide) (by first | omega | exact hbo _ | exact hbi _ | exact hba _ | exact hbl _) (by first | omega | exact hbo _ | exact hbi _ | exact hba _ | exact hbl _) (fun c7 => ?_) (fun c7 => ?_)
    · omega
    · refine lv_aload_n C.hx C.hb dX3_first_10 rfl (lv_at hl 1 rfl) ?_
      refine x3g_7 C X dX3_first_11 ?_
      refine lv_iload_n C.hx C.hb dX3_first_14 rfl (lv_at hl 0 rfl) ?_
      refine x3l_3 C X (by first | omega | exact hbo _ | exact hbi _ | exact hba _ | exact hbl _) dX3_first_15 ?_
      refine lv_aload_n C.hx C.hb dX3_first_16 rfl (lv_at hl 1 rfl) ?_
      refine x3g_9 C X dX3_first_17 ?_
      refine lv_iload_n C.hx C.hb dX3_first_20 rfl (lv_at hl 2 rfl) ?_
      refine x3l_4 C X (by first | omega | exact hbo _ | exact hbi _ | exact hba _ | exact hbl _) dX3_first_21 ?_
      refine n_icmp_ne (tgt := 27) C dX3_first_22 (by decide) (by first | omega | exact hbo _ | exact hbi _ | exact hba _ | exact hbl _) (by first | omega | exact hbo _ | exact hbi _ | exact hba _ | exact hbl _) (fun c22 => ?_) (fun c22 => ?_)
      · refine lv_iinc (v := nI (j + 1)) (lv' := [(2, .int (nI (j + 1))), (0, .ref (z 0)), (1, .int (nI (i)))]) C.hx C.hb dX3_first_27 hl (k := 0) rfl (nI_1 _) (by decide) rfl (fun ls hl => ?_)
        refine lv_goto (tgt := 2) C.hx C.hb dX3_first_30 (by decide) ?_
        exact ih (j + 1) (by omega) (by omega) ls (lv_sub hl [0, 1, 2] rfl)
      · exact absurd ((hR.of hJ hi (by omega)).mp c22) (fun h => by omega)
set_option maxHeartbeats 4000000 in
set_option maxRecDepth 100000 in
/-- the reference: the first record of an interval -/
theorem c3_first {l : Launch} {E : Gq} {z : Nat → Nat} {v : Nat → Int32} {fk : Nat → Int64} {gl go gi ga : Nat → Nat} {gs : Nat → Int32} {K : List Int64} {L N S P A : List Nat} (h3 : Ctx3 v fk gl go gi ga K L N S P A) {i : Nat} (hi : i < S.length) (h1 : 1 ≤ S.getD i 0) : M3r l E yX3_first cX3_first 3 (some .int) 0 [.ref (z 0), .int (nI (i))] z v fk gl go gi ga gs (fun r => r = some (.int (nI (sm S 0 i)))) := by
  refine mk_r (by decide) (Nat.le_of_ble_eq_true rfl) ?_
  intro p e s m below meth c ls C Wd hl
  have X : X3w E _ z v fk gl go gi ga gs s s.heap [] := Wd
  have hl : lv_has ls 3 [(0, .ref (z 0)), (1, .int (nI (i)))] := hl
  refine lv_iconst (v := nI (0)) C.hx C.hb dX3_first_0 (by decide) ?_
  refine lv_istore_n (lv' := [(2, .int (nI (0))), (0, .ref (z 0)), (1, .int (nI (i)))]) C.hx C.hb dX3_first_1 rfl hl (by decide) rfl (fun ls hl => ?_)
  exact l3_first C X h3 hi h1 _ 0 rfl (Nat.zero_le _) ls (lv_sub hl [0, 1, 2] rfl)
set_option maxHeartbeats 4000000 in
set_option maxRecDepth 100000 in
/-- the reference: the first record of an empty interval -/
theorem c3_first_n {l : Launch} {E : Gq} {z : Nat → Nat} {v : Nat → Int32} {fk : Nat → Int64} {gl go gi ga : Nat → Nat} {gs : Nat → Int32} {K : List Int64} {L N S P A : List Nat} (h3 : Ctx3 v fk gl go gi ga K L N S P A) {i : Nat} (hi : i < S.length) (h0 : K.length = 0) : M3r l E yX3_first cX3_first 3 (some .int) 0 [.ref (z 0), .int (nI (i))] z v fk gl go gi ga gs (fun r => r = some (.int (-1))) := by
  refine mk_r (by decide) (Nat.le_of_ble_eq_true rfl) ?_
  intro p e s m below meth c ls C Wd hl
  have X : X3w E _ z v fk gl go gi ga gs s s.heap [] := Wd
  have hl : lv_has ls 3 [(0, .ref (z 0)), (1, .int (nI (i)))] := hl
  obtain ⟨hR, hJ, hk, hs8, hm, hbl, hbo, hbi, hba, hso⟩ := id h3
  obtain ⟨r1, r2, r3, r4, r5, r6, r7, r8⟩ := id hR
  obtain ⟨j1, j2, j3, j4, j5, j6, j7, j8⟩ := id hJ
  obtain ⟨k1, k2, k3, k4⟩ := hJ.b
  refine lv_iconst (v := nI (0)) C.hx C.hb dX3_first_0 (by decide) ?_
  refine lv_istore_n (lv' := [(2, .int (nI (0))), (0, .ref (z 0)), (1, .int (nI (i)))]) C.hx C.hb dX3_first_1 rfl hl (by decide) rfl (fun ls hl => ?_)
  refine lv_iload_n C.hx C.hb dX3_first_2 rfl (lv_at hl 0 rfl) ?_
  refine lv_aload_n C.hx C.hb dX3_first_3 rfl (lv_at hl 1 rfl) ?_
  refine x3g_8 C X (x := nI (K.length)) hs8 dX3_first_4 ?_
  refine n_icmp_ge (tgt := 33) C dX3_first_7 (by decide) (by first | omega | exact hbo _ | exact hbi _ | exact hba _ | exact hbl _) (by first | omega | exact hbo _ | exact hbi _ | exact hba _ | exact hbl _) (fun c7 => ?_) (fun c7 => ?_)
  · refine lv_iconst (v := (-1)) C.hx C.hb dX3_first_33 (by decide) ?_
    exact ret_ir C (rfl) dX3_first_34
  · omega
set_option maxHeartbeats 4000000 in
set_option maxRecDepth 100000 in
theorem l3_recordsOf {p : Program} {l : Launch} {e : Env} {s : State} {m : MethodId} {args : Array Value} {below : List Frame} {meth : Method} {c : Code} {E : Gq} {A : Nat → Prop} {z : Nat → Nat} {v : Nat → Int32} {fk : Nat → Int64} {gl go gi ga : Nat → Nat} {gs : Nat → Int32} (C : Cx E p s m args meth c cX3_recordsOf 4 (some .int) RX3 A) (X : X3w E A z v fk gl go gi ga gs s s.heap []) {K : List Int64} {L N S P Ar : List Nat} (h3 : Ctx3 v fk gl go gi ga K L N S P Ar) {i : Nat} (hi : i < S.length) : ∀ (n j : Nat), K.length - j = n → j ≤ K.length → ∀ ls : Array Slot, lv_has ls 4 [(3, .int (nI (j))), (2, .int (nI (min (j - sm S 0 i) (S.getD i 0)))), (0, .ref (z 0)), (1, .int (nI (i)))] → W p l e (Rm 0 0 0) s m args below meth c s.heap [] 0 0 (MQ below (Qr (fun r => r = some (.int (nI (S.getD i 0))))) args s 0 0 (fun _ => False)) (F0 m 4 ls []) := by
  obtain ⟨hR, hJ, hk, hs8, hm, hbl, hbo, hbi, hba, hso⟩ := id h3
  obtain ⟨r1, r2, r3, r4, r5, r6, r7, r8⟩ := id hR
  obtain ⟨j1, j2, j3, j4, j5, j6, j7, j8⟩ := id hJ
  obtain ⟨k1, k2, k3, k4⟩ := hJ.b
  have q1 := sm0_get S i
  intro n
  induction n with
  | zero =>
    intro j hn hj ls hl
    refine lv_iload_n C.hx C.hb dX3_recordsOf_4 rfl (lv_at hl 0 rfl) ?_
    refine lv_aload_n C.hx C.hb dX3_recordsOf_5 rfl (lv_at hl 2 rfl) ?_
    refine x3g_8 C X (x := nI (K.length)) hs8 dX3_recordsOf_6 ?_
    refine n_icmp_ge (tgt := 41) C dX3_recordsOf_9 (by decide) (by first | omega | exact hbo _ | exact hbi _ | exact hba _ | exact hbl _) (by first | omega | exact hbo _ | exact hbi _ | exact hba _ | exact hbl _) (fun c9 => ?_) (fun c9 => ?_)
    · refine lv_iload_n C.hx C.hb dX3_recordsOf_41 rfl (lv_at hl 1 rfl) ?_
      exact ret_ir C (by rw [show min (j - sm S 0 i) (S.getD i 0) = S.getD i 0 by omega]) dX3_recordsOf_42
    · omega
  | succ n ih =>
    intro j hn hj ls hl
    have hq := hR.of hJ hi (show j < K.length by omega)
    refine lv_iload_n C.hx C.hb dX3_recordsOf_4 rfl (lv_at hl 0 rfl) ?_
    refine lv_aload_n C.hx C.hb dX3_recordsOf_5 rfl (lv_at hl 2 rfl) ?_
    refine x3g_8 C X (x := nI (K.length)) hs8 dX3_recordsOf_6 ?_
    refine n_icmp_ge (tgt := 41) C dX3_recordsOf_9 (by decide) (by first | omega | exact hbo _ | exact hbi _ | exact hba _ | exact hbl _) (by first | omega | exact hbo _ | exact hbi _ | exact hba _ | exact hbl _) (fun c9 => ?_) (fun c9 => ?_)
    · omega
    · refine lv_iload_n C.hx C.hb dX3_recordsOf_12 rfl (lv_at hl 1 rfl) ?_
      refine lv_aload_n C.hx C.hb dX3_recordsOf_13 rfl (lv_at hl 2 rfl) ?_
      refine x3g_7 C X dX3_recordsOf_14 ?_
      refine lv_iload_n C.hx C.hb dX3_recordsOf_17 rfl (lv_at hl 0 rfl) ?_
      refine x3l_3 C X (by first | omega | exact hbo _ | exact hbi _ | exact hba _ | exact hbl _) dX3_recordsOf_18 ?_
      refine lv_aload_n C.hx C.hb dX3_recordsOf_19 rfl (lv_at hl 2 rfl) ?_
      refine x3g_9 C X dX3_recordsOf_20 ?_
      refine lv_iload_n C.hx C.hb dX3_recordsOf_23 rfl (lv_at hl 3 rfl) ?_
      refine x3l_4 C X (by first | omega | exact hbo _ | exact hbi _ | exact hba _ | exact hbl _) dX3_recordsOf_24 ?_
      refine n_icmp_ne (tgt := 32) C dX3_recordsOf_25 (by decide) (by first | omega | exact hbo _ | exact hbi _ | exact hba _ | exact hbl _) (by first | omega | exact hbo _ | exact hbi _ | exact hba _ | exact hbl _) (fun c25 => ?_) (fun c25 => ?_)
      · have hq2 : ¬ (sm S 0 i ≤ j ∧ j < sm S 0 i + S.getD i 0) := fun h => c25 (hq.mpr h)
        refine lv_iconst (v := nI (0)) C.hx C.hb dX3_recordsOf_32 (by decide) ?_
        refine n_add C dX3_recordsOf_33 ?_
        refine lv_istore_n (lv' := [(2, .int (nI ((min (j - sm S 0 i) (S.getD i 0)) + 0))), (3, .int (nI (j))), (0, .ref (z 0)), (1, .int (nI (i)))]) C.hx C.hb dX3_recordsOf_34 rfl hl (by decide) rfl (fun ls hl => ?_)
        refine lv_iinc (v := nI (j + 1)) (lv' := [(3, .int (nI (j + 1))), (2, .int (nI ((min (j - sm S 0 i) (S.getD i 0)) + 0))), (0, .ref (z 0)), (1, .int (nI (i)))]) C.hx C.hb dX3_recordsOf_35 hl (k := 1) rfl (nI_1 _) (by decide) rfl (fun ls hl => ?_)
        refine lv_goto (tgt := 4) C.hx C.hb dX3_recordsOf_38 (by decide) ?_
        exact ih (j + 1) (by omega) (by omega) ls (by rw [show min (j + 1 - sm S 0 i) (S.getD i 0) = (min (j - sm S 0 i) (S.getD i 0)) + 0 by omega]; exact lv_sub hl [0, 1, 2, 3] rfl)
      · have hq2 := hq.mp c25
        refine lv_iconst (v := nI (1)) C.hx C.hb dX3_recordsOf_28 (by decide) ?_
        refine lv_goto (tgt := 33) C.hx C.hb dX3_recordsOf_29 (by decide) ?_
        refine n_add C dX3_recordsOf_33 ?_
        refine lv_istore_n (lv' := [(2, .int (nI ((min (j - sm S 0 i) (S.getD i 0)) + 1))), (3, .int (nI (j))), (0, .ref (z 0)), (1, .int (nI (i)))]) C.hx C.hb dX3_recordsOf_34 rfl hl (by decide) rfl (fun ls hl => ?_)
        refine lv_iinc (v := nI (j + 1)) (lv' := [(3, .int (nI (j + 1))), (2, .int (nI ((min (j - sm S 0 i) (S.getD i 0)) + 1))), (0, .ref (z 0)), (1, .int (nI (i)))]) C.hx C.hb dX3_recordsOf_35 hl (k := 1) rfl (nI_1 _) (by decide) rfl (fun ls hl => ?_)
        refine lv_goto (tgt := 4) C.hx C.hb dX3_recordsOf_38 (by decide) ?_
        exact ih (j + 1) (by omega) (by omega) ls (by rw [show min (j + 1 - sm S 0 i) (S.getD i 0) = (min (j - sm S 0 i) (S.getD i 0)) + 1 by omega]; exact lv_sub hl [0, 1, 2, 3] rfl)
set_option maxHeartbeats 4000000 in
set_option maxRecDepth 100000 in
/-- the reference: recordsOf -/
theorem c3_recordsOf {l : Launch} {E : Gq} {z : Nat → Nat} {v : Nat → Int32} {fk : Nat → Int64} {gl go gi ga : Nat → Nat} {gs : Nat → Int32} {K : List Int64} {L N S P A : List Nat} (h3 : Ctx3 v fk gl go gi ga K L N S P A) {i : Nat} (hi : i < S.length) : M3r l E yX3_recordsOf cX3_recordsOf 4 (some .int) 0 [.ref (z 0), .int (nI (i))] z v fk gl go gi ga gs (fun r => r = some (.int (nI (S.getD i 0)))) := by
  refine mk_r (by decide) (Nat.le_of_ble_eq_true rfl) ?_
  intro p e s m below meth c ls C Wd hl
  have X : X3w E _ z v fk gl go gi ga gs s s.heap [] := Wd
  have hl : lv_has ls 4 [(0, .ref (z 0)), (1, .int (nI (i)))] := hl
  refine lv_iconst (v := nI (0)) C.hx C.hb dX3_recordsOf_0 (by decide) ?_
  refine lv_istore_n (lv' := [(2, .int (nI (0))), (0, .ref (z 0)), (1, .int (nI (i)))]) C.hx C.hb dX3_recordsOf_1 rfl hl (by decide) rfl (fun ls hl => ?_)
  refine lv_iconst (v := nI (0)) C.hx C.hb dX3_recordsOf_2 (by decide) ?_
  refine lv_istore_n (lv' := [(3, .int (nI (0))), (2, .int (nI (0))), (0, .ref (z 0)), (1, .int (nI (i)))]) C.hx C.hb dX3_recordsOf_3 rfl hl (by decide) rfl (fun ls hl => ?_)
  exact l3_recordsOf C X h3 hi _ 0 rfl (Nat.zero_le _) ls (by rw [Nat.zero_sub, Nat.zero_min]; exact lv_sub hl [0, 1, 2, 3] rfl)
set_option maxHeartbeats 4000000 in
set_option maxRecDepth 100000 in
theorem l3_lengthsOf {p : Program} {l : Launch} {e : Env} {s : State} {m : MethodId} {args : Array Value} {below : List Frame} {meth : Method} {c : Code} {E : Gq} {A : Nat → Prop} {z : Nat → Nat} {v : Nat → Int32} {fk : Nat → Int64} {gl go gi ga : Nat → Nat} {gs : Nat → Int32} (C : Cx E p s m args meth c cX3_lengthsOf 4 (some .int) RX3 A) (X : X3w E A z v fk gl go gi ga gs s s.heap []) {K : List Int64} {L N S P Ar : List Nat} (h3 : Ctx3 v fk gl go gi ga K L N S P Ar) {i : Nat} (hi : i < S.length) : ∀ (n j : Nat), K.length - j = n → j ≤ K.length → ∀ ls : Array Slot, lv_has ls 4 [(3, .int (nI (j))), (2, .int (nI (sm L (sm S 0 i) (min j (sm S 0 i + S.getD i 0))))), (0, .ref (z 0)), (1, .int (nI (i)))] → W p l e (Rm 0 0 0) s m args below meth c s.heap [] 0 0 (MQ below (Qr (fun r => r = some (.int (nI (lin L S i))))) args s 0 0 (fun _ => False)) (F0 m 4 ls []) := by
  obtain ⟨hR, hJ, hk, hs8, hm, hbl, hbo, hbi, hba, hso⟩ := id h3
  obtain ⟨r1, r2, r3, r4, r5, r6, r7, r8⟩ := id hR
  obtain ⟨j1, j2, j3, j4, j5, j6, j7, j8⟩ := id hJ
  obtain ⟨k1, k2, k3, k4⟩ := hJ.b
  have q1 := sm0_get S i
  intro n
  induction n with
  | zero =>
    intro j hn hj ls hl
    refine lv_iload_n C.hx C.hb dX3_lengthsOf_4 rfl (lv_at hl 0 rfl) ?_
    refine lv_aload_n C.hx C.hb dX3_lengthsOf_5 rfl (lv_at hl 2 rfl) ?_
    refine x3g_8 C X (x := nI (K.length)) hs8 dX3_lengthsOf_6 ?_
    refine n_icmp_ge (tgt := 46) C dX3_lengthsOf_9 (by decide) (by first | omega | exact hbo _ | exact hbi _ | exact hba _ | exact hbl _) (by first | omega | exact hbo _ | exact hbi _ | exact hba _ | exact hbl _) (fun c9 => ?_) (fun c9 => ?_)
    · refine lv_iload_n C.hx C.hb dX3_lengthsOf_46 rfl (lv_at hl 1 rfl) ?_
      exact ret_ir C (by unfold lin; rw [show min j (sm S 0 i + S.getD i 0) = sm S 0 i + S.getD i 0 by omega]) dX3_lengthsOf_47
    · omega
  | succ n ih =>
    intro j hn hj ls hl
    have hq := hR.of hJ hi (show j < K.length by omega)
    refine lv_iload_n C.hx C.hb dX3_lengthsOf_4 rfl (lv_at hl 0 rfl) ?_
    refine lv_aload_n C.hx C.hb dX3_lengthsOf_5 rfl (lv_at hl 2 rfl) ?_
    refine x3g_8 C X (x := nI (K.length)) hs8 dX3_lengthsOf_6 ?_
    refine n_icmp_ge (tgt := 46) C dX3_lengthsOf_9 (by decide) (by first | omega | exact hbo _ | exact hbi _ | exact hba _ | exact hbl _) (by first | omega | exact hbo _ | exact hbi _ | exact hba _ | exact hbl _) (fun c9 => ?_) (fun c9 => ?_)
    · omega
    · refine lv_iload_n C.hx C.hb dX3_lengthsOf_12 rfl (lv_at hl 1 rfl) ?_
      refine lv_aload_n C.hx C.hb dX3_lengthsOf_13 rfl (lv_at hl 2 rfl) ?_
      refine x3g_7 C X dX3_lengthsOf_14 ?_
      refine lv_iload_n C.hx C.hb dX3_lengthsOf_17 rfl (lv_at hl 0 rfl) ?_
      refine x3l_3 C X (by first | omega | exact hbo _ | exact hbi _ | exact hba _ | exact hbl _) dX3_lengthsOf_18 ?_
      refine lv_aload_n C.hx C.hb dX3_lengthsOf_19 rfl (lv_at hl 2 rfl) ?_
      refine x3g_9 C X dX3_lengthsOf_20 ?_
      refine lv_iload_n C.hx C.hb dX3_lengthsOf_23 rfl (lv_at hl 3 rfl) ?_
      refine x3l_4 C X (by first | omega | exact hbo _ | exact hbi _ | exact hba _ | exact hbl _) dX3_lengthsOf_24 ?_
      refine n_icmp_ne (tgt := 37) C dX3_lengthsOf_25 (by decide) (by first | omega | exact hbo _ | exact hbi _ | exact hba _ | exact hbl _) (by first | omega | exact hbo _ | exact hbi _ | exact hba _ | exact hbl _) (fun c25 => ?_) (fun c25 => ?_)
      · have hq2 : ¬ (sm S 0 i ≤ j ∧ j < sm S 0 i + S.getD i 0) := fun h => c25 (hq.mpr h)
        refine lv_iconst (v := nI (0)) C.hx C.hb dX3_lengthsOf_37 (by decide) ?_
        refine n_add C dX3_lengthsOf_38 ?_
        refine lv_istore_n (lv' := [(2, .int (nI ((sm L (sm S 0 i) (min j (sm S 0 i + S.getD i 0))) + 0))), (3, .int (nI (j))), (0, .ref (z 0)), (1, .int (nI (i)))]) C.hx C.hb dX3_lengthsOf_39 rfl hl (by decide) rfl (fun ls hl => ?_)
        refine lv_iinc (v := nI (j + 1)) (lv' := [(3, .int (nI (j + 1))), (2, .int (nI ((sm L (sm S 0 i) (min j (sm S 0 i + S.getD i 0))) + 0))), (0, .ref (z 0)), (1, .int (nI (i)))]) C.hx C.hb dX3_lengthsOf_40 hl (k := 1) rfl (nI_1 _) (by decide) rfl (fun ls hl => ?_)
        refine lv_goto (tgt := 4) C.hx C.hb dX3_lengthsOf_43 (by decide) ?_
        have e : sm L (sm S 0 i) (min (j + 1) (sm S 0 i + S.getD i 0)) = sm L (sm S 0 i) (min j (sm S 0 i + S.getD i 0)) + 0 := by
          by_cases z : j < sm S 0 i
          · rw [sm_end (Or.inl (by omega)), sm_end (Or.inl (by omega))]
          · exact congrArg (sm L (sm S 0 i)) (show min (j + 1) (sm S 0 i + S.getD i 0) = min j (sm S 0 i + S.getD i 0) by omega)
        exact ih (j + 1) (by omega) (by omega) ls (by rw [e]; exact lv_sub hl [0, 1, 2, 3] rfl)
      · have hq2 := hq.mp c25
        refine lv_aload_n C.hx C.hb dX3_lengthsOf_28 rfl (lv_at hl 2 rfl) ?_
        refine x3g_6 C X dX3_lengthsOf_29 ?_
        refine lv_iload_n C.hx C.hb dX3_lengthsOf_32 rfl (lv_at hl 0 rfl) ?_
        refine x3l_2 C X (by first | omega | exact hbo _ | exact hbi _ | exact hba _ | exact hbl _) dX3_lengthsOf_33 ?_
        refine lv_goto (tgt := 38) C.hx C.hb dX3_lengthsOf_34 (by decide) ?_
        refine n_add C dX3_lengthsOf_38 ?_
        refine lv_istore_n (lv' := [(2, .int (nI ((sm L (sm S 0 i) (min j (sm S 0 i + S.getD i 0))) + (gl j)))), (3, .int (nI (j))), (0, .ref (z 0)), (1, .int (nI (i)))]) C.hx C.hb dX3_lengthsOf_39 rfl hl (by decide) rfl (fun ls hl => ?_)
        refine lv_iinc (v := nI (j + 1)) (lv' := [(3, .int (nI (j + 1))), (2, .int (nI ((sm L (sm S 0 i) (min j (sm S 0 i + S.getD i 0))) + (gl j)))), (0, .ref (z 0)), (1, .int (nI (i)))]) C.hx C.hb dX3_lengthsOf_40 hl (k := 1) rfl (nI_1 _) (by decide) rfl (fun ls hl => ?_)
        refine lv_goto (tgt := 4) C.hx C.hb dX3_lengthsOf_43 (by decide) ?_
        have e : sm L (sm S 0 i) (min (j + 1) (sm S 0 i + S.getD i 0)) = sm L (sm S 0 i) (min j (sm S 0 i + S.getD i 0)) + gl j := by
          rw [r2 j (by omega), show min (j + 1) (sm S 0 i + S.getD i 0) = j + 1 by omega, show min j (sm S 0 i + S.getD i 0) = j by omega, sm_snoc (by omega) (by omega)]
        exact ih (j + 1) (by omega) (by omega) ls (by rw [e]; exact lv_sub hl [0, 1, 2, 3] rfl)
set_option maxHeartbeats 4000000 in
set_option maxRecDepth 100000 in
/-- the reference: lengthsOf -/
theorem c3_lengthsOf {l : Launch} {E : Gq} {z : Nat → Nat} {v : Nat → Int32} {fk : Nat → Int64} {gl go gi ga : Nat → Nat} {gs : Nat → Int32} {K : List Int64} {L N S P A : List Nat} (h3 : Ctx3 v fk gl go gi ga K L N S P A) {i : Nat} (hi : i < S.length) : M3r l E yX3_lengthsOf cX3_lengthsOf 4 (some .int) 0 [.ref (z 0), .int (nI (i))] z v fk gl go gi ga gs (fun r => r = some (.int (nI (lin L S i)))) := by
  refine mk_r (by decide) (Nat.le_of_ble_eq_true rfl) ?_
  intro p e s m below meth c ls C Wd hl
  have X : X3w E _ z v fk gl go gi ga gs s s.heap [] := Wd
  have hl : lv_has ls 4 [(0, .ref (z 0)), (1, .int (nI (i)))] := hl
  refine lv_iconst (v := nI (0)) C.hx C.hb dX3_lengthsOf_0 (by decide) ?_
  refine lv_istore_n (lv' := [(2, .int (nI (0))), (0, .ref (z 0)), (1, .int (nI (i)))]) C.hx C.hb dX3_lengthsOf_1 rfl hl (by decide) rfl (fun ls hl => ?_)
  refine lv_iconst (v := nI (0)) C.hx C.hb dX3_lengthsOf_2 (by decide) ?_
  refine lv_istore_n (lv' := [(3, .int (nI (0))), (2, .int (nI (0))), (0, .ref (z 0)), (1, .int (nI (i)))]) C.hx C.hb dX3_lengthsOf_3 rfl hl (by decide) rfl (fun ls hl => ?_)
  exact l3_lengthsOf C X h3 hi _ 0 rfl (Nat.zero_le _) ls (by rw [Nat.zero_min, sm_end (Or.inl (Nat.zero_le _))]; exact lv_sub hl [0, 1, 2, 3] rfl)
set_option maxHeartbeats 4000000 in
set_option maxRecDepth 100000 in
theorem l3_widthOf {p : Program} {l : Launch} {e : Env} {s : State} {m : MethodId} {args : Array Value} {below : List Frame} {meth : Method} {c : Code} {E : Gq} {A : Nat → Prop} {z : Nat → Nat} {v : Nat → Int32} {fk : Nat → Int64} {gl go gi ga : Nat → Nat} {gs : Nat → Int32} (C : Cx E p s m args meth c cX3_widthOf 4 (some .int) RX3 A) (X : X3w E A z v fk gl go gi ga gs s s.heap []) {K : List Int64} {L N S P Ar : List Nat} (h3 : Ctx3 v fk gl go gi ga K L N S P Ar) {i : Nat} (hi : i < S.length) : ∀ (n j : Nat), S.length - j = n → j ≤ S.length → ∀ ls : Array Slot, lv_has ls 4 [(3, .int (nI (j))), (2, .int (nI (min (j - sm P 0 (gIx P i)) (P.getD (gIx P i) 0)))), (0, .ref (z 0)), (1, .int (nI (i)))] → W p l e (Rm 0 0 0) s m args below meth c s.heap [] 0 0 (MQ below (Qr (fun r => r = some (.int (nI (P.getD (gIx P i) 0))))) args s 0 0 (fun _ => False)) (F0 m 4 ls []) := by
  obtain ⟨hR, hJ, hk, hs8, hm, hbl, hbo, hbi, hba, hso⟩ := id h3
  obtain ⟨r1, r2, r3, r4, r5, r6, r7, r8⟩ := id hR
  obtain ⟨j1, j2, j3, j4, j5, j6, j7, j8⟩ := id hJ
  obtain ⟨k1, k2, k3, k4⟩ := hJ.b
  have q1 := sm0_get P (gIx P i)
  have q2 := gIx_lt (L := P) (m := i) (by omega)
  intro n
  induction n with
  | zero =>
    intro j hn hj ls hl
    refine lv_iload_n C.hx C.hb dX3_widthOf_4 rfl (lv_at hl 0 rfl) ?_
    refine lv_aload_n C.hx C.hb dX3_widthOf_5 rfl (lv_at hl 2 rfl) ?_
    refine x3g_11 C X (x := nI (S.length)) hm dX3_widthOf_6 ?_
    refine n_icmp_ge (tgt := 41) C dX3_widthOf_9 (by decide) (by first | omega | exact hbo _ | exact hbi _ | exact hba _ | exact hbl _) (by first | omega | exact hbo _ | exact hbi _ | exact hba _ | exact hbl _) (fun c9 => ?_) (fun c9 => ?_)
    · refine lv_iload_n C.hx C.hb dX3_widthOf_41 rfl (lv_at hl 1 rfl) ?_
      exact ret_ir C (by rw [show min (j - sm P 0 (gIx P i)) (P.getD (gIx P i) 0) = P.getD (gIx P i) 0 by omega]) dX3_widthOf_42
    · omega
  | succ n ih =>
    intro j hn hj ls hl
    have hq := (hR.ar hJ hi (show j < S.length by omega)).trans (gIx_iff (by omega) q2)
    refine lv_iload_n C.hx C.hb dX3_widthOf_4 rfl (lv_at hl 0 rfl) ?_
    refine lv_aload_n C.hx C.hb dX3_widthOf_5 rfl (lv_at hl 2 rfl) ?_
    refine x3g_11 C X (x := nI (S.length)) hm dX3_widthOf_6 ?_
    refine n_icmp_ge (tgt := 41) C dX3_widthOf_9 (by decide) (by first | omega | exact hbo _ | exact hbi _ | exact hba _ | exact hbl _) (by first | omega | exact hbo _ | exact hbi _ | exact hba _ | exact hbl _) (fun c9 => ?_) (fun c9 => ?_)
    · omega
    · refine lv_iload_n C.hx C.hb dX3_widthOf_12 rfl (lv_at hl 1 rfl) ?_
      refine lv_aload_n C.hx C.hb dX3_widthOf_13 rfl (lv_at hl 2 rfl) ?_
      refine x3g_10 C X dX3_widthOf_14 ?_
      refine lv_iload_n C.hx C.hb dX3_widthOf_17 rfl (lv_at hl 0 rfl) ?_
      refine x3l_5 C X (by first | omega | exact hbo _ | exact hbi _ | exact hba _ | exact hbl _) dX3_widthOf_18 ?_
      refine lv_aload_n C.hx C.hb dX3_widthOf_19 rfl (lv_at hl 2 rfl) ?_
      refine x3g_10 C X dX3_widthOf_20 ?_
      refine lv_iload_n C.hx C.hb dX3_widthOf_23 rfl (lv_at hl 3 rfl) ?_
      refine x3l_5 C X (by first | omega | exact hbo _ | exact hbi _ | exact hba _ | exact hbl _) dX3_widthOf_24 ?_
      refine n_icmp_ne (tgt := 32) C dX3_widthOf_25 (by decide) (by first | omega | exact hbo _ | exact hbi _ | exact hba _ | exact hbl _) (by first | omega | exact hbo _ | exact hbi _ | exact hba _ | exact hbl _) (fun c25 => ?_) (fun c25 => ?_)
      · have hq2 := fun h => c25 (hq.mpr h)
        refine lv_iconst (v := nI (0)) C.hx C.hb dX3_widthOf_32 (by decide) ?_
        refine n_add C dX3_widthOf_33 ?_
        refine lv_istore_n (lv' := [(2, .int (nI ((min (j - sm P 0 (gIx P i)) (P.getD (gIx P i) 0)) + 0))), (3, .int (nI (j))), (0, .ref (z 0)), (1, .int (nI (i)))]) C.hx C.hb dX3_widthOf_34 rfl hl (by decide) rfl (fun ls hl => ?_)
        refine lv_iinc (v := nI (j + 1)) (lv' := [(3, .int (nI (j + 1))), (2, .int (nI ((min (j - sm P 0 (gIx P i)) (P.getD (gIx P i) 0)) + 0))), (0, .ref (z 0)), (1, .int (nI (i)))]) C.hx C.hb dX3_widthOf_35 hl (k := 1) rfl (nI_1 _) (by decide) rfl (fun ls hl => ?_)
        refine lv_goto (tgt := 4) C.hx C.hb dX3_widthOf_38 (by decide) ?_
        exact ih (j + 1) (by omega) (by omega) ls (by rw [show min (j + 1 - sm P 0 (gIx P i)) (P.getD (gIx P i) 0) = (min (j - sm P 0 (gIx P i)) (P.getD (gIx P i) 0)) + 0 by omega]; exact lv_sub hl [0, 1, 2, 3] rfl)
      · have hq2 := hq.mp c25
        refine lv_iconst (v := nI (1)) C.hx C.hb dX3_widthOf_28 (by decide) ?_
        refine lv_goto (tgt := 33) C.hx C.hb dX3_widthOf_29 (by decide) ?_
        refine n_add C dX3_widthOf_33 ?_
        refine lv_istore_n (lv' := [(2, .int (nI ((min (j - sm P 0 (gIx P i)) (P.getD (gIx P i) 0)) + 1))), (3, .int (nI (j))), (0, .ref (z 0)), (1, .int (nI (i)))]) C.hx C.hb dX3_widthOf_34 rfl hl (by decide) rfl (fun ls hl => ?_)
        refine lv_iinc (v := nI (j + 1)) (lv' := [(3, .int (nI (j + 1))), (2, .int (nI ((min (j - sm P 0 (gIx P i)) (P.getD (gIx P i) 0)) + 1))), (0, .ref (z 0)), (1, .int (nI (i)))]) C.hx C.hb dX3_widthOf_35 hl (k := 1) rfl (nI_1 _) (by decide) rfl (fun ls hl => ?_)
        refine lv_goto (tgt := 4) C.hx C.hb dX3_widthOf_38 (by decide) ?_
        exact ih (j + 1) (by omega) (by omega) ls (by rw [show min (j + 1 - sm P 0 (gIx P i)) (P.getD (gIx P i) 0) = (min (j - sm P 0 (gIx P i)) (P.getD (gIx P i) 0)) + 1 by omega]; exact lv_sub hl [0, 1, 2, 3] rfl)
set_option maxHeartbeats 4000000 in
set_option maxRecDepth 100000 in
/-- the reference: widthOf -/
theorem c3_widthOf {l : Launch} {E : Gq} {z : Nat → Nat} {v : Nat → Int32} {fk : Nat → Int64} {gl go gi ga : Nat → Nat} {gs : Nat → Int32} {K : List Int64} {L N S P A : List Nat} (h3 : Ctx3 v fk gl go gi ga K L N S P A) {i : Nat} (hi : i < S.length) : M3r l E yX3_widthOf cX3_widthOf 4 (some .int) 0 [.ref (z 0), .int (nI (i))] z v fk gl go gi ga gs (fun r => r = some (.int (nI (P.getD (gIx P i) 0)))) := by
  refine mk_r (by decide) (Nat.le_of_ble_eq_true rfl) ?_
  intro p e s m below meth c ls C Wd hl
  have X : X3w E _ z v fk gl go gi ga gs s s.heap [] := Wd
  have hl : lv_has ls 4 [(0, .ref (z 0)), (1, .int (nI (i)))] := hl
  refine lv_iconst (v := nI (0)) C.hx C.hb dX3_widthOf_0 (by decide) ?_
  refine lv_istore_n (lv' := [(2, .int (nI (0))), (0, .ref (z 0)), (1, .int (nI (i)))]) C.hx C.hb dX3_widthOf_1 rfl hl (by decide) rfl (fun ls hl => ?_)
  refine lv_iconst (v := nI (0)) C.hx C.hb dX3_widthOf_2 (by decide) ?_
  refine lv_istore_n (lv' := [(3, .int (nI (0))), (2, .int (nI (0))), (0, .ref (z 0)), (1, .int (nI (i)))]) C.hx C.hb dX3_widthOf_3 rfl hl (by decide) rfl (fun ls hl => ?_)
  exact l3_widthOf C X h3 hi _ 0 rfl (Nat.zero_le _) ls (by rw [Nat.zero_sub, Nat.zero_min]; exact lv_sub hl [0, 1, 2, 3] rfl)
set_option maxHeartbeats 4000000 in
set_option maxRecDepth 100000 in
theorem l3_areaOf {p : Program} {l : Launch} {e : Env} {s : State} {m : MethodId} {args : Array Value} {below : List Frame} {meth : Method} {c : Code} {E : Gq} {A : Nat → Prop} {z : Nat → Nat} {v : Nat → Int32} {fk : Nat → Int64} {gl go gi ga : Nat → Nat} {gs : Nat → Int32} (C : Cx E p s m args meth c cX3_areaOf 4 (some .int) RX3 A) (X : X3w E A z v fk gl go gi ga gs s s.heap []) {K : List Int64} {L N S P Ar : List Nat} (h3 : Ctx3 v fk gl go gi ga K L N S P Ar) {i : Nat} (hi : i < S.length) : ∀ (n j : Nat), i - j = n → j ≤ i → ∀ ls : Array Slot, lv_has ls 4 [(3, .int (nI (j + 1))), (2, .int (nI (gIx P j))), (0, .ref (z 0)), (1, .int (nI (i)))] → W p l e (Rm 0 0 0) s m args below meth c s.heap [] 0 0 (MQ below (Qr (fun r => r = some (.int (nI (gIx P i))))) args s 0 0 (fun _ => False)) (F0 m 4 ls []) := by
  obtain ⟨hR, hJ, hk, hs8, hm, hbl, hbo, hbi, hba, hso⟩ := id h3
  obtain ⟨r1, r2, r3, r4, r5, r6, r7, r8⟩ := id hR
  obtain ⟨j1, j2, j3, j4, j5, j6, j7, j8⟩ := id hJ
  obtain ⟨k1, k2, k3, k4⟩ := hJ.b
  intro n
  induction n with
  | zero =>
    intro j hn hj ls hl
    refine lv_iload_n C.hx C.hb dX3_areaOf_4 rfl (lv_at hl 0 rfl) ?_
    refine lv_iload_n C.hx C.hb dX3_areaOf_5 rfl (lv_at hl 3 rfl) ?_
    refine n_icmp_gt (tgt := 40) C dX3_areaOf_6 (by decide) (by first | omega | exact hbo _ | exact hbi _ | exact hba _ | exact hbl _) (by first | omega | exact hbo _ | exact hbi _ | exact hba _ | exact hbl _) (fun c6 => ?_) (fun c6 => ?_)
    · refine lv_iload_n C.hx C.hb dX3_areaOf_40 rfl (lv_at hl 1 rfl) ?_
      exact ret_ir C (by rw [show j = i by omega]) dX3_areaOf_41
    · omega
  | succ n ih =>
    intro j hn hj ls hl
    have hq := hR.ar hJ (show j < S.length by omega) (show j + 1 < S.length by omega)
    have hst := gIx_step j6 (show j + 1 < P.sum by omega)
    refine lv_iload_n C.hx C.hb dX3_areaOf_4 rfl (lv_at hl 0 rfl) ?_
    refine lv_iload_n C.hx C.hb dX3_areaOf_5 rfl (lv_at hl 3 rfl) ?_
    refine n_icmp_gt (tgt := 40) C dX3_areaOf_6 (by decide) (by first | omega | exact hbo _ | exact hbi _ | exact hba _ | exact hbl _) (by first | omega | exact hbo _ | exact hbi _ | exact hba _ | exact hbl _) (fun c6 => ?_) (fun c6 => ?_)
    · omega
    · refine lv_iload_n C.hx C.hb dX3_areaOf_9 rfl (lv_at hl 1 rfl) ?_
      refine lv_aload_n C.hx C.hb dX3_areaOf_10 rfl (lv_at hl 2 rfl) ?_
      refine x3g_10 C X dX3_areaOf_11 ?_
      refine lv_iload_n C.hx C.hb dX3_areaOf_14 rfl (lv_at hl 0 rfl) ?_
      refine x3l_5 C X (by first | omega | exact hbo _ | exact hbi _ | exact hba _ | exact hbl _) dX3_areaOf_15 ?_
      refine lv_aload_n C.hx C.hb dX3_areaOf_16 rfl (lv_at hl 2 rfl) ?_
      refine x3g_10 C X dX3_areaOf_17 ?_
      refine lv_iload_n C.hx C.hb dX3_areaOf_20 rfl (lv_at hl 0 rfl) ?_
      refine lv_iconst (v := nI (1)) C.hx C.hb dX3_areaOf_21 (by decide) ?_
      refine n_sub C dX3_areaOf_22 (by first | omega | exact hbo _ | exact hbi _ | exact hba _ | exact hbl _) ?_
      refine x3l_5 C X (by first | omega | exact hbo _ | exact hbi _ | exact hba _ | exact hbl _) dX3_areaOf_23 ?_
      refine n_icmp_eq (tgt := 31) C dX3_areaOf_24 (by decide) (by first | omega | exact hbo _ | exact hbi _ | exact hba _ | exact hbl _) (by first | omega | exact hbo _ | exact hbi _ | exact hba _ | exact hbl _) (fun c24 => ?_) (fun c24 => ?_)
      · have hq2 := hq.mp c24
        refine lv_iconst (v := nI (0)) C.hx C.hb dX3_areaOf_31 (by decide) ?_
        refine n_add C dX3_areaOf_32 ?_
        refine lv_istore_n (lv' := [(2, .int (nI ((gIx P j) + 0))), (3, .int (nI (j + 1))), (0, .ref (z 0)), (1, .int (nI (i)))]) C.hx C.hb dX3_areaOf_33 rfl hl (by decide) rfl (fun ls hl => ?_)
        refine lv_iinc (v := nI ((j + 1) + 1)) (lv' := [(3, .int (nI ((j + 1) + 1))), (2, .int (nI ((gIx P j) + 0))), (0, .ref (z 0)), (1, .int (nI (i)))]) C.hx C.hb dX3_areaOf_34 hl (k := 1) rfl (nI_1 _) (by decide) rfl (fun ls hl => ?_)
        refine lv_goto (tgt := 4) C.hx C.hb dX3_areaOf_37 (by decide) ?_
        exact ih (j + 1) (by omega) (by omega) ls (by rw [show gIx P (j + 1) = (gIx P j) + 0 by omega]; exact lv_sub hl [0, 1, 2, 3] rfl)
      · have hq2 : gIx P (j + 1) ≠ gIx P j := fun h => c24 (hq.mpr h)
        refine lv_iconst (v := nI (1)) C.hx C.hb dX3_areaOf_27 (by decide) ?_
        refine lv_goto (tgt := 32) C.hx C.hb dX3_areaOf_28 (by decide) ?_
        refine n_add C dX3_areaOf_32 ?_
        refine lv_istore_n (lv' := [(2, .int (nI ((gIx P j) + 1))), (3, .int (nI (j + 1))), (0, .ref (z 0)), (1, .int (nI (i)))]) C.hx C.hb dX3_areaOf_33 rfl hl (by decide) rfl (fun ls hl => ?_)
        refine lv_iinc (v := nI ((j + 1) + 1)) (lv' := [(3, .int (nI ((j + 1) + 1))), (2, .int (nI ((gIx P j) + 1))), (0, .ref (z 0)), (1, .int (nI (i)))]) C.hx C.hb dX3_areaOf_34 hl (k := 1) rfl (nI_1 _) (by decide) rfl (fun ls hl => ?_)
        refine lv_goto (tgt := 4) C.hx C.hb dX3_areaOf_37 (by decide) ?_
        exact ih (j + 1) (by omega) (by omega) ls (by rw [show gIx P (j + 1) = (gIx P j) + 1 by omega]; exact lv_sub hl [0, 1, 2, 3] rfl)
set_option maxHeartbeats 4000000 in
set_option maxRecDepth 100000 in
/-- the reference: areaOf -/
theorem c3_areaOf {l : Launch} {E : Gq} {z : Nat → Nat} {v : Nat → Int32} {fk : Nat → Int64} {gl go gi ga : Nat → Nat} {gs : Nat → Int32} {K : List Int64} {L N S P A : List Nat} (h3 : Ctx3 v fk gl go gi ga K L N S P A) {i : Nat} (hi : i < S.length) : M3r l E yX3_areaOf cX3_areaOf 4 (some .int) 0 [.ref (z 0), .int (nI (i))] z v fk gl go gi ga gs (fun r => r = some (.int (nI (gIx P i)))) := by
  refine mk_r (by decide) (Nat.le_of_ble_eq_true rfl) ?_
  intro p e s m below meth c ls C Wd hl
  have X : X3w E _ z v fk gl go gi ga gs s s.heap [] := Wd
  have hl : lv_has ls 4 [(0, .ref (z 0)), (1, .int (nI (i)))] := hl
  have e0 : gIx P 0 = 0 := by
    obtain ⟨-, hJ, -⟩ := h3
    cases P with
    | nil => rfl
    | cons x l =>
      have := hJ.2.2.2.2.2.1 x List.mem_cons_self
      simp only [gIx]
      rw [if_pos (by omega)]
  refine lv_iconst (v := nI (0)) C.hx C.hb dX3_areaOf_0 (by decide) ?_
  refine lv_istore_n (lv' := [(2, .int (nI (0))), (0, .ref (z 0)), (1, .int (nI (i)))]) C.hx C.hb dX3_areaOf_1 rfl hl (by decide) rfl (fun ls hl => ?_)
  refine lv_iconst (v := nI (1)) C.hx C.hb dX3_areaOf_2 (by decide) ?_
  refine lv_istore_n (lv' := [(3, .int (nI (1))), (2, .int (nI (0))), (0, .ref (z 0)), (1, .int (nI (i)))]) C.hx C.hb dX3_areaOf_3 rfl hl (by decide) rfl (fun ls hl => ?_)
  exact l3_areaOf C X h3 hi _ 0 rfl (Nat.zero_le _) ls (by rw [e0]; exact lv_sub hl [0, 1, 2, 3] rfl)
def blT (K : List Int64) (S : List Nat) (key : Int64) (b : Nat) : Prop := b < S.length ∧ ∀ i, 1 ≤ i → i < S.length → (K.getD (sm S 0 i) 0 ≤ key ↔ i ≤ b)
set_option maxHeartbeats 4000000 in
set_option maxRecDepth 100000 in
theorem l3_belongs {p : Program} {l : Launch} {e : Env} {s : State} {m : MethodId} {args : Array Value} {below : List Frame} {meth : Method} {c : Code} {E : Gq} {A : Nat → Prop} {z : Nat → Nat} {v : Nat → Int32} {fk : Nat → Int64} {gl go gi ga : Nat → Nat} {gs : Nat → Int32} (C : Cx E p s m args meth c cX3_belongs 5 (some .int) RX3 A) (X : X3w E A z v fk gl go gi ga gs s s.heap []) {K : List Int64} {L N S P Ar : List Nat} (h3 : Ctx3 v fk gl go gi ga K L N S P Ar) {key : Int64} {b : Nat} (hb : blT K S key b) : ∀ (n j : Nat), S.length - (j + 1) = n → j + 1 ≤ S.length → ∀ ls : Array Slot, lv_has ls 5 [(4, .int (nI (j + 1))), (3, .int (nI (min j b))), (0, .ref (z 0)), (1, .long (key))] → W p l e (Rm 1 0 0) s m args below meth c s.heap [] 0 0 (MQ below (Qr (fun r => r = some (.int (nI b)))) args s 0 0 (fun _ => False)) (F0 m 5 ls []) := by
  obtain ⟨hR, hJ, hk, hs8, hm, hbl, hbo, hbi, hba, hso⟩ := id h3
  obtain ⟨r1, r2, r3, r4, r5, r6, r7, r8⟩ := id hR
  obtain ⟨j1, j2, j3, j4, j5, j6, j7, j8⟩ := id hJ
  obtain ⟨k1, k2, k3, k4⟩ := hJ.b
  obtain ⟨b1, b2⟩ := hb
  intro n
  induction n with
  | zero =>
    intro j hn hj ls hl
    refine lv_iload C.hx C.hb dX3_belongs_5 (lv_at hl 0 rfl) ?_
    refine lv_aload_n C.hx C.hb dX3_belongs_7 rfl (lv_at hl 2 rfl) ?_
    refine x3g_11 C X (x := nI (S.length)) hm dX3_belongs_8 ?_
    refine n_icmp_ge (tgt := 43) C dX3_belongs_11 (by decide) (by first | omega | exact hbo _ | exact hbi _ | exact hba _ | exact hbl _) (by first | omega | exact hbo _ | exact hbi _ | exact hba _ | exact hbl _) (fun c11 => ?_) (fun c11 => ?_)
    · refine lv_iload_n C.hx C.hb dX3_belongs_43 rfl (lv_at hl 1 rfl) ?_
      exact ret_ir C (by rw [show min j b = b by omega]) dX3_belongs_44
    · omega
  | succ n ih =>
    intro j hn hj ls hl
    have hq := b2 (j + 1) (by omega) (by omega)
    have hs1 : 1 ≤ S.getD (j + 1) 0 := by
      rcases j7 with z | z
      · omega
      · exact z _ (getD_mem (by omega))
    have q1 := sm0_get S (j + 1)
    rw [← r1 _ (by omega)] at hq
    refine lv_iload C.hx C.hb dX3_belongs_5 (lv_at hl 0 rfl) ?_
    refine lv_aload_n C.hx C.hb dX3_belongs_7 rfl (lv_at hl 2 rfl) ?_
    refine x3g_11 C X (x := nI (S.length)) hm dX3_belongs_8 ?_
    refine n_icmp_ge (tgt := 43) C dX3_belongs_11 (by decide) (by first | omega | exact hbo _ | exact hbi _ | exact hba _ | exact hbl _) (by first | omega | exact hbo _ | exact hbi _ | exact hba _ | exact hbl _) (fun c11 => ?_) (fun c11 => ?_)
    · omega
    · refine lv_aload_n C.hx C.hb dX3_belongs_14 rfl (lv_at hl 2 rfl) ?_
      refine x3g_5 C X dX3_belongs_15 ?_
      refine lv_aload_n C.hx C.hb dX3_belongs_18 rfl (lv_at hl 2 rfl) ?_
      refine lv_iload C.hx C.hb dX3_belongs_19 (lv_at hl 0 rfl) ?_
      refine x3_cr (As := [.int (nI (j + 1))]) (rest := [.ref (z 1)]) C X (c3_first (i := j + 1) h3 (by omega) (by omega)) wy_X3_first ts_32 tw_447 rfl ⟨by decide, by decide⟩ rfl hl.1 rfl (Nat.le_of_ble_eq_true rfl) ⟨Nat.le_refl _, Nat.le_refl _⟩ dX3_belongs_21 (fun r hp => ?_)
      subst hp
      refine W.eq (g2 := F0 m 24 ls [.int (nI (sm S 0 (j + 1))), .ref (z 1)]) rfl ?_
      refine x3l_1 C X (by first | omega | exact hbo _ | exact hbi _ | exact hba _ | exact hbl _) dX3_belongs_24 ?_
      refine lv_lload_n C.hx C.hb dX3_belongs_25 rfl (lv_at hl 3 rfl) ?_
      refine n_lcmp_gt (tgt := 35) C dX3_belongs_26 dX3_belongs_27 (by decide) (fun c26 => ?_) (fun c26 => ?_)
      · have hq2 : ¬ (j + 1 ≤ b) := fun h => absurd (hq.mpr h) (Int64.not_le.mpr c26)
        refine lv_iload_n C.hx C.hb dX3_belongs_35 rfl (lv_at hl 1 rfl) ?_
        refine lv_istore_n (lv' := [(3, .int (nI (min j b))), (4, .int (nI (j + 1))), (0, .ref (z 0)), (1, .long (key))]) C.hx C.hb dX3_belongs_36 rfl hl (by decide) rfl (fun ls hl => ?_)
        refine lv_iinc (v := nI ((j + 1) + 1)) (lv' := [(4, .int (nI ((j + 1) + 1))), (3, .int (nI (min j b))), (0, .ref (z 0)), (1, .long (key))]) C.hx C.hb dX3_belongs_37 hl (k := 1) rfl (nI_1 _) (by decide) rfl (fun ls hl => ?_)
        refine lv_goto (tgt := 5) C.hx C.hb dX3_belongs_40 (by decide) ?_
        exact ih (j + 1) (by omega) (by omega) ls (by rw [show min (j + 1) b = min j b by omega]; exact lv_sub hl [0, 1, 2, 3] rfl)
      · have hq2 := hq.mp c26
        refine lv_iload C.hx C.hb dX3_belongs_30 (lv_at hl 0 rfl) ?_
        refine lv_goto (tgt := 36) C.hx C.hb dX3_belongs_32 (by decide) ?_
        refine lv_istore_n (lv' := [(3, .int (nI (j + 1))), (4, .int (nI (j + 1))), (0, .ref (z 0)), (1, .long (key))]) C.hx C.hb dX3_belongs_36 rfl hl (by decide) rfl (fun ls hl => ?_)
        refine lv_iinc (v := nI ((j + 1) + 1)) (lv' := [(4, .int (nI ((j + 1) + 1))), (3, .int (nI (j + 1))), (0, .ref (z 0)), (1, .long (key))]) C.hx C.hb dX3_belongs_37 hl (k := 1) rfl (nI_1 _) (by decide) rfl (fun ls hl => ?_)
        refine lv_goto (tgt := 5) C.hx C.hb dX3_belongs_40 (by decide) ?_
        exact ih (j + 1) (by omega) (by omega) ls (by rw [show min (j + 1) b = j + 1 by omega]; exact lv_sub hl [0, 1, 2, 3] rfl)
set_option maxHeartbeats 4000000 in
set_option maxRecDepth 100000 in
/-- the reference: where a key belongs -/
theorem c3_belongs {l : Launch} {E : Gq} {z : Nat → Nat} {v : Nat → Int32} {fk : Nat → Int64} {gl go gi ga : Nat → Nat} {gs : Nat → Int32} {K : List Int64} {L N S P A : List Nat} (h3 : Ctx3 v fk gl go gi ga K L N S P A) {key : Int64} {b : Nat} (hb : blT K S key b) : M3r l E yX3_belongs cX3_belongs 5 (some .int) 1 [.ref (z 0), .long (key)] z v fk gl go gi ga gs (fun r => r = some (.int (nI b))) := by
  refine mk_r (by decide) (Nat.le_of_ble_eq_true rfl) ?_
  intro p e s m below meth c ls C Wd hl
  have X : X3w E _ z v fk gl go gi ga gs s s.heap [] := Wd
  have hl : lv_has ls 5 [(0, .ref (z 0)), (1, .long (key))] := hl
  have hj5 := h3.2.1.2.2.2.2.1
  refine lv_iconst (v := nI (0)) C.hx C.hb dX3_belongs_0 (by decide) ?_
  refine lv_istore_n (lv' := [(3, .int (nI (0))), (0, .ref (z 0)), (1, .long (key))]) C.hx C.hb dX3_belongs_1 rfl hl (by decide) rfl (fun ls hl => ?_)
  refine lv_iconst (v := nI (1)) C.hx C.hb dX3_belongs_2 (by decide) ?_
  refine lv_istore (lv' := [(4, .int (nI (1))), (3, .int (nI (0))), (0, .ref (z 0)), (1, .long (key))]) C.hx C.hb dX3_belongs_3 hl (by decide) rfl (fun ls hl => ?_)
  exact l3_belongs C X h3 hb _ 0 rfl (by omega) ls (by rw [Nat.zero_min]; exact lv_sub hl [0, 1, 2, 3] rfl)
set_option maxHeartbeats 4000000 in
set_option maxRecDepth 100000 in
theorem l3_kept {p : Program} {l : Launch} {e : Env} {s : State} {m : MethodId} {args : Array Value} {below : List Frame} {meth : Method} {c : Code} {E : Gq} {A : Nat → Prop} {z : Nat → Nat} {v : Nat → Int32} {fk : Nat → Int64} {gl go gi ga : Nat → Nat} {gs : Nat → Int32} (C : Cx E p s m args meth c cX3_kept 9 (some .int) RX3 A) (X : X3w E A z v fk gl go gi ga gs s s.heap []) {K : List Int64} {L N S P Ar : List Nat} (h3 : Ctx3 v fk gl go gi ga K L N S P Ar) {i : Nat} (hi : i < S.length) (h2 : 2 ≤ S.getD i 0) (hall : 1 ≤ lin L S i) : ∀ (n j : Nat), S.getD i 0 - j = n → j ≤ S.getD i 0 → 2 * sm L (sm S 0 i) ((sm S 0 i) + j) ≤ lin L S i → ∀ ls : Array Slot, lv_has ls 9 [(8, .int (nI (j))), (7, .int (nI (1))), (6, .int (nI (S.getD i 0))), (5, .int (nI (sm S 0 i))), (4, .int (nI (sm L (sm S 0 i) ((sm S 0 i) + j)))), (3, .int (nI (j))), (2, .int (nI (lin L S i))), (0, .ref (z 0))] → W p l e (Rm 1 0 0) s m args below meth c s.heap [] 0 0 (MQ below (Qr (fun r => r = some (.int (nI (kbh L S i))))) args s 0 0 (fun _ => False)) (F0 m 31 ls []) := by
  obtain ⟨hR, hJ, hk, hs8, hm, hbl, hbo, hbi, hba, hso⟩ := id h3
  obtain ⟨r1, r2, r3, r4, r5, r6, r7, r8⟩ := id hR
  obtain ⟨j1, j2, j3, j4, j5, j6, j7, j8⟩ := id hJ
  obtain ⟨k1, k2, k3, k4⟩ := hJ.b
  have q1 := sm0_get S i
  have q3 : lin L S i ≤ L.sum := sm_le _ _ _
  intro n
  induction n with
  | zero =>
    intro j hn hj hs ls hl
    exfalso
    have e : j = S.getD i 0 := by omega
    subst e
    unfold lin at hs hall
    omega
  | succ n ih =>
    intro j hn hj hs ls hl
    have e := sm_snoc (L := L) (a := (sm S 0 i)) (b := (sm S 0 i) + j) (by omega) (by omega)
    have q2 := getD_le L ((sm S 0 i) + j)
    have r2j := r2 ((sm S 0 i) + j) (by omega)
    refine lv_iload C.hx C.hb dX3_kept_31 (lv_at hl 0 rfl) ?_
    refine lv_iload C.hx C.hb dX3_kept_33 (lv_at hl 2 rfl) ?_
    refine n_icmp_ge (tgt := 103) C dX3_kept_35 (by decide) (by first | omega | exact hbo _ | exact hbi _ | exact hba _ | exact hbl _) (by first | omega | exact hbo _ | exact hbi _ | exact hba _ | exact hbl _) (fun c35 => ?_) (fun c35 => ?_)
    · omega
    · refine lv_iload C.hx C.hb dX3_kept_38 (lv_at hl 1 rfl) ?_
      refine n_if_eq (tgt := 103) C dX3_kept_40 (by decide) (by decide) (fun h => absurd h (by decide)) (fun _ => ?_)
      refine lv_iconst (v := nI (2)) C.hx C.hb dX3_kept_43 (by decide) ?_
      refine lv_iload C.hx C.hb dX3_kept_44 (lv_at hl 4 rfl) ?_
      refine lv_aload_n C.hx C.hb dX3_kept_46 rfl (lv_at hl 7 rfl) ?_
      refine x3g_6 C X dX3_kept_47 ?_
      refine lv_iload C.hx C.hb dX3_kept_50 (lv_at hl 3 rfl) ?_
      refine lv_iload C.hx C.hb dX3_kept_52 (lv_at hl 0 rfl) ?_
      refine n_add C dX3_kept_54 ?_
      refine x3l_2 C X (by first | omega | exact hbo _ | exact hbi _ | exact hba _ | exact hbl _) dX3_kept_55 ?_
      refine n_add C dX3_kept_56 ?_
      refine n_mul C dX3_kept_57 ?_
      refine lv_iload_n C.hx C.hb dX3_kept_58 rfl (lv_at hl 6 rfl) ?_
      refine n_icmp_gt (tgt := 66) C dX3_kept_59 (by decide) (by first | omega | exact hbo _ | exact hbi _ | exact hba _ | exact hbl _) (by first | omega | exact hbo _ | exact hbi _ | exact hba _ | exact hbl _) (fun c59 => ?_) (fun c59 => ?_)
      · refine lv_iconst (v := nI (0)) C.hx C.hb dX3_kept_66 (by decide) ?_
        refine lv_istore (lv' := [(7, .int (nI (0))), (8, .int (nI (j))), (6, .int (nI (S.getD i 0))), (5, .int (nI (sm S 0 i))), (4, .int (nI (sm L (sm S 0 i) ((sm S 0 i) + j)))), (3, .int (nI (j))), (2, .int (nI (lin L S i))), (0, .ref (z 0))]) C.hx C.hb dX3_kept_67 hl (by decide) rfl (fun ls hl => ?_)
        refine lv_iload C.hx C.hb dX3_kept_69 (lv_at hl 4 rfl) ?_
        refine lv_aload_n C.hx C.hb dX3_kept_71 rfl (lv_at hl 7 rfl) ?_
        refine x3g_6 C X dX3_kept_72 ?_
        refine lv_iload C.hx C.hb dX3_kept_75 (lv_at hl 3 rfl) ?_
        refine lv_iload C.hx C.hb dX3_kept_77 (lv_at hl 1 rfl) ?_
        refine n_add C dX3_kept_79 ?_
        refine x3l_2 C X (by first | omega | exact hbo _ | exact hbi _ | exact hba _ | exact hbl _) dX3_kept_80 ?_
        refine n_add C dX3_kept_81 ?_
        refine lv_istore (lv' := [(4, .int (nI ((sm L (sm S 0 i) ((sm S 0 i) + j)) + (gl ((sm S 0 i) + j))))), (7, .int (nI (0))), (8, .int (nI (j))), (6, .int (nI (S.getD i 0))), (5, .int (nI (sm S 0 i))), (3, .int (nI (j))), (2, .int (nI (lin L S i))), (0, .ref (z 0))]) C.hx C.hb dX3_kept_82 hl (by decide) rfl (fun ls hl => ?_)
        refine lv_iload_n C.hx C.hb dX3_kept_84 rfl (lv_at hl 5 rfl) ?_
        refine lv_iload C.hx C.hb dX3_kept_85 (lv_at hl 1 rfl) ?_
        refine n_if_eq (tgt := 94) C dX3_kept_87 (by decide) (by decide) (fun _ => ?_) (fun h => absurd h (by decide))
        refine lv_iconst (v := nI (0)) C.hx C.hb dX3_kept_94 (by decide) ?_
        refine n_add C dX3_kept_95 ?_
        refine lv_istore_n (lv' := [(3, .int (nI (j + 0))), (4, .int (nI ((sm L (sm S 0 i) ((sm S 0 i) + j)) + (gl ((sm S 0 i) + j))))), (7, .int (nI (0))), (8, .int (nI (j))), (6, .int (nI (S.getD i 0))), (5, .int (nI (sm S 0 i))), (2, .int (nI (lin L S i))), (0, .ref (z 0))]) C.hx C.hb dX3_kept_96 rfl hl (by decide) rfl (fun ls hl => ?_)
        refine lv_iinc (v := nI (j + 1)) (lv' := [(8, .int (nI (j + 1))), (3, .int (nI (j + 0))), (4, .int (nI ((sm L (sm S 0 i) ((sm S 0 i) + j)) + (gl ((sm S 0 i) + j))))), (7, .int (nI (0))), (6, .int (nI (S.getD i 0))), (5, .int (nI (sm S 0 i))), (2, .int (nI (lin L S i))), (0, .ref (z 0))]) C.hx C.hb dX3_kept_97 hl (k := 3) rfl (nI_1 _) (by decide) rfl (fun ls hl => ?_)
        refine lv_goto (tgt := 31) C.hx C.hb dX3_kept_100 (by decide) ?_
        refine lv_iload C.hx C.hb dX3_kept_31 (lv_at hl 0 rfl) ?_
        refine lv_iload C.hx C.hb dX3_kept_33 (lv_at hl 4 rfl) ?_
        refine n_icmp_ge (tgt := 103) C dX3_kept_35 (by decide) (by first | omega | exact hbo _ | exact hbi _ | exact hba _ | exact hbl _) (by first | omega | exact hbo _ | exact hbi _ | exact hba _ | exact hbl _) (fun c35 => ?_) (fun c35 => ?_)
        · refine lv_iload_n C.hx C.hb dX3_kept_103 rfl (lv_at hl 1 rfl) ?_
          refine lv_iconst (v := nI (1)) C.hx C.hb dX3_kept_104 (by decide) ?_
          refine n_icmp_ge (tgt := 112) C dX3_kept_105 (by decide) (by first | omega | exact hbo _ | exact hbi _ | exact hba _ | exact hbl _) (by first | omega | exact hbo _ | exact hbi _ | exact hba _ | exact hbl _) (fun c105 => ?_) (fun c105 => ?_)
          · refine lv_iload_n C.hx C.hb dX3_kept_112 rfl (lv_at hl 1 rfl) ?_
            refine lv_iload C.hx C.hb dX3_kept_113 (lv_at hl 4 rfl) ?_
            refine n_icmp_ne (tgt := 125) C dX3_kept_115 (by decide) (by first | omega | exact hbo _ | exact hbi _ | exact hba _ | exact hbl _) (by first | omega | exact hbo _ | exact hbi _ | exact hba _ | exact hbl _) (fun c115 => ?_) (fun c115 => ?_)
            · refine lv_iload_n C.hx C.hb dX3_kept_125 rfl (lv_at hl 1 rfl) ?_
              exact ret_ir C (by rw [kbh_is (L := L) (S := S) (i := i) (q := j) h2 (by omega) (by omega) (by omega) (Or.inr hs) (by rw [e]; omega)]; rfl) dX3_kept_126
            · omega
          · refine lv_iconst (v := nI (1)) C.hx C.hb dX3_kept_108 (by decide) ?_
            refine lv_goto (tgt := 126) C.hx C.hb dX3_kept_109 (by decide) ?_
            exact ret_ir C (by rw [kbh_is (L := L) (S := S) (i := i) (q := 1) h2 (by omega) (by omega) (by omega) (Or.inl rfl) (by have hm := sm_mono L (a := (sm S 0 i)) (b := (sm S 0 i) + j + 1) (c := (sm S 0 i) + 1 + 1) (by omega); rw [e] at hm; omega)]) dX3_kept_126
        · refine lv_iload C.hx C.hb dX3_kept_38 (lv_at hl 3 rfl) ?_
          refine n_if_eq (tgt := 103) C dX3_kept_40 (by decide) (by decide) (fun _ => ?_) (fun h => absurd h (by decide))
          refine lv_iload_n C.hx C.hb dX3_kept_103 rfl (lv_at hl 1 rfl) ?_
          refine lv_iconst (v := nI (1)) C.hx C.hb dX3_kept_104 (by decide) ?_
          refine n_icmp_ge (tgt := 112) C dX3_kept_105 (by decide) (by first | omega | exact hbo _ | exact hbi _ | exact hba _ | exact hbl _) (by first | omega | exact hbo _ | exact hbi _ | exact hba _ | exact hbl _) (fun c105 => ?_) (fun c105 => ?_)
          · refine lv_iload_n C.hx C.hb dX3_kept_112 rfl (lv_at hl 1 rfl) ?_
            refine lv_iload C.hx C.hb dX3_kept_113 (lv_at hl 4 rfl) ?_
            refine n_icmp_ne (tgt := 125) C dX3_kept_115 (by decide) (by first | omega | exact hbo _ | exact hbi _ | exact hba _ | exact hbl _) (by first | omega | exact hbo _ | exact hbi _ | exact hba _ | exact hbl _) (fun c115 => ?_) (fun c115 => ?_)
            · refine lv_iload_n C.hx C.hb dX3_kept_125 rfl (lv_at hl 1 rfl) ?_
              exact ret_ir C (by rw [kbh_is (L := L) (S := S) (i := i) (q := j) h2 (by omega) (by omega) (by omega) (Or.inr hs) (by rw [e]; omega)]; rfl) dX3_kept_126
            · omega
          · refine lv_iconst (v := nI (1)) C.hx C.hb dX3_kept_108 (by decide) ?_
            refine lv_goto (tgt := 126) C.hx C.hb dX3_kept_109 (by decide) ?_
            exact ret_ir C (by rw [kbh_is (L := L) (S := S) (i := i) (q := 1) h2 (by omega) (by omega) (by omega) (Or.inl rfl) (by have hm := sm_mono L (a := (sm S 0 i)) (b := (sm S 0 i) + j + 1) (c := (sm S 0 i) + 1 + 1) (by omega); rw [e] at hm; omega)]) dX3_kept_126
      · refine lv_iconst (v := nI (1)) C.hx C.hb dX3_kept_62 (by decide) ?_
        refine lv_goto (tgt := 67) C.hx C.hb dX3_kept_63 (by decide) ?_
        refine lv_istore (lv' := [(7, .int (nI (1))), (8, .int (nI (j))), (6, .int (nI (S.getD i 0))), (5, .int (nI (sm S 0 i))), (4, .int (nI (sm L (sm S 0 i) ((sm S 0 i) + j)))), (3, .int (nI (j))), (2, .int (nI (lin L S i))), (0, .ref (z 0))]) C.hx C.hb dX3_kept_67 hl (by decide) rfl (fun ls hl => ?_)
        refine lv_iload C.hx C.hb dX3_kept_69 (lv_at hl 4 rfl) ?_
        refine lv_aload_n C.hx C.hb dX3_kept_71 rfl (lv_at hl 7 rfl) ?_
        refine x3g_6 C X dX3_kept_72 ?_
        refine lv_iload C.hx C.hb dX3_kept_75 (lv_at hl 3 rfl) ?_
        refine lv_iload C.hx C.hb dX3_kept_77 (lv_at hl 1 rfl) ?_
        refine n_add C dX3_kept_79 ?_
        refine x3l_2 C X (by first | omega | exact hbo _ | exact hbi _ | exact hba _ | exact hbl _) dX3_kept_80 ?_
        refine n_add C dX3_kept_81 ?_
        refine lv_istore (lv' := [(4, .int (nI ((sm L (sm S 0 i) ((sm S 0 i) + j)) + (gl ((sm S 0 i) + j))))), (7, .int (nI (1))), (8, .int (nI (j))), (6, .int (nI (S.getD i 0))), (5, .int (nI (sm S 0 i))), (3, .int (nI (j))), (2, .int (nI (lin L S i))), (0, .ref (z 0))]) C.hx C.hb dX3_kept_82 hl (by decide) rfl (fun ls hl => ?_)
        refine lv_iload_n C.hx C.hb dX3_kept_84 rfl (lv_at hl 5 rfl) ?_
        refine lv_iload C.hx C.hb dX3_kept_85 (lv_at hl 1 rfl) ?_
        refine n_if_eq (tgt := 94) C dX3_kept_87 (by decide) (by decide) (fun h => absurd h (by decide)) (fun _ => ?_)
        refine lv_iconst (v := nI (1)) C.hx C.hb dX3_kept_90 (by decide) ?_
        refine lv_goto (tgt := 95) C.hx C.hb dX3_kept_91 (by decide) ?_
        refine n_add C dX3_kept_95 ?_
        refine lv_istore_n (lv' := [(3, .int (nI (j + 1))), (4, .int (nI ((sm L (sm S 0 i) ((sm S 0 i) + j)) + (gl ((sm S 0 i) + j))))), (7, .int (nI (1))), (8, .int (nI (j))), (6, .int (nI (S.getD i 0))), (5, .int (nI (sm S 0 i))), (2, .int (nI (lin L S i))), (0, .ref (z 0))]) C.hx C.hb dX3_kept_96 rfl hl (by decide) rfl (fun ls hl => ?_)
        refine lv_iinc (v := nI (j + 1)) (lv' := [(8, .int (nI (j + 1))), (3, .int (nI (j + 1))), (4, .int (nI ((sm L (sm S 0 i) ((sm S 0 i) + j)) + (gl ((sm S 0 i) + j))))), (7, .int (nI (1))), (6, .int (nI (S.getD i 0))), (5, .int (nI (sm S 0 i))), (2, .int (nI (lin L S i))), (0, .ref (z 0))]) C.hx C.hb dX3_kept_97 hl (k := 3) rfl (nI_1 _) (by decide) rfl (fun ls hl => ?_)
        refine lv_goto (tgt := 31) C.hx C.hb dX3_kept_100 (by decide) ?_
        exact ih (j + 1) (by omega) (by omega) (by rw [← Nat.add_assoc, e]; omega) ls (by rw [← Nat.add_assoc, e, ← r2j]; exact lv_sub hl [0, 3, 4, 5, 2, 1, 6, 7] rfl)
set_option maxHeartbeats 4000000 in
set_option maxRecDepth 100000 in
/-- the reference: how many an interval keeps -/
theorem c3_kept {l : Launch} {E : Gq} {z : Nat → Nat} {v : Nat → Int32} {fk : Nat → Int64} {gl go gi ga : Nat → Nat} {gs : Nat → Int32} {K : List Int64} {L N S P A : List Nat} (h3 : Ctx3 v fk gl go gi ga K L N S P A) {i : Nat} (hi : i < S.length) (h2 : 2 ≤ S.getD i 0) (hall : 1 ≤ lin L S i) : M3r l E yX3_kept cX3_kept 9 (some .int) 1 [.ref (z 0), .int (nI (i))] z v fk gl go gi ga gs (fun r => r = some (.int (nI (kbh L S i)))) := by
  refine mk_r (by decide) (Nat.le_of_ble_eq_true rfl) ?_
  intro p e s m below meth c ls C Wd hl
  have X : X3w E _ z v fk gl go gi ga gs s s.heap [] := Wd
  have hl : lv_has ls 9 [(0, .ref (z 0)), (1, .int (nI (i)))] := hl
  refine lv_aload_n C.hx C.hb dX3_kept_0 rfl (lv_at hl 0 rfl) ?_
  refine lv_iload_n C.hx C.hb dX3_kept_1 rfl (lv_at hl 1 rfl) ?_
  refine x3_cr (As := [.int (nI (i))]) (rest := []) C X (c3_lengthsOf (i := i) h3 (by omega)) wy_X3_lengthsOf ts_33 tw_451 rfl ⟨by decide, by decide⟩ rfl hl.1 rfl (Nat.le_of_ble_eq_true rfl) ⟨Nat.le_refl _, Nat.le_refl _⟩ dX3_kept_2 (fun r hp => ?_)
  subst hp
  refine W.eq (g2 := F0 m 5 ls [.int (nI (lin L S i))]) rfl ?_
  refine lv_istore_n (lv' := [(2, .int (nI (lin L S i))), (0, .ref (z 0)), (1, .int (nI (i)))]) C.hx C.hb dX3_kept_5 rfl hl (by decide) rfl (fun ls hl => ?_)
  refine lv_iconst (v := nI (0)) C.hx C.hb dX3_kept_6 (by decide) ?_
  refine lv_istore_n (lv' := [(3, .int (nI (0))), (2, .int (nI (lin L S i))), (0, .ref (z 0)), (1, .int (nI (i)))]) C.hx C.hb dX3_kept_7 rfl hl (by decide) rfl (fun ls hl => ?_)
  refine lv_iconst (v := nI (0)) C.hx C.hb dX3_kept_8 (by decide) ?_
  refine lv_istore (lv' := [(4, .int (nI (0))), (3, .int (nI (0))), (2, .int (nI (lin L S i))), (0, .ref (z 0)), (1, .int (nI (i)))]) C.hx C.hb dX3_kept_9 hl (by decide) rfl (fun ls hl => ?_)
  refine lv_aload_n C.hx C.hb dX3_kept_11 rfl (lv_at hl 3 rfl) ?_
  refine lv_iload_n C.hx C.hb dX3_kept_12 rfl (lv_at hl 4 rfl) ?_
  refine x3_cr (As := [.int (nI (i))]) (rest := []) C X (c3_first (i := i) h3 (by omega) (by omega)) wy_X3_first ts_32 tw_447 rfl ⟨by decide, by decide⟩ rfl hl.1 rfl (Nat.le_of_ble_eq_true rfl) ⟨Nat.le_refl _, Nat.le_refl _⟩ dX3_kept_13 (fun r hp => ?_)
  subst hp
  refine W.eq (g2 := F0 m 16 ls [.int (nI (sm S 0 i))]) rfl ?_
  refine lv_istore (lv' := [(5, .int (nI (sm S 0 i))), (4, .int (nI (0))), (3, .int (nI (0))), (2, .int (nI (lin L S i))), (0, .ref (z 0)), (1, .int (nI (i)))]) C.hx C.hb dX3_kept_16 hl (by decide) rfl (fun ls hl => ?_)
  refine lv_aload_n C.hx C.hb dX3_kept_18 rfl (lv_at hl 4 rfl) ?_
  refine lv_iload_n C.hx C.hb dX3_kept_19 rfl (lv_at hl 5 rfl) ?_
  refine x3_cr (As := [.int (nI (i))]) (rest := []) C X (c3_recordsOf (i := i) h3 (by omega)) wy_X3_recordsOf ts_35 tw_459 rfl ⟨by decide, by decide⟩ rfl hl.1 rfl (Nat.le_of_ble_eq_true rfl) ⟨Nat.le_refl _, Nat.le_refl _⟩ dX3_kept_20 (fun r hp => ?_)
  subst hp
  refine W.eq (g2 := F0 m 23 ls [.int (nI (S.getD i 0))]) rfl ?_
  refine lv_istore (lv' := [(6, .int (nI (S.getD i 0))), (5, .int (nI (sm S 0 i))), (4, .int (nI (0))), (3, .int (nI (0))), (2, .int (nI (lin L S i))), (0, .ref (z 0)), (1, .int (nI (i)))]) C.hx C.hb dX3_kept_23 hl (by decide) rfl (fun ls hl => ?_)
  refine lv_iconst (v := nI (1)) C.hx C.hb dX3_kept_25 (by decide) ?_
  refine lv_istore (lv' := [(7, .int (nI (1))), (6, .int (nI (S.getD i 0))), (5, .int (nI (sm S 0 i))), (4, .int (nI (0))), (3, .int (nI (0))), (2, .int (nI (lin L S i))), (0, .ref (z 0)), (1, .int (nI (i)))]) C.hx C.hb dX3_kept_26 hl (by decide) rfl (fun ls hl => ?_)
  refine lv_iconst (v := nI (0)) C.hx C.hb dX3_kept_28 (by decide) ?_
  refine lv_istore (lv' := [(8, .int (nI (0))), (7, .int (nI (1))), (6, .int (nI (S.getD i 0))), (5, .int (nI (sm S 0 i))), (4, .int (nI (0))), (3, .int (nI (0))), (2, .int (nI (lin L S i))), (0, .ref (z 0)), (1, .int (nI (i)))]) C.hx C.hb dX3_kept_29 hl (by decide) rfl (fun ls hl => ?_)
  exact l3_kept C X h3 hi h2 hall _ 0 rfl (Nat.zero_le _) (by rw [sm_end (L := L) (j := sm S 0 i) (b := sm S 0 i + 0) (Or.inl (Nat.le_refl _))]; exact Nat.zero_le _) ls (by rw [sm_end (L := L) (j := sm S 0 i) (b := sm S 0 i + 0) (Or.inl (Nat.le_refl _))]; exact lv_sub hl [0, 1, 2, 3, 4, 5, 6, 7] rfl)
