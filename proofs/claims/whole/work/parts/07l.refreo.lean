theorem Core.none {rm wd nx ac lw : Nat} {fk : Nat → Int64} {gl go gi ga : Nat → Nat} (hlw : 1 ≤ lw) (hlw2 : lw ≤ wd) (hnx : nx < 2 ^ 31) (hac : ac + 1 < 2 ^ 31) (b1 : ∀ k, gl k < 2 ^ 31) (b2 : ∀ k, go k < 2 ^ 31) (b3 : ∀ k, gi k < 2 ^ 31) (b4 : ∀ k, ga k < 2 ^ 31) : Core rm wd (nx + 1) (ac + 1) [] [] (ins [] 0 nx) (ins [] 0 0) (lay [] lw) [ac + 1] fk gl go (va_up gi 0 nx) (va_up ga 0 (ac + 1)) := by
  have e : lay [] lw = [1] := by simp [lay, ins]
  have e1 : ins ([] : List Nat) 0 nx = [nx] := rfl
  have e2 : ins ([] : List Nat) 0 0 = [0] := rfl
  rw [e, e1, e2]
  refine ⟨⟨fun j hj => absurd hj (Nat.not_lt_zero _), fun j hj => absurd hj (Nat.not_lt_zero _), fun j hj => absurd hj (Nat.not_lt_zero _), fun q hq => ?_, fun q hq => ?_, by simp, by simp, rfl⟩, ⟨rfl, rfl, rfl, rfl, by decide, fun x hx => by simp at hx; omega, Or.inl rfl, Nat.zero_le _⟩, fun i j hij hj => absurd hj (Nat.not_lt_zero _), fun x hx => by simp at hx; omega, fun x hx => absurd hx List.not_mem_nil, fun q hq => by simp [lin, sm], fun x hx => by simp at hx; omega, fun x hx => by simp at hx; omega, b1, b2, fun k => ?_, fun k => ?_⟩
  · have : q = 0 := by simp at hq; omega
    subst this; simp [va_up]
  · have : q = 0 := by simp at hq; omega
    subst this; simp [va_up, gIx]
  · unfold va_up; split; exact hnx; exact b3 k
  · unfold va_up; split; exact hac; exact b4 k
theorem vab {g : Nat → Nat} {t x : Nat} (h : ∀ k, g k < 2 ^ 31) (hx : x < 2 ^ 31) : ∀ k, va_up g t x k < 2 ^ 31 := by
  intro k
  unfold va_up
  split
  · exact hx
  · exact h k
set_option maxHeartbeats 8000000 in
set_option maxRecDepth 100000 in
theorem l3_reo {p : Program} {l : Launch} {e : Env} {s : State} {m : MethodId} {args : Array Value} {below : List Frame} {meth : Method} {c : Code} {E : Gq} {ws0 : va_W} {z : Nat → Nat} {rm wd lr lw B : Nat} {v0 : Nat → Int32} {K : List Int64} {L : List Nat} {fk : Nat → Int64} {gl : Nat → Nat} {gs : Nat → Int32} {T0 : Nat × Nat × List Nat × List Nat × List Nat} (C : Cx E p s m args meth c cX3_reorganise 6 (some .int) RX3 (va_A ws0 s.heap.size)) (hlw : 1 ≤ lw) (hlw2 : lw ≤ wd) (hwd : wd ≤ 20) (hlr : lr ≤ rm) (hrm : rm ≤ 1000) (hL : L.length = K.length) (hk : K.length ≤ 600) (r1 : ∀ j, j < K.length → fk j = K.getD j 0) (r2 : ∀ j, j < K.length → gl j = L.getD j 0) (hso : srt K) (c3 : ∀ x ∈ L, 1 ≤ x ∧ x ≤ rm) (hbl : ∀ k, gl k < 2 ^ 31) (hB : B < 2 ^ 30) (hv8 : v0 8 = nI K.length) (hv3 : v0 3 = nI lr) :
    ∀ (n i held tog nx ac : Nat) (N S P A : List Nat) (v : Nat → Int32) (go gi ga : Nat → Nat) (H : Heap) (locs : List Loc), i + n = L.length → 1 ≤ i → RI rm lw L i held tog nx ac N S P A go gi ga → v 11 = nI (S.length + 1) → v 12 = nI (nx + 1) → v 13 = nI ac → (∀ k, k ≠ 11 → k ≠ 12 → k ≠ 13 → v k = v0 k) → (∀ k, go k < 2 ^ 31) → (∀ k, gi k < 2 ^ 31) → (∀ k, ga k < 2 ^ 31) → nx + n + 1 ≤ B → ac + n ≤ B → rgl L lr lw n i held tog nx N S P = T0 → X3w E (va_A ws0 s.heap.size) z v fk gl go gi ga gs s H locs →
      ∀ ls : Array Slot, lv_has ls 6 [(4, .int (nI i)), (3, .int (nI lw)), (2, .int (nI held)), (1, .int (nI tog)), (0, .ref (z 0))] → W p l e (Rm 0 0 0) s m args below meth c H locs 0 0 (MQ below (Qw E ws0 s.heap.size (P3 E z (fun r v' fk' gl' go' gi' ga' gs' => ∃ (h nx1 ac1 : Nat) (N1 S1 P1 A1 : List Nat), T0 = (h, nx1, N1, S1, P1) ∧ some (.int (nI (ins S1 S1.length h).length)) = r ∧ Core rm wd (nx1 + 1) ac1 K L (ins N1 N1.length nx1) (ins S1 S1.length h) (lay P1 lw) A1 fk' gl' go' gi' ga' ∧ v' 11 = nI (ins S1 S1.length h).length ∧ v' 12 = nI (nx1 + 1) ∧ v' 13 = nI ac1 ∧ (∀ k, k ≠ 11 → k ≠ 12 → k ≠ 13 → v' k = v0 k) ∧ gs = gs' ∧ nx1 + 1 ≤ B ∧ ac1 ≤ B))) args s 0 0 (va_A ws0 s.heap.size)) (F0 m 44 ls []) := by
  intro n
  induction n with
  | zero =>
    intro i held tog nx ac N S P A v go gi ga H locs hi h1i hRI hv11 hv12 hv13 hvv hbo hbi hba hnx hac hT X ls hl
    have ei : i = L.length := by omega
    subst ei
    have hs8 : v 8 = nI K.length := (hvv 8 (by decide) (by decide) (by decide)).trans hv8
    have eSl := ins_len (L := S) (j := S.length) (x := held) (Nat.le_refl _)
    have hSl : S.length ≤ S.sum := len_le_sum hRI.2.2.2.1
    have hSi := hRI.2.1
    refine lv_iload C.hx C.hb dX3_reorganise_44 (lv_at hl 0 rfl) ?_
    refine lv_aload_n C.hx C.hb dX3_reorganise_46 rfl (lv_at hl 4 rfl) ?_
    refine x3g_8 C X (x := nI (K.length)) hs8 dX3_reorganise_47 ?_
    refine n_icmp_lt (tgt := 60) C dX3_reorganise_50 (by decide) (by first | omega | exact hbo _ | exact hbi _ | exact hba _ | exact hbl _) (by first | omega | exact hbo _ | exact hbi _ | exact hba _ | exact hbl _) (fun c50 => ?_) (fun c50 => ?_)
    · omega
    · refine lv_aload_n C.hx C.hb dX3_reorganise_53 rfl (lv_at hl 4 rfl) ?_
      refine x3g_11 C X (x := nI (S.length + 1)) hv11 dX3_reorganise_54 ?_
      refine n_if_ne (tgt := 221) C dX3_reorganise_57 (by decide) (by first | omega | exact hbo _ | exact hbi _ | exact hba _ | exact hbl _) (fun c57 => ?_) (fun c57 => ?_)
      · refine lv_aload_n C.hx C.hb dX3_reorganise_221 rfl (lv_at hl 4 rfl) ?_
        refine x3g_11 C X (x := nI (S.length + 1)) hv11 dX3_reorganise_222 ?_
        exact ret3_i C X (⟨held, nx, ac, N, S, P, A, hT.symm, by rw [eSl], hRI.done hlw2 hL hk hrm r1 r2 hso c3 hbl hbo hbi hba, by rw [eSl]; exact hv11, hv12, hv13, hvv, rfl, by omega, by omega⟩) dX3_reorganise_225
      · omega
  | succ n ih =>
    intro i held tog nx ac N S P A v go gi ga H locs hi h1i hRI hv11 hv12 hv13 hvv hbo hbi hba hnx hac hT X ls hl
    have hs8 : v 8 = nI K.length := (hvv 8 (by decide) (by decide) (by decide)).trans hv8
    have hs3 : v 3 = nI lr := (hvv 3 (by decide) (by decide) (by decide)).trans hv3
    have eSl := ins_len (L := S) (j := S.length) (x := held) (Nat.le_refl _)
    obtain ⟨i1, i2, i3, i4, i5, i6, i7, i8, i9, i10, i11, i12⟩ := id hRI
    have hgi : gi S.length = nx := by rw [i11 _ (by omega), getD_app, if_neg (by omega), if_pos (by omega)]
    have hLi := c3 _ (getD_mem (show i < L.length by omega))
    have r2i := r2 i (by omega)
    have hSl : S.length ≤ S.sum := len_le_sum i4
    have hmod := Nat.mod_lt (S.length + 1) (show 0 < lw by omega)
    simp only [rgl] at hT
    refine lv_iload C.hx C.hb dX3_reorganise_44 (lv_at hl 0 rfl) ?_
    refine lv_aload_n C.hx C.hb dX3_reorganise_46 rfl (lv_at hl 4 rfl) ?_
    refine x3g_8 C X (x := nI (K.length)) hs8 dX3_reorganise_47 ?_
    refine n_icmp_lt (tgt := 60) C dX3_reorganise_50 (by decide) (by first | omega | exact hbo _ | exact hbi _ | exact hba _ | exact hbl _) (by first | omega | exact hbo _ | exact hbi _ | exact hba _ | exact hbl _) (fun c50 => ?_) (fun c50 => ?_)
    · refine lv_aload_n C.hx C.hb dX3_reorganise_60 rfl (lv_at hl 4 rfl) ?_
      refine x3g_11 C X (x := nI (S.length + 1)) hv11 dX3_reorganise_61 ?_
      refine n_if_eq (tgt := 87) C dX3_reorganise_64 (by decide) (by first | omega | exact hbo _ | exact hbi _ | exact hba _ | exact hbl _) (fun c64 => ?_) (fun c64 => ?_)
      · omega
      · refine lv_iload_n C.hx C.hb dX3_reorganise_67 rfl (lv_at hl 2 rfl) ?_
        refine n_if_le (tgt := 91) C dX3_reorganise_68 (by decide) (by first | omega | exact hbo _ | exact hbi _ | exact hba _ | exact hbl _) (fun c68 => ?_) (fun c68 => ?_)
        · omega
        · refine lv_iload_n C.hx C.hb dX3_reorganise_71 rfl (lv_at hl 3 rfl) ?_
          refine lv_aload_n C.hx C.hb dX3_reorganise_72 rfl (lv_at hl 4 rfl) ?_
          refine x3g_6 C X dX3_reorganise_73 ?_
          refine lv_iload C.hx C.hb dX3_reorganise_76 (lv_at hl 0 rfl) ?_
          refine x3l_2 C X (by first | omega | exact hbo _ | exact hbi _ | exact hba _ | exact hbl _) dX3_reorganise_78 ?_
          refine n_add C dX3_reorganise_79 ?_
          refine lv_aload_n C.hx C.hb dX3_reorganise_80 rfl (lv_at hl 4 rfl) ?_
          refine x3g_3 C X (x := nI (lr)) hs3 dX3_reorganise_81 ?_
          refine n_icmp_le (tgt := 91) C dX3_reorganise_84 (by decide) (by first | omega | exact hbo _ | exact hbi _ | exact hba _ | exact hbl _) (by first | omega | exact hbo _ | exact hbi _ | exact hba _ | exact hbl _) (fun c84 => ?_) (fun c84 => ?_)
          · refine lv_iconst (v := nI (0)) C.hx C.hb dX3_reorganise_91 (by decide) ?_
            refine lv_istore (lv' := [(5, .int (nI (0))), (4, .int (nI (i))), (3, .int (nI (lw))), (2, .int (nI (held))), (1, .int (nI (tog))), (0, .ref (z 0))]) C.hx C.hb dX3_reorganise_92 hl (by decide) rfl (fun ls hl => ?_)
            refine lv_iload C.hx C.hb dX3_reorganise_94 (lv_at hl 0 rfl) ?_
            refine n_if_eq (tgt := 172) C dX3_reorganise_96 (by decide) (by decide) (fun _ => ?_) (fun h => absurd h (by decide))
            refine lv_iload C.hx C.hb dX3_reorganise_172 (lv_at hl 1 rfl) ?_
            refine lv_aload_n C.hx C.hb dX3_reorganise_174 rfl (lv_at hl 5 rfl) ?_
            refine x3g_8 C X (x := nI (K.length)) hs8 dX3_reorganise_175 ?_
            refine n_icmp_lt (tgt := 184) C dX3_reorganise_178 (by decide) (by first | omega | exact hbo _ | exact hbi _ | exact hba _ | exact hbl _) (by first | omega | exact hbo _ | exact hbi _ | exact hba _ | exact hbl _) (fun c178 => ?_) (fun c178 => ?_)
            · refine lv_aload_n C.hx C.hb dX3_reorganise_184 rfl (lv_at hl 5 rfl) ?_
              refine x3g_7 C X dX3_reorganise_185 ?_
              refine lv_iload C.hx C.hb dX3_reorganise_188 (lv_at hl 1 rfl) ?_
              refine lv_aload_n C.hx C.hb dX3_reorganise_190 rfl (lv_at hl 5 rfl) ?_
              refine x3g_9 C X dX3_reorganise_191 ?_
              refine lv_aload_n C.hx C.hb dX3_reorganise_194 rfl (lv_at hl 5 rfl) ?_
              refine x3g_11 C X (x := nI (S.length + 1)) hv11 dX3_reorganise_195 ?_
              refine lv_iconst (v := nI (1)) C.hx C.hb dX3_reorganise_198 (by decide) ?_
              refine n_sub C dX3_reorganise_199 (by first | omega | exact hbo _ | exact hbi _ | exact hba _ | exact hbl _) ?_
              refine x3l_4 C X (by first | omega | exact hbo _ | exact hbi _ | exact hba _ | exact hbl _) dX3_reorganise_200 ?_
              refine n_re (j := nI nx) (by rw [show S.length + 1 - 1 = S.length from rfl, hgi]) ?_
              refine x3t_3 C X (by first | omega | exact hbo _ | exact hbi _ | exact hba _ | exact hbl _) dX3_reorganise_201 (fun H locs X => ?_)
              refine lv_iload_n C.hx C.hb dX3_reorganise_202 rfl (lv_at hl 4 rfl) ?_
              refine lv_aload_n C.hx C.hb dX3_reorganise_203 rfl (lv_at hl 5 rfl) ?_
              refine x3g_6 C X dX3_reorganise_204 ?_
              refine lv_iload C.hx C.hb dX3_reorganise_207 (lv_at hl 1 rfl) ?_
              refine x3l_2 C X (by first | omega | exact hbo _ | exact hbi _ | exact hba _ | exact hbl _) dX3_reorganise_209 ?_
              refine n_add C dX3_reorganise_210 ?_
              refine lv_istore_n (lv' := [(1, .int (nI (tog + (gl i)))), (5, .int (nI (0))), (4, .int (nI (i))), (3, .int (nI (lw))), (2, .int (nI (held))), (0, .ref (z 0))]) C.hx C.hb dX3_reorganise_211 rfl hl (by decide) rfl (fun ls hl => ?_)
              refine lv_iinc (v := nI (held + 1)) (lv' := [(2, .int (nI (held + 1))), (1, .int (nI (tog + (gl i)))), (5, .int (nI (0))), (4, .int (nI (i))), (3, .int (nI (lw))), (0, .ref (z 0))]) C.hx C.hb dX3_reorganise_212 hl (k := 4) rfl (nI_1 _) (by decide) rfl (fun ls hl => ?_)
              refine lv_iinc (v := nI (i + 1)) (lv' := [(4, .int (nI (i + 1))), (2, .int (nI (held + 1))), (1, .int (nI (tog + (gl i)))), (5, .int (nI (0))), (3, .int (nI (lw))), (0, .ref (z 0))]) C.hx C.hb dX3_reorganise_215 hl (k := 3) rfl (nI_1 _) (by decide) rfl (fun ls hl => ?_)
              refine lv_goto (tgt := 44) C.hx C.hb dX3_reorganise_218 (by decide) ?_
              exact ih (i + 1) (held + 1) (tog + L.getD i 0) nx ac N S P A v (va_up go i nx) gi ga H locs (by omega) (by omega) (hRI.keep (by omega) (by omega)) hv11 hv12 hv13 hvv (vab hbo (by omega)) hbi hba (by omega) (by omega) (by rw [if_neg (fun q => by omega)] at hT; exact hT) X ls (by rw [← r2i]; exact lv_sub hl [0, 4, 1, 2, 5] rfl)
            · omega
          · refine lv_iconst (v := nI (1)) C.hx C.hb dX3_reorganise_87 (by decide) ?_
            refine lv_goto (tgt := 92) C.hx C.hb dX3_reorganise_88 (by decide) ?_
            refine lv_istore (lv' := [(5, .int (nI (1))), (4, .int (nI (i))), (3, .int (nI (lw))), (2, .int (nI (held))), (1, .int (nI (tog))), (0, .ref (z 0))]) C.hx C.hb dX3_reorganise_92 hl (by decide) rfl (fun ls hl => ?_)
            refine lv_iload C.hx C.hb dX3_reorganise_94 (lv_at hl 0 rfl) ?_
            refine n_if_eq (tgt := 172) C dX3_reorganise_96 (by decide) (by decide) (fun h => absurd h (by decide)) (fun _ => ?_)
            refine lv_aload_n C.hx C.hb dX3_reorganise_99 rfl (lv_at hl 5 rfl) ?_
            refine lv_dup C.hx C.hb dX3_reorganise_100 rfl ?_
            refine x3g_13 C X (x := nI (ac)) hv13 dX3_reorganise_101 ?_
            refine lv_aload_n C.hx C.hb dX3_reorganise_104 rfl (lv_at hl 5 rfl) ?_
            refine x3g_11 C X (x := nI (S.length + 1)) hv11 dX3_reorganise_105 ?_
            refine lv_iload_n C.hx C.hb dX3_reorganise_108 rfl (lv_at hl 2 rfl) ?_
            refine n_rem C dX3_reorganise_109 (by first | omega | exact hbo _ | exact hbi _ | exact hba _ | exact hbl _) (by first | omega | exact hbo _ | exact hbi _ | exact hba _ | exact hbl _) (by first | omega | exact hbo _ | exact hbi _ | exact hba _ | exact hbl _) ?_
            refine n_if_ne (tgt := 117) C dX3_reorganise_110 (by decide) (by first | omega | exact hbo _ | exact hbi _ | exact hba _ | exact hbl _) (fun c110 => ?_) (fun c110 => ?_)
            · refine lv_iconst (v := nI (0)) C.hx C.hb dX3_reorganise_117 (by decide) ?_
              refine n_add C dX3_reorganise_118 ?_
              refine x3p_13 C X dX3_reorganise_119 (fun H locs X => ?_)
              refine lv_aload_n C.hx C.hb dX3_reorganise_122 rfl (lv_at hl 5 rfl) ?_
              refine x3g_9 C X dX3_reorganise_123 ?_
              refine lv_aload_n C.hx C.hb dX3_reorganise_126 rfl (lv_at hl 5 rfl) ?_
              refine x3g_11 C X (x := nI (S.length + 1)) hv11 dX3_reorganise_127 ?_
              refine lv_aload_n C.hx C.hb dX3_reorganise_130 rfl (lv_at hl 5 rfl) ?_
              refine x3g_12 C X (x := nI (nx + 1)) hv12 dX3_reorganise_131 ?_
              refine x3t_4 C X (by first | omega | exact hbo _ | exact hbi _ | exact hba _ | exact hbl _) dX3_reorganise_134 (fun H locs X => ?_)
              refine lv_aload_n C.hx C.hb dX3_reorganise_135 rfl (lv_at hl 5 rfl) ?_
              refine x3g_10 C X dX3_reorganise_136 ?_
              refine lv_aload_n C.hx C.hb dX3_reorganise_139 rfl (lv_at hl 5 rfl) ?_
              refine x3g_11 C X (x := nI (S.length + 1)) hv11 dX3_reorganise_140 ?_
              refine lv_aload_n C.hx C.hb dX3_reorganise_143 rfl (lv_at hl 5 rfl) ?_
              refine x3g_13 C X (x := nI (ac + 0)) rfl dX3_reorganise_144 ?_
              refine x3t_5 C X (by first | omega | exact hbo _ | exact hbi _ | exact hba _ | exact hbl _) dX3_reorganise_147 (fun H locs X => ?_)
              refine lv_aload_n C.hx C.hb dX3_reorganise_148 rfl (lv_at hl 5 rfl) ?_
              refine lv_dup C.hx C.hb dX3_reorganise_149 rfl ?_
              refine x3g_11 C X (x := nI (S.length + 1)) hv11 dX3_reorganise_150 ?_
              refine lv_iconst (v := nI (1)) C.hx C.hb dX3_reorganise_153 (by decide) ?_
              refine n_add C dX3_reorganise_154 ?_
              refine x3p_11 C X dX3_reorganise_155 (fun H locs X => ?_)
              refine lv_aload_n C.hx C.hb dX3_reorganise_158 rfl (lv_at hl 5 rfl) ?_
              refine lv_dup C.hx C.hb dX3_reorganise_159 rfl ?_
              refine x3g_12 C X (x := nI (nx + 1)) hv12 dX3_reorganise_160 ?_
              refine lv_iconst (v := nI (1)) C.hx C.hb dX3_reorganise_163 (by decide) ?_
              refine n_add C dX3_reorganise_164 ?_
              refine x3p_12 C X dX3_reorganise_165 (fun H locs X => ?_)
              refine lv_iconst (v := nI (0)) C.hx C.hb dX3_reorganise_168 (by decide) ?_
              refine lv_istore_n (lv' := [(1, .int (nI (0))), (5, .int (nI (1))), (4, .int (nI (i))), (3, .int (nI (lw))), (2, .int (nI (held))), (0, .ref (z 0))]) C.hx C.hb dX3_reorganise_169 rfl hl (by decide) rfl (fun ls hl => ?_)
              refine lv_iconst (v := nI (0)) C.hx C.hb dX3_reorganise_170 (by decide) ?_
              refine lv_istore_n (lv' := [(2, .int (nI (0))), (1, .int (nI (0))), (5, .int (nI (1))), (4, .int (nI (i))), (3, .int (nI (lw))), (0, .ref (z 0))]) C.hx C.hb dX3_reorganise_171 rfl hl (by decide) rfl (fun ls hl => ?_)
              refine lv_iload C.hx C.hb dX3_reorganise_172 (lv_at hl 3 rfl) ?_
              refine lv_aload_n C.hx C.hb dX3_reorganise_174 rfl (lv_at hl 5 rfl) ?_
              refine x3g_8 C X (x := nI (K.length)) hs8 dX3_reorganise_175 ?_
              refine n_icmp_lt (tgt := 184) C dX3_reorganise_178 (by decide) (by first | omega | exact hbo _ | exact hbi _ | exact hba _ | exact hbl _) (by first | omega | exact hbo _ | exact hbi _ | exact hba _ | exact hbl _) (fun c178 => ?_) (fun c178 => ?_)
              · refine lv_aload_n C.hx C.hb dX3_reorganise_184 rfl (lv_at hl 5 rfl) ?_
                refine x3g_7 C X dX3_reorganise_185 ?_
                refine lv_iload C.hx C.hb dX3_reorganise_188 (lv_at hl 3 rfl) ?_
                refine lv_aload_n C.hx C.hb dX3_reorganise_190 rfl (lv_at hl 5 rfl) ?_
                refine x3g_9 C X dX3_reorganise_191 ?_
                refine lv_aload_n C.hx C.hb dX3_reorganise_194 rfl (lv_at hl 5 rfl) ?_
                refine x3g_11 C X (x := nI ((S.length + 1) + 1)) rfl dX3_reorganise_195 ?_
                refine lv_iconst (v := nI (1)) C.hx C.hb dX3_reorganise_198 (by decide) ?_
                refine n_sub C dX3_reorganise_199 (by first | omega | exact hbo _ | exact hbi _ | exact hba _ | exact hbl _) ?_
                refine x3l_4 C X (by first | omega | exact hbo _ | exact hbi _ | exact hba _ | exact hbl _) dX3_reorganise_200 ?_
                refine n_re (j := nI (nx + 1)) (by rw [show S.length + 1 + 1 - 1 = S.length + 1 from rfl]; unfold va_up; rw [if_pos rfl]) ?_
                refine x3t_3 C X (by first | omega | exact hbo _ | exact hbi _ | exact hba _ | exact hbl _) dX3_reorganise_201 (fun H locs X => ?_)
                refine lv_iload_n C.hx C.hb dX3_reorganise_202 rfl (lv_at hl 1 rfl) ?_
                refine lv_aload_n C.hx C.hb dX3_reorganise_203 rfl (lv_at hl 5 rfl) ?_
                refine x3g_6 C X dX3_reorganise_204 ?_
                refine lv_iload C.hx C.hb dX3_reorganise_207 (lv_at hl 3 rfl) ?_
                refine x3l_2 C X (by first | omega | exact hbo _ | exact hbi _ | exact hba _ | exact hbl _) dX3_reorganise_209 ?_
                refine n_add C dX3_reorganise_210 ?_
                refine lv_istore_n (lv' := [(1, .int (nI (0 + (gl i)))), (2, .int (nI (0))), (5, .int (nI (1))), (4, .int (nI (i))), (3, .int (nI (lw))), (0, .ref (z 0))]) C.hx C.hb dX3_reorganise_211 rfl hl (by decide) rfl (fun ls hl => ?_)
                refine lv_iinc (v := nI (0 + 1)) (lv' := [(2, .int (nI (0 + 1))), (1, .int (nI (0 + (gl i)))), (5, .int (nI (1))), (4, .int (nI (i))), (3, .int (nI (lw))), (0, .ref (z 0))]) C.hx C.hb dX3_reorganise_212 hl (k := 1) rfl (nI_1 _) (by decide) rfl (fun ls hl => ?_)
                refine lv_iinc (v := nI (i + 1)) (lv' := [(4, .int (nI (i + 1))), (2, .int (nI (0 + 1))), (1, .int (nI (0 + (gl i)))), (5, .int (nI (1))), (3, .int (nI (lw))), (0, .ref (z 0))]) C.hx C.hb dX3_reorganise_215 hl (k := 3) rfl (nI_1 _) (by decide) rfl (fun ls hl => ?_)
                refine lv_goto (tgt := 44) C.hx C.hb dX3_reorganise_218 (by decide) ?_
                obtain ⟨A2, hRI2⟩ := hRI.fresh hlw (by omega) (by omega)
                rw [if_neg c110] at hRI2
                exact ih (i + 1) (0 + 1) (0 + L.getD i 0) (nx + 1) (ac + 0) _ _ _ A2 (upd (upd (upd v 13 (nI (ac + 0))) 11 (nI ((S.length + 1) + 1))) 12 (nI ((nx + 1) + 1))) _ _ _ H locs (by omega) (by omega) hRI2 (by rw [eSl]; rfl) rfl rfl (fun k k1 k2 k3 => by simp only [upd, if_neg k1, if_neg k2, if_neg k3]; exact hvv k k1 k2 k3) (vab hbo (by omega)) (vab hbi (by omega)) (vab hba (by omega)) (by omega) (by omega) (by rw [if_pos ⟨by omega, by omega⟩] at hT; exact hT) X ls (by rw [← r2i]; exact lv_sub hl [0, 4, 1, 2, 5] rfl)
              · omega
            · refine lv_iconst (v := nI (1)) C.hx C.hb dX3_reorganise_113 (by decide) ?_
              refine lv_goto (tgt := 118) C.hx C.hb dX3_reorganise_114 (by decide) ?_
              refine n_add C dX3_reorganise_118 ?_
              refine x3p_13 C X dX3_reorganise_119 (fun H locs X => ?_)
              refine lv_aload_n C.hx C.hb dX3_reorganise_122 rfl (lv_at hl 5 rfl) ?_
              refine x3g_9 C X dX3_reorganise_123 ?_
              refine lv_aload_n C.hx C.hb dX3_reorganise_126 rfl (lv_at hl 5 rfl) ?_
              refine x3g_11 C X (x := nI (S.length + 1)) hv11 dX3_reorganise_127 ?_
              refine lv_aload_n C.hx C.hb dX3_reorganise_130 rfl (lv_at hl 5 rfl) ?_
              refine x3g_12 C X (x := nI (nx + 1)) hv12 dX3_reorganise_131 ?_
              refine x3t_4 C X (by first | omega | exact hbo _ | exact hbi _ | exact hba _ | exact hbl _) dX3_reorganise_134 (fun H locs X => ?_)
              refine lv_aload_n C.hx C.hb dX3_reorganise_135 rfl (lv_at hl 5 rfl) ?_
              refine x3g_10 C X dX3_reorganise_136 ?_
              refine lv_aload_n C.hx C.hb dX3_reorganise_139 rfl (lv_at hl 5 rfl) ?_
              refine x3g_11 C X (x := nI (S.length + 1)) hv11 dX3_reorganise_140 ?_
              refine lv_aload_n C.hx C.hb dX3_reorganise_143 rfl (lv_at hl 5 rfl) ?_
              refine x3g_13 C X (x := nI (ac + 1)) rfl dX3_reorganise_144 ?_
              refine x3t_5 C X (by first | omega | exact hbo _ | exact hbi _ | exact hba _ | exact hbl _) dX3_reorganise_147 (fun H locs X => ?_)
              refine lv_aload_n C.hx C.hb dX3_reorganise_148 rfl (lv_at hl 5 rfl) ?_
              refine lv_dup C.hx C.hb dX3_reorganise_149 rfl ?_
              refine x3g_11 C X (x := nI (S.length + 1)) hv11 dX3_reorganise_150 ?_
              refine lv_iconst (v := nI (1)) C.hx C.hb dX3_reorganise_153 (by decide) ?_
              refine n_add C dX3_reorganise_154 ?_
              refine x3p_11 C X dX3_reorganise_155 (fun H locs X => ?_)
              refine lv_aload_n C.hx C.hb dX3_reorganise_158 rfl (lv_at hl 5 rfl) ?_
              refine lv_dup C.hx C.hb dX3_reorganise_159 rfl ?_
              refine x3g_12 C X (x := nI (nx + 1)) hv12 dX3_reorganise_160 ?_
              refine lv_iconst (v := nI (1)) C.hx C.hb dX3_reorganise_163 (by decide) ?_
              refine n_add C dX3_reorganise_164 ?_
              refine x3p_12 C X dX3_reorganise_165 (fun H locs X => ?_)
              refine lv_iconst (v := nI (0)) C.hx C.hb dX3_reorganise_168 (by decide) ?_
              refine lv_istore_n (lv' := [(1, .int (nI (0))), (5, .int (nI (1))), (4, .int (nI (i))), (3, .int (nI (lw))), (2, .int (nI (held))), (0, .ref (z 0))]) C.hx C.hb dX3_reorganise_169 rfl hl (by decide) rfl (fun ls hl => ?_)
              refine lv_iconst (v := nI (0)) C.hx C.hb dX3_reorganise_170 (by decide) ?_
              refine lv_istore_n (lv' := [(2, .int (nI (0))), (1, .int (nI (0))), (5, .int (nI (1))), (4, .int (nI (i))), (3, .int (nI (lw))), (0, .ref (z 0))]) C.hx C.hb dX3_reorganise_171 rfl hl (by decide) rfl (fun ls hl => ?_)
              refine lv_iload C.hx C.hb dX3_reorganise_172 (lv_at hl 3 rfl) ?_
              refine lv_aload_n C.hx C.hb dX3_reorganise_174 rfl (lv_at hl 5 rfl) ?_
              refine x3g_8 C X (x := nI (K.length)) hs8 dX3_reorganise_175 ?_
              refine n_icmp_lt (tgt := 184) C dX3_reorganise_178 (by decide) (by first | omega | exact hbo _ | exact hbi _ | exact hba _ | exact hbl _) (by first | omega | exact hbo _ | exact hbi _ | exact hba _ | exact hbl _) (fun c178 => ?_) (fun c178 => ?_)
              · refine lv_aload_n C.hx C.hb dX3_reorganise_184 rfl (lv_at hl 5 rfl) ?_
                refine x3g_7 C X dX3_reorganise_185 ?_
                refine lv_iload C.hx C.hb dX3_reorganise_188 (lv_at hl 3 rfl) ?_
                refine lv_aload_n C.hx C.hb dX3_reorganise_190 rfl (lv_at hl 5 rfl) ?_
                refine x3g_9 C X dX3_reorganise_191 ?_
                refine lv_aload_n C.hx C.hb dX3_reorganise_194 rfl (lv_at hl 5 rfl) ?_
                refine x3g_11 C X (x := nI ((S.length + 1) + 1)) rfl dX3_reorganise_195 ?_
                refine lv_iconst (v := nI (1)) C.hx C.hb dX3_reorganise_198 (by decide) ?_
                refine n_sub C dX3_reorganise_199 (by first | omega | exact hbo _ | exact hbi _ | exact hba _ | exact hbl _) ?_
                refine x3l_4 C X (by first | omega | exact hbo _ | exact hbi _ | exact hba _ | exact hbl _) dX3_reorganise_200 ?_
                refine n_re (j := nI (nx + 1)) (by rw [show S.length + 1 + 1 - 1 = S.length + 1 from rfl]; unfold va_up; rw [if_pos rfl]) ?_
                refine x3t_3 C X (by first | omega | exact hbo _ | exact hbi _ | exact hba _ | exact hbl _) dX3_reorganise_201 (fun H locs X => ?_)
                refine lv_iload_n C.hx C.hb dX3_reorganise_202 rfl (lv_at hl 1 rfl) ?_
                refine lv_aload_n C.hx C.hb dX3_reorganise_203 rfl (lv_at hl 5 rfl) ?_
                refine x3g_6 C X dX3_reorganise_204 ?_
                refine lv_iload C.hx C.hb dX3_reorganise_207 (lv_at hl 3 rfl) ?_
                refine x3l_2 C X (by first | omega | exact hbo _ | exact hbi _ | exact hba _ | exact hbl _) dX3_reorganise_209 ?_
                refine n_add C dX3_reorganise_210 ?_
                refine lv_istore_n (lv' := [(1, .int (nI (0 + (gl i)))), (2, .int (nI (0))), (5, .int (nI (1))), (4, .int (nI (i))), (3, .int (nI (lw))), (0, .ref (z 0))]) C.hx C.hb dX3_reorganise_211 rfl hl (by decide) rfl (fun ls hl => ?_)
                refine lv_iinc (v := nI (0 + 1)) (lv' := [(2, .int (nI (0 + 1))), (1, .int (nI (0 + (gl i)))), (5, .int (nI (1))), (4, .int (nI (i))), (3, .int (nI (lw))), (0, .ref (z 0))]) C.hx C.hb dX3_reorganise_212 hl (k := 1) rfl (nI_1 _) (by decide) rfl (fun ls hl => ?_)
                refine lv_iinc (v := nI (i + 1)) (lv' := [(4, .int (nI (i + 1))), (2, .int (nI (0 + 1))), (1, .int (nI (0 + (gl i)))), (5, .int (nI (1))), (3, .int (nI (lw))), (0, .ref (z 0))]) C.hx C.hb dX3_reorganise_215 hl (k := 3) rfl (nI_1 _) (by decide) rfl (fun ls hl => ?_)
                refine lv_goto (tgt := 44) C.hx C.hb dX3_reorganise_218 (by decide) ?_
                obtain ⟨A2, hRI2⟩ := hRI.fresh hlw (by omega) (by omega)
                rw [if_pos c110] at hRI2
                exact ih (i + 1) (0 + 1) (0 + L.getD i 0) (nx + 1) (ac + 1) _ _ _ A2 (upd (upd (upd v 13 (nI (ac + 1))) 11 (nI ((S.length + 1) + 1))) 12 (nI ((nx + 1) + 1))) _ _ _ H locs (by omega) (by omega) hRI2 (by rw [eSl]; rfl) rfl rfl (fun k k1 k2 k3 => by simp only [upd, if_neg k1, if_neg k2, if_neg k3]; exact hvv k k1 k2 k3) (vab hbo (by omega)) (vab hbi (by omega)) (vab hba (by omega)) (by omega) (by omega) (by rw [if_pos ⟨by omega, by omega⟩] at hT; exact hT) X ls (by rw [← r2i]; exact lv_sub hl [0, 4, 1, 2, 5] rfl)
              · omega
    · omega
set_option maxHeartbeats 4000000 in
set_option maxRecDepth 100000 in
/-- the reference: reorganise -/
theorem c3_reorganise_c {l : Launch} {E : Gq} {z : Nat → Nat} {v : Nat → Int32} {fk : Nat → Int64} {gl go gi ga : Nat → Nat} {gs : Nat → Int32} (d17 : v 17 = nI 1) : M3w l E yX3_reorganise cX3_reorganise 6 (some .int) 0 [.ref (z 0)] z v fk gl go gi ga gs (fun r v' fk' gl' go' gi' ga' gs' => some (.int (-5)) = r ∧ upd v 0 (nI 0) = v' ∧ fk = fk' ∧ gl = gl' ∧ go = go' ∧ gi = gi' ∧ ga = ga' ∧ gs = gs') := by
  refine mk_w (by decide) (Nat.le_of_ble_eq_true rfl) ?_
  intro p e s m below meth c ls C Wd hl
  have X : X3w E _ z v fk gl go gi ga gs s s.heap [] := Wd
  have hl : lv_has ls 6 [(0, .ref (z 0))] := hl
  refine lv_aload_n C.hx C.hb dX3_reorganise_0 rfl (lv_at hl 0 rfl) ?_
  refine lv_iconst (v := nI (0)) C.hx C.hb dX3_reorganise_1 (by decide) ?_
  refine x3p_0 C X dX3_reorganise_2 (fun H locs X => ?_)
  refine lv_aload_n C.hx C.hb dX3_reorganise_5 rfl (lv_at hl 0 rfl) ?_
  refine x3g_17 C X (x := nI (1)) d17 dX3_reorganise_6 ?_
  refine n_if_eq (tgt := 15) C dX3_reorganise_9 (by decide) (by decide) (fun h => absurd h (by decide)) (fun _ => ?_)
  refine lv_bipush (v := (-5)) C.hx C.hb dX3_reorganise_12 (by decide) ?_
  exact ret3_i C X (⟨rfl, rfl, rfl, rfl, rfl, rfl, rfl, rfl⟩) dX3_reorganise_14
set_option maxHeartbeats 4000000 in
set_option maxRecDepth 100000 in
/-- the reference: reorganise -/
theorem c3_reorganise_g {l : Launch} {E : Gq} {z : Nat → Nat} {v : Nat → Int32} {fk : Nat → Int64} {gl go gi ga : Nat → Nat} {gs : Nat → Int32} {rm wd lr lw lq B nx ac : Nat} {K : List Int64} {L N S P A : List Nat} (hlw : lw = max 1 lq) (hlw2 : lw ≤ wd) (hwd : wd ≤ 20) (hlr : lr ≤ rm) (hrm : rm ≤ 1000) (hB : B < 2 ^ 30) (hC : Core rm wd nx ac K L N S P A fk gl go gi ga) (hk : K.length ≤ 600) (d3 : v 3 = nI lr) (d4 : v 4 = nI lq) (d8 : v 8 = nI K.length) (d12 : v 12 = nI nx) (d13 : v 13 = nI ac) (d17 : v 17 = nI 0) (hnx : nx + 602 ≤ B) (hac : ac + 602 ≤ B) : M3w l E yX3_reorganise cX3_reorganise 6 (some .int) 0 [.ref (z 0)] z v fk gl go gi ga gs (fun r v' fk' gl' go' gi' ga' gs' => ∃ (h nx1 ac1 : Nat) (N1 S1 P1 A1 : List Nat), rgl L lr lw L.length 0 0 0 nx [] [] [] = (h, nx1, N1, S1, P1) ∧ some (.int (nI (ins S1 S1.length h).length)) = r ∧ Core rm wd (nx1 + 1) ac1 K L (ins N1 N1.length nx1) (ins S1 S1.length h) (lay P1 lw) A1 fk' gl' go' gi' ga' ∧ v' 11 = nI (ins S1 S1.length h).length ∧ v' 12 = nI (nx1 + 1) ∧ v' 13 = nI ac1 ∧ (∀ k, k ≠ 11 → k ≠ 12 → k ≠ 13 → v' k = upd v 0 (nI 0) k) ∧ gs = gs' ∧ nx1 + 1 ≤ B ∧ ac1 ≤ B) := by
  refine mk_w (by decide) (Nat.le_of_ble_eq_true rfl) ?_
  intro p e s m below meth c ls C Wd hl
  have X : X3w E _ z v fk gl go gi ga gs s s.heap [] := Wd
  have hl : lv_has ls 6 [(0, .ref (z 0))] := hl
  obtain ⟨⟨r1, r2, -⟩, hJ, hso, -, c3, -, -, -, hbl, hbo, hbi, hba⟩ := id hC
  obtain ⟨j1, -⟩ := id hJ
  rcases Nat.eq_zero_or_pos K.length with h0 | h0
  · have eK : K = [] := List.length_eq_zero_iff.mp h0
    have eL : L = [] := List.length_eq_zero_iff.mp (by omega)
    refine lv_aload_n C.hx C.hb dX3_reorganise_0 rfl (lv_at hl 0 rfl) ?_
    refine lv_iconst (v := nI (0)) C.hx C.hb dX3_reorganise_1 (by decide) ?_
    refine x3p_0 C X dX3_reorganise_2 (fun H locs X => ?_)
    refine lv_aload_n C.hx C.hb dX3_reorganise_5 rfl (lv_at hl 0 rfl) ?_
    refine x3g_17 C X (x := nI (0)) d17 dX3_reorganise_6 ?_
    refine n_if_eq (tgt := 15) C dX3_reorganise_9 (by decide) (by decide) (fun _ => ?_) (fun h => absurd h (by decide))
    refine lv_aload_n C.hx C.hb dX3_reorganise_15 rfl (lv_at hl 0 rfl) ?_
    refine lv_iconst (v := nI (0)) C.hx C.hb dX3_reorganise_16 (by decide) ?_
    refine x3p_11 C X dX3_reorganise_17 (fun H locs X => ?_)
    refine lv_iconst (v := nI (0)) C.hx C.hb dX3_reorganise_20 (by decide) ?_
    refine lv_istore_n (lv' := [(1, .int (nI (0))), (0, .ref (z 0))]) C.hx C.hb dX3_reorganise_21 rfl hl (by decide) rfl (fun ls hl => ?_)
    refine lv_iconst (v := nI (0)) C.hx C.hb dX3_reorganise_22 (by decide) ?_
    refine lv_istore_n (lv' := [(2, .int (nI (0))), (1, .int (nI (0))), (0, .ref (z 0))]) C.hx C.hb dX3_reorganise_23 rfl hl (by decide) rfl (fun ls hl => ?_)
    refine lv_aload_n C.hx C.hb dX3_reorganise_24 rfl (lv_at hl 2 rfl) ?_
    refine x3g_4 C X (x := nI (lq)) d4 dX3_reorganise_25 ?_
    refine lv_iconst (v := nI (1)) C.hx C.hb dX3_reorganise_28 (by decide) ?_
    refine n_icmp_ge (tgt := 36) C dX3_reorganise_29 (by decide) (by first | omega | exact hbo _ | exact hbi _ | exact hba _ | exact hbl _) (by first | omega | exact hbo _ | exact hbi _ | exact hba _ | exact hbl _) (fun c29 => ?_) (fun c29 => ?_)
    · refine lv_aload_n C.hx C.hb dX3_reorganise_36 rfl (lv_at hl 2 rfl) ?_
      refine x3g_4 C X (x := nI (lq)) d4 dX3_reorganise_37 ?_
      refine lv_istore_n (lv' := [(3, .int (nI (lq))), (2, .int (nI (0))), (1, .int (nI (0))), (0, .ref (z 0))]) C.hx C.hb dX3_reorganise_40 rfl hl (by decide) rfl (fun ls hl => ?_)
      refine lv_iconst (v := nI (0)) C.hx C.hb dX3_reorganise_41 (by decide) ?_
      refine lv_istore (lv' := [(4, .int (nI (0))), (3, .int (nI (lq))), (2, .int (nI (0))), (1, .int (nI (0))), (0, .ref (z 0))]) C.hx C.hb dX3_reorganise_42 hl (by decide) rfl (fun ls hl => ?_)
      refine lv_iload C.hx C.hb dX3_reorganise_44 (lv_at hl 0 rfl) ?_
      refine lv_aload_n C.hx C.hb dX3_reorganise_46 rfl (lv_at hl 4 rfl) ?_
      refine x3g_8 C X (x := nI (K.length)) d8 dX3_reorganise_47 ?_
      refine n_icmp_lt (tgt := 60) C dX3_reorganise_50 (by decide) (by first | omega | exact hbo _ | exact hbi _ | exact hba _ | exact hbl _) (by first | omega | exact hbo _ | exact hbi _ | exact hba _ | exact hbl _) (fun c50 => ?_) (fun c50 => ?_)
      · omega
      · refine lv_aload_n C.hx C.hb dX3_reorganise_53 rfl (lv_at hl 4 rfl) ?_
        refine x3g_11 C X (x := nI (0)) rfl dX3_reorganise_54 ?_
        refine n_if_ne (tgt := 221) C dX3_reorganise_57 (by decide) (by decide) (fun h => absurd h (by decide)) (fun _ => ?_)
        refine lv_aload_n C.hx C.hb dX3_reorganise_60 rfl (lv_at hl 4 rfl) ?_
        refine x3g_11 C X (x := nI (0)) rfl dX3_reorganise_61 ?_
        refine n_if_eq (tgt := 87) C dX3_reorganise_64 (by decide) (by decide) (fun _ => ?_) (fun h => absurd h (by decide))
        refine lv_iconst (v := nI (1)) C.hx C.hb dX3_reorganise_87 (by decide) ?_
        refine lv_goto (tgt := 92) C.hx C.hb dX3_reorganise_88 (by decide) ?_
        refine lv_istore (lv' := [(5, .int (nI (1))), (4, .int (nI (0))), (3, .int (nI (lq))), (2, .int (nI (0))), (1, .int (nI (0))), (0, .ref (z 0))]) C.hx C.hb dX3_reorganise_92 hl (by decide) rfl (fun ls hl => ?_)
        refine lv_iload C.hx C.hb dX3_reorganise_94 (lv_at hl 0 rfl) ?_
        refine n_if_eq (tgt := 172) C dX3_reorganise_96 (by decide) (by decide) (fun h => absurd h (by decide)) (fun _ => ?_)
        refine lv_aload_n C.hx C.hb dX3_reorganise_99 rfl (lv_at hl 5 rfl) ?_
        refine lv_dup C.hx C.hb dX3_reorganise_100 rfl ?_
        refine x3g_13 C X (x := nI (ac)) d13 dX3_reorganise_101 ?_
        refine lv_aload_n C.hx C.hb dX3_reorganise_104 rfl (lv_at hl 5 rfl) ?_
        refine x3g_11 C X (x := nI (0)) rfl dX3_reorganise_105 ?_
        refine lv_iload_n C.hx C.hb dX3_reorganise_108 rfl (lv_at hl 2 rfl) ?_
        refine n_rem C dX3_reorganise_109 (by first | omega | exact hbo _ | exact hbi _ | exact hba _ | exact hbl _) (by first | omega | exact hbo _ | exact hbi _ | exact hba _ | exact hbl _) (by first | omega | exact hbo _ | exact hbi _ | exact hba _ | exact hbl _) ?_
        refine n_re (j := nI 0) (by rw [Nat.zero_mod]) ?_
        refine n_if_ne (tgt := 117) C dX3_reorganise_110 (by decide) (by decide) (fun h => absurd h (by decide)) (fun _ => ?_)
        refine lv_iconst (v := nI (1)) C.hx C.hb dX3_reorganise_113 (by decide) ?_
        refine lv_goto (tgt := 118) C.hx C.hb dX3_reorganise_114 (by decide) ?_
        refine n_add C dX3_reorganise_118 ?_
        refine x3p_13 C X dX3_reorganise_119 (fun H locs X => ?_)
        refine lv_aload_n C.hx C.hb dX3_reorganise_122 rfl (lv_at hl 5 rfl) ?_
        refine x3g_9 C X dX3_reorganise_123 ?_
        refine lv_aload_n C.hx C.hb dX3_reorganise_126 rfl (lv_at hl 5 rfl) ?_
        refine x3g_11 C X (x := nI (0)) rfl dX3_reorganise_127 ?_
        refine lv_aload_n C.hx C.hb dX3_reorganise_130 rfl (lv_at hl 5 rfl) ?_
        refine x3g_12 C X (x := nI (nx)) d12 dX3_reorganise_131 ?_
        refine x3t_4 C X (by first | omega | exact hbo _ | exact hbi _ | exact hba _ | exact hbl _) dX3_reorganise_134 (fun H locs X => ?_)
        refine lv_aload_n C.hx C.hb dX3_reorganise_135 rfl (lv_at hl 5 rfl) ?_
        refine x3g_10 C X dX3_reorganise_136 ?_
        refine lv_aload_n C.hx C.hb dX3_reorganise_139 rfl (lv_at hl 5 rfl) ?_
        refine x3g_11 C X (x := nI (0)) rfl dX3_reorganise_140 ?_
        refine lv_aload_n C.hx C.hb dX3_reorganise_143 rfl (lv_at hl 5 rfl) ?_
        refine x3g_13 C X (x := nI (ac + 1)) rfl dX3_reorganise_144 ?_
        refine x3t_5 C X (by first | omega | exact hbo _ | exact hbi _ | exact hba _ | exact hbl _) dX3_reorganise_147 (fun H locs X => ?_)
        refine lv_aload_n C.hx C.hb dX3_reorganise_148 rfl (lv_at hl 5 rfl) ?_
        refine lv_dup C.hx C.hb dX3_reorganise_149 rfl ?_
        refine x3g_11 C X (x := nI (0)) rfl dX3_reorganise_150 ?_
        refine lv_iconst (v := nI (1)) C.hx C.hb dX3_reorganise_153 (by decide) ?_
        refine n_add C dX3_reorganise_154 ?_
        refine x3p_11 C X dX3_reorganise_155 (fun H locs X => ?_)
        refine lv_aload_n C.hx C.hb dX3_reorganise_158 rfl (lv_at hl 5 rfl) ?_
        refine lv_dup C.hx C.hb dX3_reorganise_159 rfl ?_
        refine x3g_12 C X (x := nI (nx)) d12 dX3_reorganise_160 ?_
        refine lv_iconst (v := nI (1)) C.hx C.hb dX3_reorganise_163 (by decide) ?_
        refine n_add C dX3_reorganise_164 ?_
        refine x3p_12 C X dX3_reorganise_165 (fun H locs X => ?_)
        refine lv_iconst (v := nI (0)) C.hx C.hb dX3_reorganise_168 (by decide) ?_
        refine lv_istore_n (lv' := [(1, .int (nI (0))), (5, .int (nI (1))), (4, .int (nI (0))), (3, .int (nI (lq))), (2, .int (nI (0))), (0, .ref (z 0))]) C.hx C.hb dX3_reorganise_169 rfl hl (by decide) rfl (fun ls hl => ?_)
        refine lv_iconst (v := nI (0)) C.hx C.hb dX3_reorganise_170 (by decide) ?_
        refine lv_istore_n (lv' := [(2, .int (nI (0))), (1, .int (nI (0))), (5, .int (nI (1))), (4, .int (nI (0))), (3, .int (nI (lq))), (0, .ref (z 0))]) C.hx C.hb dX3_reorganise_171 rfl hl (by decide) rfl (fun ls hl => ?_)
        refine lv_iload C.hx C.hb dX3_reorganise_172 (lv_at hl 3 rfl) ?_
        refine lv_aload_n C.hx C.hb dX3_reorganise_174 rfl (lv_at hl 5 rfl) ?_
        refine x3g_8 C X (x := nI (K.length)) d8 dX3_reorganise_175 ?_
        refine n_icmp_lt (tgt := 184) C dX3_reorganise_178 (by decide) (by first | omega | exact hbo _ | exact hbi _ | exact hba _ | exact hbl _) (by first | omega | exact hbo _ | exact hbi _ | exact hba _ | exact hbl _) (fun c178 => ?_) (fun c178 => ?_)
        · omega
        · refine lv_goto (tgt := 215) C.hx C.hb dX3_reorganise_181 (by decide) ?_
          refine lv_iinc (v := nI (0 + 1)) (lv' := [(4, .int (nI (0 + 1))), (2, .int (nI (0))), (1, .int (nI (0))), (5, .int (nI (1))), (3, .int (nI (lq))), (0, .ref (z 0))]) C.hx C.hb dX3_reorganise_215 hl (k := 3) rfl (nI_1 _) (by decide) rfl (fun ls hl => ?_)
          refine lv_goto (tgt := 44) C.hx C.hb dX3_reorganise_218 (by decide) ?_
          refine lv_iload C.hx C.hb dX3_reorganise_44 (lv_at hl 0 rfl) ?_
          refine lv_aload_n C.hx C.hb dX3_reorganise_46 rfl (lv_at hl 5 rfl) ?_
          refine x3g_8 C X (x := nI (K.length)) d8 dX3_reorganise_47 ?_
          refine n_icmp_lt (tgt := 60) C dX3_reorganise_50 (by decide) (by first | omega | exact hbo _ | exact hbi _ | exact hba _ | exact hbl _) (by first | omega | exact hbo _ | exact hbi _ | exact hba _ | exact hbl _) (fun c50 => ?_) (fun c50 => ?_)
          · omega
          · refine lv_aload_n C.hx C.hb dX3_reorganise_53 rfl (lv_at hl 5 rfl) ?_
            refine x3g_11 C X (x := nI (0 + 1)) rfl dX3_reorganise_54 ?_
            refine n_if_ne (tgt := 221) C dX3_reorganise_57 (by decide) (by first | omega | exact hbo _ | exact hbi _ | exact hba _ | exact hbl _) (fun c57 => ?_) (fun c57 => ?_)
            · refine lv_aload_n C.hx C.hb dX3_reorganise_221 rfl (lv_at hl 5 rfl) ?_
              refine x3g_11 C X (x := nI (0 + 1)) rfl dX3_reorganise_222 ?_
              exact ret3_i C X (by subst eK; subst eL; exact ⟨0, nx, ac + 1, [], [], [], [ac + 1], rfl, rfl, Core.none (by omega) hlw2 (by omega) (by omega) hbl hbo hbi hba, rfl, rfl, rfl, fun k k1 k2 k3 => by simp [upd, k1, k2, k3], rfl, by omega, by omega⟩) dX3_reorganise_225
            · omega
    · refine lv_iconst (v := nI (1)) C.hx C.hb dX3_reorganise_32 (by decide) ?_
      refine lv_goto (tgt := 40) C.hx C.hb dX3_reorganise_33 (by decide) ?_
      refine lv_istore_n (lv' := [(3, .int (nI (1))), (2, .int (nI (0))), (1, .int (nI (0))), (0, .ref (z 0))]) C.hx C.hb dX3_reorganise_40 rfl hl (by decide) rfl (fun ls hl => ?_)
      refine lv_iconst (v := nI (0)) C.hx C.hb dX3_reorganise_41 (by decide) ?_
      refine lv_istore (lv' := [(4, .int (nI (0))), (3, .int (nI (1))), (2, .int (nI (0))), (1, .int (nI (0))), (0, .ref (z 0))]) C.hx C.hb dX3_reorganise_42 hl (by decide) rfl (fun ls hl => ?_)
      refine lv_iload C.hx C.hb dX3_reorganise_44 (lv_at hl 0 rfl) ?_
      refine lv_aload_n C.hx C.hb dX3_reorganise_46 rfl (lv_at hl 4 rfl) ?_
      refine x3g_8 C X (x := nI (K.length)) d8 dX3_reorganise_47 ?_
      refine n_icmp_lt (tgt := 60) C dX3_reorganise_50 (by decide) (by first | omega | exact hbo _ | exact hbi _ | exact hba _ | exact hbl _) (by first | omega | exact hbo _ | exact hbi _ | exact hba _ | exact hbl _) (fun c50 => ?_) (fun c50 => ?_)
      · omega
      · refine lv_aload_n C.hx C.hb dX3_reorganise_53 rfl (lv_at hl 4 rfl) ?_
        refine x3g_11 C X (x := nI (0)) rfl dX3_reorganise_54 ?_
        refine n_if_ne (tgt := 221) C dX3_reorganise_57 (by decide) (by decide) (fun h => absurd h (by decide)) (fun _ => ?_)
        refine lv_aload_n C.hx C.hb dX3_reorganise_60 rfl (lv_at hl 4 rfl) ?_
        refine x3g_11 C X (x := nI (0)) rfl dX3_reorganise_61 ?_
        refine n_if_eq (tgt := 87) C dX3_reorganise_64 (by decide) (by decide) (fun _ => ?_) (fun h => absurd h (by decide))
        refine lv_iconst (v := nI (1)) C.hx C.hb dX3_reorganise_87 (by decide) ?_
        refine lv_goto (tgt := 92) C.hx C.hb dX3_reorganise_88 (by decide) ?_
        refine lv_istore (lv' := [(5, .int (nI (1))), (4, .int (nI (0))), (3, .int (nI (1))), (2, .int (nI (0))), (1, .int (nI (0))), (0, .ref (z 0))]) C.hx C.hb dX3_reorganise_92 hl (by decide) rfl (fun ls hl => ?_)
        refine lv_iload C.hx C.hb dX3_reorganise_94 (lv_at hl 0 rfl) ?_
        refine n_if_eq (tgt := 172) C dX3_reorganise_96 (by decide) (by decide) (fun h => absurd h (by decide)) (fun _ => ?_)
        refine lv_aload_n C.hx C.hb dX3_reorganise_99 rfl (lv_at hl 5 rfl) ?_
        refine lv_dup C.hx C.hb dX3_reorganise_100 rfl ?_
        refine x3g_13 C X (x := nI (ac)) d13 dX3_reorganise_101 ?_
        refine lv_aload_n C.hx C.hb dX3_reorganise_104 rfl (lv_at hl 5 rfl) ?_
        refine x3g_11 C X (x := nI (0)) rfl dX3_reorganise_105 ?_
        refine lv_iload_n C.hx C.hb dX3_reorganise_108 rfl (lv_at hl 2 rfl) ?_
        refine n_rem C dX3_reorganise_109 (by first | omega | exact hbo _ | exact hbi _ | exact hba _ | exact hbl _) (by first | omega | exact hbo _ | exact hbi _ | exact hba _ | exact hbl _) (by first | omega | exact hbo _ | exact hbi _ | exact hba _ | exact hbl _) ?_
        refine n_re (j := nI 0) (by rw [Nat.zero_mod]) ?_
        refine n_if_ne (tgt := 117) C dX3_reorganise_110 (by decide) (by decide) (fun h => absurd h (by decide)) (fun _ => ?_)
        refine lv_iconst (v := nI (1)) C.hx C.hb dX3_reorganise_113 (by decide) ?_
        refine lv_goto (tgt := 118) C.hx C.hb dX3_reorganise_114 (by decide) ?_
        refine n_add C dX3_reorganise_118 ?_
        refine x3p_13 C X dX3_reorganise_119 (fun H locs X => ?_)
        refine lv_aload_n C.hx C.hb dX3_reorganise_122 rfl (lv_at hl 5 rfl) ?_
        refine x3g_9 C X dX3_reorganise_123 ?_
        refine lv_aload_n C.hx C.hb dX3_reorganise_126 rfl (lv_at hl 5 rfl) ?_
        refine x3g_11 C X (x := nI (0)) rfl dX3_reorganise_127 ?_
        refine lv_aload_n C.hx C.hb dX3_reorganise_130 rfl (lv_at hl 5 rfl) ?_
        refine x3g_12 C X (x := nI (nx)) d12 dX3_reorganise_131 ?_
        refine x3t_4 C X (by first | omega | exact hbo _ | exact hbi _ | exact hba _ | exact hbl _) dX3_reorganise_134 (fun H locs X => ?_)
        refine lv_aload_n C.hx C.hb dX3_reorganise_135 rfl (lv_at hl 5 rfl) ?_
        refine x3g_10 C X dX3_reorganise_136 ?_
        refine lv_aload_n C.hx C.hb dX3_reorganise_139 rfl (lv_at hl 5 rfl) ?_
        refine x3g_11 C X (x := nI (0)) rfl dX3_reorganise_140 ?_
        refine lv_aload_n C.hx C.hb dX3_reorganise_143 rfl (lv_at hl 5 rfl) ?_
        refine x3g_13 C X (x := nI (ac + 1)) rfl dX3_reorganise_144 ?_
        refine x3t_5 C X (by first | omega | exact hbo _ | exact hbi _ | exact hba _ | exact hbl _) dX3_reorganise_147 (fun H locs X => ?_)
        refine lv_aload_n C.hx C.hb dX3_reorganise_148 rfl (lv_at hl 5 rfl) ?_
        refine lv_dup C.hx C.hb dX3_reorganise_149 rfl ?_
        refine x3g_11 C X (x := nI (0)) rfl dX3_reorganise_150 ?_
        refine lv_iconst (v := nI (1)) C.hx C.hb dX3_reorganise_153 (by decide) ?_
        refine n_add C dX3_reorganise_154 ?_
        refine x3p_11 C X dX3_reorganise_155 (fun H locs X => ?_)
        refine lv_aload_n C.hx C.hb dX3_reorganise_158 rfl (lv_at hl 5 rfl) ?_
        refine lv_dup C.hx C.hb dX3_reorganise_159 rfl ?_
        refine x3g_12 C X (x := nI (nx)) d12 dX3_reorganise_160 ?_
        refine lv_iconst (v := nI (1)) C.hx C.hb dX3_reorganise_163 (by decide) ?_
        refine n_add C dX3_reorganise_164 ?_
        refine x3p_12 C X dX3_reorganise_165 (fun H locs X => ?_)
        refine lv_iconst (v := nI (0)) C.hx C.hb dX3_reorganise_168 (by decide) ?_
        refine lv_istore_n (lv' := [(1, .int (nI (0))), (5, .int (nI (1))), (4, .int (nI (0))), (3, .int (nI (1))), (2, .int (nI (0))), (0, .ref (z 0))]) C.hx C.hb dX3_reorganise_169 rfl hl (by decide) rfl (fun ls hl => ?_)
        refine lv_iconst (v := nI (0)) C.hx C.hb dX3_reorganise_170 (by decide) ?_
        refine lv_istore_n (lv' := [(2, .int (nI (0))), (1, .int (nI (0))), (5, .int (nI (1))), (4, .int (nI (0))), (3, .int (nI (1))), (0, .ref (z 0))]) C.hx C.hb dX3_reorganise_171 rfl hl (by decide) rfl (fun ls hl => ?_)
        refine lv_iload C.hx C.hb dX3_reorganise_172 (lv_at hl 3 rfl) ?_
        refine lv_aload_n C.hx C.hb dX3_reorganise_174 rfl (lv_at hl 5 rfl) ?_
        refine x3g_8 C X (x := nI (K.length)) d8 dX3_reorganise_175 ?_
        refine n_icmp_lt (tgt := 184) C dX3_reorganise_178 (by decide) (by first | omega | exact hbo _ | exact hbi _ | exact hba _ | exact hbl _) (by first | omega | exact hbo _ | exact hbi _ | exact hba _ | exact hbl _) (fun c178 => ?_) (fun c178 => ?_)
        · omega
        · refine lv_goto (tgt := 215) C.hx C.hb dX3_reorganise_181 (by decide) ?_
          refine lv_iinc (v := nI (0 + 1)) (lv' := [(4, .int (nI (0 + 1))), (2, .int (nI (0))), (1, .int (nI (0))), (5, .int (nI (1))), (3, .int (nI (1))), (0, .ref (z 0))]) C.hx C.hb dX3_reorganise_215 hl (k := 3) rfl (nI_1 _) (by decide) rfl (fun ls hl => ?_)
          refine lv_goto (tgt := 44) C.hx C.hb dX3_reorganise_218 (by decide) ?_
          refine lv_iload C.hx C.hb dX3_reorganise_44 (lv_at hl 0 rfl) ?_
          refine lv_aload_n C.hx C.hb dX3_reorganise_46 rfl (lv_at hl 5 rfl) ?_
          refine x3g_8 C X (x := nI (K.length)) d8 dX3_reorganise_47 ?_
          refine n_icmp_lt (tgt := 60) C dX3_reorganise_50 (by decide) (by first | omega | exact hbo _ | exact hbi _ | exact hba _ | exact hbl _) (by first | omega | exact hbo _ | exact hbi _ | exact hba _ | exact hbl _) (fun c50 => ?_) (fun c50 => ?_)
          · omega
          · refine lv_aload_n C.hx C.hb dX3_reorganise_53 rfl (lv_at hl 5 rfl) ?_
            refine x3g_11 C X (x := nI (0 + 1)) rfl dX3_reorganise_54 ?_
            refine n_if_ne (tgt := 221) C dX3_reorganise_57 (by decide) (by first | omega | exact hbo _ | exact hbi _ | exact hba _ | exact hbl _) (fun c57 => ?_) (fun c57 => ?_)
            · refine lv_aload_n C.hx C.hb dX3_reorganise_221 rfl (lv_at hl 5 rfl) ?_
              refine x3g_11 C X (x := nI (0 + 1)) rfl dX3_reorganise_222 ?_
              exact ret3_i C X (by subst eK; subst eL; exact ⟨0, nx, ac + 1, [], [], [], [ac + 1], rfl, rfl, Core.none (by omega) hlw2 (by omega) (by omega) hbl hbo hbi hba, rfl, rfl, rfl, fun k k1 k2 k3 => by simp [upd, k1, k2, k3], rfl, by omega, by omega⟩) dX3_reorganise_225
            · omega
  · have hLi := c3 _ (getD_mem (show 0 < L.length by omega))
    have r20 := r2 0 h0
    obtain ⟨n0, hn0⟩ : ∃ n0, L.length = n0 + 1 := ⟨L.length - 1, by omega⟩
    refine lv_aload_n C.hx C.hb dX3_reorganise_0 rfl (lv_at hl 0 rfl) ?_
    refine lv_iconst (v := nI (0)) C.hx C.hb dX3_reorganise_1 (by decide) ?_
    refine x3p_0 C X dX3_reorganise_2 (fun H locs X => ?_)
    refine lv_aload_n C.hx C.hb dX3_reorganise_5 rfl (lv_at hl 0 rfl) ?_
    refine x3g_17 C X (x := nI (0)) d17 dX3_reorganise_6 ?_
    refine n_if_eq (tgt := 15) C dX3_reorganise_9 (by decide) (by decide) (fun _ => ?_) (fun h => absurd h (by decide))
    refine lv_aload_n C.hx C.hb dX3_reorganise_15 rfl (lv_at hl 0 rfl) ?_
    refine lv_iconst (v := nI (0)) C.hx C.hb dX3_reorganise_16 (by decide) ?_
    refine x3p_11 C X dX3_reorganise_17 (fun H locs X => ?_)
    refine lv_iconst (v := nI (0)) C.hx C.hb dX3_reorganise_20 (by decide) ?_
    refine lv_istore_n (lv' := [(1, .int (nI (0))), (0, .ref (z 0))]) C.hx C.hb dX3_reorganise_21 rfl hl (by decide) rfl (fun ls hl => ?_)
    refine lv_iconst (v := nI (0)) C.hx C.hb dX3_reorganise_22 (by decide) ?_
    refine lv_istore_n (lv' := [(2, .int (nI (0))), (1, .int (nI (0))), (0, .ref (z 0))]) C.hx C.hb dX3_reorganise_23 rfl hl (by decide) rfl (fun ls hl => ?_)
    refine lv_aload_n C.hx C.hb dX3_reorganise_24 rfl (lv_at hl 2 rfl) ?_
    refine x3g_4 C X (x := nI (lq)) d4 dX3_reorganise_25 ?_
    refine lv_iconst (v := nI (1)) C.hx C.hb dX3_reorganise_28 (by decide) ?_
    refine n_icmp_ge (tgt := 36) C dX3_reorganise_29 (by decide) (by first | omega | exact hbo _ | exact hbi _ | exact hba _ | exact hbl _) (by first | omega | exact hbo _ | exact hbi _ | exact hba _ | exact hbl _) (fun c29 => ?_) (fun c29 => ?_)
    · refine lv_aload_n C.hx C.hb dX3_reorganise_36 rfl (lv_at hl 2 rfl) ?_
      refine x3g_4 C X (x := nI (lq)) d4 dX3_reorganise_37 ?_
      refine lv_istore_n (lv' := [(3, .int (nI (lq))), (2, .int (nI (0))), (1, .int (nI (0))), (0, .ref (z 0))]) C.hx C.hb dX3_reorganise_40 rfl hl (by decide) rfl (fun ls hl => ?_)
      refine lv_iconst (v := nI (0)) C.hx C.hb dX3_reorganise_41 (by decide) ?_
      refine lv_istore (lv' := [(4, .int (nI (0))), (3, .int (nI (lq))), (2, .int (nI (0))), (1, .int (nI (0))), (0, .ref (z 0))]) C.hx C.hb dX3_reorganise_42 hl (by decide) rfl (fun ls hl => ?_)
      refine lv_iload C.hx C.hb dX3_reorganise_44 (lv_at hl 0 rfl) ?_
      refine lv_aload_n C.hx C.hb dX3_reorganise_46 rfl (lv_at hl 4 rfl) ?_
      refine x3g_8 C X (x := nI (K.length)) d8 dX3_reorganise_47 ?_
      refine n_icmp_lt (tgt := 60) C dX3_reorganise_50 (by decide) (by first | omega | exact hbo _ | exact hbi _ | exact hba _ | exact hbl _) (by first | omega | exact hbo _ | exact hbi _ | exact hba _ | exact hbl _) (fun c50 => ?_) (fun c50 => ?_)
      · refine lv_aload_n C.hx C.hb dX3_reorganise_60 rfl (lv_at hl 4 rfl) ?_
        refine x3g_11 C X (x := nI (0)) rfl dX3_reorganise_61 ?_
        refine n_if_eq (tgt := 87) C dX3_reorganise_64 (by decide) (by decide) (fun _ => ?_) (fun h => absurd h (by decide))
        refine lv_iconst (v := nI (1)) C.hx C.hb dX3_reorganise_87 (by decide) ?_
        refine lv_goto (tgt := 92) C.hx C.hb dX3_reorganise_88 (by decide) ?_
        refine lv_istore (lv' := [(5, .int (nI (1))), (4, .int (nI (0))), (3, .int (nI (lq))), (2, .int (nI (0))), (1, .int (nI (0))), (0, .ref (z 0))]) C.hx C.hb dX3_reorganise_92 hl (by decide) rfl (fun ls hl => ?_)
        refine lv_iload C.hx C.hb dX3_reorganise_94 (lv_at hl 0 rfl) ?_
        refine n_if_eq (tgt := 172) C dX3_reorganise_96 (by decide) (by decide) (fun h => absurd h (by decide)) (fun _ => ?_)
        refine lv_aload_n C.hx C.hb dX3_reorganise_99 rfl (lv_at hl 5 rfl) ?_
        refine lv_dup C.hx C.hb dX3_reorganise_100 rfl ?_
        refine x3g_13 C X (x := nI (ac)) d13 dX3_reorganise_101 ?_
        refine lv_aload_n C.hx C.hb dX3_reorganise_104 rfl (lv_at hl 5 rfl) ?_
        refine x3g_11 C X (x := nI (0)) rfl dX3_reorganise_105 ?_
        refine lv_iload_n C.hx C.hb dX3_reorganise_108 rfl (lv_at hl 2 rfl) ?_
        refine n_rem C dX3_reorganise_109 (by first | omega | exact hbo _ | exact hbi _ | exact hba _ | exact hbl _) (by first | omega | exact hbo _ | exact hbi _ | exact hba _ | exact hbl _) (by first | omega | exact hbo _ | exact hbi _ | exact hba _ | exact hbl _) ?_
        refine n_re (j := nI 0) (by rw [Nat.zero_mod]) ?_
        refine n_if_ne (tgt := 117) C dX3_reorganise_110 (by decide) (by decide) (fun h => absurd h (by decide)) (fun _ => ?_)
        refine lv_iconst (v := nI (1)) C.hx C.hb dX3_reorganise_113 (by decide) ?_
        refine lv_goto (tgt := 118) C.hx C.hb dX3_reorganise_114 (by decide) ?_
        refine n_add C dX3_reorganise_118 ?_
        refine x3p_13 C X dX3_reorganise_119 (fun H locs X => ?_)
        refine lv_aload_n C.hx C.hb dX3_reorganise_122 rfl (lv_at hl 5 rfl) ?_
        refine x3g_9 C X dX3_reorganise_123 ?_
        refine lv_aload_n C.hx C.hb dX3_reorganise_126 rfl (lv_at hl 5 rfl) ?_
        refine x3g_11 C X (x := nI (0)) rfl dX3_reorganise_127 ?_
        refine lv_aload_n C.hx C.hb dX3_reorganise_130 rfl (lv_at hl 5 rfl) ?_
        refine x3g_12 C X (x := nI (nx)) d12 dX3_reorganise_131 ?_
        refine x3t_4 C X (by first | omega | exact hbo _ | exact hbi _ | exact hba _ | exact hbl _) dX3_reorganise_134 (fun H locs X => ?_)
        refine lv_aload_n C.hx C.hb dX3_reorganise_135 rfl (lv_at hl 5 rfl) ?_
        refine x3g_10 C X dX3_reorganise_136 ?_
        refine lv_aload_n C.hx C.hb dX3_reorganise_139 rfl (lv_at hl 5 rfl) ?_
        refine x3g_11 C X (x := nI (0)) rfl dX3_reorganise_140 ?_
        refine lv_aload_n C.hx C.hb dX3_reorganise_143 rfl (lv_at hl 5 rfl) ?_
        refine x3g_13 C X (x := nI (ac + 1)) rfl dX3_reorganise_144 ?_
        refine x3t_5 C X (by first | omega | exact hbo _ | exact hbi _ | exact hba _ | exact hbl _) dX3_reorganise_147 (fun H locs X => ?_)
        refine lv_aload_n C.hx C.hb dX3_reorganise_148 rfl (lv_at hl 5 rfl) ?_
        refine lv_dup C.hx C.hb dX3_reorganise_149 rfl ?_
        refine x3g_11 C X (x := nI (0)) rfl dX3_reorganise_150 ?_
        refine lv_iconst (v := nI (1)) C.hx C.hb dX3_reorganise_153 (by decide) ?_
        refine n_add C dX3_reorganise_154 ?_
        refine x3p_11 C X dX3_reorganise_155 (fun H locs X => ?_)
        refine lv_aload_n C.hx C.hb dX3_reorganise_158 rfl (lv_at hl 5 rfl) ?_
        refine lv_dup C.hx C.hb dX3_reorganise_159 rfl ?_
        refine x3g_12 C X (x := nI (nx)) d12 dX3_reorganise_160 ?_
        refine lv_iconst (v := nI (1)) C.hx C.hb dX3_reorganise_163 (by decide) ?_
        refine n_add C dX3_reorganise_164 ?_
        refine x3p_12 C X dX3_reorganise_165 (fun H locs X => ?_)
        refine lv_iconst (v := nI (0)) C.hx C.hb dX3_reorganise_168 (by decide) ?_
        refine lv_istore_n (lv' := [(1, .int (nI (0))), (5, .int (nI (1))), (4, .int (nI (0))), (3, .int (nI (lq))), (2, .int (nI (0))), (0, .ref (z 0))]) C.hx C.hb dX3_reorganise_169 rfl hl (by decide) rfl (fun ls hl => ?_)
        refine lv_iconst (v := nI (0)) C.hx C.hb dX3_reorganise_170 (by decide) ?_
        refine lv_istore_n (lv' := [(2, .int (nI (0))), (1, .int (nI (0))), (5, .int (nI (1))), (4, .int (nI (0))), (3, .int (nI (lq))), (0, .ref (z 0))]) C.hx C.hb dX3_reorganise_171 rfl hl (by decide) rfl (fun ls hl => ?_)
        refine lv_iload C.hx C.hb dX3_reorganise_172 (lv_at hl 3 rfl) ?_
        refine lv_aload_n C.hx C.hb dX3_reorganise_174 rfl (lv_at hl 5 rfl) ?_
        refine x3g_8 C X (x := nI (K.length)) d8 dX3_reorganise_175 ?_
        refine n_icmp_lt (tgt := 184) C dX3_reorganise_178 (by decide) (by first | omega | exact hbo _ | exact hbi _ | exact hba _ | exact hbl _) (by first | omega | exact hbo _ | exact hbi _ | exact hba _ | exact hbl _) (fun c178 => ?_) (fun c178 => ?_)
        · refine lv_aload_n C.hx C.hb dX3_reorganise_184 rfl (lv_at hl 5 rfl) ?_
          refine x3g_7 C X dX3_reorganise_185 ?_
          refine lv_iload C.hx C.hb dX3_reorganise_188 (lv_at hl 3 rfl) ?_
          refine lv_aload_n C.hx C.hb dX3_reorganise_190 rfl (lv_at hl 5 rfl) ?_
          refine x3g_9 C X dX3_reorganise_191 ?_
          refine lv_aload_n C.hx C.hb dX3_reorganise_194 rfl (lv_at hl 5 rfl) ?_
          refine x3g_11 C X (x := nI (0 + 1)) rfl dX3_reorganise_195 ?_
          refine lv_iconst (v := nI (1)) C.hx C.hb dX3_reorganise_198 (by decide) ?_
          refine n_sub C dX3_reorganise_199 (by first | omega | exact hbo _ | exact hbi _ | exact hba _ | exact hbl _) ?_
          refine x3l_4 C X (by first | omega | exact hbo _ | exact hbi _ | exact hba _ | exact hbl _) dX3_reorganise_200 ?_
          refine n_re (j := nI nx) rfl ?_
          refine x3t_3 C X (by first | omega | exact hbo _ | exact hbi _ | exact hba _ | exact hbl _) dX3_reorganise_201 (fun H locs X => ?_)
          refine lv_iload_n C.hx C.hb dX3_reorganise_202 rfl (lv_at hl 1 rfl) ?_
          refine lv_aload_n C.hx C.hb dX3_reorganise_203 rfl (lv_at hl 5 rfl) ?_
          refine x3g_6 C X dX3_reorganise_204 ?_
          refine lv_iload C.hx C.hb dX3_reorganise_207 (lv_at hl 3 rfl) ?_
          refine x3l_2 C X (by first | omega | exact hbo _ | exact hbi _ | exact hba _ | exact hbl _) dX3_reorganise_209 ?_
          refine n_add C dX3_reorganise_210 ?_
          refine lv_istore_n (lv' := [(1, .int (nI (0 + (gl 0)))), (2, .int (nI (0))), (5, .int (nI (1))), (4, .int (nI (0))), (3, .int (nI (lq))), (0, .ref (z 0))]) C.hx C.hb dX3_reorganise_211 rfl hl (by decide) rfl (fun ls hl => ?_)
          refine lv_iinc (v := nI (0 + 1)) (lv' := [(2, .int (nI (0 + 1))), (1, .int (nI (0 + (gl 0)))), (5, .int (nI (1))), (4, .int (nI (0))), (3, .int (nI (lq))), (0, .ref (z 0))]) C.hx C.hb dX3_reorganise_212 hl (k := 1) rfl (nI_1 _) (by decide) rfl (fun ls hl => ?_)
          refine lv_iinc (v := nI (0 + 1)) (lv' := [(4, .int (nI (0 + 1))), (2, .int (nI (0 + 1))), (1, .int (nI (0 + (gl 0)))), (5, .int (nI (1))), (3, .int (nI (lq))), (0, .ref (z 0))]) C.hx C.hb dX3_reorganise_215 hl (k := 3) rfl (nI_1 _) (by decide) rfl (fun ls hl => ?_)
          refine lv_goto (tgt := 44) C.hx C.hb dX3_reorganise_218 (by decide) ?_
          refine l3_reo (v0 := upd v 0 (nI 0)) (lr := lr) C (show 1 ≤ lw by omega) hlw2 hwd hlr hrm j1 hk r1 r2 hso c3 hbl hB d8 d3 n0 (0 + 1) (0 + 1) (0 + L.getD 0 0) nx (ac + 1) [] [] [] [ac + 1] (upd (upd (upd (upd (upd v 0 (nI (0))) 11 (nI (0))) 13 (nI (ac + 1))) 11 (nI (0 + 1))) 12 (nI (nx + 1))) (va_up go 0 nx) (va_up gi 0 nx) (va_up ga 0 (ac + 1)) H locs (by omega) (by omega) (RI.one (by omega) (by omega) (by omega)) rfl rfl rfl (fun k k1 k2 k3 => by simp [upd, k1, k2, k3]) (vab hbo (by omega)) (vab hbi (by omega)) (vab hba (by omega)) (by omega) (by omega) ?_ X ls (by rw [← r20, show lw = lq by omega]; exact lv_sub hl [0, 4, 1, 2, 5] rfl)
          rw [hn0]
          simp only [rgl]
          rw [if_neg (fun q => absurd q.1 (Nat.lt_irrefl 0))]
        · omega
      · omega
    · refine lv_iconst (v := nI (1)) C.hx C.hb dX3_reorganise_32 (by decide) ?_
      refine lv_goto (tgt := 40) C.hx C.hb dX3_reorganise_33 (by decide) ?_
      refine lv_istore_n (lv' := [(3, .int (nI (1))), (2, .int (nI (0))), (1, .int (nI (0))), (0, .ref (z 0))]) C.hx C.hb dX3_reorganise_40 rfl hl (by decide) rfl (fun ls hl => ?_)
      refine lv_iconst (v := nI (0)) C.hx C.hb dX3_reorganise_41 (by decide) ?_
      refine lv_istore (lv' := [(4, .int (nI (0))), (3, .int (nI (1))), (2, .int (nI (0))), (1, .int (nI (0))), (0, .ref (z 0))]) C.hx C.hb dX3_reorganise_42 hl (by decide) rfl (fun ls hl => ?_)
      refine lv_iload C.hx C.hb dX3_reorganise_44 (lv_at hl 0 rfl) ?_
      refine lv_aload_n C.hx C.hb dX3_reorganise_46 rfl (lv_at hl 4 rfl) ?_
      refine x3g_8 C X (x := nI (K.length)) d8 dX3_reorganise_47 ?_
      refine n_icmp_lt (tgt := 60) C dX3_reorganise_50 (by decide) (by first | omega | exact hbo _ | exact hbi _ | exact hba _ | exact hbl _) (by first | omega | exact hbo _ | exact hbi _ | exact hba _ | exact hbl _) (fun c50 => ?_) (fun c50 => ?_)
      · refine lv_aload_n C.hx C.hb dX3_reorganise_60 rfl (lv_at hl 4 rfl) ?_
        refine x3g_11 C X (x := nI (0)) rfl dX3_reorganise_61 ?_
        refine n_if_eq (tgt := 87) C dX3_reorganise_64 (by decide) (by decide) (fun _ => ?_) (fun h => absurd h (by decide))
        refine lv_iconst (v := nI (1)) C.hx C.hb dX3_reorganise_87 (by decide) ?_
        refine lv_goto (tgt := 92) C.hx C.hb dX3_reorganise_88 (by decide) ?_
        refine lv_istore (lv' := [(5, .int (nI (1))), (4, .int (nI (0))), (3, .int (nI (1))), (2, .int (nI (0))), (1, .int (nI (0))), (0, .ref (z 0))]) C.hx C.hb dX3_reorganise_92 hl (by decide) rfl (fun ls hl => ?_)
        refine lv_iload C.hx C.hb dX3_reorganise_94 (lv_at hl 0 rfl) ?_
        refine n_if_eq (tgt := 172) C dX3_reorganise_96 (by decide) (by decide) (fun h => absurd h (by decide)) (fun _ => ?_)
        refine lv_aload_n C.hx C.hb dX3_reorganise_99 rfl (lv_at hl 5 rfl) ?_
        refine lv_dup C.hx C.hb dX3_reorganise_100 rfl ?_
        refine x3g_13 C X (x := nI (ac)) d13 dX3_reorganise_101 ?_
        refine lv_aload_n C.hx C.hb dX3_reorganise_104 rfl (lv_at hl 5 rfl) ?_
        refine x3g_11 C X (x := nI (0)) rfl dX3_reorganise_105 ?_
        refine lv_iload_n C.hx C.hb dX3_reorganise_108 rfl (lv_at hl 2 rfl) ?_
        refine n_rem C dX3_reorganise_109 (by first | omega | exact hbo _ | exact hbi _ | exact hba _ | exact hbl _) (by first | omega | exact hbo _ | exact hbi _ | exact hba _ | exact hbl _) (by first | omega | exact hbo _ | exact hbi _ | exact hba _ | exact hbl _) ?_
        refine n_re (j := nI 0) (by rw [Nat.zero_mod]) ?_
        refine n_if_ne (tgt := 117) C dX3_reorganise_110 (by decide) (by decide) (fun h => absurd h (by decide)) (fun _ => ?_)
        refine lv_iconst (v := nI (1)) C.hx C.hb dX3_reorganise_113 (by decide) ?_
        refine lv_goto (tgt := 118) C.hx C.hb dX3_reorganise_114 (by decide) ?_
        refine n_add C dX3_reorganise_118 ?_
        refine x3p_13 C X dX3_reorganise_119 (fun H locs X => ?_)
        refine lv_aload_n C.hx C.hb dX3_reorganise_122 rfl (lv_at hl 5 rfl) ?_
        refine x3g_9 C X dX3_reorganise_123 ?_
        refine lv_aload_n C.hx C.hb dX3_reorganise_126 rfl (lv_at hl 5 rfl) ?_
        refine x3g_11 C X (x := nI (0)) rfl dX3_reorganise_127 ?_
        refine lv_aload_n C.hx C.hb dX3_reorganise_130 rfl (lv_at hl 5 rfl) ?_
        refine x3g_12 C X (x := nI (nx)) d12 dX3_reorganise_131 ?_
        refine x3t_4 C X (by first | omega | exact hbo _ | exact hbi _ | exact hba _ | exact hbl _) dX3_reorganise_134 (fun H locs X => ?_)
        refine lv_aload_n C.hx C.hb dX3_reorganise_135 rfl (lv_at hl 5 rfl) ?_
        refine x3g_10 C X dX3_reorganise_136 ?_
        refine lv_aload_n C.hx C.hb dX3_reorganise_139 rfl (lv_at hl 5 rfl) ?_
        refine x3g_11 C X (x := nI (0)) rfl dX3_reorganise_140 ?_
        refine lv_aload_n C.hx C.hb dX3_reorganise_143 rfl (lv_at hl 5 rfl) ?_
        refine x3g_13 C X (x := nI (ac + 1)) rfl dX3_reorganise_144 ?_
        refine x3t_5 C X (by first | omega | exact hbo _ | exact hbi _ | exact hba _ | exact hbl _) dX3_reorganise_147 (fun H locs X => ?_)
        refine lv_aload_n C.hx C.hb dX3_reorganise_148 rfl (lv_at hl 5 rfl) ?_
        refine lv_dup C.hx C.hb dX3_reorganise_149 rfl ?_
        refine x3g_11 C X (x := nI (0)) rfl dX3_reorganise_150 ?_
        refine lv_iconst (v := nI (1)) C.hx C.hb dX3_reorganise_153 (by decide) ?_
        refine n_add C dX3_reorganise_154 ?_
        refine x3p_11 C X dX3_reorganise_155 (fun H locs X => ?_)
        refine lv_aload_n C.hx C.hb dX3_reorganise_158 rfl (lv_at hl 5 rfl) ?_
        refine lv_dup C.hx C.hb dX3_reorganise_159 rfl ?_
        refine x3g_12 C X (x := nI (nx)) d12 dX3_reorganise_160 ?_
        refine lv_iconst (v := nI (1)) C.hx C.hb dX3_reorganise_163 (by decide) ?_
        refine n_add C dX3_reorganise_164 ?_
        refine x3p_12 C X dX3_reorganise_165 (fun H locs X => ?_)
        refine lv_iconst (v := nI (0)) C.hx C.hb dX3_reorganise_168 (by decide) ?_
        refine lv_istore_n (lv' := [(1, .int (nI (0))), (5, .int (nI (1))), (4, .int (nI (0))), (3, .int (nI (1))), (2, .int (nI (0))), (0, .ref (z 0))]) C.hx C.hb dX3_reorganise_169 rfl hl (by decide) rfl (fun ls hl => ?_)
        refine lv_iconst (v := nI (0)) C.hx C.hb dX3_reorganise_170 (by decide) ?_
        refine lv_istore_n (lv' := [(2, .int (nI (0))), (1, .int (nI (0))), (5, .int (nI (1))), (4, .int (nI (0))), (3, .int (nI (1))), (0, .ref (z 0))]) C.hx C.hb dX3_reorganise_171 rfl hl (by decide) rfl (fun ls hl => ?_)
        refine lv_iload C.hx C.hb dX3_reorganise_172 (lv_at hl 3 rfl) ?_
        refine lv_aload_n C.hx C.hb dX3_reorganise_174 rfl (lv_at hl 5 rfl) ?_
        refine x3g_8 C X (x := nI (K.length)) d8 dX3_reorganise_175 ?_
        refine n_icmp_lt (tgt := 184) C dX3_reorganise_178 (by decide) (by first | omega | exact hbo _ | exact hbi _ | exact hba _ | exact hbl _) (by first | omega | exact hbo _ | exact hbi _ | exact hba _ | exact hbl _) (fun c178 => ?_) (fun c178 => ?_)
        · refine lv_aload_n C.hx C.hb dX3_reorganise_184 rfl (lv_at hl 5 rfl) ?_
          refine x3g_7 C X dX3_reorganise_185 ?_
          refine lv_iload C.hx C.hb dX3_reorganise_188 (lv_at hl 3 rfl) ?_
          refine lv_aload_n C.hx C.hb dX3_reorganise_190 rfl (lv_at hl 5 rfl) ?_
          refine x3g_9 C X dX3_reorganise_191 ?_
          refine lv_aload_n C.hx C.hb dX3_reorganise_194 rfl (lv_at hl 5 rfl) ?_
          refine x3g_11 C X (x := nI (0 + 1)) rfl dX3_reorganise_195 ?_
          refine lv_iconst (v := nI (1)) C.hx C.hb dX3_reorganise_198 (by decide) ?_
          refine n_sub C dX3_reorganise_199 (by first | omega | exact hbo _ | exact hbi _ | exact hba _ | exact hbl _) ?_
          refine x3l_4 C X (by first | omega | exact hbo _ | exact hbi _ | exact hba _ | exact hbl _) dX3_reorganise_200 ?_
          refine n_re (j := nI nx) rfl ?_
          refine x3t_3 C X (by first | omega | exact hbo _ | exact hbi _ | exact hba _ | exact hbl _) dX3_reorganise_201 (fun H locs X => ?_)
          refine lv_iload_n C.hx C.hb dX3_reorganise_202 rfl (lv_at hl 1 rfl) ?_
          refine lv_aload_n C.hx C.hb dX3_reorganise_203 rfl (lv_at hl 5 rfl) ?_
          refine x3g_6 C X dX3_reorganise_204 ?_
          refine lv_iload C.hx C.hb dX3_reorganise_207 (lv_at hl 3 rfl) ?_
          refine x3l_2 C X (by first | omega | exact hbo _ | exact hbi _ | exact hba _ | exact hbl _) dX3_reorganise_209 ?_
          refine n_add C dX3_reorganise_210 ?_
          refine lv_istore_n (lv' := [(1, .int (nI (0 + (gl 0)))), (2, .int (nI (0))), (5, .int (nI (1))), (4, .int (nI (0))), (3, .int (nI (1))), (0, .ref (z 0))]) C.hx C.hb dX3_reorganise_211 rfl hl (by decide) rfl (fun ls hl => ?_)
          refine lv_iinc (v := nI (0 + 1)) (lv' := [(2, .int (nI (0 + 1))), (1, .int (nI (0 + (gl 0)))), (5, .int (nI (1))), (4, .int (nI (0))), (3, .int (nI (1))), (0, .ref (z 0))]) C.hx C.hb dX3_reorganise_212 hl (k := 1) rfl (nI_1 _) (by decide) rfl (fun ls hl => ?_)
          refine lv_iinc (v := nI (0 + 1)) (lv' := [(4, .int (nI (0 + 1))), (2, .int (nI (0 + 1))), (1, .int (nI (0 + (gl 0)))), (5, .int (nI (1))), (3, .int (nI (1))), (0, .ref (z 0))]) C.hx C.hb dX3_reorganise_215 hl (k := 3) rfl (nI_1 _) (by decide) rfl (fun ls hl => ?_)
          refine lv_goto (tgt := 44) C.hx C.hb dX3_reorganise_218 (by decide) ?_
          refine l3_reo (v0 := upd v 0 (nI 0)) (lr := lr) C (show 1 ≤ lw by omega) hlw2 hwd hlr hrm j1 hk r1 r2 hso c3 hbl hB d8 d3 n0 (0 + 1) (0 + 1) (0 + L.getD 0 0) nx (ac + 1) [] [] [] [ac + 1] (upd (upd (upd (upd (upd v 0 (nI (0))) 11 (nI (0))) 13 (nI (ac + 1))) 11 (nI (0 + 1))) 12 (nI (nx + 1))) (va_up go 0 nx) (va_up gi 0 nx) (va_up ga 0 (ac + 1)) H locs (by omega) (by omega) (RI.one (by omega) (by omega) (by omega)) rfl rfl rfl (fun k k1 k2 k3 => by simp [upd, k1, k2, k3]) (vab hbo (by omega)) (vab hbi (by omega)) (vab hba (by omega)) (by omega) (by omega) ?_ X ls (by rw [← r20, show lw = 1 by omega]; exact lv_sub hl [0, 4, 1, 2, 5] rfl)
          rw [hn0]
          simp only [rgl]
          rw [if_neg (fun q => absurd q.1 (Nat.lt_irrefl 0))]
        · omega
      · omega
