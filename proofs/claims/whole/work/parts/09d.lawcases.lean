theorem LX.S {E : Gq} {A : Nat → Prop} {s : State} {H : Heap} {locs : List Loc} {z2 z3 : Nat → Nat} {ao : Nat} {g : Nat → Int64} {v2 : Nat → Int32} {kd : Nat} {K : List Int64} {L N S P : List Nat} {v : Nat → Int32} {fk : Nat → Int64} {gl go gi ga : Nat → Nat} {gs : Nat → Int32} (h : LX E A z2 z3 ao g v2 kd K L N S P v fk gl go gi ga gs s H locs) : va_S A s.heap H locs := h.choose_spec.1.2.2
set_option maxHeartbeats 4000000 in
set_option maxRecDepth 100000 in
theorem lc_put {p : Program} {l : Launch} {e : Env} {s : State} {m : MethodId} {below : List Frame} {meth : Method} {c : Code} {H : Heap} {locs : List Loc} {cells slots : Nat} {Q : State → Prop} {b Ls t : Nat} {xs : Nat → Int32} {E : Gq} {z2 z3 : Nat → Nat} {ao : Nat} {g : Nat → Int64} {v2 : Nat → Int32} {kd : Nat} {K : List Int64} {L N S P : List Nat} {v : Nat → Int32} {fk : Nat → Int64} {gl go gi ga : Nat → Nat} {gs : Nat → Int32} {rm wd lr lw lq B : Nat} (C : Cx E p s m #[Value.ref b] meth c cL_law 7 (some .boolean) RL (va_A [] s.heap.size)) (hLs : Ls ≤ 2052) (hX : va_X b Ls xs s s.heap) (hbl : b < s.heap.size) (ht : 4 * t + 8 ≤ Ls) (hp : Par rm wd lr lw lq) (X : LX E (va_A [] s.heap.size) z2 z3 ao g v2 kd K L N S P v fk gl go gi ga gs s H locs) (hC : Cpl rm wd lr lw lq B v2 kd K L N S P v fk gl go gi ga gs) (hk : K.length ≤ 520) (hB : B + 2500 < 2 ^ 30) (hcs : cells + 1 ≤ 601024) (hss : slots + 6 ≤ 7293000) (kk : ∀ (cells' slots' : Nat) (g' : Nat → Int64) (v2' : Nat → Int32) (kd' : Nat) (K' : List Int64) (L' N' S' P' : List Nat) (v' : Nat → Int32) (fk' : Nat → Int64) (gl' go' gi' ga' : Nat → Nat) (gs' : Nat → Int32) (H1 : Heap) (locs1 : List Loc), cells' ≤ cells + 1 → slots' ≤ slots + 6 → LX E (va_A [] s.heap.size) z2 z3 ao g' v2' kd' K' L' N' S' P' v' fk' gl' go' gi' ga' gs' s H1 locs1 → Cpl rm wd lr lw lq (B + 2500) v2' kd' K' L' N' S' P' v' fk' gl' go' gi' ga' gs' → K'.length ≤ K.length + 1 → ∀ ls : Array Slot, lv_has ls 7 [(4, .int (nI (4 + 4 * t))), (3, .ref ao), (2, .ref (z3 0)), (1, .ref (z2 0)), (0, .ref b)] → W p l e room_1 s m #[Value.ref b] below meth c H1 locs1 cells' slots' Q (F0 m 629 ls [])) : ∀ ls : Array Slot, lv_has ls 7 [(4, .int (nI (4 + 4 * t))), (3, .ref ao), (2, .ref (z3 0)), (1, .ref (z2 0)), (0, .ref b)] → W p l e room_1 s m #[Value.ref b] below meth c H locs cells slots Q (F0 m 144 ls []) := by
  intro ls hl
  refine lv_aload_n C.hx C.hb dL_law_144 rfl (lv_at hl 3 rfl) ?_
  refine lv_aload_n C.hx C.hb dL_law_145 rfl (lv_at hl 4 rfl) ?_
  refine lv_iload C.hx C.hb dL_law_146 (lv_at hl 0 rfl) ?_
  refine lv_iconst (v := nI (1)) C.hx C.hb dL_law_148 (by decide) ?_
  refine n_add C dL_law_149 ?_
  refine va_sld C.hx C.hb hX hbl (notA hbl) X.S (vp_in_nI (by omega) (by omega)) dL_law_150 ?_
  refine n_re (j := xs ((4 + 4 * t) + 1)) (congrArg xs (nI_clamp (by omega))) ?_
  refine lv_i2l C.hx C.hb dL_law_151 rfl ?_
  refine lv_bipush (v := nI (32)) C.hx C.hb dL_law_152 (by decide) ?_
  refine lv_lshl C.hx C.hb dL_law_154 rfl ?_
  refine lv_aload_n C.hx C.hb dL_law_155 rfl (lv_at hl 4 rfl) ?_
  refine lv_iload C.hx C.hb dL_law_156 (lv_at hl 0 rfl) ?_
  refine lv_iconst (v := nI (2)) C.hx C.hb dL_law_158 (by decide) ?_
  refine n_add C dL_law_159 ?_
  refine va_sld C.hx C.hb hX hbl (notA hbl) X.S (vp_in_nI (by omega) (by omega)) dL_law_160 ?_
  refine n_re (j := xs ((4 + 4 * t) + 2)) (congrArg xs (nI_clamp (by omega))) ?_
  refine lv_i2l C.hx C.hb dL_law_161 rfl ?_
  refine lv_ldc2 C.hx C.hb C.hown (C.hts _ tw_539) dL_law_162 ?_
  refine lv_land C.hx C.hb dL_law_165 ?_
  refine lv_lor C.hx C.hb dL_law_166 ?_
  refine lv_aload_n C.hx C.hb dL_law_167 rfl (lv_at hl 4 rfl) ?_
  refine lv_iload C.hx C.hb dL_law_168 (lv_at hl 0 rfl) ?_
  refine lv_iconst (v := nI (3)) C.hx C.hb dL_law_170 (by decide) ?_
  refine n_add C dL_law_171 ?_
  refine va_sld C.hx C.hb hX hbl (notA hbl) X.S (vp_in_nI (by omega) (by omega)) dL_law_172 ?_
  refine n_re (j := xs ((4 + 4 * t) + 3)) (congrArg xs (nI_clamp (by omega))) ?_
  obtain ⟨post2, post3, hM2, hM3, hsh, hpr⟩ := pr_put (l := l) (E := E) (z2 := z2) (z3 := z3) (key := (((xs ((4 + 4 * t) + 1)).toInt64) <<< ((nI (32)).toInt64 &&& 63)) ||| (((xs ((4 + 4 * t) + 2)).toInt64) &&& 4294967295)) (ln := xs ((4 + 4 * t) + 3)) hp hC hk hB
  refine l_c2 (As := [.long ((((xs ((4 + 4 * t) + 1)).toInt64) <<< ((nI (32)).toInt64 &&& 63)) ||| (((xs ((4 + 4 * t) + 2)).toInt64) &&& 4294967295)), .int (xs ((4 + 4 * t) + 3))]) (rest := []) C X hM2 wy_X2_put tw_135 tw_133 rfl ⟨by decide, by decide⟩ rfl hl.1 rfl (Nat.le_of_ble_eq_true rfl) ⟨by show cells ≤ 601024; omega, by show slots ≤ 7293000; omega⟩ dL_law_173 (fun r2 v2' kd' K' L' N' S' P' H locs hp2 X => ?_)
  obtain ⟨x2, rfl⟩ := hsh _ _ _ _ _ _ _ _ hp2
  refine W.eq (g2 := F0 m 176 ls [.int (x2)]) rfl ?_
  refine lv_aload_n C.hx C.hb dL_law_176 rfl (lv_at hl 2 rfl) ?_
  refine lv_aload_n C.hx C.hb dL_law_177 rfl (lv_at hl 4 rfl) ?_
  refine lv_iload C.hx C.hb dL_law_178 (lv_at hl 0 rfl) ?_
  refine lv_iconst (v := nI (1)) C.hx C.hb dL_law_180 (by decide) ?_
  refine n_add C dL_law_181 ?_
  refine va_sld C.hx C.hb hX hbl (notA hbl) X.S (vp_in_nI (by omega) (by omega)) dL_law_182 ?_
  refine n_re (j := xs ((4 + 4 * t) + 1)) (congrArg xs (nI_clamp (by omega))) ?_
  refine lv_i2l C.hx C.hb dL_law_183 rfl ?_
  refine lv_bipush (v := nI (32)) C.hx C.hb dL_law_184 (by decide) ?_
  refine lv_lshl C.hx C.hb dL_law_186 rfl ?_
  refine lv_aload_n C.hx C.hb dL_law_187 rfl (lv_at hl 4 rfl) ?_
  refine lv_iload C.hx C.hb dL_law_188 (lv_at hl 0 rfl) ?_
  refine lv_iconst (v := nI (2)) C.hx C.hb dL_law_190 (by decide) ?_
  refine n_add C dL_law_191 ?_
  refine va_sld C.hx C.hb hX hbl (notA hbl) X.S (vp_in_nI (by omega) (by omega)) dL_law_192 ?_
  refine n_re (j := xs ((4 + 4 * t) + 2)) (congrArg xs (nI_clamp (by omega))) ?_
  refine lv_i2l C.hx C.hb dL_law_193 rfl ?_
  refine lv_ldc2 C.hx C.hb C.hown (C.hts _ tw_539) dL_law_194 ?_
  refine lv_land C.hx C.hb dL_law_197 ?_
  refine lv_lor C.hx C.hb dL_law_198 ?_
  refine lv_aload_n C.hx C.hb dL_law_199 rfl (lv_at hl 4 rfl) ?_
  refine lv_iload C.hx C.hb dL_law_200 (lv_at hl 0 rfl) ?_
  refine lv_iconst (v := nI (3)) C.hx C.hb dL_law_202 (by decide) ?_
  refine n_add C dL_law_203 ?_
  refine va_sld C.hx C.hb hX hbl (notA hbl) X.S (vp_in_nI (by omega) (by omega)) dL_law_204 ?_
  refine n_re (j := xs ((4 + 4 * t) + 3)) (congrArg xs (nI_clamp (by omega))) ?_
  refine l_c3 (As := [.long ((((xs ((4 + 4 * t) + 1)).toInt64) <<< ((nI (32)).toInt64 &&& 63)) ||| (((xs ((4 + 4 * t) + 2)).toInt64) &&& 4294967295)), .int (xs ((4 + 4 * t) + 3))]) (rest := [.int (x2)]) C X hM3 wy_X3_put tw_433 tw_431 rfl ⟨by decide, by decide⟩ rfl hl.1 rfl (Nat.le_of_ble_eq_true rfl) ⟨by show cells ≤ 601024; omega, by show slots ≤ 7293000; omega⟩ dL_law_205 (fun r3 v' fk' gl' go' gi' ga' gs' H locs hp3 X => ?_)
  obtain ⟨⟨x, e2, rfl⟩, hC, hk⟩ := hpr _ _ _ _ _ _ _ _ _ _ _ _ _ _ _ _ hp2 hp3
  cases e2
  refine W.eq (g2 := F0 m 208 ls [.int (x2), .int (x2)]) rfl ?_
  refine lv_icmp_eq (tgt := 629) C.hx C.hb dL_law_208 (by decide) (fun c208 => ?_) (fun c208 => ?_)
  · exact kk cells slots g _ _ _ _ _ _ _ _ _ _ _ _ _ _ H locs (by omega) (by omega) X hC hk ls hl
  · exact absurd rfl c208
set_option maxHeartbeats 4000000 in
set_option maxRecDepth 100000 in
theorem lc_find {p : Program} {l : Launch} {e : Env} {s : State} {m : MethodId} {below : List Frame} {meth : Method} {c : Code} {H : Heap} {locs : List Loc} {cells slots : Nat} {Q : State → Prop} {b Ls t : Nat} {xs : Nat → Int32} {E : Gq} {z2 z3 : Nat → Nat} {ao : Nat} {g : Nat → Int64} {v2 : Nat → Int32} {kd : Nat} {K : List Int64} {L N S P : List Nat} {v : Nat → Int32} {fk : Nat → Int64} {gl go gi ga : Nat → Nat} {gs : Nat → Int32} {rm wd lr lw lq B : Nat} (C : Cx E p s m #[Value.ref b] meth c cL_law 7 (some .boolean) RL (va_A [] s.heap.size)) (hLs : Ls ≤ 2052) (hX : va_X b Ls xs s s.heap) (hbl : b < s.heap.size) (ht : 4 * t + 8 ≤ Ls) (hp : Par rm wd lr lw lq) (X : LX E (va_A [] s.heap.size) z2 z3 ao g v2 kd K L N S P v fk gl go gi ga gs s H locs) (hC : Cpl rm wd lr lw lq B v2 kd K L N S P v fk gl go gi ga gs) (hk : K.length ≤ 520) (hB : B + 2500 < 2 ^ 30) (hcs : cells + 1 ≤ 601024) (hss : slots + 6 ≤ 7293000) (kk : ∀ (cells' slots' : Nat) (g' : Nat → Int64) (v2' : Nat → Int32) (kd' : Nat) (K' : List Int64) (L' N' S' P' : List Nat) (v' : Nat → Int32) (fk' : Nat → Int64) (gl' go' gi' ga' : Nat → Nat) (gs' : Nat → Int32) (H1 : Heap) (locs1 : List Loc), cells' ≤ cells + 1 → slots' ≤ slots + 6 → LX E (va_A [] s.heap.size) z2 z3 ao g' v2' kd' K' L' N' S' P' v' fk' gl' go' gi' ga' gs' s H1 locs1 → Cpl rm wd lr lw lq (B + 2500) v2' kd' K' L' N' S' P' v' fk' gl' go' gi' ga' gs' → K'.length ≤ K.length + 1 → ∀ ls : Array Slot, lv_has ls 7 [(4, .int (nI (4 + 4 * t))), (3, .ref ao), (2, .ref (z3 0)), (1, .ref (z2 0)), (0, .ref b)] → W p l e room_1 s m #[Value.ref b] below meth c H1 locs1 cells' slots' Q (F0 m 629 ls [])) : ∀ ls : Array Slot, lv_has ls 7 [(4, .int (nI (4 + 4 * t))), (3, .ref ao), (2, .ref (z3 0)), (1, .ref (z2 0)), (0, .ref b)] → W p l e room_1 s m #[Value.ref b] below meth c H locs cells slots Q (F0 m 213 ls []) := by
  intro ls hl
  refine lv_aload_n C.hx C.hb dL_law_213 rfl (lv_at hl 3 rfl) ?_
  refine lv_aload_n C.hx C.hb dL_law_214 rfl (lv_at hl 4 rfl) ?_
  refine lv_iload C.hx C.hb dL_law_215 (lv_at hl 0 rfl) ?_
  refine lv_iconst (v := nI (1)) C.hx C.hb dL_law_217 (by decide) ?_
  refine n_add C dL_law_218 ?_
  refine va_sld C.hx C.hb hX hbl (notA hbl) X.S (vp_in_nI (by omega) (by omega)) dL_law_219 ?_
  refine n_re (j := xs ((4 + 4 * t) + 1)) (congrArg xs (nI_clamp (by omega))) ?_
  refine lv_i2l C.hx C.hb dL_law_220 rfl ?_
  refine lv_bipush (v := nI (32)) C.hx C.hb dL_law_221 (by decide) ?_
  refine lv_lshl C.hx C.hb dL_law_223 rfl ?_
  refine lv_aload_n C.hx C.hb dL_law_224 rfl (lv_at hl 4 rfl) ?_
  refine lv_iload C.hx C.hb dL_law_225 (lv_at hl 0 rfl) ?_
  refine lv_iconst (v := nI (2)) C.hx C.hb dL_law_227 (by decide) ?_
  refine n_add C dL_law_228 ?_
  refine va_sld C.hx C.hb hX hbl (notA hbl) X.S (vp_in_nI (by omega) (by omega)) dL_law_229 ?_
  refine n_re (j := xs ((4 + 4 * t) + 2)) (congrArg xs (nI_clamp (by omega))) ?_
  refine lv_i2l C.hx C.hb dL_law_230 rfl ?_
  refine lv_ldc2 C.hx C.hb C.hown (C.hts _ tw_539) dL_law_231 ?_
  refine lv_land C.hx C.hb dL_law_234 ?_
  refine lv_lor C.hx C.hb dL_law_235 ?_
  obtain ⟨post2, post3, hM2, hM3, hsh, hpr⟩ := pr_find (l := l) (E := E) (z2 := z2) (z3 := z3) (key := (((xs ((4 + 4 * t) + 1)).toInt64) <<< ((nI (32)).toInt64 &&& 63)) ||| (((xs ((4 + 4 * t) + 2)).toInt64) &&& 4294967295)) hp hC hk hB
  refine l_c2 (As := [.long ((((xs ((4 + 4 * t) + 1)).toInt64) <<< ((nI (32)).toInt64 &&& 63)) ||| (((xs ((4 + 4 * t) + 2)).toInt64) &&& 4294967295))]) (rest := []) C X hM2 wy_X2_find tw_200 tw_198 rfl ⟨by decide, by decide⟩ rfl hl.1 rfl (Nat.le_of_ble_eq_true rfl) ⟨by show cells ≤ 601024; omega, by show slots ≤ 7293000; omega⟩ dL_law_236 (fun r2 v2' kd' K' L' N' S' P' H locs hp2 X => ?_)
  obtain ⟨x2, rfl⟩ := hsh _ _ _ _ _ _ _ _ hp2
  refine W.eq (g2 := F0 m 239 ls [.int (x2)]) rfl ?_
  refine lv_aload_n C.hx C.hb dL_law_239 rfl (lv_at hl 2 rfl) ?_
  refine lv_aload_n C.hx C.hb dL_law_240 rfl (lv_at hl 4 rfl) ?_
  refine lv_iload C.hx C.hb dL_law_241 (lv_at hl 0 rfl) ?_
  refine lv_iconst (v := nI (1)) C.hx C.hb dL_law_243 (by decide) ?_
  refine n_add C dL_law_244 ?_
  refine va_sld C.hx C.hb hX hbl (notA hbl) X.S (vp_in_nI (by omega) (by omega)) dL_law_245 ?_
  refine n_re (j := xs ((4 + 4 * t) + 1)) (congrArg xs (nI_clamp (by omega))) ?_
  refine lv_i2l C.hx C.hb dL_law_246 rfl ?_
  refine lv_bipush (v := nI (32)) C.hx C.hb dL_law_247 (by decide) ?_
  refine lv_lshl C.hx C.hb dL_law_249 rfl ?_
  refine lv_aload_n C.hx C.hb dL_law_250 rfl (lv_at hl 4 rfl) ?_
  refine lv_iload C.hx C.hb dL_law_251 (lv_at hl 0 rfl) ?_
  refine lv_iconst (v := nI (2)) C.hx C.hb dL_law_253 (by decide) ?_
  refine n_add C dL_law_254 ?_
  refine va_sld C.hx C.hb hX hbl (notA hbl) X.S (vp_in_nI (by omega) (by omega)) dL_law_255 ?_
  refine n_re (j := xs ((4 + 4 * t) + 2)) (congrArg xs (nI_clamp (by omega))) ?_
  refine lv_i2l C.hx C.hb dL_law_256 rfl ?_
  refine lv_ldc2 C.hx C.hb C.hown (C.hts _ tw_539) dL_law_257 ?_
  refine lv_land C.hx C.hb dL_law_260 ?_
  refine lv_lor C.hx C.hb dL_law_261 ?_
  refine l_c3 (As := [.long ((((xs ((4 + 4 * t) + 1)).toInt64) <<< ((nI (32)).toInt64 &&& 63)) ||| (((xs ((4 + 4 * t) + 2)).toInt64) &&& 4294967295))]) (rest := [.int (x2)]) C X hM3 wy_X3_find tw_505 tw_503 rfl ⟨by decide, by decide⟩ rfl hl.1 rfl (Nat.le_of_ble_eq_true rfl) ⟨by show cells ≤ 601024; omega, by show slots ≤ 7293000; omega⟩ dL_law_262 (fun r3 v' fk' gl' go' gi' ga' gs' H locs hp3 X => ?_)
  obtain ⟨⟨x, e2, rfl⟩, hC, hk⟩ := hpr _ _ _ _ _ _ _ _ _ _ _ _ _ _ _ _ hp2 hp3
  cases e2
  refine W.eq (g2 := F0 m 265 ls [.int (x2), .int (x2)]) rfl ?_
  refine lv_icmp_eq (tgt := 629) C.hx C.hb dL_law_265 (by decide) (fun c265 => ?_) (fun c265 => ?_)
  · exact kk cells slots g _ _ _ _ _ _ _ _ _ _ _ _ _ _ H locs (by omega) (by omega) X hC hk ls hl
  · exact absurd rfl c265
set_option maxHeartbeats 4000000 in
set_option maxRecDepth 100000 in
theorem lc_next {p : Program} {l : Launch} {e : Env} {s : State} {m : MethodId} {below : List Frame} {meth : Method} {c : Code} {H : Heap} {locs : List Loc} {cells slots : Nat} {Q : State → Prop} {b Ls t : Nat} {xs : Nat → Int32} {E : Gq} {z2 z3 : Nat → Nat} {ao : Nat} {g : Nat → Int64} {v2 : Nat → Int32} {kd : Nat} {K : List Int64} {L N S P : List Nat} {v : Nat → Int32} {fk : Nat → Int64} {gl go gi ga : Nat → Nat} {gs : Nat → Int32} {rm wd lr lw lq B : Nat} (C : Cx E p s m #[Value.ref b] meth c cL_law 7 (some .boolean) RL (va_A [] s.heap.size)) (hLs : Ls ≤ 2052) (hX : va_X b Ls xs s s.heap) (hbl : b < s.heap.size) (ht : 4 * t + 8 ≤ Ls) (hp : Par rm wd lr lw lq) (X : LX E (va_A [] s.heap.size) z2 z3 ao g v2 kd K L N S P v fk gl go gi ga gs s H locs) (hC : Cpl rm wd lr lw lq B v2 kd K L N S P v fk gl go gi ga gs) (hk : K.length ≤ 520) (hB : B + 2500 < 2 ^ 30) (hcs : cells + 1 ≤ 601024) (hss : slots + 6 ≤ 7293000) (kk : ∀ (cells' slots' : Nat) (g' : Nat → Int64) (v2' : Nat → Int32) (kd' : Nat) (K' : List Int64) (L' N' S' P' : List Nat) (v' : Nat → Int32) (fk' : Nat → Int64) (gl' go' gi' ga' : Nat → Nat) (gs' : Nat → Int32) (H1 : Heap) (locs1 : List Loc), cells' ≤ cells + 1 → slots' ≤ slots + 6 → LX E (va_A [] s.heap.size) z2 z3 ao g' v2' kd' K' L' N' S' P' v' fk' gl' go' gi' ga' gs' s H1 locs1 → Cpl rm wd lr lw lq (B + 2500) v2' kd' K' L' N' S' P' v' fk' gl' go' gi' ga' gs' → K'.length ≤ K.length + 1 → ∀ ls : Array Slot, lv_has ls 7 [(4, .int (nI (4 + 4 * t))), (3, .ref ao), (2, .ref (z3 0)), (1, .ref (z2 0)), (0, .ref b)] → W p l e room_1 s m #[Value.ref b] below meth c H1 locs1 cells' slots' Q (F0 m 629 ls [])) : ∀ ls : Array Slot, lv_has ls 7 [(4, .int (nI (4 + 4 * t))), (3, .ref ao), (2, .ref (z3 0)), (1, .ref (z2 0)), (0, .ref b)] → W p l e room_1 s m #[Value.ref b] below meth c H locs cells slots Q (F0 m 270 ls []) := by
  intro ls hl
  refine lv_aload_n C.hx C.hb dL_law_270 rfl (lv_at hl 3 rfl) ?_
  refine lv_aload_n C.hx C.hb dL_law_271 rfl (lv_at hl 4 rfl) ?_
  refine lv_iload C.hx C.hb dL_law_272 (lv_at hl 0 rfl) ?_
  refine lv_iconst (v := nI (1)) C.hx C.hb dL_law_274 (by decide) ?_
  refine n_add C dL_law_275 ?_
  refine va_sld C.hx C.hb hX hbl (notA hbl) X.S (vp_in_nI (by omega) (by omega)) dL_law_276 ?_
  refine n_re (j := xs ((4 + 4 * t) + 1)) (congrArg xs (nI_clamp (by omega))) ?_
  refine lv_i2l C.hx C.hb dL_law_277 rfl ?_
  refine lv_bipush (v := nI (32)) C.hx C.hb dL_law_278 (by decide) ?_
  refine lv_lshl C.hx C.hb dL_law_280 rfl ?_
  refine lv_aload_n C.hx C.hb dL_law_281 rfl (lv_at hl 4 rfl) ?_
  refine lv_iload C.hx C.hb dL_law_282 (lv_at hl 0 rfl) ?_
  refine lv_iconst (v := nI (2)) C.hx C.hb dL_law_284 (by decide) ?_
  refine n_add C dL_law_285 ?_
  refine va_sld C.hx C.hb hX hbl (notA hbl) X.S (vp_in_nI (by omega) (by omega)) dL_law_286 ?_
  refine n_re (j := xs ((4 + 4 * t) + 2)) (congrArg xs (nI_clamp (by omega))) ?_
  refine lv_i2l C.hx C.hb dL_law_287 rfl ?_
  refine lv_ldc2 C.hx C.hb C.hown (C.hts _ tw_539) dL_law_288 ?_
  refine lv_land C.hx C.hb dL_law_291 ?_
  refine lv_lor C.hx C.hb dL_law_292 ?_
  obtain ⟨post2, post3, hM2, hM3, hsh, hpr⟩ := pr_next (l := l) (E := E) (z2 := z2) (z3 := z3) (key := (((xs ((4 + 4 * t) + 1)).toInt64) <<< ((nI (32)).toInt64 &&& 63)) ||| (((xs ((4 + 4 * t) + 2)).toInt64) &&& 4294967295)) hp hC hk hB
  refine l_c2 (As := [.long ((((xs ((4 + 4 * t) + 1)).toInt64) <<< ((nI (32)).toInt64 &&& 63)) ||| (((xs ((4 + 4 * t) + 2)).toInt64) &&& 4294967295))]) (rest := []) C X hM2 wy_X2_next tw_204 tw_202 rfl ⟨by decide, by decide⟩ rfl hl.1 rfl (Nat.le_of_ble_eq_true rfl) ⟨by show cells ≤ 601024; omega, by show slots ≤ 7293000; omega⟩ dL_law_293 (fun r2 v2' kd' K' L' N' S' P' H locs hp2 X => ?_)
  obtain ⟨x2, rfl⟩ := hsh _ _ _ _ _ _ _ _ hp2
  refine W.eq (g2 := F0 m 296 ls [.int (x2)]) rfl ?_
  refine lv_aload_n C.hx C.hb dL_law_296 rfl (lv_at hl 2 rfl) ?_
  refine lv_aload_n C.hx C.hb dL_law_297 rfl (lv_at hl 4 rfl) ?_
  refine lv_iload C.hx C.hb dL_law_298 (lv_at hl 0 rfl) ?_
  refine lv_iconst (v := nI (1)) C.hx C.hb dL_law_300 (by decide) ?_
  refine n_add C dL_law_301 ?_
  refine va_sld C.hx C.hb hX hbl (notA hbl) X.S (vp_in_nI (by omega) (by omega)) dL_law_302 ?_
  refine n_re (j := xs ((4 + 4 * t) + 1)) (congrArg xs (nI_clamp (by omega))) ?_
  refine lv_i2l C.hx C.hb dL_law_303 rfl ?_
  refine lv_bipush (v := nI (32)) C.hx C.hb dL_law_304 (by decide) ?_
  refine lv_lshl C.hx C.hb dL_law_306 rfl ?_
  refine lv_aload_n C.hx C.hb dL_law_307 rfl (lv_at hl 4 rfl) ?_
  refine lv_iload C.hx C.hb dL_law_308 (lv_at hl 0 rfl) ?_
  refine lv_iconst (v := nI (2)) C.hx C.hb dL_law_310 (by decide) ?_
  refine n_add C dL_law_311 ?_
  refine va_sld C.hx C.hb hX hbl (notA hbl) X.S (vp_in_nI (by omega) (by omega)) dL_law_312 ?_
  refine n_re (j := xs ((4 + 4 * t) + 2)) (congrArg xs (nI_clamp (by omega))) ?_
  refine lv_i2l C.hx C.hb dL_law_313 rfl ?_
  refine lv_ldc2 C.hx C.hb C.hown (C.hts _ tw_539) dL_law_314 ?_
  refine lv_land C.hx C.hb dL_law_317 ?_
  refine lv_lor C.hx C.hb dL_law_318 ?_
  refine l_c3 (As := [.long ((((xs ((4 + 4 * t) + 1)).toInt64) <<< ((nI (32)).toInt64 &&& 63)) ||| (((xs ((4 + 4 * t) + 2)).toInt64) &&& 4294967295))]) (rest := [.int (x2)]) C X hM3 wy_X3_next tw_509 tw_507 rfl ⟨by decide, by decide⟩ rfl hl.1 rfl (Nat.le_of_ble_eq_true rfl) ⟨by show cells ≤ 601024; omega, by show slots ≤ 7293000; omega⟩ dL_law_319 (fun r3 v' fk' gl' go' gi' ga' gs' H locs hp3 X => ?_)
  obtain ⟨⟨x, e2, rfl⟩, hC, hk⟩ := hpr _ _ _ _ _ _ _ _ _ _ _ _ _ _ _ _ hp2 hp3
  cases e2
  refine W.eq (g2 := F0 m 322 ls [.int (x2), .int (x2)]) rfl ?_
  refine lv_icmp_eq (tgt := 629) C.hx C.hb dL_law_322 (by decide) (fun c322 => ?_) (fun c322 => ?_)
  · exact kk cells slots g _ _ _ _ _ _ _ _ _ _ _ _ _ _ H locs (by omega) (by omega) X hC hk ls hl
  · exact absurd rfl c322
set_option maxHeartbeats 4000000 in
set_option maxRecDepth 100000 in
theorem lc_remove {p : Program} {l : Launch} {e : Env} {s : State} {m : MethodId} {below : List Frame} {meth : Method} {c : Code} {H : Heap} {locs : List Loc} {cells slots : Nat} {Q : State → Prop} {b Ls t : Nat} {xs : Nat → Int32} {E : Gq} {z2 z3 : Nat → Nat} {ao : Nat} {g : Nat → Int64} {v2 : Nat → Int32} {kd : Nat} {K : List Int64} {L N S P : List Nat} {v : Nat → Int32} {fk : Nat → Int64} {gl go gi ga : Nat → Nat} {gs : Nat → Int32} {rm wd lr lw lq B : Nat} (C : Cx E p s m #[Value.ref b] meth c cL_law 7 (some .boolean) RL (va_A [] s.heap.size)) (hLs : Ls ≤ 2052) (hX : va_X b Ls xs s s.heap) (hbl : b < s.heap.size) (ht : 4 * t + 8 ≤ Ls) (hp : Par rm wd lr lw lq) (X : LX E (va_A [] s.heap.size) z2 z3 ao g v2 kd K L N S P v fk gl go gi ga gs s H locs) (hC : Cpl rm wd lr lw lq B v2 kd K L N S P v fk gl go gi ga gs) (hk : K.length ≤ 520) (hB : B + 2500 < 2 ^ 30) (hcs : cells + 1 ≤ 601024) (hss : slots + 6 ≤ 7293000) (kk : ∀ (cells' slots' : Nat) (g' : Nat → Int64) (v2' : Nat → Int32) (kd' : Nat) (K' : List Int64) (L' N' S' P' : List Nat) (v' : Nat → Int32) (fk' : Nat → Int64) (gl' go' gi' ga' : Nat → Nat) (gs' : Nat → Int32) (H1 : Heap) (locs1 : List Loc), cells' ≤ cells + 1 → slots' ≤ slots + 6 → LX E (va_A [] s.heap.size) z2 z3 ao g' v2' kd' K' L' N' S' P' v' fk' gl' go' gi' ga' gs' s H1 locs1 → Cpl rm wd lr lw lq (B + 2500) v2' kd' K' L' N' S' P' v' fk' gl' go' gi' ga' gs' → K'.length ≤ K.length + 1 → ∀ ls : Array Slot, lv_has ls 7 [(4, .int (nI (4 + 4 * t))), (3, .ref ao), (2, .ref (z3 0)), (1, .ref (z2 0)), (0, .ref b)] → W p l e room_1 s m #[Value.ref b] below meth c H1 locs1 cells' slots' Q (F0 m 629 ls [])) : ∀ ls : Array Slot, lv_has ls 7 [(4, .int (nI (4 + 4 * t))), (3, .ref ao), (2, .ref (z3 0)), (1, .ref (z2 0)), (0, .ref b)] → W p l e room_1 s m #[Value.ref b] below meth c H locs cells slots Q (F0 m 327 ls []) := by
  intro ls hl
  refine lv_aload_n C.hx C.hb dL_law_327 rfl (lv_at hl 3 rfl) ?_
  refine lv_aload_n C.hx C.hb dL_law_328 rfl (lv_at hl 4 rfl) ?_
  refine lv_iload C.hx C.hb dL_law_329 (lv_at hl 0 rfl) ?_
  refine lv_iconst (v := nI (1)) C.hx C.hb dL_law_331 (by decide) ?_
  refine n_add C dL_law_332 ?_
  refine va_sld C.hx C.hb hX hbl (notA hbl) X.S (vp_in_nI (by omega) (by omega)) dL_law_333 ?_
  refine n_re (j := xs ((4 + 4 * t) + 1)) (congrArg xs (nI_clamp (by omega))) ?_
  refine lv_i2l C.hx C.hb dL_law_334 rfl ?_
  refine lv_bipush (v := nI (32)) C.hx C.hb dL_law_335 (by decide) ?_
  refine lv_lshl C.hx C.hb dL_law_337 rfl ?_
  refine lv_aload_n C.hx C.hb dL_law_338 rfl (lv_at hl 4 rfl) ?_
  refine lv_iload C.hx C.hb dL_law_339 (lv_at hl 0 rfl) ?_
  refine lv_iconst (v := nI (2)) C.hx C.hb dL_law_341 (by decide) ?_
  refine n_add C dL_law_342 ?_
  refine va_sld C.hx C.hb hX hbl (notA hbl) X.S (vp_in_nI (by omega) (by omega)) dL_law_343 ?_
  refine n_re (j := xs ((4 + 4 * t) + 2)) (congrArg xs (nI_clamp (by omega))) ?_
  refine lv_i2l C.hx C.hb dL_law_344 rfl ?_
  refine lv_ldc2 C.hx C.hb C.hown (C.hts _ tw_539) dL_law_345 ?_
  refine lv_land C.hx C.hb dL_law_348 ?_
  refine lv_lor C.hx C.hb dL_law_349 ?_
  obtain ⟨post2, post3, hM2, hM3, hsh, hpr⟩ := pr_remove (l := l) (E := E) (z2 := z2) (z3 := z3) (key := (((xs ((4 + 4 * t) + 1)).toInt64) <<< ((nI (32)).toInt64 &&& 63)) ||| (((xs ((4 + 4 * t) + 2)).toInt64) &&& 4294967295)) hp hC hk hB
  refine l_c2 (As := [.long ((((xs ((4 + 4 * t) + 1)).toInt64) <<< ((nI (32)).toInt64 &&& 63)) ||| (((xs ((4 + 4 * t) + 2)).toInt64) &&& 4294967295))]) (rest := []) C X hM2 wy_X2_remove tw_208 tw_206 rfl ⟨by decide, by decide⟩ rfl hl.1 rfl (Nat.le_of_ble_eq_true rfl) ⟨by show cells ≤ 601024; omega, by show slots ≤ 7293000; omega⟩ dL_law_350 (fun r2 v2' kd' K' L' N' S' P' H locs hp2 X => ?_)
  obtain ⟨x2, rfl⟩ := hsh _ _ _ _ _ _ _ _ hp2
  refine W.eq (g2 := F0 m 353 ls [.int (x2)]) rfl ?_
  refine lv_aload_n C.hx C.hb dL_law_353 rfl (lv_at hl 2 rfl) ?_
  refine lv_aload_n C.hx C.hb dL_law_354 rfl (lv_at hl 4 rfl) ?_
  refine lv_iload C.hx C.hb dL_law_355 (lv_at hl 0 rfl) ?_
  refine lv_iconst (v := nI (1)) C.hx C.hb dL_law_357 (by decide) ?_
  refine n_add C dL_law_358 ?_
  refine va_sld C.hx C.hb hX hbl (notA hbl) X.S (vp_in_nI (by omega) (by omega)) dL_law_359 ?_
  refine n_re (j := xs ((4 + 4 * t) + 1)) (congrArg xs (nI_clamp (by omega))) ?_
  refine lv_i2l C.hx C.hb dL_law_360 rfl ?_
  refine lv_bipush (v := nI (32)) C.hx C.hb dL_law_361 (by decide) ?_
  refine lv_lshl C.hx C.hb dL_law_363 rfl ?_
  refine lv_aload_n C.hx C.hb dL_law_364 rfl (lv_at hl 4 rfl) ?_
  refine lv_iload C.hx C.hb dL_law_365 (lv_at hl 0 rfl) ?_
  refine lv_iconst (v := nI (2)) C.hx C.hb dL_law_367 (by decide) ?_
  refine n_add C dL_law_368 ?_
  refine va_sld C.hx C.hb hX hbl (notA hbl) X.S (vp_in_nI (by omega) (by omega)) dL_law_369 ?_
  refine n_re (j := xs ((4 + 4 * t) + 2)) (congrArg xs (nI_clamp (by omega))) ?_
  refine lv_i2l C.hx C.hb dL_law_370 rfl ?_
  refine lv_ldc2 C.hx C.hb C.hown (C.hts _ tw_539) dL_law_371 ?_
  refine lv_land C.hx C.hb dL_law_374 ?_
  refine lv_lor C.hx C.hb dL_law_375 ?_
  refine l_c3 (As := [.long ((((xs ((4 + 4 * t) + 1)).toInt64) <<< ((nI (32)).toInt64 &&& 63)) ||| (((xs ((4 + 4 * t) + 2)).toInt64) &&& 4294967295))]) (rest := [.int (x2)]) C X hM3 wy_X3_remove tw_497 tw_495 rfl ⟨by decide, by decide⟩ rfl hl.1 rfl (Nat.le_of_ble_eq_true rfl) ⟨by show cells ≤ 601024; omega, by show slots ≤ 7293000; omega⟩ dL_law_376 (fun r3 v' fk' gl' go' gi' ga' gs' H locs hp3 X => ?_)
  obtain ⟨⟨x, e2, rfl⟩, hC, hk⟩ := hpr _ _ _ _ _ _ _ _ _ _ _ _ _ _ _ _ hp2 hp3
  cases e2
  refine W.eq (g2 := F0 m 379 ls [.int (x2), .int (x2)]) rfl ?_
  refine lv_icmp_eq (tgt := 629) C.hx C.hb dL_law_379 (by decide) (fun c379 => ?_) (fun c379 => ?_)
  · exact kk cells slots g _ _ _ _ _ _ _ _ _ _ _ _ _ _ H locs (by omega) (by omega) X hC hk ls hl
  · exact absurd rfl c379
set_option maxHeartbeats 4000000 in
set_option maxRecDepth 100000 in
theorem lc_interval {p : Program} {l : Launch} {e : Env} {s : State} {m : MethodId} {below : List Frame} {meth : Method} {c : Code} {H : Heap} {locs : List Loc} {cells slots : Nat} {Q : State → Prop} {b Ls t : Nat} {xs : Nat → Int32} {E : Gq} {z2 z3 : Nat → Nat} {ao : Nat} {g : Nat → Int64} {v2 : Nat → Int32} {kd : Nat} {K : List Int64} {L N S P : List Nat} {v : Nat → Int32} {fk : Nat → Int64} {gl go gi ga : Nat → Nat} {gs : Nat → Int32} {rm wd lr lw lq B : Nat} (C : Cx E p s m #[Value.ref b] meth c cL_law 7 (some .boolean) RL (va_A [] s.heap.size)) (hLs : Ls ≤ 2052) (hX : va_X b Ls xs s s.heap) (hbl : b < s.heap.size) (ht : 4 * t + 8 ≤ Ls) (hp : Par rm wd lr lw lq) (X : LX E (va_A [] s.heap.size) z2 z3 ao g v2 kd K L N S P v fk gl go gi ga gs s H locs) (hC : Cpl rm wd lr lw lq B v2 kd K L N S P v fk gl go gi ga gs) (hk : K.length ≤ 520) (hB : B + 2500 < 2 ^ 30) (hcs : cells + 1 ≤ 601024) (hss : slots + 6 ≤ 7293000) (kk : ∀ (cells' slots' : Nat) (g' : Nat → Int64) (v2' : Nat → Int32) (kd' : Nat) (K' : List Int64) (L' N' S' P' : List Nat) (v' : Nat → Int32) (fk' : Nat → Int64) (gl' go' gi' ga' : Nat → Nat) (gs' : Nat → Int32) (H1 : Heap) (locs1 : List Loc), cells' ≤ cells + 1 → slots' ≤ slots + 6 → LX E (va_A [] s.heap.size) z2 z3 ao g' v2' kd' K' L' N' S' P' v' fk' gl' go' gi' ga' gs' s H1 locs1 → Cpl rm wd lr lw lq (B + 2500) v2' kd' K' L' N' S' P' v' fk' gl' go' gi' ga' gs' → K'.length ≤ K.length + 1 → ∀ ls : Array Slot, lv_has ls 7 [(4, .int (nI (4 + 4 * t))), (3, .ref ao), (2, .ref (z3 0)), (1, .ref (z2 0)), (0, .ref b)] → W p l e room_1 s m #[Value.ref b] below meth c H1 locs1 cells' slots' Q (F0 m 629 ls [])) : ∀ ls : Array Slot, lv_has ls 7 [(4, .int (nI (4 + 4 * t))), (3, .ref ao), (2, .ref (z3 0)), (1, .ref (z2 0)), (0, .ref b)] → W p l e room_1 s m #[Value.ref b] below meth c H locs cells slots Q (F0 m 384 ls []) := by
  intro ls hl
  refine lv_aload_n C.hx C.hb dL_law_384 rfl (lv_at hl 3 rfl) ?_
  refine lv_aload_n C.hx C.hb dL_law_385 rfl (lv_at hl 4 rfl) ?_
  refine lv_iload C.hx C.hb dL_law_386 (lv_at hl 0 rfl) ?_
  refine lv_iconst (v := nI (1)) C.hx C.hb dL_law_388 (by decide) ?_
  refine n_add C dL_law_389 ?_
  refine va_sld C.hx C.hb hX hbl (notA hbl) X.S (vp_in_nI (by omega) (by omega)) dL_law_390 ?_
  refine n_re (j := xs ((4 + 4 * t) + 1)) (congrArg xs (nI_clamp (by omega))) ?_
  refine lv_aload_n C.hx C.hb dL_law_391 rfl (lv_at hl 4 rfl) ?_
  refine lv_iload C.hx C.hb dL_law_392 (lv_at hl 0 rfl) ?_
  refine lv_iconst (v := nI (2)) C.hx C.hb dL_law_394 (by decide) ?_
  refine n_add C dL_law_395 ?_
  refine va_sld C.hx C.hb hX hbl (notA hbl) X.S (vp_in_nI (by omega) (by omega)) dL_law_396 ?_
  refine n_re (j := xs ((4 + 4 * t) + 2)) (congrArg xs (nI_clamp (by omega))) ?_
  obtain ⟨post2, post3, hM2, hM3, hsh, hpr⟩ := pr_interval (l := l) (E := E) (z2 := z2) (z3 := z3) (i := xs ((4 + 4 * t) + 1)) (what := xs ((4 + 4 * t) + 2)) hp hC hk hB
  refine l_c2 (As := [.int (xs ((4 + 4 * t) + 1)), .int (xs ((4 + 4 * t) + 2))]) (rest := []) C X hM2 wy_X2_interval tw_220 tw_218 rfl ⟨by decide, by decide⟩ rfl hl.1 rfl (Nat.le_of_ble_eq_true rfl) ⟨by show cells ≤ 601024; omega, by show slots ≤ 7293000; omega⟩ dL_law_397 (fun r2 v2' kd' K' L' N' S' P' H locs hp2 X => ?_)
  obtain ⟨x2, rfl⟩ := hsh _ _ _ _ _ _ _ _ hp2
  refine W.eq (g2 := F0 m 400 ls [.int (x2)]) rfl ?_
  refine lv_aload_n C.hx C.hb dL_law_400 rfl (lv_at hl 2 rfl) ?_
  refine lv_aload_n C.hx C.hb dL_law_401 rfl (lv_at hl 4 rfl) ?_
  refine lv_iload C.hx C.hb dL_law_402 (lv_at hl 0 rfl) ?_
  refine lv_iconst (v := nI (1)) C.hx C.hb dL_law_404 (by decide) ?_
  refine n_add C dL_law_405 ?_
  refine va_sld C.hx C.hb hX hbl (notA hbl) X.S (vp_in_nI (by omega) (by omega)) dL_law_406 ?_
  refine n_re (j := xs ((4 + 4 * t) + 1)) (congrArg xs (nI_clamp (by omega))) ?_
  refine lv_aload_n C.hx C.hb dL_law_407 rfl (lv_at hl 4 rfl) ?_
  refine lv_iload C.hx C.hb dL_law_408 (lv_at hl 0 rfl) ?_
  refine lv_iconst (v := nI (2)) C.hx C.hb dL_law_410 (by decide) ?_
  refine n_add C dL_law_411 ?_
  refine va_sld C.hx C.hb hX hbl (notA hbl) X.S (vp_in_nI (by omega) (by omega)) dL_law_412 ?_
  refine n_re (j := xs ((4 + 4 * t) + 2)) (congrArg xs (nI_clamp (by omega))) ?_
  refine l_c3 (As := [.int (xs ((4 + 4 * t) + 1)), .int (xs ((4 + 4 * t) + 2))]) (rest := [.int (x2)]) C X hM3 wy_X3_interval tw_513 tw_511 rfl ⟨by decide, by decide⟩ rfl hl.1 rfl (Nat.le_of_ble_eq_true rfl) ⟨by show cells ≤ 601024; omega, by show slots ≤ 7293000; omega⟩ dL_law_413 (fun r3 v' fk' gl' go' gi' ga' gs' H locs hp3 X => ?_)
  obtain ⟨⟨x, e2, rfl⟩, hC, hk⟩ := hpr _ _ _ _ _ _ _ _ _ _ _ _ _ _ _ _ hp2 hp3
  cases e2
  refine W.eq (g2 := F0 m 416 ls [.int (x2), .int (x2)]) rfl ?_
  refine lv_icmp_eq (tgt := 629) C.hx C.hb dL_law_416 (by decide) (fun c416 => ?_) (fun c416 => ?_)
  · exact kk cells slots g _ _ _ _ _ _ _ _ _ _ _ _ _ _ H locs (by omega) (by omega) X hC hk ls hl
  · exact absurd rfl c416
set_option maxHeartbeats 4000000 in
set_option maxRecDepth 100000 in
theorem lc_cut {p : Program} {l : Launch} {e : Env} {s : State} {m : MethodId} {below : List Frame} {meth : Method} {c : Code} {H : Heap} {locs : List Loc} {cells slots : Nat} {Q : State → Prop} {b Ls t : Nat} {xs : Nat → Int32} {E : Gq} {z2 z3 : Nat → Nat} {ao : Nat} {g : Nat → Int64} {v2 : Nat → Int32} {kd : Nat} {K : List Int64} {L N S P : List Nat} {v : Nat → Int32} {fk : Nat → Int64} {gl go gi ga : Nat → Nat} {gs : Nat → Int32} {rm wd lr lw lq B : Nat} (C : Cx E p s m #[Value.ref b] meth c cL_law 7 (some .boolean) RL (va_A [] s.heap.size)) (hLs : Ls ≤ 2052) (hX : va_X b Ls xs s s.heap) (hbl : b < s.heap.size) (ht : 4 * t + 8 ≤ Ls) (hp : Par rm wd lr lw lq) (X : LX E (va_A [] s.heap.size) z2 z3 ao g v2 kd K L N S P v fk gl go gi ga gs s H locs) (hC : Cpl rm wd lr lw lq B v2 kd K L N S P v fk gl go gi ga gs) (hk : K.length ≤ 520) (hB : B + 2500 < 2 ^ 30) (hcs : cells + 1 ≤ 601024) (hss : slots + 6 ≤ 7293000) (kk : ∀ (cells' slots' : Nat) (g' : Nat → Int64) (v2' : Nat → Int32) (kd' : Nat) (K' : List Int64) (L' N' S' P' : List Nat) (v' : Nat → Int32) (fk' : Nat → Int64) (gl' go' gi' ga' : Nat → Nat) (gs' : Nat → Int32) (H1 : Heap) (locs1 : List Loc), cells' ≤ cells + 1 → slots' ≤ slots + 6 → LX E (va_A [] s.heap.size) z2 z3 ao g' v2' kd' K' L' N' S' P' v' fk' gl' go' gi' ga' gs' s H1 locs1 → Cpl rm wd lr lw lq (B + 2500) v2' kd' K' L' N' S' P' v' fk' gl' go' gi' ga' gs' → K'.length ≤ K.length + 1 → ∀ ls : Array Slot, lv_has ls 7 [(4, .int (nI (4 + 4 * t))), (3, .ref ao), (2, .ref (z3 0)), (1, .ref (z2 0)), (0, .ref b)] → W p l e room_1 s m #[Value.ref b] below meth c H1 locs1 cells' slots' Q (F0 m 629 ls [])) : ∀ ls : Array Slot, lv_has ls 7 [(4, .int (nI (4 + 4 * t))), (3, .ref ao), (2, .ref (z3 0)), (1, .ref (z2 0)), (0, .ref b)] → W p l e room_1 s m #[Value.ref b] below meth c H locs cells slots Q (F0 m 421 ls []) := by
  intro ls hl
  refine lv_aload_n C.hx C.hb dL_law_421 rfl (lv_at hl 3 rfl) ?_
  refine lv_aload_n C.hx C.hb dL_law_422 rfl (lv_at hl 4 rfl) ?_
  refine lv_iload C.hx C.hb dL_law_423 (lv_at hl 0 rfl) ?_
  refine lv_iconst (v := nI (1)) C.hx C.hb dL_law_425 (by decide) ?_
  refine n_add C dL_law_426 ?_
  refine va_sld C.hx C.hb hX hbl (notA hbl) X.S (vp_in_nI (by omega) (by omega)) dL_law_427 ?_
  refine n_re (j := xs ((4 + 4 * t) + 1)) (congrArg xs (nI_clamp (by omega))) ?_
  obtain ⟨post2, post3, hM2, hM3, hsh, hpr⟩ := pr_cut (l := l) (E := E) (z2 := z2) (z3 := z3) (wr := xs ((4 + 4 * t) + 1)) hp hC hk hB
  refine l_c2 (As := [.int (xs ((4 + 4 * t) + 1))]) (rest := []) C X hM2 wy_X2_cut tw_228 tw_226 rfl ⟨by decide, by decide⟩ rfl hl.1 rfl (Nat.le_of_ble_eq_true rfl) ⟨by show cells ≤ 601024; omega, by show slots ≤ 7293000; omega⟩ dL_law_428 (fun r2 v2' kd' K' L' N' S' P' H locs hp2 X => ?_)
  obtain ⟨x2, rfl⟩ := hsh _ _ _ _ _ _ _ _ hp2
  refine W.eq (g2 := F0 m 431 ls [.int (x2)]) rfl ?_
  refine lv_aload_n C.hx C.hb dL_law_431 rfl (lv_at hl 2 rfl) ?_
  refine lv_aload_n C.hx C.hb dL_law_432 rfl (lv_at hl 4 rfl) ?_
  refine lv_iload C.hx C.hb dL_law_433 (lv_at hl 0 rfl) ?_
  refine lv_iconst (v := nI (1)) C.hx C.hb dL_law_435 (by decide) ?_
  refine n_add C dL_law_436 ?_
  refine va_sld C.hx C.hb hX hbl (notA hbl) X.S (vp_in_nI (by omega) (by omega)) dL_law_437 ?_
  refine n_re (j := xs ((4 + 4 * t) + 1)) (congrArg xs (nI_clamp (by omega))) ?_
  refine l_c3 (As := [.int (xs ((4 + 4 * t) + 1))]) (rest := [.int (x2)]) C X hM3 wy_X3_cut tw_489 tw_487 rfl ⟨by decide, by decide⟩ rfl hl.1 rfl (Nat.le_of_ble_eq_true rfl) ⟨by show cells ≤ 601024; omega, by show slots ≤ 7293000; omega⟩ dL_law_438 (fun r3 v' fk' gl' go' gi' ga' gs' H locs hp3 X => ?_)
  obtain ⟨⟨x, e2, rfl⟩, hC, hk⟩ := hpr _ _ _ _ _ _ _ _ _ _ _ _ _ _ _ _ hp2 hp3
  cases e2
  refine W.eq (g2 := F0 m 441 ls [.int (x2), .int (x2)]) rfl ?_
  refine lv_icmp_eq (tgt := 629) C.hx C.hb dL_law_441 (by decide) (fun c441 => ?_) (fun c441 => ?_)
  · exact kk cells slots g _ _ _ _ _ _ _ _ _ _ _ _ _ _ H locs (by omega) (by omega) X hC hk ls hl
  · exact absurd rfl c441
set_option maxHeartbeats 4000000 in
set_option maxRecDepth 100000 in
theorem lc_open {p : Program} {l : Launch} {e : Env} {s : State} {m : MethodId} {below : List Frame} {meth : Method} {c : Code} {H : Heap} {locs : List Loc} {cells slots : Nat} {Q : State → Prop} {b Ls t : Nat} {xs : Nat → Int32} {E : Gq} {z2 z3 : Nat → Nat} {ao : Nat} {g : Nat → Int64} {v2 : Nat → Int32} {kd : Nat} {K : List Int64} {L N S P : List Nat} {v : Nat → Int32} {fk : Nat → Int64} {gl go gi ga : Nat → Nat} {gs : Nat → Int32} {rm wd lr lw lq B : Nat} (C : Cx E p s m #[Value.ref b] meth c cL_law 7 (some .boolean) RL (va_A [] s.heap.size)) (hLs : Ls ≤ 2052) (hX : va_X b Ls xs s s.heap) (hbl : b < s.heap.size) (ht : 4 * t + 8 ≤ Ls) (hp : Par rm wd lr lw lq) (X : LX E (va_A [] s.heap.size) z2 z3 ao g v2 kd K L N S P v fk gl go gi ga gs s H locs) (hC : Cpl rm wd lr lw lq B v2 kd K L N S P v fk gl go gi ga gs) (hk : K.length ≤ 520) (hB : B + 2500 < 2 ^ 30) (hcs : cells + 1 ≤ 601024) (hss : slots + 6 ≤ 7293000) (kk : ∀ (cells' slots' : Nat) (g' : Nat → Int64) (v2' : Nat → Int32) (kd' : Nat) (K' : List Int64) (L' N' S' P' : List Nat) (v' : Nat → Int32) (fk' : Nat → Int64) (gl' go' gi' ga' : Nat → Nat) (gs' : Nat → Int32) (H1 : Heap) (locs1 : List Loc), cells' ≤ cells + 1 → slots' ≤ slots + 6 → LX E (va_A [] s.heap.size) z2 z3 ao g' v2' kd' K' L' N' S' P' v' fk' gl' go' gi' ga' gs' s H1 locs1 → Cpl rm wd lr lw lq (B + 2500) v2' kd' K' L' N' S' P' v' fk' gl' go' gi' ga' gs' → K'.length ≤ K.length + 1 → ∀ ls : Array Slot, lv_has ls 7 [(4, .int (nI (4 + 4 * t))), (3, .ref ao), (2, .ref (z3 0)), (1, .ref (z2 0)), (0, .ref b)] → W p l e room_1 s m #[Value.ref b] below meth c H1 locs1 cells' slots' Q (F0 m 629 ls [])) : ∀ ls : Array Slot, lv_has ls 7 [(4, .int (nI (4 + 4 * t))), (3, .ref ao), (2, .ref (z3 0)), (1, .ref (z2 0)), (0, .ref b)] → W p l e room_1 s m #[Value.ref b] below meth c H locs cells slots Q (F0 m 446 ls []) := by
  intro ls hl
  refine lv_aload_n C.hx C.hb dL_law_446 rfl (lv_at hl 3 rfl) ?_
  obtain ⟨post2, post3, hM2, hM3, hsh, hpr⟩ := pr_open (l := l) (E := E) (z2 := z2) (z3 := z3)  hp hC hk hB
  refine l_c2 (As := []) (rest := []) C X hM2 wy_X2_open tw_232 tw_230 rfl ⟨by decide, by decide⟩ rfl hl.1 rfl (Nat.le_of_ble_eq_true rfl) ⟨by show cells ≤ 601024; omega, by show slots ≤ 7293000; omega⟩ dL_law_447 (fun r2 v2' kd' K' L' N' S' P' H locs hp2 X => ?_)
  obtain ⟨x2, rfl⟩ := hsh _ _ _ _ _ _ _ _ hp2
  refine W.eq (g2 := F0 m 450 ls [.int (x2)]) rfl ?_
  refine lv_aload_n C.hx C.hb dL_law_450 rfl (lv_at hl 2 rfl) ?_
  refine l_c3 (As := []) (rest := [.int (x2)]) C X hM3 wy_X3_open_ tw_493 tw_491 rfl ⟨by decide, by decide⟩ rfl hl.1 rfl (Nat.le_of_ble_eq_true rfl) ⟨by show cells ≤ 601024; omega, by show slots ≤ 7293000; omega⟩ dL_law_451 (fun r3 v' fk' gl' go' gi' ga' gs' H locs hp3 X => ?_)
  obtain ⟨⟨x, e2, rfl⟩, hC, hk⟩ := hpr _ _ _ _ _ _ _ _ _ _ _ _ _ _ _ _ hp2 hp3
  cases e2
  refine W.eq (g2 := F0 m 454 ls [.int (x2), .int (x2)]) rfl ?_
  refine lv_icmp_eq (tgt := 629) C.hx C.hb dL_law_454 (by decide) (fun c454 => ?_) (fun c454 => ?_)
  · exact kk cells slots g _ _ _ _ _ _ _ _ _ _ _ _ _ _ H locs (by omega) (by omega) X hC hk ls hl
  · exact absurd rfl c454
set_option maxHeartbeats 4000000 in
set_option maxRecDepth 100000 in
theorem lc_split {p : Program} {l : Launch} {e : Env} {s : State} {m : MethodId} {below : List Frame} {meth : Method} {c : Code} {H : Heap} {locs : List Loc} {cells slots : Nat} {Q : State → Prop} {b Ls t : Nat} {xs : Nat → Int32} {E : Gq} {z2 z3 : Nat → Nat} {ao : Nat} {g : Nat → Int64} {v2 : Nat → Int32} {kd : Nat} {K : List Int64} {L N S P : List Nat} {v : Nat → Int32} {fk : Nat → Int64} {gl go gi ga : Nat → Nat} {gs : Nat → Int32} {rm wd lr lw lq B : Nat} (C : Cx E p s m #[Value.ref b] meth c cL_law 7 (some .boolean) RL (va_A [] s.heap.size)) (hLs : Ls ≤ 2052) (hX : va_X b Ls xs s s.heap) (hbl : b < s.heap.size) (ht : 4 * t + 8 ≤ Ls) (hp : Par rm wd lr lw lq) (X : LX E (va_A [] s.heap.size) z2 z3 ao g v2 kd K L N S P v fk gl go gi ga gs s H locs) (hC : Cpl rm wd lr lw lq B v2 kd K L N S P v fk gl go gi ga gs) (hk : K.length ≤ 520) (hB : B + 2500 < 2 ^ 30) (hcs : cells + 1 ≤ 601024) (hss : slots + 6 ≤ 7293000) (kk : ∀ (cells' slots' : Nat) (g' : Nat → Int64) (v2' : Nat → Int32) (kd' : Nat) (K' : List Int64) (L' N' S' P' : List Nat) (v' : Nat → Int32) (fk' : Nat → Int64) (gl' go' gi' ga' : Nat → Nat) (gs' : Nat → Int32) (H1 : Heap) (locs1 : List Loc), cells' ≤ cells + 1 → slots' ≤ slots + 6 → LX E (va_A [] s.heap.size) z2 z3 ao g' v2' kd' K' L' N' S' P' v' fk' gl' go' gi' ga' gs' s H1 locs1 → Cpl rm wd lr lw lq (B + 2500) v2' kd' K' L' N' S' P' v' fk' gl' go' gi' ga' gs' → K'.length ≤ K.length + 1 → ∀ ls : Array Slot, lv_has ls 7 [(4, .int (nI (4 + 4 * t))), (3, .ref ao), (2, .ref (z3 0)), (1, .ref (z2 0)), (0, .ref b)] → W p l e room_1 s m #[Value.ref b] below meth c H1 locs1 cells' slots' Q (F0 m 629 ls [])) : ∀ ls : Array Slot, lv_has ls 7 [(4, .int (nI (4 + 4 * t))), (3, .ref ao), (2, .ref (z3 0)), (1, .ref (z2 0)), (0, .ref b)] → W p l e room_1 s m #[Value.ref b] below meth c H locs cells slots Q (F0 m 459 ls []) := by
  intro ls hl
  refine lv_aload_n C.hx C.hb dL_law_459 rfl (lv_at hl 3 rfl) ?_
  refine lv_aload_n C.hx C.hb dL_law_460 rfl (lv_at hl 4 rfl) ?_
  refine lv_iload C.hx C.hb dL_law_461 (lv_at hl 0 rfl) ?_
  refine lv_iconst (v := nI (1)) C.hx C.hb dL_law_463 (by decide) ?_
  refine n_add C dL_law_464 ?_
  refine va_sld C.hx C.hb hX hbl (notA hbl) X.S (vp_in_nI (by omega) (by omega)) dL_law_465 ?_
  refine n_re (j := xs ((4 + 4 * t) + 1)) (congrArg xs (nI_clamp (by omega))) ?_
  obtain ⟨post2, post3, hM2, hM3, hsh, hpr⟩ := pr_split (l := l) (E := E) (z2 := z2) (z3 := z3) (what := xs ((4 + 4 * t) + 1)) hp hC hk hB
  refine l_c2 (As := [.int (xs ((4 + 4 * t) + 1))]) (rest := []) C X hM2 wy_X2_split tw_240 tw_238 rfl ⟨by decide, by decide⟩ rfl hl.1 rfl (Nat.le_of_ble_eq_true rfl) ⟨by show cells ≤ 601024; omega, by show slots ≤ 7293000; omega⟩ dL_law_466 (fun r2 v2' kd' K' L' N' S' P' H locs hp2 X => ?_)
  obtain ⟨x2, rfl⟩ := hsh _ _ _ _ _ _ _ _ hp2
  refine W.eq (g2 := F0 m 469 ls [.int (x2)]) rfl ?_
  refine lv_aload_n C.hx C.hb dL_law_469 rfl (lv_at hl 2 rfl) ?_
  refine lv_aload_n C.hx C.hb dL_law_470 rfl (lv_at hl 4 rfl) ?_
  refine lv_iload C.hx C.hb dL_law_471 (lv_at hl 0 rfl) ?_
  refine lv_iconst (v := nI (1)) C.hx C.hb dL_law_473 (by decide) ?_
  refine n_add C dL_law_474 ?_
  refine va_sld C.hx C.hb hX hbl (notA hbl) X.S (vp_in_nI (by omega) (by omega)) dL_law_475 ?_
  refine n_re (j := xs ((4 + 4 * t) + 1)) (congrArg xs (nI_clamp (by omega))) ?_
  refine l_c3 (As := [.int (xs ((4 + 4 * t) + 1))]) (rest := [.int (x2)]) C X hM3 wy_X3_split tw_521 tw_519 rfl ⟨by decide, by decide⟩ rfl hl.1 rfl (Nat.le_of_ble_eq_true rfl) ⟨by show cells ≤ 601024; omega, by show slots ≤ 7293000; omega⟩ dL_law_476 (fun r3 v' fk' gl' go' gi' ga' gs' H locs hp3 X => ?_)
  obtain ⟨⟨x, e2, rfl⟩, hC, hk⟩ := hpr _ _ _ _ _ _ _ _ _ _ _ _ _ _ _ _ hp2 hp3
  cases e2
  refine W.eq (g2 := F0 m 479 ls [.int (x2), .int (x2)]) rfl ?_
  refine lv_icmp_eq (tgt := 629) C.hx C.hb dL_law_479 (by decide) (fun c479 => ?_) (fun c479 => ?_)
  · exact kk cells slots g _ _ _ _ _ _ _ _ _ _ _ _ _ _ H locs (by omega) (by omega) X hC hk ls hl
  · exact absurd rfl c479
set_option maxHeartbeats 4000000 in
set_option maxRecDepth 100000 in
theorem lc_verify {p : Program} {l : Launch} {e : Env} {s : State} {m : MethodId} {below : List Frame} {meth : Method} {c : Code} {H : Heap} {locs : List Loc} {cells slots : Nat} {Q : State → Prop} {b Ls t : Nat} {xs : Nat → Int32} {E : Gq} {z2 z3 : Nat → Nat} {ao : Nat} {g : Nat → Int64} {v2 : Nat → Int32} {kd : Nat} {K : List Int64} {L N S P : List Nat} {v : Nat → Int32} {fk : Nat → Int64} {gl go gi ga : Nat → Nat} {gs : Nat → Int32} {rm wd lr lw lq B : Nat} (C : Cx E p s m #[Value.ref b] meth c cL_law 7 (some .boolean) RL (va_A [] s.heap.size)) (hLs : Ls ≤ 2052) (hX : va_X b Ls xs s s.heap) (hbl : b < s.heap.size) (ht : 4 * t + 8 ≤ Ls) (hp : Par rm wd lr lw lq) (X : LX E (va_A [] s.heap.size) z2 z3 ao g v2 kd K L N S P v fk gl go gi ga gs s H locs) (hC : Cpl rm wd lr lw lq B v2 kd K L N S P v fk gl go gi ga gs) (hk : K.length ≤ 520) (hB : B + 2500 < 2 ^ 30) (hcs : cells + 1 ≤ 601024) (hss : slots + 6 ≤ 7293000) (kk : ∀ (cells' slots' : Nat) (g' : Nat → Int64) (v2' : Nat → Int32) (kd' : Nat) (K' : List Int64) (L' N' S' P' : List Nat) (v' : Nat → Int32) (fk' : Nat → Int64) (gl' go' gi' ga' : Nat → Nat) (gs' : Nat → Int32) (H1 : Heap) (locs1 : List Loc), cells' ≤ cells + 1 → slots' ≤ slots + 6 → LX E (va_A [] s.heap.size) z2 z3 ao g' v2' kd' K' L' N' S' P' v' fk' gl' go' gi' ga' gs' s H1 locs1 → Cpl rm wd lr lw lq (B + 2500) v2' kd' K' L' N' S' P' v' fk' gl' go' gi' ga' gs' → K'.length ≤ K.length + 1 → ∀ ls : Array Slot, lv_has ls 7 [(4, .int (nI (4 + 4 * t))), (3, .ref ao), (2, .ref (z3 0)), (1, .ref (z2 0)), (0, .ref b)] → W p l e room_1 s m #[Value.ref b] below meth c H1 locs1 cells' slots' Q (F0 m 629 ls [])) : ∀ ls : Array Slot, lv_has ls 7 [(4, .int (nI (4 + 4 * t))), (3, .ref ao), (2, .ref (z3 0)), (1, .ref (z2 0)), (0, .ref b)] → W p l e room_1 s m #[Value.ref b] below meth c H locs cells slots Q (F0 m 552 ls []) := by
  intro ls hl
  refine lv_aload_n C.hx C.hb dL_law_552 rfl (lv_at hl 3 rfl) ?_
  obtain ⟨post2, post3, hM2, hM3, hsh, hpr⟩ := pr_verify (l := l) (E := E) (z2 := z2) (z3 := z3)  hp hC hk hB
  refine l_c2 (As := []) (rest := []) C X hM2 wy_X2_verify tw_244 tw_242 rfl ⟨by decide, by decide⟩ rfl hl.1 rfl (Nat.le_of_ble_eq_true rfl) ⟨by show cells ≤ 601024; omega, by show slots ≤ 7293000; omega⟩ dL_law_553 (fun r2 v2' kd' K' L' N' S' P' H locs hp2 X => ?_)
  obtain ⟨x2, rfl⟩ := hsh _ _ _ _ _ _ _ _ hp2
  refine W.eq (g2 := F0 m 556 ls [.int (x2)]) rfl ?_
  refine lv_aload_n C.hx C.hb dL_law_556 rfl (lv_at hl 2 rfl) ?_
  refine l_c3 (As := []) (rest := [.int (x2)]) C X hM3 wy_X3_verify tw_529 tw_527 rfl ⟨by decide, by decide⟩ rfl hl.1 rfl (Nat.le_of_ble_eq_true rfl) ⟨by show cells ≤ 601024; omega, by show slots ≤ 7293000; omega⟩ dL_law_557 (fun r3 v' fk' gl' go' gi' ga' gs' H locs hp3 X => ?_)
  obtain ⟨⟨x, e2, rfl⟩, hC, hk⟩ := hpr _ _ _ _ _ _ _ _ _ _ _ _ _ _ _ _ hp2 hp3
  cases e2
  refine W.eq (g2 := F0 m 560 ls [.int (x2), .int (x2)]) rfl ?_
  refine lv_icmp_eq (tgt := 629) C.hx C.hb dL_law_560 (by decide) (fun c560 => ?_) (fun c560 => ?_)
  · exact kk cells slots g _ _ _ _ _ _ _ _ _ _ _ _ _ _ H locs (by omega) (by omega) X hC hk ls hl
  · exact absurd rfl c560
set_option maxHeartbeats 4000000 in
set_option maxRecDepth 100000 in
theorem lc_reorganise {p : Program} {l : Launch} {e : Env} {s : State} {m : MethodId} {below : List Frame} {meth : Method} {c : Code} {H : Heap} {locs : List Loc} {cells slots : Nat} {Q : State → Prop} {b Ls t : Nat} {xs : Nat → Int32} {E : Gq} {z2 z3 : Nat → Nat} {ao : Nat} {g : Nat → Int64} {v2 : Nat → Int32} {kd : Nat} {K : List Int64} {L N S P : List Nat} {v : Nat → Int32} {fk : Nat → Int64} {gl go gi ga : Nat → Nat} {gs : Nat → Int32} {rm wd lr lw lq B : Nat} (C : Cx E p s m #[Value.ref b] meth c cL_law 7 (some .boolean) RL (va_A [] s.heap.size)) (hLs : Ls ≤ 2052) (hX : va_X b Ls xs s s.heap) (hbl : b < s.heap.size) (ht : 4 * t + 8 ≤ Ls) (hp : Par rm wd lr lw lq) (X : LX E (va_A [] s.heap.size) z2 z3 ao g v2 kd K L N S P v fk gl go gi ga gs s H locs) (hC : Cpl rm wd lr lw lq B v2 kd K L N S P v fk gl go gi ga gs) (hk : K.length ≤ 520) (hB : B + 2500 < 2 ^ 30) (hcs : cells + 1 ≤ 601024) (hss : slots + 6 ≤ 7293000) (kk : ∀ (cells' slots' : Nat) (g' : Nat → Int64) (v2' : Nat → Int32) (kd' : Nat) (K' : List Int64) (L' N' S' P' : List Nat) (v' : Nat → Int32) (fk' : Nat → Int64) (gl' go' gi' ga' : Nat → Nat) (gs' : Nat → Int32) (H1 : Heap) (locs1 : List Loc), cells' ≤ cells + 1 → slots' ≤ slots + 6 → LX E (va_A [] s.heap.size) z2 z3 ao g' v2' kd' K' L' N' S' P' v' fk' gl' go' gi' ga' gs' s H1 locs1 → Cpl rm wd lr lw lq (B + 2500) v2' kd' K' L' N' S' P' v' fk' gl' go' gi' ga' gs' → K'.length ≤ K.length + 1 → ∀ ls : Array Slot, lv_has ls 7 [(4, .int (nI (4 + 4 * t))), (3, .ref ao), (2, .ref (z3 0)), (1, .ref (z2 0)), (0, .ref b)] → W p l e room_1 s m #[Value.ref b] below meth c H1 locs1 cells' slots' Q (F0 m 629 ls [])) : ∀ ls : Array Slot, lv_has ls 7 [(4, .int (nI (4 + 4 * t))), (3, .ref ao), (2, .ref (z3 0)), (1, .ref (z2 0)), (0, .ref b)] → W p l e room_1 s m #[Value.ref b] below meth c H locs cells slots Q (F0 m 565 ls []) := by
  intro ls hl
  refine lv_aload_n C.hx C.hb dL_law_565 rfl (lv_at hl 3 rfl) ?_
  obtain ⟨post2, post3, hM2, hM3, hsh, hpr⟩ := pr_reorganise (l := l) (E := E) (z2 := z2) (z3 := z3)  hp hC hk hB
  refine l_c2 (As := []) (rest := []) C X hM2 wy_X2_reorganise tw_260 tw_258 rfl ⟨by decide, by decide⟩ rfl hl.1 rfl (Nat.le_of_ble_eq_true rfl) ⟨by show cells ≤ 601024; omega, by show slots ≤ 7293000; omega⟩ dL_law_566 (fun r2 v2' kd' K' L' N' S' P' H locs hp2 X => ?_)
  obtain ⟨x2, rfl⟩ := hsh _ _ _ _ _ _ _ _ hp2
  refine W.eq (g2 := F0 m 569 ls [.int (x2)]) rfl ?_
  refine lv_aload_n C.hx C.hb dL_law_569 rfl (lv_at hl 2 rfl) ?_
  refine l_c3 (As := []) (rest := [.int (x2)]) C X hM3 wy_X3_reorganise tw_501 tw_499 rfl ⟨by decide, by decide⟩ rfl hl.1 rfl (Nat.le_of_ble_eq_true rfl) ⟨by show cells ≤ 601024; omega, by show slots ≤ 7293000; omega⟩ dL_law_570 (fun r3 v' fk' gl' go' gi' ga' gs' H locs hp3 X => ?_)
  obtain ⟨⟨x, e2, rfl⟩, hC, hk⟩ := hpr _ _ _ _ _ _ _ _ _ _ _ _ _ _ _ _ hp2 hp3
  cases e2
  refine W.eq (g2 := F0 m 573 ls [.int (x2), .int (x2)]) rfl ?_
  refine lv_icmp_eq (tgt := 629) C.hx C.hb dL_law_573 (by decide) (fun c573 => ?_) (fun c573 => ?_)
  · exact kk cells slots g _ _ _ _ _ _ _ _ _ _ _ _ _ _ H locs (by omega) (by omega) X hC hk ls hl
  · exact absurd rfl c573
set_option maxHeartbeats 4000000 in
set_option maxRecDepth 100000 in
theorem lc_order {p : Program} {l : Launch} {e : Env} {s : State} {m : MethodId} {below : List Frame} {meth : Method} {c : Code} {H : Heap} {locs : List Loc} {cells slots : Nat} {Q : State → Prop} {b Ls t : Nat} {xs : Nat → Int32} {E : Gq} {z2 z3 : Nat → Nat} {ao : Nat} {g : Nat → Int64} {v2 : Nat → Int32} {kd : Nat} {K : List Int64} {L N S P : List Nat} {v : Nat → Int32} {fk : Nat → Int64} {gl go gi ga : Nat → Nat} {gs : Nat → Int32} {rm wd lr lw lq B : Nat} (C : Cx E p s m #[Value.ref b] meth c cL_law 7 (some .boolean) RL (va_A [] s.heap.size)) (hLs : Ls ≤ 2052) (hX : va_X b Ls xs s s.heap) (hbl : b < s.heap.size) (ht : 4 * t + 8 ≤ Ls) (hp : Par rm wd lr lw lq) (X : LX E (va_A [] s.heap.size) z2 z3 ao g v2 kd K L N S P v fk gl go gi ga gs s H locs) (hC : Cpl rm wd lr lw lq B v2 kd K L N S P v fk gl go gi ga gs) (hk : K.length ≤ 520) (hB : B + 2500 < 2 ^ 30) (hcs : cells + 1 ≤ 601024) (hss : slots + 6 ≤ 7293000) (kk : ∀ (cells' slots' : Nat) (g' : Nat → Int64) (v2' : Nat → Int32) (kd' : Nat) (K' : List Int64) (L' N' S' P' : List Nat) (v' : Nat → Int32) (fk' : Nat → Int64) (gl' go' gi' ga' : Nat → Nat) (gs' : Nat → Int32) (H1 : Heap) (locs1 : List Loc), cells' ≤ cells + 1 → slots' ≤ slots + 6 → LX E (va_A [] s.heap.size) z2 z3 ao g' v2' kd' K' L' N' S' P' v' fk' gl' go' gi' ga' gs' s H1 locs1 → Cpl rm wd lr lw lq (B + 2500) v2' kd' K' L' N' S' P' v' fk' gl' go' gi' ga' gs' → K'.length ≤ K.length + 1 → ∀ ls : Array Slot, lv_has ls 7 [(4, .int (nI (4 + 4 * t))), (3, .ref ao), (2, .ref (z3 0)), (1, .ref (z2 0)), (0, .ref b)] → W p l e room_1 s m #[Value.ref b] below meth c H1 locs1 cells' slots' Q (F0 m 629 ls [])) : ∀ ls : Array Slot, lv_has ls 7 [(4, .int (nI (4 + 4 * t))), (3, .ref ao), (2, .ref (z3 0)), (1, .ref (z2 0)), (0, .ref b)] → W p l e room_1 s m #[Value.ref b] below meth c H locs cells slots Q (F0 m 578 ls []) := by
  intro ls hl
  refine lv_aload_n C.hx C.hb dL_law_578 rfl (lv_at hl 3 rfl) ?_
  refine lv_aload_n C.hx C.hb dL_law_579 rfl (lv_at hl 4 rfl) ?_
  refine lv_iload C.hx C.hb dL_law_580 (lv_at hl 0 rfl) ?_
  refine lv_iconst (v := nI (1)) C.hx C.hb dL_law_582 (by decide) ?_
  refine n_add C dL_law_583 ?_
  refine va_sld C.hx C.hb hX hbl (notA hbl) X.S (vp_in_nI (by omega) (by omega)) dL_law_584 ?_
  refine n_re (j := xs ((4 + 4 * t) + 1)) (congrArg xs (nI_clamp (by omega))) ?_
  obtain ⟨post2, post3, hM2, hM3, hsh, hpr⟩ := pr_order (l := l) (E := E) (z2 := z2) (z3 := z3) (i := xs ((4 + 4 * t) + 1)) hp hC hk hB
  refine l_c2 (As := [.int (xs ((4 + 4 * t) + 1))]) (rest := []) C X hM2 wy_X2_order tw_264 tw_262 rfl ⟨by decide, by decide⟩ rfl hl.1 rfl (Nat.le_of_ble_eq_true rfl) ⟨by show cells ≤ 601024; omega, by show slots ≤ 7293000; omega⟩ dL_law_585 (fun r2 v2' kd' K' L' N' S' P' H locs hp2 X => ?_)
  obtain ⟨x2, rfl⟩ := hsh _ _ _ _ _ _ _ _ hp2
  refine W.eq (g2 := F0 m 588 ls [.long (x2)]) rfl ?_
  refine lv_aload_n C.hx C.hb dL_law_588 rfl (lv_at hl 2 rfl) ?_
  refine lv_aload_n C.hx C.hb dL_law_589 rfl (lv_at hl 4 rfl) ?_
  refine lv_iload C.hx C.hb dL_law_590 (lv_at hl 0 rfl) ?_
  refine lv_iconst (v := nI (1)) C.hx C.hb dL_law_592 (by decide) ?_
  refine n_add C dL_law_593 ?_
  refine va_sld C.hx C.hb hX hbl (notA hbl) X.S (vp_in_nI (by omega) (by omega)) dL_law_594 ?_
  refine n_re (j := xs ((4 + 4 * t) + 1)) (congrArg xs (nI_clamp (by omega))) ?_
  refine l_c3 (As := [.int (xs ((4 + 4 * t) + 1))]) (rest := [.long (x2)]) C X hM3 wy_X3_order tw_533 tw_531 rfl ⟨by decide, by decide⟩ rfl hl.1 rfl (Nat.le_of_ble_eq_true rfl) ⟨by show cells ≤ 601024; omega, by show slots ≤ 7293000; omega⟩ dL_law_595 (fun r3 v' fk' gl' go' gi' ga' gs' H locs hp3 X => ?_)
  obtain ⟨⟨x, e2, rfl⟩, hC, hk⟩ := hpr _ _ _ _ _ _ _ _ _ _ _ _ _ _ _ _ hp2 hp3
  cases e2
  refine W.eq (g2 := F0 m 598 ls [.long (x2), .long (x2)]) rfl ?_
  refine n_lcmp_eq (tgt := 629) C dL_law_598 dL_law_599 (by decide) (fun c598 => ?_) (fun c598 => ?_)
  · exact kk cells slots g _ _ _ _ _ _ _ _ _ _ _ _ _ _ H locs (by omega) (by omega) X hC hk ls hl
  · exact absurd rfl c598
set_option maxHeartbeats 4000000 in
set_option maxRecDepth 100000 in
theorem lc_count {p : Program} {l : Launch} {e : Env} {s : State} {m : MethodId} {below : List Frame} {meth : Method} {c : Code} {H : Heap} {locs : List Loc} {cells slots : Nat} {Q : State → Prop} {b Ls t : Nat} {xs : Nat → Int32} {E : Gq} {z2 z3 : Nat → Nat} {ao : Nat} {g : Nat → Int64} {v2 : Nat → Int32} {kd : Nat} {K : List Int64} {L N S P : List Nat} {v : Nat → Int32} {fk : Nat → Int64} {gl go gi ga : Nat → Nat} {gs : Nat → Int32} {rm wd lr lw lq B : Nat} (C : Cx E p s m #[Value.ref b] meth c cL_law 7 (some .boolean) RL (va_A [] s.heap.size)) (hLs : Ls ≤ 2052) (hX : va_X b Ls xs s s.heap) (hbl : b < s.heap.size) (ht : 4 * t + 8 ≤ Ls) (hp : Par rm wd lr lw lq) (X : LX E (va_A [] s.heap.size) z2 z3 ao g v2 kd K L N S P v fk gl go gi ga gs s H locs) (hC : Cpl rm wd lr lw lq B v2 kd K L N S P v fk gl go gi ga gs) (hk : K.length ≤ 520) (hB : B + 2500 < 2 ^ 30) (hcs : cells + 1 ≤ 601024) (hss : slots + 6 ≤ 7293000) (kk : ∀ (cells' slots' : Nat) (g' : Nat → Int64) (v2' : Nat → Int32) (kd' : Nat) (K' : List Int64) (L' N' S' P' : List Nat) (v' : Nat → Int32) (fk' : Nat → Int64) (gl' go' gi' ga' : Nat → Nat) (gs' : Nat → Int32) (H1 : Heap) (locs1 : List Loc), cells' ≤ cells + 1 → slots' ≤ slots + 6 → LX E (va_A [] s.heap.size) z2 z3 ao g' v2' kd' K' L' N' S' P' v' fk' gl' go' gi' ga' gs' s H1 locs1 → Cpl rm wd lr lw lq (B + 2500) v2' kd' K' L' N' S' P' v' fk' gl' go' gi' ga' gs' → K'.length ≤ K.length + 1 → ∀ ls : Array Slot, lv_has ls 7 [(4, .int (nI (4 + 4 * t))), (3, .ref ao), (2, .ref (z3 0)), (1, .ref (z2 0)), (0, .ref b)] → W p l e room_1 s m #[Value.ref b] below meth c H1 locs1 cells' slots' Q (F0 m 629 ls [])) : ∀ ls : Array Slot, lv_has ls 7 [(4, .int (nI (4 + 4 * t))), (3, .ref ao), (2, .ref (z3 0)), (1, .ref (z2 0)), (0, .ref b)] → W p l e room_1 s m #[Value.ref b] below meth c H locs cells slots Q (F0 m 604 ls []) := by
  intro ls hl
  refine lv_aload_n C.hx C.hb dL_law_604 rfl (lv_at hl 3 rfl) ?_
  refine lv_aload_n C.hx C.hb dL_law_605 rfl (lv_at hl 4 rfl) ?_
  refine lv_iload C.hx C.hb dL_law_606 (lv_at hl 0 rfl) ?_
  refine lv_iconst (v := nI (1)) C.hx C.hb dL_law_608 (by decide) ?_
  refine n_add C dL_law_609 ?_
  refine va_sld C.hx C.hb hX hbl (notA hbl) X.S (vp_in_nI (by omega) (by omega)) dL_law_610 ?_
  refine n_re (j := xs ((4 + 4 * t) + 1)) (congrArg xs (nI_clamp (by omega))) ?_
  obtain ⟨post2, post3, hM2, hM3, hsh, hpr⟩ := pr_count (l := l) (E := E) (z2 := z2) (z3 := z3) (what := xs ((4 + 4 * t) + 1)) hp hC hk hB
  refine l_c2 (As := [.int (xs ((4 + 4 * t) + 1))]) (rest := []) C X hM2 wy_X2_count tw_268 tw_266 rfl ⟨by decide, by decide⟩ rfl hl.1 rfl (Nat.le_of_ble_eq_true rfl) ⟨by show cells ≤ 601024; omega, by show slots ≤ 7293000; omega⟩ dL_law_611 (fun r2 v2' kd' K' L' N' S' P' H locs hp2 X => ?_)
  obtain ⟨x2, rfl⟩ := hsh _ _ _ _ _ _ _ _ hp2
  refine W.eq (g2 := F0 m 614 ls [.int (x2)]) rfl ?_
  refine lv_aload_n C.hx C.hb dL_law_614 rfl (lv_at hl 2 rfl) ?_
  refine lv_aload_n C.hx C.hb dL_law_615 rfl (lv_at hl 4 rfl) ?_
  refine lv_iload C.hx C.hb dL_law_616 (lv_at hl 0 rfl) ?_
  refine lv_iconst (v := nI (1)) C.hx C.hb dL_law_618 (by decide) ?_
  refine n_add C dL_law_619 ?_
  refine va_sld C.hx C.hb hX hbl (notA hbl) X.S (vp_in_nI (by omega) (by omega)) dL_law_620 ?_
  refine n_re (j := xs ((4 + 4 * t) + 1)) (congrArg xs (nI_clamp (by omega))) ?_
  refine l_c3 (As := [.int (xs ((4 + 4 * t) + 1))]) (rest := [.int (x2)]) C X hM3 wy_X3_count tw_537 tw_535 rfl ⟨by decide, by decide⟩ rfl hl.1 rfl (Nat.le_of_ble_eq_true rfl) ⟨by show cells ≤ 601024; omega, by show slots ≤ 7293000; omega⟩ dL_law_621 (fun r3 v' fk' gl' go' gi' ga' gs' H locs hp3 X => ?_)
  obtain ⟨⟨x, e2, rfl⟩, hC, hk⟩ := hpr _ _ _ _ _ _ _ _ _ _ _ _ _ _ _ _ hp2 hp3
  cases e2
  refine W.eq (g2 := F0 m 624 ls [.int (x2), .int (x2)]) rfl ?_
  refine lv_icmp_eq (tgt := 629) C.hx C.hb dL_law_624 (by decide) (fun c624 => ?_) (fun c624 => ?_)
  · exact kk cells slots g _ _ _ _ _ _ _ _ _ _ _ _ _ _ H locs (by omega) (by omega) X hC hk ls hl
  · exact absurd rfl c624
set_option maxHeartbeats 4000000 in
set_option maxRecDepth 100000 in
theorem lc_index_x {p : Program} {l : Launch} {e : Env} {s : State} {m : MethodId} {below : List Frame} {meth : Method} {c : Code} {H : Heap} {locs : List Loc} {cells slots : Nat} {Q : State → Prop} {b Ls t : Nat} {xs : Nat → Int32} {E : Gq} {z2 z3 : Nat → Nat} {ao : Nat} {g : Nat → Int64} {v2 : Nat → Int32} {kd : Nat} {K : List Int64} {L N S P : List Nat} {v : Nat → Int32} {fk : Nat → Int64} {gl go gi ga : Nat → Nat} {gs : Nat → Int32} {rm wd lr lw lq B : Nat} (C : Cx E p s m #[Value.ref b] meth c cL_law 7 (some .boolean) RL (va_A [] s.heap.size)) (hLs : Ls ≤ 2052) (hX : va_X b Ls xs s s.heap) (hbl : b < s.heap.size) (ht : 4 * t + 8 ≤ Ls) (hp : Par rm wd lr lw lq) (X : LX E (va_A [] s.heap.size) z2 z3 ao g v2 kd K L N S P v fk gl go gi ga gs s H locs) (hC : Cpl rm wd lr lw lq B v2 kd K L N S P v fk gl go gi ga gs) (hk : K.length ≤ 520) (hB : B + 2500 < 2 ^ 30) (hcs : cells + 1 ≤ 601024) (hss : slots + 6 ≤ 7293000) (hT : TQ (va_A [] s.heap.size) s s.heap) (hcw : (Cond.codeWith yL_index cL_index 5 (some .int) [(0, 10, 13, 13)]).before #[Value.ref b] s = true) (hfl : ∀ e, l.admits e → e.platform.stackTraces = false) (hb0 : ¬ (xs (4 + 4 * t + 1) = 0 ∧ hld S.length (xs (4 + 4 * t + 2)) ≠ 0)) (hb1 : ¬ (xs (4 + 4 * t + 1) = 1 ∧ hld P.length (xs (4 + 4 * t + 2)) ≠ 0)) (kk : ∀ (cells' slots' : Nat) (g' : Nat → Int64) (v2' : Nat → Int32) (kd' : Nat) (K' : List Int64) (L' N' S' P' : List Nat) (v' : Nat → Int32) (fk' : Nat → Int64) (gl' go' gi' ga' : Nat → Nat) (gs' : Nat → Int32) (H1 : Heap) (locs1 : List Loc), cells' ≤ cells + 1 → slots' ≤ slots + 6 → LX E (va_A [] s.heap.size) z2 z3 ao g' v2' kd' K' L' N' S' P' v' fk' gl' go' gi' ga' gs' s H1 locs1 → Cpl rm wd lr lw lq (B + 2500) v2' kd' K' L' N' S' P' v' fk' gl' go' gi' ga' gs' → K'.length ≤ K.length + 1 → ∀ ls : Array Slot, lv_has ls 7 [(4, .int (nI (4 + 4 * t))), (3, .ref ao), (2, .ref (z3 0)), (1, .ref (z2 0)), (0, .ref b)] → W p l e room_1 s m #[Value.ref b] below meth c H1 locs1 cells' slots' Q (F0 m 629 ls [])) : ∀ ls : Array Slot, lv_has ls 7 [(4, .int (nI (4 + 4 * t))), (3, .ref ao), (2, .ref (z3 0)), (1, .ref (z2 0)), (0, .ref b)] → W p l e room_1 s m #[Value.ref b] below meth c H locs cells slots Q (F0 m 484 ls []) := by
  intro ls hl
  obtain ⟨nx, ac, tc, cl, hr, cp, A, hCo, hS, hcl, hn1, hn2⟩ := id hC
  obtain ⟨hR, hJ, c1, c2, c3, c4, c5, c6, b1, b2, b3, b4⟩ := id hCo
  obtain ⟨a0, a1, a2, a3, a9, a10, a11, a15, a16, a17, a18, d1, d2, d3, d4, d8, d11, d12, d13, d14, d17, ec⟩ := id hS
  obtain ⟨j1, j2, j3, j4, j5, j6, j7, j8⟩ := id hJ
  obtain ⟨k1, k2, k3, k4⟩ := hJ.b
  have h3 : Ctx3 v fk gl go gi ga K L N S P A := ⟨hR, hJ, by omega, d8, d11, b1, b2, b3, b4, c1⟩
  refine lv_aload_n C.hx C.hb dL_law_484 rfl (lv_at hl 3 rfl) ?_
  refine lv_aload_n C.hx C.hb dL_law_485 rfl (lv_at hl 4 rfl) ?_
  refine lv_iload C.hx C.hb dL_law_486 (lv_at hl 0 rfl) ?_
  refine lv_iconst (v := nI (1)) C.hx C.hb dL_law_488 (by decide) ?_
  refine n_add C dL_law_489 ?_
  refine va_sld C.hx C.hb hX hbl (notA hbl) X.S (vp_in_nI (by omega) (by omega)) dL_law_490 ?_
  refine n_re (j := xs ((4 + 4 * t) + 1)) (congrArg xs (nI_clamp (by omega))) ?_
  refine lv_aload_n C.hx C.hb dL_law_491 rfl (lv_at hl 4 rfl) ?_
  refine lv_iload C.hx C.hb dL_law_492 (lv_at hl 0 rfl) ?_
  refine lv_iconst (v := nI (2)) C.hx C.hb dL_law_494 (by decide) ?_
  refine n_add C dL_law_495 ?_
  refine va_sld C.hx C.hb hX hbl (notA hbl) X.S (vp_in_nI (by omega) (by omega)) dL_law_496 ?_
  refine n_re (j := xs ((4 + 4 * t) + 2)) (congrArg xs (nI_clamp (by omega))) ?_
  refine lv_aload_n C.hx C.hb dL_law_497 rfl (lv_at hl 1 rfl) ?_
  refine l_ix_x (lev := xs ((4 + 4 * t) + 1)) (i := xs ((4 + 4 * t) + 2)) (rest := []) C hT hcw X hfl hb0 hb1 ⟨by decide, by decide⟩ hl.1 (Nat.le_of_ble_eq_true rfl) ⟨by show cells + 1 ≤ 601024; omega, by show slots + 6 ≤ 7293000; omega⟩ dL_law_498 (fun H locs X => ?_)
  refine lv_istore (lv' := [(5, .int (nI (1))), (4, .int (nI (4 + 4 * t))), (3, .ref (ao)), (2, .ref (z3 0)), (1, .ref (z2 0)), (0, .ref (b))]) C.hx C.hb dL_law_501 hl (by decide) rfl (fun ls hl => ?_)
  refine lv_aload_n C.hx C.hb dL_law_503 rfl (lv_at hl 3 rfl) ?_
  refine lv_aload_n C.hx C.hb dL_law_504 rfl (lv_at hl 5 rfl) ?_
  refine lv_iload C.hx C.hb dL_law_505 (lv_at hl 1 rfl) ?_
  refine lv_iconst (v := nI (1)) C.hx C.hb dL_law_507 (by decide) ?_
  refine n_add C dL_law_508 ?_
  refine va_sld C.hx C.hb hX hbl (notA hbl) X.S (vp_in_nI (by omega) (by omega)) dL_law_509 ?_
  refine n_re (j := xs ((4 + 4 * t) + 1)) (congrArg xs (nI_clamp (by omega))) ?_
  refine lv_aload_n C.hx C.hb dL_law_510 rfl (lv_at hl 5 rfl) ?_
  refine lv_iload C.hx C.hb dL_law_511 (lv_at hl 1 rfl) ?_
  refine lv_iconst (v := nI (2)) C.hx C.hb dL_law_513 (by decide) ?_
  refine n_add C dL_law_514 ?_
  refine va_sld C.hx C.hb hX hbl (notA hbl) X.S (vp_in_nI (by omega) (by omega)) dL_law_515 ?_
  refine n_re (j := xs ((4 + 4 * t) + 2)) (congrArg xs (nI_clamp (by omega))) ?_
  refine l_c3 (As := [.int (xs ((4 + 4 * t) + 1)), .int (xs ((4 + 4 * t) + 2))]) (rest := []) C X (c3_index_b h3 hb0 hb1) wy_X3_index tw_525 tw_523 rfl ⟨by decide, by decide⟩ rfl hl.1 rfl (Nat.le_of_ble_eq_true rfl) ⟨by show cells + 1 ≤ 601024; omega, by show slots + 6 ≤ 7293000; omega⟩ dL_law_516 (fun r3 v' fk' gl' go' gi' ga' gs' H locs hp3 X => ?_)
  obtain ⟨rfl, rfl, rfl, rfl, rfl, rfl, rfl, rfl⟩ := hp3
  refine W.eq (g2 := F0 m 519 ls [.int (nI (0))]) rfl ?_
  refine lv_istore (lv' := [(6, .int (nI (0))), (5, .int (nI (1))), (4, .int (nI (4 + 4 * t))), (3, .ref (ao)), (2, .ref (z3 0)), (1, .ref (z2 0)), (0, .ref (b))]) C.hx C.hb dL_law_519 hl (by decide) rfl (fun ls hl => ?_)
  refine lv_aload_n C.hx C.hb dL_law_521 rfl (lv_at hl 4 rfl) ?_
  refine l_c3r (As := []) (rest := []) C X (c3_thrown (x := nI 1) rfl) wy_X3_thrown tw_429 tw_427 rfl ⟨by decide, by decide⟩ rfl hl.1 rfl (Nat.le_of_ble_eq_true rfl) ⟨by show cells + 1 ≤ 601024; omega, by show slots + 6 ≤ 7293000; omega⟩ dL_law_522 (fun r3 hp3 => ?_)
  subst hp3
  refine W.eq (g2 := F0 m 525 ls [.int (nI (1))]) rfl ?_
  refine lv_iload C.hx C.hb dL_law_525 (lv_at hl 1 rfl) ?_
  refine n_icmp_eq (tgt := 532) C dL_law_527 (by decide) (by decide) (by decide) (fun _ => ?_) (fun h => absurd h (by decide))
  refine lv_iload C.hx C.hb dL_law_532 (lv_at hl 1 rfl) ?_
  refine n_if_ne (tgt := 549) C dL_law_534 (by decide) (by decide) (fun _ => ?_) (fun h => absurd h (by decide))
  refine lv_goto (tgt := 629) C.hx C.hb dL_law_549 (by decide) ?_
  exact kk (cells + 1) (slots + 6) (g) _ _ _ _ _ _ _ _ _ _ _ _ _ _ H locs (by omega) (by omega) X (hC.code (by omega)) (Nat.le_succ _) ls (lv_sub hl [2, 3, 4, 5, 6] rfl)
set_option maxHeartbeats 4000000 in
set_option maxRecDepth 100000 in
theorem lc_index_0 {p : Program} {l : Launch} {e : Env} {s : State} {m : MethodId} {below : List Frame} {meth : Method} {c : Code} {H : Heap} {locs : List Loc} {cells slots : Nat} {Q : State → Prop} {b Ls t : Nat} {xs : Nat → Int32} {E : Gq} {z2 z3 : Nat → Nat} {ao : Nat} {g : Nat → Int64} {v2 : Nat → Int32} {kd : Nat} {K : List Int64} {L N S P : List Nat} {v : Nat → Int32} {fk : Nat → Int64} {gl go gi ga : Nat → Nat} {gs : Nat → Int32} {rm wd lr lw lq B : Nat} (C : Cx E p s m #[Value.ref b] meth c cL_law 7 (some .boolean) RL (va_A [] s.heap.size)) (hLs : Ls ≤ 2052) (hX : va_X b Ls xs s s.heap) (hbl : b < s.heap.size) (ht : 4 * t + 8 ≤ Ls) (hp : Par rm wd lr lw lq) (X : LX E (va_A [] s.heap.size) z2 z3 ao g v2 kd K L N S P v fk gl go gi ga gs s H locs) (hC : Cpl rm wd lr lw lq B v2 kd K L N S P v fk gl go gi ga gs) (hk : K.length ≤ 520) (hB : B + 2500 < 2 ^ 30) (hcs : cells + 1 ≤ 601024) (hss : slots + 6 ≤ 7293000) (hT : TQ (va_A [] s.heap.size) s s.heap) (hcw : (Cond.codeWith yL_index cL_index 5 (some .int) [(0, 10, 13, 13)]).before #[Value.ref b] s = true) {j : Nat} (hj : j < S.length) (h1 : 1 ≤ S.getD j 0) (hlv : xs (4 + 4 * t + 1) = nI 0) (hij : xs (4 + 4 * t + 2) = nI j) (kk : ∀ (cells' slots' : Nat) (g' : Nat → Int64) (v2' : Nat → Int32) (kd' : Nat) (K' : List Int64) (L' N' S' P' : List Nat) (v' : Nat → Int32) (fk' : Nat → Int64) (gl' go' gi' ga' : Nat → Nat) (gs' : Nat → Int32) (H1 : Heap) (locs1 : List Loc), cells' ≤ cells + 1 → slots' ≤ slots + 6 → LX E (va_A [] s.heap.size) z2 z3 ao g' v2' kd' K' L' N' S' P' v' fk' gl' go' gi' ga' gs' s H1 locs1 → Cpl rm wd lr lw lq (B + 2500) v2' kd' K' L' N' S' P' v' fk' gl' go' gi' ga' gs' → K'.length ≤ K.length + 1 → ∀ ls : Array Slot, lv_has ls 7 [(4, .int (nI (4 + 4 * t))), (3, .ref ao), (2, .ref (z3 0)), (1, .ref (z2 0)), (0, .ref b)] → W p l e room_1 s m #[Value.ref b] below meth c H1 locs1 cells' slots' Q (F0 m 629 ls [])) : ∀ ls : Array Slot, lv_has ls 7 [(4, .int (nI (4 + 4 * t))), (3, .ref ao), (2, .ref (z3 0)), (1, .ref (z2 0)), (0, .ref b)] → W p l e room_1 s m #[Value.ref b] below meth c H locs cells slots Q (F0 m 484 ls []) := by
  intro ls hl
  obtain ⟨nx, ac, tc, cl, hr, cp, A, hCo, hS, hcl, hn1, hn2⟩ := id hC
  obtain ⟨hR, hJ, c1, c2, c3, c4, c5, c6, b1, b2, b3, b4⟩ := id hCo
  obtain ⟨a0, a1, a2, a3, a9, a10, a11, a15, a16, a17, a18, d1, d2, d3, d4, d8, d11, d12, d13, d14, d17, ec⟩ := id hS
  obtain ⟨j1, j2, j3, j4, j5, j6, j7, j8⟩ := id hJ
  obtain ⟨k1, k2, k3, k4⟩ := hJ.b
  have h3 : Ctx3 v fk gl go gi ga K L N S P A := ⟨hR, hJ, by omega, d8, d11, b1, b2, b3, b4, c1⟩
  refine lv_aload_n C.hx C.hb dL_law_484 rfl (lv_at hl 3 rfl) ?_
  refine lv_aload_n C.hx C.hb dL_law_485 rfl (lv_at hl 4 rfl) ?_
  refine lv_iload C.hx C.hb dL_law_486 (lv_at hl 0 rfl) ?_
  refine lv_iconst (v := nI (1)) C.hx C.hb dL_law_488 (by decide) ?_
  refine n_add C dL_law_489 ?_
  refine va_sld C.hx C.hb hX hbl (notA hbl) X.S (vp_in_nI (by omega) (by omega)) dL_law_490 ?_
  refine n_re (j := xs ((4 + 4 * t) + 1)) (congrArg xs (nI_clamp (by omega))) ?_
  refine lv_aload_n C.hx C.hb dL_law_491 rfl (lv_at hl 4 rfl) ?_
  refine lv_iload C.hx C.hb dL_law_492 (lv_at hl 0 rfl) ?_
  refine lv_iconst (v := nI (2)) C.hx C.hb dL_law_494 (by decide) ?_
  refine n_add C dL_law_495 ?_
  refine va_sld C.hx C.hb hX hbl (notA hbl) X.S (vp_in_nI (by omega) (by omega)) dL_law_496 ?_
  refine n_re (j := xs ((4 + 4 * t) + 2)) (congrArg xs (nI_clamp (by omega))) ?_
  refine lv_aload_n C.hx C.hb dL_law_497 rfl (lv_at hl 1 rfl) ?_
  refine l_ix_0 (lev := xs ((4 + 4 * t) + 1)) (i := xs ((4 + 4 * t) + 2)) (rest := []) C hT hcw X hJ hj hlv hij ⟨by decide, by decide⟩ hl.1 (Nat.le_of_ble_eq_true rfl) ⟨by show cells + 0 ≤ 601024; omega, by show slots + 0 ≤ 7293000; omega⟩ dL_law_498 (fun H locs X => ?_)
  refine lv_istore (lv' := [(5, .int (nI (0))), (4, .int (nI (4 + 4 * t))), (3, .ref (ao)), (2, .ref (z3 0)), (1, .ref (z2 0)), (0, .ref (b))]) C.hx C.hb dL_law_501 hl (by decide) rfl (fun ls hl => ?_)
  refine lv_aload_n C.hx C.hb dL_law_503 rfl (lv_at hl 3 rfl) ?_
  refine lv_aload_n C.hx C.hb dL_law_504 rfl (lv_at hl 5 rfl) ?_
  refine lv_iload C.hx C.hb dL_law_505 (lv_at hl 1 rfl) ?_
  refine lv_iconst (v := nI (1)) C.hx C.hb dL_law_507 (by decide) ?_
  refine n_add C dL_law_508 ?_
  refine va_sld C.hx C.hb hX hbl (notA hbl) X.S (vp_in_nI (by omega) (by omega)) dL_law_509 ?_
  refine n_re (j := xs ((4 + 4 * t) + 1)) (congrArg xs (nI_clamp (by omega))) ?_
  refine lv_aload_n C.hx C.hb dL_law_510 rfl (lv_at hl 5 rfl) ?_
  refine lv_iload C.hx C.hb dL_law_511 (lv_at hl 1 rfl) ?_
  refine lv_iconst (v := nI (2)) C.hx C.hb dL_law_513 (by decide) ?_
  refine n_add C dL_law_514 ?_
  refine va_sld C.hx C.hb hX hbl (notA hbl) X.S (vp_in_nI (by omega) (by omega)) dL_law_515 ?_
  refine n_re (j := xs ((4 + 4 * t) + 2)) (congrArg xs (nI_clamp (by omega))) ?_
  refine l_c3 (As := [.int (xs ((4 + 4 * t) + 1)), .int (xs ((4 + 4 * t) + 2))]) (rest := []) C X ((by rw [hlv, hij]; exact c3_index_0 (j := j) h3 hj h1)) wy_X3_index tw_525 tw_523 rfl ⟨by decide, by decide⟩ rfl hl.1 rfl (Nat.le_of_ble_eq_true rfl) ⟨by show cells + 0 ≤ 601024; omega, by show slots + 0 ≤ 7293000; omega⟩ dL_law_516 (fun r3 v' fk' gl' go' gi' ga' gs' H locs hp3 X => ?_)
  obtain ⟨rfl, rfl, rfl, rfl, rfl, rfl, rfl, rfl⟩ := hp3
  refine W.eq (g2 := F0 m 519 ls [.int ((K.getD (sm S 0 j) 0).toInt32)]) rfl ?_
  refine lv_istore (lv' := [(6, .int ((K.getD (sm S 0 j) 0).toInt32)), (5, .int (nI (0))), (4, .int (nI (4 + 4 * t))), (3, .ref (ao)), (2, .ref (z3 0)), (1, .ref (z2 0)), (0, .ref (b))]) C.hx C.hb dL_law_519 hl (by decide) rfl (fun ls hl => ?_)
  refine lv_aload_n C.hx C.hb dL_law_521 rfl (lv_at hl 4 rfl) ?_
  refine l_c3r (As := []) (rest := []) C X (c3_thrown (x := nI 0) rfl) wy_X3_thrown tw_429 tw_427 rfl ⟨by decide, by decide⟩ rfl hl.1 rfl (Nat.le_of_ble_eq_true rfl) ⟨by show cells + 0 ≤ 601024; omega, by show slots + 0 ≤ 7293000; omega⟩ dL_law_522 (fun r3 hp3 => ?_)
  subst hp3
  refine W.eq (g2 := F0 m 525 ls [.int (nI (0))]) rfl ?_
  refine lv_iload C.hx C.hb dL_law_525 (lv_at hl 1 rfl) ?_
  refine n_icmp_eq (tgt := 532) C dL_law_527 (by decide) (by decide) (by decide) (fun _ => ?_) (fun h => absurd h (by decide))
  refine lv_iload C.hx C.hb dL_law_532 (lv_at hl 1 rfl) ?_
  refine n_if_ne (tgt := 549) C dL_law_534 (by decide) (by decide) (fun h => absurd h (by decide)) (fun _ => ?_)
  refine lv_aload_n C.hx C.hb dL_law_537 rfl (lv_at hl 3 rfl) ?_
  refine lv_iconst (v := nI (0)) C.hx C.hb dL_law_538 (by decide) ?_
  obtain ⟨f, Wd, hf⟩ := id X
  refine lald C Wd 18 rfl (vp_in_nI (by decide) (by decide)) dL_law_539 ?_
  refine n_rel (y := ((K.getD (sm S 0 j) 0).toInt32).toInt64) (by show vp_updL g 0 _ (nI 0).toNatClampNeg = _; rw [nI_clamp (by decide)]; unfold vp_updL; rw [if_pos rfl]) ?_
  refine lv_iload C.hx C.hb dL_law_540 (lv_at hl 0 rfl) ?_
  refine lv_i2l C.hx C.hb dL_law_542 rfl ?_
  refine n_lcmp_eq (tgt := 549) C dL_law_543 dL_law_544 (by decide) (fun c543 => ?_) (fun c543 => ?_)
  · refine lv_goto (tgt := 629) C.hx C.hb dL_law_549 (by decide) ?_
    exact kk (cells + 0) (slots + 0) (vp_updL g 0 ((K.getD (sm S 0 j) 0).toInt32).toInt64) _ _ _ _ _ _ _ _ _ _ _ _ _ _ H locs (by omega) (by omega) X (hC.code (by omega)) (Nat.le_succ _) ls (lv_sub hl [2, 3, 4, 5, 6] rfl)
  · exact absurd rfl c543
set_option maxHeartbeats 4000000 in
set_option maxRecDepth 100000 in
theorem lc_index_0e {p : Program} {l : Launch} {e : Env} {s : State} {m : MethodId} {below : List Frame} {meth : Method} {c : Code} {H : Heap} {locs : List Loc} {cells slots : Nat} {Q : State → Prop} {b Ls t : Nat} {xs : Nat → Int32} {E : Gq} {z2 z3 : Nat → Nat} {ao : Nat} {g : Nat → Int64} {v2 : Nat → Int32} {kd : Nat} {K : List Int64} {L N S P : List Nat} {v : Nat → Int32} {fk : Nat → Int64} {gl go gi ga : Nat → Nat} {gs : Nat → Int32} {rm wd lr lw lq B : Nat} (C : Cx E p s m #[Value.ref b] meth c cL_law 7 (some .boolean) RL (va_A [] s.heap.size)) (hLs : Ls ≤ 2052) (hX : va_X b Ls xs s s.heap) (hbl : b < s.heap.size) (ht : 4 * t + 8 ≤ Ls) (hp : Par rm wd lr lw lq) (X : LX E (va_A [] s.heap.size) z2 z3 ao g v2 kd K L N S P v fk gl go gi ga gs s H locs) (hC : Cpl rm wd lr lw lq B v2 kd K L N S P v fk gl go gi ga gs) (hk : K.length ≤ 520) (hB : B + 2500 < 2 ^ 30) (hcs : cells + 1 ≤ 601024) (hss : slots + 6 ≤ 7293000) (hT : TQ (va_A [] s.heap.size) s s.heap) (hcw : (Cond.codeWith yL_index cL_index 5 (some .int) [(0, 10, 13, 13)]).before #[Value.ref b] s = true) {j : Nat} (hj : j < S.length) (h0 : K.length = 0) (hlv : xs (4 + 4 * t + 1) = nI 0) (hij : xs (4 + 4 * t + 2) = nI j) (kk : ∀ (cells' slots' : Nat) (g' : Nat → Int64) (v2' : Nat → Int32) (kd' : Nat) (K' : List Int64) (L' N' S' P' : List Nat) (v' : Nat → Int32) (fk' : Nat → Int64) (gl' go' gi' ga' : Nat → Nat) (gs' : Nat → Int32) (H1 : Heap) (locs1 : List Loc), cells' ≤ cells + 1 → slots' ≤ slots + 6 → LX E (va_A [] s.heap.size) z2 z3 ao g' v2' kd' K' L' N' S' P' v' fk' gl' go' gi' ga' gs' s H1 locs1 → Cpl rm wd lr lw lq (B + 2500) v2' kd' K' L' N' S' P' v' fk' gl' go' gi' ga' gs' → K'.length ≤ K.length + 1 → ∀ ls : Array Slot, lv_has ls 7 [(4, .int (nI (4 + 4 * t))), (3, .ref ao), (2, .ref (z3 0)), (1, .ref (z2 0)), (0, .ref b)] → W p l e room_1 s m #[Value.ref b] below meth c H1 locs1 cells' slots' Q (F0 m 629 ls [])) : ∀ ls : Array Slot, lv_has ls 7 [(4, .int (nI (4 + 4 * t))), (3, .ref ao), (2, .ref (z3 0)), (1, .ref (z2 0)), (0, .ref b)] → W p l e room_1 s m #[Value.ref b] below meth c H locs cells slots Q (F0 m 484 ls []) := by
  intro ls hl
  obtain ⟨nx, ac, tc, cl, hr, cp, A, hCo, hS, hcl, hn1, hn2⟩ := id hC
  obtain ⟨hR, hJ, c1, c2, c3, c4, c5, c6, b1, b2, b3, b4⟩ := id hCo
  obtain ⟨a0, a1, a2, a3, a9, a10, a11, a15, a16, a17, a18, d1, d2, d3, d4, d8, d11, d12, d13, d14, d17, ec⟩ := id hS
  obtain ⟨j1, j2, j3, j4, j5, j6, j7, j8⟩ := id hJ
  obtain ⟨k1, k2, k3, k4⟩ := hJ.b
  have h3 : Ctx3 v fk gl go gi ga K L N S P A := ⟨hR, hJ, by omega, d8, d11, b1, b2, b3, b4, c1⟩
  refine lv_aload_n C.hx C.hb dL_law_484 rfl (lv_at hl 3 rfl) ?_
  refine lv_aload_n C.hx C.hb dL_law_485 rfl (lv_at hl 4 rfl) ?_
  refine lv_iload C.hx C.hb dL_law_486 (lv_at hl 0 rfl) ?_
  refine lv_iconst (v := nI (1)) C.hx C.hb dL_law_488 (by decide) ?_
  refine n_add C dL_law_489 ?_
  refine va_sld C.hx C.hb hX hbl (notA hbl) X.S (vp_in_nI (by omega) (by omega)) dL_law_490 ?_
  refine n_re (j := xs ((4 + 4 * t) + 1)) (congrArg xs (nI_clamp (by omega))) ?_
  refine lv_aload_n C.hx C.hb dL_law_491 rfl (lv_at hl 4 rfl) ?_
  refine lv_iload C.hx C.hb dL_law_492 (lv_at hl 0 rfl) ?_
  refine lv_iconst (v := nI (2)) C.hx C.hb dL_law_494 (by decide) ?_
  refine n_add C dL_law_495 ?_
  refine va_sld C.hx C.hb hX hbl (notA hbl) X.S (vp_in_nI (by omega) (by omega)) dL_law_496 ?_
  refine n_re (j := xs ((4 + 4 * t) + 2)) (congrArg xs (nI_clamp (by omega))) ?_
  refine lv_aload_n C.hx C.hb dL_law_497 rfl (lv_at hl 1 rfl) ?_
  refine l_ix_0 (lev := xs ((4 + 4 * t) + 1)) (i := xs ((4 + 4 * t) + 2)) (rest := []) C hT hcw X hJ hj hlv hij ⟨by decide, by decide⟩ hl.1 (Nat.le_of_ble_eq_true rfl) ⟨by show cells + 0 ≤ 601024; omega, by show slots + 0 ≤ 7293000; omega⟩ dL_law_498 (fun H locs X => ?_)
  refine lv_istore (lv' := [(5, .int (nI (0))), (4, .int (nI (4 + 4 * t))), (3, .ref (ao)), (2, .ref (z3 0)), (1, .ref (z2 0)), (0, .ref (b))]) C.hx C.hb dL_law_501 hl (by decide) rfl (fun ls hl => ?_)
  refine lv_aload_n C.hx C.hb dL_law_503 rfl (lv_at hl 3 rfl) ?_
  refine lv_aload_n C.hx C.hb dL_law_504 rfl (lv_at hl 5 rfl) ?_
  refine lv_iload C.hx C.hb dL_law_505 (lv_at hl 1 rfl) ?_
  refine lv_iconst (v := nI (1)) C.hx C.hb dL_law_507 (by decide) ?_
  refine n_add C dL_law_508 ?_
  refine va_sld C.hx C.hb hX hbl (notA hbl) X.S (vp_in_nI (by omega) (by omega)) dL_law_509 ?_
  refine n_re (j := xs ((4 + 4 * t) + 1)) (congrArg xs (nI_clamp (by omega))) ?_
  refine lv_aload_n C.hx C.hb dL_law_510 rfl (lv_at hl 5 rfl) ?_
  refine lv_iload C.hx C.hb dL_law_511 (lv_at hl 1 rfl) ?_
  refine lv_iconst (v := nI (2)) C.hx C.hb dL_law_513 (by decide) ?_
  refine n_add C dL_law_514 ?_
  refine va_sld C.hx C.hb hX hbl (notA hbl) X.S (vp_in_nI (by omega) (by omega)) dL_law_515 ?_
  refine n_re (j := xs ((4 + 4 * t) + 2)) (congrArg xs (nI_clamp (by omega))) ?_
  refine l_c3 (As := [.int (xs ((4 + 4 * t) + 1)), .int (xs ((4 + 4 * t) + 2))]) (rest := []) C X ((by rw [hlv, hij]; exact c3_index_0e (j := j) h3 hj h0)) wy_X3_index tw_525 tw_523 rfl ⟨by decide, by decide⟩ rfl hl.1 rfl (Nat.le_of_ble_eq_true rfl) ⟨by show cells + 0 ≤ 601024; omega, by show slots + 0 ≤ 7293000; omega⟩ dL_law_516 (fun r3 v' fk' gl' go' gi' ga' gs' H locs hp3 X => ?_)
  obtain ⟨rfl, rfl, rfl, rfl, rfl, rfl, rfl, rfl⟩ := hp3
  refine W.eq (g2 := F0 m 519 ls [.int ((K.getD (sm S 0 j) 0).toInt32)]) rfl ?_
  refine lv_istore (lv' := [(6, .int ((K.getD (sm S 0 j) 0).toInt32)), (5, .int (nI (0))), (4, .int (nI (4 + 4 * t))), (3, .ref (ao)), (2, .ref (z3 0)), (1, .ref (z2 0)), (0, .ref (b))]) C.hx C.hb dL_law_519 hl (by decide) rfl (fun ls hl => ?_)
  refine lv_aload_n C.hx C.hb dL_law_521 rfl (lv_at hl 4 rfl) ?_
  refine l_c3r (As := []) (rest := []) C X (c3_thrown (x := nI 0) rfl) wy_X3_thrown tw_429 tw_427 rfl ⟨by decide, by decide⟩ rfl hl.1 rfl (Nat.le_of_ble_eq_true rfl) ⟨by show cells + 0 ≤ 601024; omega, by show slots + 0 ≤ 7293000; omega⟩ dL_law_522 (fun r3 hp3 => ?_)
  subst hp3
  refine W.eq (g2 := F0 m 525 ls [.int (nI (0))]) rfl ?_
  refine lv_iload C.hx C.hb dL_law_525 (lv_at hl 1 rfl) ?_
  refine n_icmp_eq (tgt := 532) C dL_law_527 (by decide) (by decide) (by decide) (fun _ => ?_) (fun h => absurd h (by decide))
  refine lv_iload C.hx C.hb dL_law_532 (lv_at hl 1 rfl) ?_
  refine n_if_ne (tgt := 549) C dL_law_534 (by decide) (by decide) (fun h => absurd h (by decide)) (fun _ => ?_)
  refine lv_aload_n C.hx C.hb dL_law_537 rfl (lv_at hl 3 rfl) ?_
  refine lv_iconst (v := nI (0)) C.hx C.hb dL_law_538 (by decide) ?_
  obtain ⟨f, Wd, hf⟩ := id X
  refine lald C Wd 18 rfl (vp_in_nI (by decide) (by decide)) dL_law_539 ?_
  refine n_rel (y := ((K.getD (sm S 0 j) 0).toInt32).toInt64) (by show vp_updL g 0 _ (nI 0).toNatClampNeg = _; rw [nI_clamp (by decide)]; unfold vp_updL; rw [if_pos rfl]) ?_
  refine lv_iload C.hx C.hb dL_law_540 (lv_at hl 0 rfl) ?_
  refine lv_i2l C.hx C.hb dL_law_542 rfl ?_
  refine n_lcmp_eq (tgt := 549) C dL_law_543 dL_law_544 (by decide) (fun c543 => ?_) (fun c543 => ?_)
  · refine lv_goto (tgt := 629) C.hx C.hb dL_law_549 (by decide) ?_
    exact kk (cells + 0) (slots + 0) (vp_updL g 0 ((K.getD (sm S 0 j) 0).toInt32).toInt64) _ _ _ _ _ _ _ _ _ _ _ _ _ _ H locs (by omega) (by omega) X (hC.code (by omega)) (Nat.le_succ _) ls (lv_sub hl [2, 3, 4, 5, 6] rfl)
  · exact absurd rfl c543
set_option maxHeartbeats 4000000 in
set_option maxRecDepth 100000 in
theorem lc_index_1 {p : Program} {l : Launch} {e : Env} {s : State} {m : MethodId} {below : List Frame} {meth : Method} {c : Code} {H : Heap} {locs : List Loc} {cells slots : Nat} {Q : State → Prop} {b Ls t : Nat} {xs : Nat → Int32} {E : Gq} {z2 z3 : Nat → Nat} {ao : Nat} {g : Nat → Int64} {v2 : Nat → Int32} {kd : Nat} {K : List Int64} {L N S P : List Nat} {v : Nat → Int32} {fk : Nat → Int64} {gl go gi ga : Nat → Nat} {gs : Nat → Int32} {rm wd lr lw lq B : Nat} (C : Cx E p s m #[Value.ref b] meth c cL_law 7 (some .boolean) RL (va_A [] s.heap.size)) (hLs : Ls ≤ 2052) (hX : va_X b Ls xs s s.heap) (hbl : b < s.heap.size) (ht : 4 * t + 8 ≤ Ls) (hp : Par rm wd lr lw lq) (X : LX E (va_A [] s.heap.size) z2 z3 ao g v2 kd K L N S P v fk gl go gi ga gs s H locs) (hC : Cpl rm wd lr lw lq B v2 kd K L N S P v fk gl go gi ga gs) (hk : K.length ≤ 520) (hB : B + 2500 < 2 ^ 30) (hcs : cells + 1 ≤ 601024) (hss : slots + 6 ≤ 7293000) (hT : TQ (va_A [] s.heap.size) s s.heap) (hcw : (Cond.codeWith yL_index cL_index 5 (some .int) [(0, 10, 13, 13)]).before #[Value.ref b] s = true) {j : Nat} (hj : j < P.length) (h1 : 1 ≤ S.getD (sm P 0 j) 0) (hlv : xs (4 + 4 * t + 1) = nI 1) (hij : xs (4 + 4 * t + 2) = nI j) (kk : ∀ (cells' slots' : Nat) (g' : Nat → Int64) (v2' : Nat → Int32) (kd' : Nat) (K' : List Int64) (L' N' S' P' : List Nat) (v' : Nat → Int32) (fk' : Nat → Int64) (gl' go' gi' ga' : Nat → Nat) (gs' : Nat → Int32) (H1 : Heap) (locs1 : List Loc), cells' ≤ cells + 1 → slots' ≤ slots + 6 → LX E (va_A [] s.heap.size) z2 z3 ao g' v2' kd' K' L' N' S' P' v' fk' gl' go' gi' ga' gs' s H1 locs1 → Cpl rm wd lr lw lq (B + 2500) v2' kd' K' L' N' S' P' v' fk' gl' go' gi' ga' gs' → K'.length ≤ K.length + 1 → ∀ ls : Array Slot, lv_has ls 7 [(4, .int (nI (4 + 4 * t))), (3, .ref ao), (2, .ref (z3 0)), (1, .ref (z2 0)), (0, .ref b)] → W p l e room_1 s m #[Value.ref b] below meth c H1 locs1 cells' slots' Q (F0 m 629 ls [])) : ∀ ls : Array Slot, lv_has ls 7 [(4, .int (nI (4 + 4 * t))), (3, .ref ao), (2, .ref (z3 0)), (1, .ref (z2 0)), (0, .ref b)] → W p l e room_1 s m #[Value.ref b] below meth c H locs cells slots Q (F0 m 484 ls []) := by
  intro ls hl
  obtain ⟨nx, ac, tc, cl, hr, cp, A, hCo, hS, hcl, hn1, hn2⟩ := id hC
  obtain ⟨hR, hJ, c1, c2, c3, c4, c5, c6, b1, b2, b3, b4⟩ := id hCo
  obtain ⟨a0, a1, a2, a3, a9, a10, a11, a15, a16, a17, a18, d1, d2, d3, d4, d8, d11, d12, d13, d14, d17, ec⟩ := id hS
  obtain ⟨j1, j2, j3, j4, j5, j6, j7, j8⟩ := id hJ
  obtain ⟨k1, k2, k3, k4⟩ := hJ.b
  have h3 : Ctx3 v fk gl go gi ga K L N S P A := ⟨hR, hJ, by omega, d8, d11, b1, b2, b3, b4, c1⟩
  refine lv_aload_n C.hx C.hb dL_law_484 rfl (lv_at hl 3 rfl) ?_
  refine lv_aload_n C.hx C.hb dL_law_485 rfl (lv_at hl 4 rfl) ?_
  refine lv_iload C.hx C.hb dL_law_486 (lv_at hl 0 rfl) ?_
  refine lv_iconst (v := nI (1)) C.hx C.hb dL_law_488 (by decide) ?_
  refine n_add C dL_law_489 ?_
  refine va_sld C.hx C.hb hX hbl (notA hbl) X.S (vp_in_nI (by omega) (by omega)) dL_law_490 ?_
  refine n_re (j := xs ((4 + 4 * t) + 1)) (congrArg xs (nI_clamp (by omega))) ?_
  refine lv_aload_n C.hx C.hb dL_law_491 rfl (lv_at hl 4 rfl) ?_
  refine lv_iload C.hx C.hb dL_law_492 (lv_at hl 0 rfl) ?_
  refine lv_iconst (v := nI (2)) C.hx C.hb dL_law_494 (by decide) ?_
  refine n_add C dL_law_495 ?_
  refine va_sld C.hx C.hb hX hbl (notA hbl) X.S (vp_in_nI (by omega) (by omega)) dL_law_496 ?_
  refine n_re (j := xs ((4 + 4 * t) + 2)) (congrArg xs (nI_clamp (by omega))) ?_
  refine lv_aload_n C.hx C.hb dL_law_497 rfl (lv_at hl 1 rfl) ?_
  refine l_ix_1 (lev := xs ((4 + 4 * t) + 1)) (i := xs ((4 + 4 * t) + 2)) (rest := []) C hT hcw X hJ hj hlv hij ⟨by decide, by decide⟩ hl.1 (Nat.le_of_ble_eq_true rfl) ⟨by show cells + 0 ≤ 601024; omega, by show slots + 0 ≤ 7293000; omega⟩ dL_law_498 (fun H locs X => ?_)
  refine lv_istore (lv' := [(5, .int (nI (0))), (4, .int (nI (4 + 4 * t))), (3, .ref (ao)), (2, .ref (z3 0)), (1, .ref (z2 0)), (0, .ref (b))]) C.hx C.hb dL_law_501 hl (by decide) rfl (fun ls hl => ?_)
  refine lv_aload_n C.hx C.hb dL_law_503 rfl (lv_at hl 3 rfl) ?_
  refine lv_aload_n C.hx C.hb dL_law_504 rfl (lv_at hl 5 rfl) ?_
  refine lv_iload C.hx C.hb dL_law_505 (lv_at hl 1 rfl) ?_
  refine lv_iconst (v := nI (1)) C.hx C.hb dL_law_507 (by decide) ?_
  refine n_add C dL_law_508 ?_
  refine va_sld C.hx C.hb hX hbl (notA hbl) X.S (vp_in_nI (by omega) (by omega)) dL_law_509 ?_
  refine n_re (j := xs ((4 + 4 * t) + 1)) (congrArg xs (nI_clamp (by omega))) ?_
  refine lv_aload_n C.hx C.hb dL_law_510 rfl (lv_at hl 5 rfl) ?_
  refine lv_iload C.hx C.hb dL_law_511 (lv_at hl 1 rfl) ?_
  refine lv_iconst (v := nI (2)) C.hx C.hb dL_law_513 (by decide) ?_
  refine n_add C dL_law_514 ?_
  refine va_sld C.hx C.hb hX hbl (notA hbl) X.S (vp_in_nI (by omega) (by omega)) dL_law_515 ?_
  refine n_re (j := xs ((4 + 4 * t) + 2)) (congrArg xs (nI_clamp (by omega))) ?_
  refine l_c3 (As := [.int (xs ((4 + 4 * t) + 1)), .int (xs ((4 + 4 * t) + 2))]) (rest := []) C X ((by rw [hlv, hij]; exact c3_index_1 (j := j) h3 hj h1)) wy_X3_index tw_525 tw_523 rfl ⟨by decide, by decide⟩ rfl hl.1 rfl (Nat.le_of_ble_eq_true rfl) ⟨by show cells + 0 ≤ 601024; omega, by show slots + 0 ≤ 7293000; omega⟩ dL_law_516 (fun r3 v' fk' gl' go' gi' ga' gs' H locs hp3 X => ?_)
  obtain ⟨rfl, rfl, rfl, rfl, rfl, rfl, rfl, rfl⟩ := hp3
  refine W.eq (g2 := F0 m 519 ls [.int ((K.getD (sm S 0 (sm P 0 j)) 0).toInt32)]) rfl ?_
  refine lv_istore (lv' := [(6, .int ((K.getD (sm S 0 (sm P 0 j)) 0).toInt32)), (5, .int (nI (0))), (4, .int (nI (4 + 4 * t))), (3, .ref (ao)), (2, .ref (z3 0)), (1, .ref (z2 0)), (0, .ref (b))]) C.hx C.hb dL_law_519 hl (by decide) rfl (fun ls hl => ?_)
  refine lv_aload_n C.hx C.hb dL_law_521 rfl (lv_at hl 4 rfl) ?_
  refine l_c3r (As := []) (rest := []) C X (c3_thrown (x := nI 0) rfl) wy_X3_thrown tw_429 tw_427 rfl ⟨by decide, by decide⟩ rfl hl.1 rfl (Nat.le_of_ble_eq_true rfl) ⟨by show cells + 0 ≤ 601024; omega, by show slots + 0 ≤ 7293000; omega⟩ dL_law_522 (fun r3 hp3 => ?_)
  subst hp3
  refine W.eq (g2 := F0 m 525 ls [.int (nI (0))]) rfl ?_
  refine lv_iload C.hx C.hb dL_law_525 (lv_at hl 1 rfl) ?_
  refine n_icmp_eq (tgt := 532) C dL_law_527 (by decide) (by decide) (by decide) (fun _ => ?_) (fun h => absurd h (by decide))
  refine lv_iload C.hx C.hb dL_law_532 (lv_at hl 1 rfl) ?_
  refine n_if_ne (tgt := 549) C dL_law_534 (by decide) (by decide) (fun h => absurd h (by decide)) (fun _ => ?_)
  refine lv_aload_n C.hx C.hb dL_law_537 rfl (lv_at hl 3 rfl) ?_
  refine lv_iconst (v := nI (0)) C.hx C.hb dL_law_538 (by decide) ?_
  obtain ⟨f, Wd, hf⟩ := id X
  refine lald C Wd 18 rfl (vp_in_nI (by decide) (by decide)) dL_law_539 ?_
  refine n_rel (y := ((K.getD (sm S 0 (sm P 0 j)) 0).toInt32).toInt64) (by show vp_updL g 0 _ (nI 0).toNatClampNeg = _; rw [nI_clamp (by decide)]; unfold vp_updL; rw [if_pos rfl]) ?_
  refine lv_iload C.hx C.hb dL_law_540 (lv_at hl 0 rfl) ?_
  refine lv_i2l C.hx C.hb dL_law_542 rfl ?_
  refine n_lcmp_eq (tgt := 549) C dL_law_543 dL_law_544 (by decide) (fun c543 => ?_) (fun c543 => ?_)
  · refine lv_goto (tgt := 629) C.hx C.hb dL_law_549 (by decide) ?_
    exact kk (cells + 0) (slots + 0) (vp_updL g 0 ((K.getD (sm S 0 (sm P 0 j)) 0).toInt32).toInt64) _ _ _ _ _ _ _ _ _ _ _ _ _ _ H locs (by omega) (by omega) X (hC.code (by omega)) (Nat.le_succ _) ls (lv_sub hl [2, 3, 4, 5, 6] rfl)
  · exact absurd rfl c543
set_option maxHeartbeats 4000000 in
set_option maxRecDepth 100000 in
theorem lc_index_1e {p : Program} {l : Launch} {e : Env} {s : State} {m : MethodId} {below : List Frame} {meth : Method} {c : Code} {H : Heap} {locs : List Loc} {cells slots : Nat} {Q : State → Prop} {b Ls t : Nat} {xs : Nat → Int32} {E : Gq} {z2 z3 : Nat → Nat} {ao : Nat} {g : Nat → Int64} {v2 : Nat → Int32} {kd : Nat} {K : List Int64} {L N S P : List Nat} {v : Nat → Int32} {fk : Nat → Int64} {gl go gi ga : Nat → Nat} {gs : Nat → Int32} {rm wd lr lw lq B : Nat} (C : Cx E p s m #[Value.ref b] meth c cL_law 7 (some .boolean) RL (va_A [] s.heap.size)) (hLs : Ls ≤ 2052) (hX : va_X b Ls xs s s.heap) (hbl : b < s.heap.size) (ht : 4 * t + 8 ≤ Ls) (hp : Par rm wd lr lw lq) (X : LX E (va_A [] s.heap.size) z2 z3 ao g v2 kd K L N S P v fk gl go gi ga gs s H locs) (hC : Cpl rm wd lr lw lq B v2 kd K L N S P v fk gl go gi ga gs) (hk : K.length ≤ 520) (hB : B + 2500 < 2 ^ 30) (hcs : cells + 1 ≤ 601024) (hss : slots + 6 ≤ 7293000) (hT : TQ (va_A [] s.heap.size) s s.heap) (hcw : (Cond.codeWith yL_index cL_index 5 (some .int) [(0, 10, 13, 13)]).before #[Value.ref b] s = true) {j : Nat} (hj : j < P.length) (h0 : K.length = 0) (hlv : xs (4 + 4 * t + 1) = nI 1) (hij : xs (4 + 4 * t + 2) = nI j) (kk : ∀ (cells' slots' : Nat) (g' : Nat → Int64) (v2' : Nat → Int32) (kd' : Nat) (K' : List Int64) (L' N' S' P' : List Nat) (v' : Nat → Int32) (fk' : Nat → Int64) (gl' go' gi' ga' : Nat → Nat) (gs' : Nat → Int32) (H1 : Heap) (locs1 : List Loc), cells' ≤ cells + 1 → slots' ≤ slots + 6 → LX E (va_A [] s.heap.size) z2 z3 ao g' v2' kd' K' L' N' S' P' v' fk' gl' go' gi' ga' gs' s H1 locs1 → Cpl rm wd lr lw lq (B + 2500) v2' kd' K' L' N' S' P' v' fk' gl' go' gi' ga' gs' → K'.length ≤ K.length + 1 → ∀ ls : Array Slot, lv_has ls 7 [(4, .int (nI (4 + 4 * t))), (3, .ref ao), (2, .ref (z3 0)), (1, .ref (z2 0)), (0, .ref b)] → W p l e room_1 s m #[Value.ref b] below meth c H1 locs1 cells' slots' Q (F0 m 629 ls [])) : ∀ ls : Array Slot, lv_has ls 7 [(4, .int (nI (4 + 4 * t))), (3, .ref ao), (2, .ref (z3 0)), (1, .ref (z2 0)), (0, .ref b)] → W p l e room_1 s m #[Value.ref b] below meth c H locs cells slots Q (F0 m 484 ls []) := by
  intro ls hl
  obtain ⟨nx, ac, tc, cl, hr, cp, A, hCo, hS, hcl, hn1, hn2⟩ := id hC
  obtain ⟨hR, hJ, c1, c2, c3, c4, c5, c6, b1, b2, b3, b4⟩ := id hCo
  obtain ⟨a0, a1, a2, a3, a9, a10, a11, a15, a16, a17, a18, d1, d2, d3, d4, d8, d11, d12, d13, d14, d17, ec⟩ := id hS
  obtain ⟨j1, j2, j3, j4, j5, j6, j7, j8⟩ := id hJ
  obtain ⟨k1, k2, k3, k4⟩ := hJ.b
  have h3 : Ctx3 v fk gl go gi ga K L N S P A := ⟨hR, hJ, by omega, d8, d11, b1, b2, b3, b4, c1⟩
  refine lv_aload_n C.hx C.hb dL_law_484 rfl (lv_at hl 3 rfl) ?_
  refine lv_aload_n C.hx C.hb dL_law_485 rfl (lv_at hl 4 rfl) ?_
  refine lv_iload C.hx C.hb dL_law_486 (lv_at hl 0 rfl) ?_
  refine lv_iconst (v := nI (1)) C.hx C.hb dL_law_488 (by decide) ?_
  refine n_add C dL_law_489 ?_
  refine va_sld C.hx C.hb hX hbl (notA hbl) X.S (vp_in_nI (by omega) (by omega)) dL_law_490 ?_
  refine n_re (j := xs ((4 + 4 * t) + 1)) (congrArg xs (nI_clamp (by omega))) ?_
  refine lv_aload_n C.hx C.hb dL_law_491 rfl (lv_at hl 4 rfl) ?_
  refine lv_iload C.hx C.hb dL_law_492 (lv_at hl 0 rfl) ?_
  refine lv_iconst (v := nI (2)) C.hx C.hb dL_law_494 (by decide) ?_
  refine n_add C dL_law_495 ?_
  refine va_sld C.hx C.hb hX hbl (notA hbl) X.S (vp_in_nI (by omega) (by omega)) dL_law_496 ?_
  refine n_re (j := xs ((4 + 4 * t) + 2)) (congrArg xs (nI_clamp (by omega))) ?_
  refine lv_aload_n C.hx C.hb dL_law_497 rfl (lv_at hl 1 rfl) ?_
  refine l_ix_1 (lev := xs ((4 + 4 * t) + 1)) (i := xs ((4 + 4 * t) + 2)) (rest := []) C hT hcw X hJ hj hlv hij ⟨by decide, by decide⟩ hl.1 (Nat.le_of_ble_eq_true rfl) ⟨by show cells + 0 ≤ 601024; omega, by show slots + 0 ≤ 7293000; omega⟩ dL_law_498 (fun H locs X => ?_)
  refine lv_istore (lv' := [(5, .int (nI (0))), (4, .int (nI (4 + 4 * t))), (3, .ref (ao)), (2, .ref (z3 0)), (1, .ref (z2 0)), (0, .ref (b))]) C.hx C.hb dL_law_501 hl (by decide) rfl (fun ls hl => ?_)
  refine lv_aload_n C.hx C.hb dL_law_503 rfl (lv_at hl 3 rfl) ?_
  refine lv_aload_n C.hx C.hb dL_law_504 rfl (lv_at hl 5 rfl) ?_
  refine lv_iload C.hx C.hb dL_law_505 (lv_at hl 1 rfl) ?_
  refine lv_iconst (v := nI (1)) C.hx C.hb dL_law_507 (by decide) ?_
  refine n_add C dL_law_508 ?_
  refine va_sld C.hx C.hb hX hbl (notA hbl) X.S (vp_in_nI (by omega) (by omega)) dL_law_509 ?_
  refine n_re (j := xs ((4 + 4 * t) + 1)) (congrArg xs (nI_clamp (by omega))) ?_
  refine lv_aload_n C.hx C.hb dL_law_510 rfl (lv_at hl 5 rfl) ?_
  refine lv_iload C.hx C.hb dL_law_511 (lv_at hl 1 rfl) ?_
  refine lv_iconst (v := nI (2)) C.hx C.hb dL_law_513 (by decide) ?_
  refine n_add C dL_law_514 ?_
  refine va_sld C.hx C.hb hX hbl (notA hbl) X.S (vp_in_nI (by omega) (by omega)) dL_law_515 ?_
  refine n_re (j := xs ((4 + 4 * t) + 2)) (congrArg xs (nI_clamp (by omega))) ?_
  refine l_c3 (As := [.int (xs ((4 + 4 * t) + 1)), .int (xs ((4 + 4 * t) + 2))]) (rest := []) C X ((by rw [hlv, hij]; exact c3_index_1e (j := j) h3 hj h0)) wy_X3_index tw_525 tw_523 rfl ⟨by decide, by decide⟩ rfl hl.1 rfl (Nat.le_of_ble_eq_true rfl) ⟨by show cells + 0 ≤ 601024; omega, by show slots + 0 ≤ 7293000; omega⟩ dL_law_516 (fun r3 v' fk' gl' go' gi' ga' gs' H locs hp3 X => ?_)
  obtain ⟨rfl, rfl, rfl, rfl, rfl, rfl, rfl, rfl⟩ := hp3
  refine W.eq (g2 := F0 m 519 ls [.int ((K.getD (sm S 0 (sm P 0 j)) 0).toInt32)]) rfl ?_
  refine lv_istore (lv' := [(6, .int ((K.getD (sm S 0 (sm P 0 j)) 0).toInt32)), (5, .int (nI (0))), (4, .int (nI (4 + 4 * t))), (3, .ref (ao)), (2, .ref (z3 0)), (1, .ref (z2 0)), (0, .ref (b))]) C.hx C.hb dL_law_519 hl (by decide) rfl (fun ls hl => ?_)
  refine lv_aload_n C.hx C.hb dL_law_521 rfl (lv_at hl 4 rfl) ?_
  refine l_c3r (As := []) (rest := []) C X (c3_thrown (x := nI 0) rfl) wy_X3_thrown tw_429 tw_427 rfl ⟨by decide, by decide⟩ rfl hl.1 rfl (Nat.le_of_ble_eq_true rfl) ⟨by show cells + 0 ≤ 601024; omega, by show slots + 0 ≤ 7293000; omega⟩ dL_law_522 (fun r3 hp3 => ?_)
  subst hp3
  refine W.eq (g2 := F0 m 525 ls [.int (nI (0))]) rfl ?_
  refine lv_iload C.hx C.hb dL_law_525 (lv_at hl 1 rfl) ?_
  refine n_icmp_eq (tgt := 532) C dL_law_527 (by decide) (by decide) (by decide) (fun _ => ?_) (fun h => absurd h (by decide))
  refine lv_iload C.hx C.hb dL_law_532 (lv_at hl 1 rfl) ?_
  refine n_if_ne (tgt := 549) C dL_law_534 (by decide) (by decide) (fun h => absurd h (by decide)) (fun _ => ?_)
  refine lv_aload_n C.hx C.hb dL_law_537 rfl (lv_at hl 3 rfl) ?_
  refine lv_iconst (v := nI (0)) C.hx C.hb dL_law_538 (by decide) ?_
  obtain ⟨f, Wd, hf⟩ := id X
  refine lald C Wd 18 rfl (vp_in_nI (by decide) (by decide)) dL_law_539 ?_
  refine n_rel (y := ((K.getD (sm S 0 (sm P 0 j)) 0).toInt32).toInt64) (by show vp_updL g 0 _ (nI 0).toNatClampNeg = _; rw [nI_clamp (by decide)]; unfold vp_updL; rw [if_pos rfl]) ?_
  refine lv_iload C.hx C.hb dL_law_540 (lv_at hl 0 rfl) ?_
  refine lv_i2l C.hx C.hb dL_law_542 rfl ?_
  refine n_lcmp_eq (tgt := 549) C dL_law_543 dL_law_544 (by decide) (fun c543 => ?_) (fun c543 => ?_)
  · refine lv_goto (tgt := 629) C.hx C.hb dL_law_549 (by decide) ?_
    exact kk (cells + 0) (slots + 0) (vp_updL g 0 ((K.getD (sm S 0 (sm P 0 j)) 0).toInt32).toInt64) _ _ _ _ _ _ _ _ _ _ _ _ _ _ H locs (by omega) (by omega) X (hC.code (by omega)) (Nat.le_succ _) ls (lv_sub hl [2, 3, 4, 5, 6] rfl)
  · exact absurd rfl c543
