/-! PAIRS OF CALLS -/
theorem M2r.w {l : Launch} {E : Gq} {y : MethodName} {cc : ByteArray} {maxL : Nat} {ret : Option FieldType} {k : Nat} {av : List Value} {z : Nat → Nat} {v2 : Nat → Int32} {kd : Nat} {K : List Int64} {L N S P : List Nat} {post : Option Value → Prop} (h : M2r l E y cc maxL ret k av z v2 kd K L N S P post) : M2w l E y cc maxL ret k av z v2 kd K L N S P (fun r v' kd' K' L' N' S' P' => post r ∧ v2 = v' ∧ kd = kd' ∧ K = K' ∧ L = L' ∧ N = N' ∧ S = S' ∧ P = P') := by
  intro f hf sz p e ha hc hk s m args below hfr happ hP hK
  obtain ⟨n, o, h1, h2, h3, hq, L, hF, hL⟩ := h f hf sz p e ha hc hk s m args below hfr happ hP hK
  refine ⟨n, o, h1, h2, h3, ?_, L, hF, fun q hq => (hL q hq).elim⟩
  obtain ⟨r, rfl, hp, hh⟩ := hq
  obtain ⟨-, hsz, hPP, hD, -⟩ := hP
  exact ⟨⟨r, _, rfl, ⟨v2, kd, K, _, N, S, P, f, rfl, hf, hp, rfl, rfl, rfl, rfl, rfl, rfl, rfl⟩, by rw [hh]; exact hPP, hD.self⟩, Nat.le_of_eq (by rw [hh]), fun q _ _ => by rw [hh]⟩
def Par (rm wd lr lw lq : Nat) : Prop := 1 ≤ rm ∧ rm ≤ 1000 ∧ 2 ≤ wd ∧ wd ≤ 20 ∧ lr ≤ rm ∧ lw = max 1 lq ∧ lw ≤ wd
def Pair {α : Type} (cv : α → Value) (l : Launch) (E : Gq) (rm wd lr lw lq B : Nat) (rt : Option FieldType) (y2 : MethodName) (c2 : ByteArray) (m2 k2 : Nat) (y3 : MethodName) (c3 : ByteArray) (m3 k3 : Nat) (z2 z3 : Nat → Nat) (As : List Value) (v2 : Nat → Int32) (kd : Nat) (K : List Int64) (L N S P : List Nat) (v : Nat → Int32) (fk : Nat → Int64) (gl go gi ga : Nat → Nat) (gs : Nat → Int32) : Prop :=
  ∃ (post2 : Option Value → (Nat → Int32) → Nat → List Int64 → List Nat → List Nat → List Nat → List Nat → Prop) (post3 : Option Value → (Nat → Int32) → (Nat → Int64) → (Nat → Nat) → (Nat → Nat) → (Nat → Nat) → (Nat → Nat) → (Nat → Int32) → Prop), M2w l E y2 c2 m2 rt k2 (.ref (z2 0) :: As) z2 v2 kd K L N S P post2 ∧ M3w l E y3 c3 m3 rt k3 (.ref (z3 0) :: As) z3 v fk gl go gi ga gs post3 ∧
    (∀ r2 v2' kd' K' L' N' S' P', post2 r2 v2' kd' K' L' N' S' P' → ∃ x : α, r2 = some (cv x)) ∧
    ∀ r2 v2' kd' K' L' N' S' P' r3 v' fk' gl' go' gi' ga' gs', post2 r2 v2' kd' K' L' N' S' P' → post3 r3 v' fk' gl' go' gi' ga' gs' → (∃ x : α, r2 = some (cv x) ∧ r3 = some (cv x)) ∧ Cpl rm wd lr lw lq (B + 2500) v2' kd' K' L' N' S' P' v' fk' gl' go' gi' ga' gs' ∧ K'.length ≤ K.length + 1
theorem Cpl.code {rm wd lr lw lq B B' : Nat} {v2 : Nat → Int32} {kd : Nat} {K : List Int64} {L N S P : List Nat} {v : Nat → Int32} {fk : Nat → Int64} {gl go gi ga : Nat → Nat} {gs : Nat → Int32} {x : Int32} (h : Cpl rm wd lr lw lq B v2 kd K L N S P v fk gl go gi ga gs) (hB : B ≤ B') : Cpl rm wd lr lw lq B' v2 kd K L N S P (upd v 0 x) fk gl go gi ga gs := by
  obtain ⟨nx, ac, tc, cl, hr, cp, A, hC, hS, hcl, h1, h2⟩ := h
  exact ⟨nx, ac, tc, cl, hr, cp, A, hC, hS, hcl, by omega, by omega⟩
section PR
variable {l : Launch} {E : Gq} {rm wd lr lw lq B : Nat} {z2 z3 : Nat → Nat} {v2 : Nat → Int32} {kd : Nat} {K : List Int64} {L N S P : List Nat} {v : Nat → Int32} {fk : Nat → Int64} {gl go gi ga : Nat → Nat} {gs : Nat → Int32}
section PA
variable {α : Type} {cv : α → Value} {rt : Option FieldType} {y2 y3 : MethodName} {c2 c3 : ByteArray} {m2 k2 m3 k3 : Nat} {As : List Value} {x : α} {c : Int32}
theorem Pair.same (hC : Cpl rm wd lr lw lq B v2 kd K L N S P v fk gl go gi ga gs) (hM2 : M2w l E y2 c2 m2 rt k2 (.ref (z2 0) :: As) z2 v2 kd K L N S P (fun r v' kd' K' L' N' S' P' => some (cv x) = r ∧ v2 = v' ∧ kd = kd' ∧ K = K' ∧ L = L' ∧ N = N' ∧ S = S' ∧ P = P')) (hM3 : M3w l E y3 c3 m3 rt k3 (.ref (z3 0) :: As) z3 v fk gl go gi ga gs (fun r v' fk' gl' go' gi' ga' gs' => some (cv x) = r ∧ upd v 0 c = v' ∧ fk = fk' ∧ gl = gl' ∧ go = go' ∧ gi = gi' ∧ ga = ga' ∧ gs = gs')) : Pair cv l E rm wd lr lw lq B rt y2 c2 m2 k2 y3 c3 m3 k3 z2 z3 As v2 kd K L N S P v fk gl go gi ga gs := by
  refine ⟨_, _, hM2, hM3, fun _ _ _ _ _ _ _ _ h2 => ⟨_, h2.1.symm⟩, ?_⟩
  intro r2 v2' kd' K' L' N' S' P' r3 v' fk' gl' go' gi' ga' gs' h2 h3
  obtain ⟨rfl, rfl, rfl, rfl, rfl, rfl, rfl, rfl⟩ := h2
  obtain ⟨rfl, rfl, rfl, rfl, rfl, rfl, rfl, rfl⟩ := h3
  exact ⟨⟨x, rfl, rfl⟩, hC.code (by omega), Nat.le_succ _⟩
theorem Pair.read (hC : Cpl rm wd lr lw lq B v2 kd K L N S P v fk gl go gi ga gs) (hM2 : M2r l E y2 c2 m2 rt k2 (.ref (z2 0) :: As) z2 v2 kd K L N S P (fun r => r = some (cv x))) (hM3 : M3w l E y3 c3 m3 rt k3 (.ref (z3 0) :: As) z3 v fk gl go gi ga gs (fun r v' fk' gl' go' gi' ga' gs' => some (cv x) = r ∧ upd v 0 c = v' ∧ fk = fk' ∧ gl = gl' ∧ go = go' ∧ gi = gi' ∧ ga = ga' ∧ gs = gs')) : Pair cv l E rm wd lr lw lq B rt y2 c2 m2 k2 y3 c3 m3 k3 z2 z3 As v2 kd K L N S P v fk gl go gi ga gs := by
  refine ⟨_, _, hM2.w, hM3, fun _ _ _ _ _ _ _ _ h2 => ⟨_, h2.1⟩, ?_⟩
  intro r2 v2' kd' K' L' N' S' P' r3 v' fk' gl' go' gi' ga' gs' h2 h3
  obtain ⟨rfl, rfl, rfl, rfl, rfl, rfl, rfl, rfl⟩ := h2
  obtain ⟨rfl, rfl, rfl, rfl, rfl, rfl, rfl, rfl⟩ := h3
  exact ⟨⟨x, rfl, rfl⟩, hC.code (by omega), Nat.le_succ _⟩
end PA
theorem i_cases (x : Int32) (n : Nat) : (x.toInt < 0 ∨ (n : Int) < x.toInt) ∨ ∃ q, q ≤ n ∧ x = nI q := by
  by_cases h1 : x < 0
  · left; left; rw [Int32.lt_iff_toInt_lt] at h1; exact h1
  · obtain ⟨j, hj, rfl⟩ := nI_of h1
    have e := nI_toInt hj
    by_cases h2 : j ≤ n
    · exact Or.inr ⟨j, h2, rfl⟩
    · left; right; omega
set_option maxHeartbeats 2000000 in
/-- cut -/
theorem pr_cut {wr : Int32} (hp : Par rm wd lr lw lq) (hC : Cpl rm wd lr lw lq B v2 kd K L N S P v fk gl go gi ga gs) (hk : K.length ≤ 520) (hB : B + 2500 < 2 ^ 30) : Pair Value.int l E rm wd lr lw lq B (some .int) yX2_cut cX2_cut 3 0 yX3_cut cX3_cut 3 0 z2 z3 [.int wr] v2 kd K L N S P v fk gl go gi ga gs := by
  obtain ⟨nx, ac, tc, cl, hr, cp, A, hCo, hS, hcl, hn1, hn2⟩ := id hC
  obtain ⟨hR, hJ, c1, c2, c3, c4, c5, c6, b1, b2, b3, b4⟩ := id hCo
  obtain ⟨a0, a1, a2, a3, a9, a10, a11, a15, a16, a17, a18, d1, d2, d3, d4, d8, d11, d12, d13, d14, d17, ec⟩ := id hS
  obtain ⟨htc, hc1, hcc⟩ := id hcl
  obtain ⟨r1, r2, r3, r4, r5, r6, r7, r8⟩ := id hR
  obtain ⟨j1, j2, j3, j4, j5, j6, j7, j8⟩ := id hJ
  obtain ⟨k1, k2, k3, k4⟩ := hJ.b
  obtain ⟨p1, p2, p3, p4, p5, p6, p7⟩ := id hp
  have h3 : Ctx3 v fk gl go gi ga K L N S P A := ⟨hR, hJ, by omega, d8, d11, b1, b2, b3, b4, c1⟩
  rcases Nat.lt_or_ge cl 1 with q | q
  · have e : cl = 0 := by omega
    subst e
    by_cases hb : wr < 0 ∨ nI 4 < wr
    · exact Pair.same hC (c2_cut_b a11 hb) (c3_cut_b d17 hb)
    · obtain ⟨j, hj, rfl⟩ := nI_of (x := wr) (fun h => hb (Or.inl h))
      have hj4 : j ≤ 4 := by
        rcases Nat.lt_or_ge 4 j with z | z
        · exact absurd (Or.inr ((nI_ltI (by decide) hj).mpr z)) hb
        · exact z
      refine ⟨_, _, c2_cut_g (tc := tc) a11 a10 hj4, c3_cut_g (tc := tc) d17 d14 hj4, fun _ _ _ _ _ _ _ _ h2 => ⟨_, h2.1.symm⟩, ?_⟩
      intro r2 v2' kd' K' L' N' S' P' r3 v' fk' gl' go' gi' ga' gs' h2 h3
      obtain ⟨rfl, rfl, rfl, rfl, rfl, rfl, rfl, rfl⟩ := h2
      obtain ⟨rfl, rfl, rfl, rfl, rfl, rfl, rfl, rfl⟩ := h3
      exact ⟨⟨_, rfl, rfl⟩, ⟨nx, ac, j, 0, hr, cp, A, hCo, ⟨a0, a1, a2, a3, a9, rfl, a11, a15, a16, a17, a18, d1, d2, d3, d4, d8, d11, d12, d13, rfl, d17, fun h => absurd h (by decide)⟩, ⟨hj4, by omega, fun h => absurd h (by decide)⟩, by omega, by omega⟩, Nat.le_succ _⟩
  · have e : cl = 1 := by omega
    subst e
    exact Pair.same hC (c2_cut_c a11) (c3_cut_c d17)
set_option maxHeartbeats 2000000 in
/-- find -/
theorem pr_find {key : Int64} (hp : Par rm wd lr lw lq) (hC : Cpl rm wd lr lw lq B v2 kd K L N S P v fk gl go gi ga gs) (hk : K.length ≤ 520) (hB : B + 2500 < 2 ^ 30) : Pair Value.int l E rm wd lr lw lq B (some .int) yX2_find cX2_find 4 3 yX3_find cX3_find 3 2 z2 z3 [.long key] v2 kd K L N S P v fk gl go gi ga gs := by
  obtain ⟨nx, ac, tc, cl, hr, cp, A, hCo, hS, hcl, hn1, hn2⟩ := id hC
  obtain ⟨hR, hJ, c1, c2, c3, c4, c5, c6, b1, b2, b3, b4⟩ := id hCo
  obtain ⟨a0, a1, a2, a3, a9, a10, a11, a15, a16, a17, a18, d1, d2, d3, d4, d8, d11, d12, d13, d14, d17, ec⟩ := id hS
  obtain ⟨htc, hc1, hcc⟩ := id hcl
  obtain ⟨r1, r2, r3, r4, r5, r6, r7, r8⟩ := id hR
  obtain ⟨j1, j2, j3, j4, j5, j6, j7, j8⟩ := id hJ
  obtain ⟨k1, k2, k3, k4⟩ := hJ.b
  obtain ⟨p1, p2, p3, p4, p5, p6, p7⟩ := id hp
  have h3 : Ctx3 v fk gl go gi ga K L N S P A := ⟨hR, hJ, by omega, d8, d11, b1, b2, b3, b4, c1⟩
  by_cases hh : hask K key
  · have hng := ngt_le K key
    have h0 := hh.1
    have e : go (ngt K key - 1) = N.getD (gOf S (ngt K key - 1)) 0 := by rw [r3 _ (by omega), gOf_gIx (by omega)]
    have h := c3_find_y (l := l) (E := E) (z := z3) (gs := gs) h3 hh
    rw [e] at h
    exact Pair.read hC (c2_find_y hh hJ) h
  · exact Pair.read hC (c2_find_n hh) (c3_find_n h3 hh)
set_option maxHeartbeats 2000000 in
/-- next -/
theorem pr_next {key : Int64} (hp : Par rm wd lr lw lq) (hC : Cpl rm wd lr lw lq B v2 kd K L N S P v fk gl go gi ga gs) (hk : K.length ≤ 520) (hB : B + 2500 < 2 ^ 30) : Pair Value.int l E rm wd lr lw lq B (some .int) yX2_next cX2_next 4 2 yX3_next cX3_next 4 2 z2 z3 [.long key] v2 kd K L N S P v fk gl go gi ga gs := by
  obtain ⟨nx, ac, tc, cl, hr, cp, A, hCo, hS, hcl, hn1, hn2⟩ := id hC
  obtain ⟨hR, hJ, c1, c2, c3, c4, c5, c6, b1, b2, b3, b4⟩ := id hCo
  obtain ⟨a0, a1, a2, a3, a9, a10, a11, a15, a16, a17, a18, d1, d2, d3, d4, d8, d11, d12, d13, d14, d17, ec⟩ := id hS
  obtain ⟨htc, hc1, hcc⟩ := id hcl
  obtain ⟨r1, r2, r3, r4, r5, r6, r7, r8⟩ := id hR
  obtain ⟨j1, j2, j3, j4, j5, j6, j7, j8⟩ := id hJ
  obtain ⟨k1, k2, k3, k4⟩ := hJ.b
  obtain ⟨p1, p2, p3, p4, p5, p6, p7⟩ := id hp
  have h3 : Ctx3 v fk gl go gi ga K L N S P A := ⟨hR, hJ, by omega, d8, d11, b1, b2, b3, b4, c1⟩
  by_cases hh : hask K key
  · exact Pair.read hC c2_next (c3_next_y h3 hh)
  · exact Pair.read hC c2_next (c3_next_n h3 hh)
set_option maxHeartbeats 2000000 in
/-- interval -/
theorem pr_interval {i what : Int32} (hp : Par rm wd lr lw lq) (hC : Cpl rm wd lr lw lq B v2 kd K L N S P v fk gl go gi ga gs) (hk : K.length ≤ 520) (hB : B + 2500 < 2 ^ 30) : Pair Value.int l E rm wd lr lw lq B (some .int) yX2_interval cX2_interval 3 3 yX3_interval cX3_interval 3 1 z2 z3 [.int i, .int what] v2 kd K L N S P v fk gl go gi ga gs := by
  obtain ⟨nx, ac, tc, cl, hr, cp, A, hCo, hS, hcl, hn1, hn2⟩ := id hC
  obtain ⟨hR, hJ, c1, c2, c3, c4, c5, c6, b1, b2, b3, b4⟩ := id hCo
  obtain ⟨a0, a1, a2, a3, a9, a10, a11, a15, a16, a17, a18, d1, d2, d3, d4, d8, d11, d12, d13, d14, d17, ec⟩ := id hS
  obtain ⟨htc, hc1, hcc⟩ := id hcl
  obtain ⟨r1, r2, r3, r4, r5, r6, r7, r8⟩ := id hR
  obtain ⟨j1, j2, j3, j4, j5, j6, j7, j8⟩ := id hJ
  obtain ⟨k1, k2, k3, k4⟩ := hJ.b
  obtain ⟨p1, p2, p3, p4, p5, p6, p7⟩ := id hp
  have h3 : Ctx3 v fk gl go gi ga K L N S P A := ⟨hR, hJ, by omega, d8, d11, b1, b2, b3, b4, c1⟩
  rcases hld_c S.length i (by omega) with h0 | ⟨j, hj, rfl⟩
  · exact Pair.read hC (c2_interval_o h0) (c3_interval_o h3 h0)
  · rcases i_cases what 3 with hx | ⟨q, hq, rfl⟩
    · exact Pair.read hC (c2_interval_x hj hx) (c3_interval_x h3 hj hx)
    · have hq4 : q = 0 ∨ q = 1 ∨ q = 2 ∨ q = 3 := by omega
      rcases hq4 with rfl | rfl | rfl | rfl
      · have h := c3_interval_0 (l := l) (E := E) (z := z3) (gs := gs) h3 hj
        rw [r4 j hj] at h
        exact Pair.read hC (c2_interval_0 hJ hj (by omega)) h
      · exact Pair.read hC (c2_interval_1 hJ hj (by omega)) (c3_interval_1 h3 hj)
      · exact Pair.read hC (c2_interval_2 hJ hj (by omega)) (c3_interval_2 h3 hj)
      · have h := c3_interval_3 (l := l) (E := E) (z := z3) (gs := gs) h3 hj
        rw [← gOf_gIx (by omega)] at h
        exact Pair.read hC (c2_interval_3 hJ hj (by omega)) h
set_option maxHeartbeats 2000000 in
/-- split -/
theorem pr_split {what : Int32} (hp : Par rm wd lr lw lq) (hC : Cpl rm wd lr lw lq B v2 kd K L N S P v fk gl go gi ga gs) (hk : K.length ≤ 520) (hB : B + 2500 < 2 ^ 30) : Pair Value.int l E rm wd lr lw lq B (some .int) yX2_split cX2_split 2 0 yX3_split cX3_split 2 0 z2 z3 [.int what] v2 kd K L N S P v fk gl go gi ga gs := by
  obtain ⟨nx, ac, tc, cl, hr, cp, A, hCo, hS, hcl, hn1, hn2⟩ := id hC
  obtain ⟨hR, hJ, c1, c2, c3, c4, c5, c6, b1, b2, b3, b4⟩ := id hCo
  obtain ⟨a0, a1, a2, a3, a9, a10, a11, a15, a16, a17, a18, d1, d2, d3, d4, d8, d11, d12, d13, d14, d17, ec⟩ := id hS
  obtain ⟨htc, hc1, hcc⟩ := id hcl
  obtain ⟨r1, r2, r3, r4, r5, r6, r7, r8⟩ := id hR
  obtain ⟨j1, j2, j3, j4, j5, j6, j7, j8⟩ := id hJ
  obtain ⟨k1, k2, k3, k4⟩ := hJ.b
  obtain ⟨p1, p2, p3, p4, p5, p6, p7⟩ := id hp
  have h3 : Ctx3 v fk gl go gi ga K L N S P A := ⟨hR, hJ, by omega, d8, d11, b1, b2, b3, b4, c1⟩
  rcases i_cases what 3 with hx | ⟨q, hq, rfl⟩
  · exact Pair.read hC (c2_split_x hx) (c3_split_x hx)
  · have hq4 : q = 0 ∨ q = 1 ∨ q = 2 ∨ q = 3 := by omega
    rcases hq4 with rfl | rfl | rfl | rfl
    · have h := c2_split_0 (l := l) (E := E) (z := z2) (v := v2) (kd := kd) (K := K) (L := L) (N := N) (S := S) (P := P)
      rw [a15] at h
      exact Pair.read hC h (c3_split_0 rfl)
    · have h := c2_split_1 (l := l) (E := E) (z := z2) (v := v2) (kd := kd) (K := K) (L := L) (N := N) (S := S) (P := P)
      rw [a16] at h
      exact Pair.read hC h (c3_split_1 rfl)
    · have h := c2_split_2 (l := l) (E := E) (z := z2) (v := v2) (kd := kd) (K := K) (L := L) (N := N) (S := S) (P := P)
      rw [a17] at h
      exact Pair.read hC h (c3_split_2 rfl)
    · have h := c2_split_3 (l := l) (E := E) (z := z2) (v := v2) (kd := kd) (K := K) (L := L) (N := N) (S := S) (P := P)
      rw [a18] at h
      exact Pair.read hC h (c3_split_3 rfl)
set_option maxHeartbeats 2000000 in
/-- count -/
theorem pr_count {what : Int32} (hp : Par rm wd lr lw lq) (hC : Cpl rm wd lr lw lq B v2 kd K L N S P v fk gl go gi ga gs) (hk : K.length ≤ 520) (hB : B + 2500 < 2 ^ 30) : Pair Value.int l E rm wd lr lw lq B (some .int) yX2_count cX2_count 2 2 yX3_count cX3_count 4 1 z2 z3 [.int what] v2 kd K L N S P v fk gl go gi ga gs := by
  obtain ⟨nx, ac, tc, cl, hr, cp, A, hCo, hS, hcl, hn1, hn2⟩ := id hC
  obtain ⟨hR, hJ, c1, c2, c3, c4, c5, c6, b1, b2, b3, b4⟩ := id hCo
  obtain ⟨a0, a1, a2, a3, a9, a10, a11, a15, a16, a17, a18, d1, d2, d3, d4, d8, d11, d12, d13, d14, d17, ec⟩ := id hS
  obtain ⟨htc, hc1, hcc⟩ := id hcl
  obtain ⟨r1, r2, r3, r4, r5, r6, r7, r8⟩ := id hR
  obtain ⟨j1, j2, j3, j4, j5, j6, j7, j8⟩ := id hJ
  obtain ⟨k1, k2, k3, k4⟩ := hJ.b
  obtain ⟨p1, p2, p3, p4, p5, p6, p7⟩ := id hp
  have h3 : Ctx3 v fk gl go gi ga K L N S P A := ⟨hR, hJ, by omega, d8, d11, b1, b2, b3, b4, c1⟩
  rcases i_cases what 5 with hx | ⟨q, hq, rfl⟩
  · exact Pair.read hC (c2_count_x hx) (c3_count_x h3 hx)
  · have hq6 : q = 0 ∨ q = 1 ∨ q = 2 ∨ q = 3 ∨ q = 4 ∨ q = 5 := by omega
    rcases hq6 with rfl | rfl | rfl | rfl | rfl | rfl
    · exact Pair.read hC c2_count_0 (c3_count_0 h3)
    · exact Pair.read hC c2_count_1 (c3_count_1 h3)
    · have h := c3_count_2 (l := l) (E := E) (z := z3) (gs := gs) h3
      have e : gIx P (S.length - 1) + 1 = P.length := by rw [← j4, gIx_last j6 k2]; omega
      rw [e] at h
      exact Pair.read hC c2_count_2 h
    · exact Pair.read hC (c2_count_3 a11 hc1) (c3_count_3 h3 d17 hc1)
    · have h := c2_count_4 (l := l) (E := E) (z := z2) (v := v2) (kd := kd) (K := K) (L := L) (N := N) (S := S) (P := P)
      have h2 := c3_count_4 (l := l) (E := E) (z := z3) (gs := gs) h3
      rw [a9] at h
      rw [d12] at h2
      exact Pair.read hC h h2
    · exact Pair.read hC c2_count_5 (c3_count_5 h3)
set_option maxHeartbeats 2000000 in
/-- order -/
theorem pr_order {i : Int32} (hp : Par rm wd lr lw lq) (hC : Cpl rm wd lr lw lq B v2 kd K L N S P v fk gl go gi ga gs) (hk : K.length ≤ 520) (hB : B + 2500 < 2 ^ 30) : Pair Value.long l E rm wd lr lw lq B (some .long) yX2_order cX2_order 2 1 yX3_order cX3_order 2 0 z2 z3 [.int i] v2 kd K L N S P v fk gl go gi ga gs := by
  obtain ⟨nx, ac, tc, cl, hr, cp, A, hCo, hS, hcl, hn1, hn2⟩ := id hC
  obtain ⟨hR, hJ, c1, c2, c3, c4, c5, c6, b1, b2, b3, b4⟩ := id hCo
  obtain ⟨a0, a1, a2, a3, a9, a10, a11, a15, a16, a17, a18, d1, d2, d3, d4, d8, d11, d12, d13, d14, d17, ec⟩ := id hS
  obtain ⟨htc, hc1, hcc⟩ := id hcl
  obtain ⟨r1, r2, r3, r4, r5, r6, r7, r8⟩ := id hR
  obtain ⟨j1, j2, j3, j4, j5, j6, j7, j8⟩ := id hJ
  obtain ⟨k1, k2, k3, k4⟩ := hJ.b
  obtain ⟨p1, p2, p3, p4, p5, p6, p7⟩ := id hp
  have h3 : Ctx3 v fk gl go gi ga K L N S P A := ⟨hR, hJ, by omega, d8, d11, b1, b2, b3, b4, c1⟩
  exact Pair.read hC c2_order (c3_order h3)
set_option maxHeartbeats 2000000 in
/-- verify -/
theorem pr_verify  (hp : Par rm wd lr lw lq) (hC : Cpl rm wd lr lw lq B v2 kd K L N S P v fk gl go gi ga gs) (hk : K.length ≤ 520) (hB : B + 2500 < 2 ^ 30) : Pair Value.int l E rm wd lr lw lq B (some .int) yX2_verify cX2_verify 1 3 yX3_verify cX3_verify 1 0 z2 z3 [] v2 kd K L N S P v fk gl go gi ga gs := by
  obtain ⟨nx, ac, tc, cl, hr, cp, A, hCo, hS, hcl, hn1, hn2⟩ := id hC
  obtain ⟨hR, hJ, c1, c2, c3, c4, c5, c6, b1, b2, b3, b4⟩ := id hCo
  obtain ⟨a0, a1, a2, a3, a9, a10, a11, a15, a16, a17, a18, d1, d2, d3, d4, d8, d11, d12, d13, d14, d17, ec⟩ := id hS
  obtain ⟨htc, hc1, hcc⟩ := id hcl
  obtain ⟨r1, r2, r3, r4, r5, r6, r7, r8⟩ := id hR
  obtain ⟨j1, j2, j3, j4, j5, j6, j7, j8⟩ := id hJ
  obtain ⟨k1, k2, k3, k4⟩ := hJ.b
  obtain ⟨p1, p2, p3, p4, p5, p6, p7⟩ := id hp
  have h3 : Ctx3 v fk gl go gi ga K L N S P A := ⟨hR, hJ, by omega, d8, d11, b1, b2, b3, b4, c1⟩
  exact Pair.read hC (c2_verify (rm := rm) (wd := wd) a0 p2 (by omega) j8 c4 a1 p4 (fun j hj => c2 _ (getD_mem hj)) (fun j h1 h2 => c1 _ _ (by omega) h2)) c3_verify
set_option maxHeartbeats 2000000 in
/-- remove -/
theorem pr_remove {key : Int64} (hp : Par rm wd lr lw lq) (hC : Cpl rm wd lr lw lq B v2 kd K L N S P v fk gl go gi ga gs) (hk : K.length ≤ 520) (hB : B + 2500 < 2 ^ 30) : Pair Value.int l E rm wd lr lw lq B (some .int) yX2_remove cX2_remove 5 3 yX3_remove cX3_remove 7 2 z2 z3 [.long key] v2 kd K L N S P v fk gl go gi ga gs := by
  obtain ⟨nx, ac, tc, cl, hr, cp, A, hCo, hS, hcl, hn1, hn2⟩ := id hC
  obtain ⟨hR, hJ, c1, c2, c3, c4, c5, c6, b1, b2, b3, b4⟩ := id hCo
  obtain ⟨a0, a1, a2, a3, a9, a10, a11, a15, a16, a17, a18, d1, d2, d3, d4, d8, d11, d12, d13, d14, d17, ec⟩ := id hS
  obtain ⟨htc, hc1, hcc⟩ := id hcl
  obtain ⟨r1, r2, r3, r4, r5, r6, r7, r8⟩ := id hR
  obtain ⟨j1, j2, j3, j4, j5, j6, j7, j8⟩ := id hJ
  obtain ⟨k1, k2, k3, k4⟩ := hJ.b
  obtain ⟨p1, p2, p3, p4, p5, p6, p7⟩ := id hp
  have h3 : Ctx3 v fk gl go gi ga K L N S P A := ⟨hR, hJ, by omega, d8, d11, b1, b2, b3, b4, c1⟩
  rcases Nat.lt_or_ge cl 1 with q | q
  · have e : cl = 0 := by omega
    subst e
    by_cases hh : hask K key
    · have hng := ngt_le K key
      have h0 := hh.1
      have hl : ngt K key - 1 < S.sum := by omega
      have hg := gOf_gIx hl
      have hgl := gIx_lt hl
      obtain ⟨s1, s2⟩ := gIx_spec hl
      by_cases hd : S.getD (gIx S (ngt K key - 1)) 0 - 1 = 0 ∧ 1 < S.length
      · refine ⟨_, _, c2_remove_d a11 hh hJ (by rw [hg]; omega) (by rw [hg]; exact hd), c3_remove_d h3 d17 hh hd, fun _ _ _ _ _ _ _ _ h2 => ⟨_, h2.1.symm⟩, ?_⟩
        intro r2 v2' kd' K' L' N' S' P' r3 v' fk' gl' go' gi' ga' gs' h2 h3
        rw [hg] at h2
        obtain ⟨rfl, rfl, rfl, rfl, rfl, rfl, rfl, rfl⟩ := h2
        obtain ⟨rfl, rfl, rfl, rfl, rfl, rfl, rfl, rfl⟩ := h3
        obtain ⟨A', hC'⟩ := hCo.remd (by omega) p2 hgl s1 s2 hd
        rw [gOf_gIx (by omega)]
        have e1 : (del K (ngt K key - 1)).length = K.length - 1 := del_len (by omega)
        have e2 : (del (S.set (gIx S (ngt K key - 1)) (S.getD (gIx S (ngt K key - 1)) 0 - 1)) (gIx S (ngt K key - 1))).length = S.length - 1 := by rw [del_len (by rw [List.length_set]; exact hgl), List.length_set]
        exact ⟨⟨_, rfl, rfl⟩, ⟨nx, ac, tc, 0, hr, cp, A', hC', ⟨a0, a1, a2, a3, a9, a10, a11, a15, a16, a17, a18, d1, d2, d3, d4, by rw [e1]; rfl, by rw [e2]; rfl, d12, d13, d14, d17, fun h => absurd h (by decide)⟩, ⟨htc, by omega, fun h => absurd h (by decide)⟩, by omega, by omega⟩, by omega⟩
      · refine ⟨_, _, c2_remove_k a11 hh hJ (by rw [hg]; omega) (by rw [hg]; exact hd), c3_remove_k h3 d17 hh hd, fun _ _ _ _ _ _ _ _ h2 => ⟨_, h2.1.symm⟩, ?_⟩
        intro r2 v2' kd' K' L' N' S' P' r3 v' fk' gl' go' gi' ga' gs' h2 h3
        rw [hg] at h2
        obtain ⟨rfl, rfl, rfl, rfl, rfl, rfl, rfl, rfl⟩ := h2
        obtain ⟨rfl, rfl, rfl, rfl, rfl, rfl, rfl, rfl⟩ := h3
        have hC' := hCo.remk (by omega) p2 hgl s1 s2 hd
        have e1 : (del K (ngt K key - 1)).length = K.length - 1 := del_len (by omega)
        have e2 : (S.set (gIx S (ngt K key - 1)) (S.getD (gIx S (ngt K key - 1)) 0 - 1)).length = S.length := List.length_set ..
        exact ⟨⟨_, rfl, rfl⟩, ⟨nx, ac, tc, 0, hr, cp, A, hC', ⟨a0, a1, a2, a3, a9, a10, a11, a15, a16, a17, a18, d1, d2, d3, d4, by rw [e1]; rfl, by rw [e2]; exact d11, d12, d13, d14, d17, fun h => absurd h (by decide)⟩, ⟨htc, by omega, fun h => absurd h (by decide)⟩, by omega, by omega⟩, by omega⟩
    · exact Pair.same hC (c2_remove_n a11 hh) (c3_remove_n h3 d17 hh)
  · have e : cl = 1 := by omega
    subst e
    exact Pair.same hC (c2_remove_c a11) (c3_remove_c d17)
set_option maxHeartbeats 2000000 in
/-- reorganise -/
theorem pr_reorganise  (hp : Par rm wd lr lw lq) (hC : Cpl rm wd lr lw lq B v2 kd K L N S P v fk gl go gi ga gs) (hk : K.length ≤ 520) (hB : B + 2500 < 2 ^ 30) : Pair Value.int l E rm wd lr lw lq B (some .int) yX2_reorganise cX2_reorganise 5 3 yX3_reorganise cX3_reorganise 6 0 z2 z3 [] v2 kd K L N S P v fk gl go gi ga gs := by
  obtain ⟨nx, ac, tc, cl, hr, cp, A, hCo, hS, hcl, hn1, hn2⟩ := id hC
  obtain ⟨hR, hJ, c1, c2, c3, c4, c5, c6, b1, b2, b3, b4⟩ := id hCo
  obtain ⟨a0, a1, a2, a3, a9, a10, a11, a15, a16, a17, a18, d1, d2, d3, d4, d8, d11, d12, d13, d14, d17, ec⟩ := id hS
  obtain ⟨htc, hc1, hcc⟩ := id hcl
  obtain ⟨r1, r2, r3, r4, r5, r6, r7, r8⟩ := id hR
  obtain ⟨j1, j2, j3, j4, j5, j6, j7, j8⟩ := id hJ
  obtain ⟨k1, k2, k3, k4⟩ := hJ.b
  obtain ⟨p1, p2, p3, p4, p5, p6, p7⟩ := id hp
  have h3 : Ctx3 v fk gl go gi ga K L N S P A := ⟨hR, hJ, by omega, d8, d11, b1, b2, b3, b4, c1⟩
  rcases Nat.lt_or_ge cl 1 with q | q
  · have e : cl = 0 := by omega
    subst e
    refine ⟨_, _, c2_reorganise_g (lr := lr) (lw := lw) (nx := nx) (by omega) (by omega) a2 a3 a9 a11 (by omega) j8, c3_reorganise_g (rm := rm) (wd := wd) (lr := lr) (lw := lw) (lq := lq) (B := B + 2500) (nx := nx) (ac := ac) p6 p7 p4 p5 p2 hB hCo (by omega) d3 d4 d8 d12 d13 d17 (by omega) (by omega), fun _ _ _ _ _ _ _ _ h2 => by obtain ⟨h, nx1, N1, S1, P1, eq, hr, -⟩ := h2; exact ⟨_, hr.symm⟩, ?_⟩
    intro r2 v2' kd' K' L' N' S' P' r3 v' fk' gl' go' gi' ga' gs' h2 h3
    obtain ⟨h, nx1, N1, S1, P1, eq, rfl, rfl, rfl, rfl, rfl, rfl, rfl, rfl⟩ := h2
    obtain ⟨h', nx1', ac1, N1', S1', P1', A1, eq', rfl, hC', v11, v12, v13, vo, rfl, hn3, hn4⟩ := h3
    have ee := eq.symm.trans eq'
    simp only [Prod.mk.injEq] at ee
    obtain ⟨rfl, rfl, rfl, rfl, rfl⟩ := ee
    exact ⟨⟨_, rfl, rfl⟩, ⟨nx1 + 1, ac1, tc, 0, hr, cp, A1, hC', ⟨a0, a1, a2, a3, rfl, a10, a11, a15, a16, a17, a18, (vo 1 (by decide) (by decide) (by decide)).trans d1, (vo 2 (by decide) (by decide) (by decide)).trans d2, (vo 3 (by decide) (by decide) (by decide)).trans d3, (vo 4 (by decide) (by decide) (by decide)).trans d4, (vo 8 (by decide) (by decide) (by decide)).trans d8, v11, v12, v13, (vo 14 (by decide) (by decide) (by decide)).trans d14, (vo 17 (by decide) (by decide) (by decide)).trans d17, fun h => absurd h (by decide)⟩, ⟨htc, by omega, fun h => absurd h (by decide)⟩, hn3, hn4⟩, Nat.le_succ _⟩
  · have e : cl = 1 := by omega
    subst e
    exact Pair.same hC (c2_reorganise_c a11) (c3_reorganise_c d17)
set_option maxHeartbeats 2000000 in
/-- open -/
theorem pr_open  (hp : Par rm wd lr lw lq) (hC : Cpl rm wd lr lw lq B v2 kd K L N S P v fk gl go gi ga gs) (hk : K.length ≤ 520) (hB : B + 2500 < 2 ^ 30) : Pair Value.int l E rm wd lr lw lq B (some .int) yX2_open cX2_open 1 6 yX3_open_ cX3_open_ 1 3 z2 z3 [] v2 kd K L N S P v fk gl go gi ga gs := by
  obtain ⟨nx, ac, tc, cl, hr, cp, A, hCo, hS, hcl, hn1, hn2⟩ := id hC
  obtain ⟨hR, hJ, c1, c2, c3, c4, c5, c6, b1, b2, b3, b4⟩ := id hCo
  obtain ⟨a0, a1, a2, a3, a9, a10, a11, a15, a16, a17, a18, d1, d2, d3, d4, d8, d11, d12, d13, d14, d17, ec⟩ := id hS
  obtain ⟨htc, hc1, hcc⟩ := id hcl
  obtain ⟨r1, r2, r3, r4, r5, r6, r7, r8⟩ := id hR
  obtain ⟨j1, j2, j3, j4, j5, j6, j7, j8⟩ := id hJ
  obtain ⟨k1, k2, k3, k4⟩ := hJ.b
  obtain ⟨p1, p2, p3, p4, p5, p6, p7⟩ := id hp
  have h3 : Ctx3 v fk gl go gi ga K L N S P A := ⟨hR, hJ, by omega, d8, d11, b1, b2, b3, b4, c1⟩
  rcases Nat.lt_or_ge cl 1 with q | q
  · have e : cl = 0 := by omega
    subst e
    exact Pair.same hC (c2_open_n a11) (c3_open_n d17)
  · have e : cl = 1 := by omega
    subst e
    obtain ⟨e12, e14, e15, e16, e18⟩ := ec rfl
    obtain ⟨g1, g2, g3, g4, g5⟩ := hcc rfl
    have hcP : cp < P.sum := by omega
    obtain ⟨ks2, ks1, ks0⟩ := kos_c (S := S) (wd := wd) hcP
    have hgl := gIx_lt hcP
    have hgo := gOf_gIx hcP
    have hPm := c2 _ (getD_mem hgl)
    rcases Nat.lt_or_ge hr 1 with q2 | q2
    · have e : hr = 0 := by omega
      subst e
      refine ⟨_, _, c2_open_u a11 e12, c3_open_u d17 e18, fun _ _ _ _ _ _ _ _ h2 => ⟨_, h2.1.symm⟩, ?_⟩
      intro r2 v2' kd' K' L' N' S' P' r3 v' fk' gl' go' gi' ga' gs' h2 h3
      obtain ⟨rfl, rfl, rfl, rfl, rfl, rfl, rfl, rfl⟩ := h2
      obtain ⟨rfl, rfl, rfl, rfl, rfl, rfl, rfl, rfl⟩ := h3
      exact ⟨⟨_, rfl, rfl⟩, ⟨nx, ac, tc, 0, 0, cp, A, hCo, ⟨a0, a1, a2, a3, a9, a10, rfl, a15, a16, congrArg (· + nI 1) a17, a18, d1, d2, d3, d4, d8, d11, d12, d13, d14, rfl, fun h => absurd h (by decide)⟩, ⟨htc, by omega, fun h => absurd h (by decide)⟩, by omega, by omega⟩, Nat.le_succ _⟩
    · have e : hr = 1 := by omega
      subst e
      have hk3 : kd = 0 ∨ kd = 1 ∨ kd = 2 := by have := kos_lt P S wd cp; omega
      rcases hk3 with rfl | rfl | rfl
      · have hw := ks0.mp g3.symm
        obtain ⟨kb1, kb2⟩ := kbh_b (L := L) (S := S) (i := cp) (by omega)
        obtain ⟨g6, g7⟩ := g5 rfl rfl
        have hlin : 1 ≤ lin L S cp := by
          have q1 := sm0_get S cp
          have q2 : 1 ≤ L.getD (sm S 0 cp) 0 := (c3 _ (getD_mem (by omega))).1
          have q4 := lin_pr L S cp
          have q5 := sm0_mono L (show sm S 0 cp + 1 ≤ sm S 0 cp + S.getD cp 0 by omega)
          have q6 := sm_snoc (L := L) (a := 0) (b := sm S 0 cp) (Nat.zero_le _) (by omega)
          omega
        refine ⟨_, _, c2_open_0 (cp := cp) (nx := nx) a11 e12 a9 (by omega) g6 e14 hJ (by omega) g2 (by omega), c3_open_0 (nx := nx) (cp := cp) h3 d17 e18 e15 e16 d12 (by omega) g6 g2 (by omega) hlin, fun _ _ _ _ _ _ _ _ h2 => ⟨_, h2.1.symm⟩, ?_⟩
        intro r2 v2' kd' K' L' N' S' P' r3 v' fk' gl' go' gi' ga' gs' h2 h3
        rw [hgo] at h2
        obtain ⟨rfl, rfl, rfl, rfl, rfl, rfl, rfl, rfl⟩ := h2
        obtain ⟨rfl, rfl, rfl, rfl, rfl, rfl, rfl, rfl⟩ := h3
        have hC' := hCo.halve (nx2 := nx) (by omega) g2 kb1 kb2 (by omega) (num := nx - 1) g7 (by omega) (by omega)
        have e2 : (ins (S.set cp (S.getD cp 0 - (S.getD cp 0 - kbh L S cp))) (cp + 1) (S.getD cp 0 - kbh L S cp)).length = S.length + 1 := by rw [ins_len (by rw [List.length_set]; omega), List.length_set]
        exact ⟨⟨_, rfl, rfl⟩, ⟨nx, ac, tc, 0, 0, cp, A, hC', ⟨a0, a1, a2, a3, a9, a10, rfl, congrArg (· + nI 1) a15, a16, a17, congrArg (· + nI 1) a18, d1, d2, d3, d4, d8, by rw [e2]; rfl, d12, d13, d14, rfl, fun h => absurd h (by decide)⟩, ⟨htc, by omega, fun h => absurd h (by decide)⟩, by omega, by omega⟩, Nat.le_succ _⟩
      · refine ⟨_, _, c2_open_1 a11 e12, c3_open_1 d17 e18 e15, fun _ _ _ _ _ _ _ _ h2 => ⟨_, h2.1.symm⟩, ?_⟩
        intro r2 v2' kd' K' L' N' S' P' r3 v' fk' gl' go' gi' ga' gs' h2 h3
        obtain ⟨rfl, rfl, rfl, rfl, rfl, rfl, rfl, rfl⟩ := h2
        obtain ⟨rfl, rfl, rfl, rfl, rfl, rfl, rfl, rfl⟩ := h3
        exact ⟨⟨_, rfl, rfl⟩, ⟨nx, ac, tc, 0, 0, cp, A, hCo, ⟨a0, a1, a2, a3, a9, a10, rfl, congrArg (· + nI 1) a15, a16, a17, congrArg (· + nI 1) a18, d1, d2, d3, d4, d8, d11, d12, d13, d14, rfl, fun h => absurd h (by decide)⟩, ⟨htc, by omega, fun h => absurd h (by decide)⟩, by omega, by omega⟩, Nat.le_succ _⟩
      · have hw := ks2.mp g3.symm
        refine ⟨_, _, c2_open_2 (cp := cp) (wd := wd) a11 e12 a1 p4 e14 hJ (by omega) g2 (by rw [hgo]; omega), c3_open_2 (wd := wd) (ac := ac) (cp := cp) h3 d17 e18 e15 e16 d2 d13 p4 (by omega) g2 (by omega), fun _ _ _ _ _ _ _ _ h2 => ⟨_, h2.1.symm⟩, ?_⟩
        intro r2 v2' kd' K' L' N' S' P' r3 v' fk' gl' go' gi' ga' gs' h2 h3
        rw [hgo] at h2
        obtain ⟨rfl, rfl, rfl, rfl, rfl, rfl, rfl, rfl⟩ := h2
        obtain ⟨rfl, rfl, rfl, rfl, rfl, rfl, rfl, rfl⟩ := h3
        have hC' := hCo.area (i := cp) (w := wd / 2) g2 (by omega) (by omega) (by omega)
        exact ⟨⟨_, rfl, rfl⟩, ⟨nx, ac + 1, tc, 0, 0, cp, _, hC', ⟨a0, a1, a2, a3, a9, a10, rfl, a15, congrArg (· + nI 1) a16, a17, congrArg (· + nI 1) a18, d1, d2, d3, d4, d8, d11, d12, rfl, d14, rfl, fun h => absurd h (by decide)⟩, ⟨htc, by omega, fun h => absurd h (by decide)⟩, by omega, by omega⟩, Nat.le_succ _⟩
theorem plc_len {rm wd : Nat} {key : Int64} {len tc : Nat} {K : List Int64} {L : List Nat} : ∀ (n nx : Nat) (v : Nat → Int32) (kd : Nat) (N S P : List Nat), (plc rm wd key len tc n nx v kd K L N S P).2.2.2.1.length ≤ K.length + 1 := by
  intro n
  induction n with
  | zero => intro nx v kd N S P; exact Nat.le_succ _
  | succ n ih =>
    intro nx v kd N S P
    have hi : (ins K (ngt K key) key).length = K.length + 1 := ins_len (ngt_le K key)
    simp only [plc]
    split
    · exact Nat.le_of_eq hi
    · split
      · exact Nat.le_succ _
      · split
        · exact Nat.le_of_eq hi
        · split
          · exact ih _ _ _ _ _ _
          · exact ih _ _ _ _ _ _
set_option maxHeartbeats 2000000 in
/-- put -/
theorem pr_put {key : Int64} {ln : Int32} (hp : Par rm wd lr lw lq) (hC : Cpl rm wd lr lw lq B v2 kd K L N S P v fk gl go gi ga gs) (hk : K.length ≤ 520) (hB : B + 2500 < 2 ^ 30) : Pair Value.int l E rm wd lr lw lq B (some .int) yX2_put cX2_put 4 6 yX3_put cX3_put 8 3 z2 z3 [.long key, .int ln] v2 kd K L N S P v fk gl go gi ga gs := by
  obtain ⟨nx, ac, tc, cl, hr, cp, A, hCo, hS, hcl, hn1, hn2⟩ := id hC
  obtain ⟨hR, hJ, c1, c2, c3, c4, c5, c6, b1, b2, b3, b4⟩ := id hCo
  obtain ⟨a0, a1, a2, a3, a9, a10, a11, a15, a16, a17, a18, d1, d2, d3, d4, d8, d11, d12, d13, d14, d17, ec⟩ := id hS
  obtain ⟨htc, hc1, hcc⟩ := id hcl
  obtain ⟨r1, r2, r3, r4, r5, r6, r7, r8⟩ := id hR
  obtain ⟨j1, j2, j3, j4, j5, j6, j7, j8⟩ := id hJ
  obtain ⟨k1, k2, k3, k4⟩ := hJ.b
  obtain ⟨p1, p2, p3, p4, p5, p6, p7⟩ := id hp
  have h3 : Ctx3 v fk gl go gi ga K L N S P A := ⟨hR, hJ, by omega, d8, d11, b1, b2, b3, b4, c1⟩
  rcases Nat.lt_or_ge cl 1 with q | q
  · have e : cl = 0 := by omega
    subst e
    by_cases hh : hask K key
    · exact Pair.same hC (c2_put_h a11 hh) (c3_put_h h3 d17 hh)
    · by_cases hb : ln < nI 1 ∨ nI rm < ln
      · exact Pair.same hC (c2_put_b a11 a0 hh hb) (c3_put_b h3 d17 d1 hh hb)
      · have e1 := nI_toInt (n := 1) (by decide)
        have hx1 : ¬ ln.toInt < (nI 1).toInt := fun h => hb (Or.inl (Int32.lt_iff_toInt_lt.mpr h))
        obtain ⟨len, hlen, rfl⟩ := nI_of (x := ln) (by rw [Int32.lt_iff_toInt_lt]; show ¬ ln.toInt < (0 : Int); omega)
        have e2 := nI_toInt hlen
        have hl1 : 1 ≤ len := by omega
        have hl2 : len ≤ rm := by
          rcases Nat.lt_or_ge rm len with z | z
          · exact absurd (Or.inr ((nI_ltI (by omega) hlen).mpr z)) hb
          · exact z
        have hS0 : Sc rm wd lr lw lq nx ac tc 0 0 0 kd v2 v gs K.length S.length := ⟨a0, a1, a2, a3, a9, a10, a11, a15, a16, a17, a18, d1, d2, d3, d4, d8, d11, d12, d13, d14, d17, fun h => absurd h (by decide)⟩
        refine ⟨_, _, c2_put_g (rm := rm) (wd := wd) (nx := nx) (tc := tc) p2 p4 p3 hl1 hl2 htc hJ (by omega) (by omega) a0 a1 a9 a10 a11 hh, c3_put_g (lr := lr) (lw := lw) (lq := lq) (B := B + 2500) p2 p4 p3 hl1 hl2 htc hB hCo hS0 (by omega) hh (by omega) (by omega), fun _ _ _ _ _ _ _ _ h2 => by obtain ⟨q, h, -⟩ := h2; exact ⟨_, h.symm⟩, ?_⟩
        intro r2 v2' kd' K' L' N' S' P' r3 v' fk' gl' go' gi' ga' gs' h2 h3
        obtain ⟨q, rfl, hq2, eq⟩ := h2
        obtain ⟨q', v2q, kdq, Kq, Lq, Nq, Sq, Pq, eq', rfl, hC'⟩ := h3
        have ee := eq.symm.trans eq'
        simp only [Prod.mk.injEq] at ee
        obtain ⟨rfl, rfl, rfl, rfl, rfl, rfl, rfl, rfl⟩ := ee
        have hlen2 := plc_len (rm := rm) (wd := wd) (key := key) (len := len) (tc := tc) (K := K) (L := L) 2400 nx v2 kd N S P
        rw [eq] at hlen2
        exact ⟨⟨_, rfl, rfl⟩, hC', hlen2⟩
  · have e : cl = 1 := by omega
    subst e
    exact Pair.same hC (c2_put_c a11) (c3_put_c d17)
end PR
