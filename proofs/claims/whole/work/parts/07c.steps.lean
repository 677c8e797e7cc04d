theorem rpl_no {f : Nat → Nat} {a k x y j : Nat} (h : ¬ (a ≤ j ∧ j < k ∧ f j = x)) : rpl f a k x y j = f j := by unfold rpl; rw [if_neg h]
theorem rpl_yes {f : Nat → Nat} {a k x y j : Nat} (h : a ≤ j ∧ j < k ∧ f j = x) : rpl f a k x y j = y := by unfold rpl; rw [if_pos h]
theorem saf_no {f : Nat → Nat} {a b k x j : Nat} (h : ¬ (a ≤ j ∧ j < b ∧ j < k)) : saf f a b k x j = f j := by unfold saf; rw [if_neg h]
theorem saf_yes {f : Nat → Nat} {a b k x j : Nat} (h : a ≤ j ∧ j < b ∧ j < k) : saf f a b k x j = x := by unfold saf; rw [if_pos h]
theorem gIx_own {P : List Nat} {i : Nat} (hP : i < P.sum) : sm P 0 (gIx P i) ≤ i ∧ i < sm P 0 (gIx P i) + P.getD (gIx P i) 0 := gIx_spec hP
/-- the areas' rows, when an interval comes at place o beside interval i -/
theorem ga_grow {P A : List Nat} {ga : Nat → Nat} {i o m : Nat} (hm : P.sum = m) (hi : i < m) (ho : o = i ∨ o = i + 1) (r5 : ∀ q, q < m → ga q = A.getD (gIx P q) 0) : ∀ q, q < m + 1 → va_up (shf ga o m) o (ga i) q = A.getD (gIx (P.set (gIx P i) (P.getD (gIx P i) 0 + 1)) q) 0 := by
  intro q hq
  have hg := gIx_lt (L := P) (m := i) (by omega)
  have h1 := gIx_own (P := P) (i := i) (by omega)
  rw [gIx_grow hg (t := o) (by omega) (by omega) (by omega)]
  unfold va_up
  by_cases e : q = o
  · rw [if_pos e, if_neg (by omega), if_pos e, r5 i hi]
  · rw [if_neg e]
    by_cases z : q < o
    · rw [if_pos z, shf_lo (by omega), r5 q (by omega)]
    · rw [if_neg z, if_neg e]
      unfold shf
      rw [if_pos ⟨by omega, by omega⟩, r5 _ (by omega)]
/-- an interval splits -/
theorem Core.halve {rm wd nx ac nx2 : Nat} {K : List Int64} {L N S P A : List Nat} {fk : Nat → Int64} {gl go gi ga : Nat → Nat} (h : Core rm wd nx ac K L N S P A fk gl go gi ga) (hk : K.length ≤ 600) {i num k : Nat} (hi : i < S.length) (hk1 : 1 ≤ k) (hk2 : k + 1 ≤ S.getD i 0) (hw : P.getD (gIx P i) 0 < wd) (hN : ∀ x ∈ N, x < num) (hnum : num < nx2) (hnum2 : num < 2 ^ 31) :
    Core rm wd nx2 ac K L (ins N (i + 1) num) (ins (S.set i (S.getD i 0 - (S.getD i 0 - k))) (i + 1) (S.getD i 0 - k)) (P.set (gIx P i) (P.getD (gIx P i) 0 + 1)) A fk gl (rpl go (sm S 0 i + k) K.length (gi i) num) (va_up (shf gi (i + 1) S.length) (i + 1) num) (va_up (shf ga (i + 1) S.length) (i + 1) (ga i)) := by
  obtain ⟨hR, hJ, c1, c2, c3, c4, c5, c6, b1, b2, b3, b4⟩ := h
  have hgl := gIx_lt (L := P) (m := i) (by have := hJ.2.2.2.1; omega)
  have hJ' := hJ.halve (num := num) hi hgl hk1 hk2
  have hof := fun {j : Nat} (hj : j < K.length) => hR.of hJ hi hj
  obtain ⟨r1, r2, r3, r4, r5, r6, r7, r8⟩ := hR
  obtain ⟨j1, j2, j3, j4, j5, j6, j7, j8⟩ := hJ
  have eS : (S.set i (S.getD i 0 - (S.getD i 0 - k))).length = S.length := List.length_set ..
  have eS2 := ins_len (L := S.set i (S.getD i 0 - (S.getD i 0 - k))) (j := i + 1) (x := S.getD i 0 - k) (by omega)
  have hg := sm0_get S i
  refine ⟨⟨r1, r2, ?_, ?_, ?_, nodup_ins r6 (fun z => by have := hN _ z; omega), r7, by rw [List.length_set]; exact r8⟩, hJ', c1, ?_, c3, ?_, ?_, c6, b1, rpl_b b2 hnum2, vup_b b3 hnum2, vup_b b4 (b4 i)⟩
  · intro j hj
    have hi2 := hof hj
    have hgi : gIx S j = i ↔ (sm S 0 i ≤ j ∧ j < sm S 0 i + S.getD i 0) := gIx_iff (by omega) hi
    have hgl2 := gIx_lt (L := S) (m := j) (by omega)
    have G := fun q => ins_get (L := N) (j := i + 1) (x := num) (d := 0) (by omega) q
    rw [gIx_split hi (by omega) (by omega)]
    by_cases z1 : gIx S j < i
    · rw [if_pos z1, G, if_pos (by omega), rpl_no (fun q => by have := (hi2.mp q.2.2); have := hgi.mpr this; omega), r3 j hj]
    · rw [if_neg z1]
      by_cases z2 : gIx S j = i
      · rw [if_pos z2]
        have z3 := hgi.mp z2
        by_cases z4 : j < sm S 0 i + k
        · rw [if_pos z4, G, if_pos (by omega), rpl_no (fun q => by omega), r3 j hj, z2]
        · rw [if_neg z4, G, if_neg (by omega), if_pos rfl, rpl_yes ⟨by omega, hj, hi2.mpr z3⟩]
      · rw [if_neg z2, G, if_neg (by omega), if_neg (by omega), Nat.add_sub_cancel, rpl_no (fun q => z2 (hgi.mpr (hi2.mp q.2.2))), r3 j hj]
  · intro q hq
    exact arr_insN (n := S.length) (by omega) (fun q hq => r4 q hq) (by omega) q (by omega)
  · intro q hq
    exact ga_grow (m := S.length) (by omega) hi (Or.inr rfl) r5 q (by omega)
  · intro x hx
    rcases List.mem_or_eq_of_mem_set hx with y | y
    · exact c2 x y
    · omega
  · intro q hq
    have P1 := fun q => sm0_ins (L := S.set i (S.getD i 0 - (S.getD i 0 - k))) (t := i + 1) (x := S.getD i 0 - k) (by omega) q
    have P2 := fun q => sm0_set (x := S.getD i 0 - (S.getD i 0 - k)) hi q
    have l1 := lin_pr L (ins (S.set i (S.getD i 0 - (S.getD i 0 - k))) (i + 1) (S.getD i 0 - k)) q
    rw [ins_get (by omega), P1] at l1
    have s4 := sm0_s hi
    rcases Nat.lt_trichotomy q i with z | z | z
    · have p2 := P2 q
      rw [if_pos (by omega), if_pos (by omega)] at p2
      rw [if_pos (by omega), if_pos (by omega), getD_set hi, if_neg (by omega), show sm (S.set i (S.getD i 0 - (S.getD i 0 - k))) 0 q = sm S 0 q by omega] at l1
      have l0 := lin_pr L S q
      have := c4 q (by omega)
      omega
    · subst z
      have p2 := P2 q
      rw [if_pos (by omega), if_pos (by omega)] at p2
      rw [if_pos (by omega), if_pos (by omega), getD_set hi, if_pos rfl, show sm (S.set q (S.getD q 0 - (S.getD q 0 - k))) 0 q = sm S 0 q by omega] at l1
      have l0 := lin_pr L S q
      have := c4 q (by omega)
      have := sm0_mono L (show sm S 0 q + (S.getD q 0 - (S.getD q 0 - k)) ≤ sm S 0 q + S.getD q 0 by omega)
      omega
    · by_cases z2 : q = i + 1
      · subst z2
        have p2 := P2 (i + 1)
        rw [if_neg (by omega), if_neg (by omega)] at p2
        rw [if_pos (by omega), if_neg (by omega), if_pos rfl, show sm (S.set i (S.getD i 0 - (S.getD i 0 - k))) 0 (i + 1) = sm S 0 i + k by omega, show sm S 0 i + k + (S.getD i 0 - k) = sm S 0 i + S.getD i 0 by omega] at l1
        have l0 := lin_pr L S i
        have := c4 i hi
        have := sm0_mono L (show sm S 0 i ≤ sm S 0 i + k by omega)
        omega
      · have p2 := P2 (q - 1)
        rw [if_neg (by omega), if_neg (by omega)] at p2
        rw [if_neg (by omega), if_neg (by omega), if_neg z2, getD_set hi, if_neg (by omega), show sm (S.set i (S.getD i 0 - (S.getD i 0 - k))) 0 (q - 1) + (S.getD i 0 - k) = sm S 0 (q - 1) by omega] at l1
        have l0 := lin_pr L S (q - 1)
        have := c4 (q - 1) (by omega)
        omega
  · intro x hx
    rcases mem_ins hx with z | z
    · omega
    · have := hN x z; omega
/-- an area splits -/
theorem Core.area {rm wd nx ac : Nat} {K : List Int64} {L N S P A : List Nat} {fk : Nat → Int64} {gl go gi ga : Nat → Nat} (h : Core rm wd nx ac K L N S P A fk gl go gi ga) {i w : Nat} (hi : i < S.length) (hw1 : 1 ≤ w) (hw2 : w + 1 ≤ P.getD (gIx P i) 0) (hac : ac + 1 < 2 ^ 31) :
    Core rm wd nx (ac + 1) K L N S (ins (P.set (gIx P i) (P.getD (gIx P i) 0 - w)) (gIx P i + 1) w) (ins A (gIx P i + 1) (ac + 1)) fk gl go gi (saf ga (sm P 0 (gIx P i) + (P.getD (gIx P i) 0 - w)) (sm P 0 (gIx P i) + P.getD (gIx P i) 0) S.length (ac + 1)) := by
  obtain ⟨hR, hJ, c1, c2, c3, c4, c5, c6, b1, b2, b3, b4⟩ := h
  have hgl := gIx_lt (L := P) (m := i) (by have := hJ.2.2.2.1; omega)
  have hJ' := hJ.area hgl hw1 hw2
  obtain ⟨r1, r2, r3, r4, r5, r6, r7, r8⟩ := hR
  obtain ⟨j1, j2, j3, j4, j5, j6, j7, j8⟩ := hJ
  generalize hgd : gIx P i = g at *
  have eP : (P.set g (P.getD g 0 - w)).length = P.length := List.length_set ..
  have eA := ins_len (L := A) (j := g + 1) (x := ac + 1) (by omega)
  have eP2 := ins_len (L := P.set g (P.getD g 0 - w)) (j := g + 1) (x := w) (by omega)
  refine ⟨⟨r1, r2, r3, r4, ?_, r6, nodup_ins r7 (fun z => by have := c6 _ z; omega), by omega⟩, hJ', c1, ?_, c3, c4, c5, ?_, b1, b2, b3, saf_b b4 hac⟩
  · intro q hq
    have e : ins (P.set g (P.getD g 0 - w)) (g + 1) w = ins (P.set g (P.getD g 0 - (P.getD g 0 - (P.getD g 0 - w)))) (g + 1) (P.getD g 0 - (P.getD g 0 - w)) := by
      rw [show P.getD g 0 - (P.getD g 0 - w) = w by omega]
    have hgq : gIx P q = g ↔ (sm P 0 g ≤ q ∧ q < sm P 0 g + P.getD g 0) := gIx_iff (by omega) hgl
    have hgl2 := gIx_lt (L := P) (m := q) (by omega)
    have G := fun q => ins_get (L := A) (j := g + 1) (x := ac + 1) (d := 0) (by omega) q
    rw [e, gIx_split hgl (by omega) (by omega)]
    by_cases z1 : gIx P q < g
    · rw [if_pos z1, G, if_pos (by omega), saf_no (fun z => by have := hgq.mpr ⟨by omega, z.2.1⟩; omega), r5 q hq]
    · rw [if_neg z1]
      by_cases z2 : gIx P q = g
      · rw [if_pos z2]
        have z3 := hgq.mp z2
        by_cases z4 : q < sm P 0 g + (P.getD g 0 - w)
        · rw [if_pos z4, G, if_pos (by omega), saf_no (fun z => by omega), r5 q hq, z2]
        · rw [if_neg z4, G, if_neg (by omega), if_pos rfl, saf_yes ⟨by omega, by omega, hq⟩]
      · rw [if_neg z2, G, if_neg (by omega), if_neg (by omega), Nat.add_sub_cancel, saf_no (fun z => z2 (hgq.mpr ⟨by omega, z.2.1⟩)), r5 q hq]
  · intro x hx
    rcases mem_ins hx with z | z
    · have := c2 _ (getD_mem hgl); omega
    · rcases List.mem_or_eq_of_mem_set z with y | y
      · exact c2 x y
      · have := c2 _ (getD_mem hgl); omega
  · intro x hx
    rcases mem_ins hx with z | z
    · omega
    · have := c6 x z; omega
