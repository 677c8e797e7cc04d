theorem own_S {S : List Nat} {o : Nat} (ho : o ≤ S.length) : (ins S o 0).set o ((ins S o 0).getD o 0 + 1) = ins S o 1 := by
  rw [ins_get ho, if_neg (Nat.lt_irrefl _), if_pos rfl]
  unfold ins
  have hl : (S.take o).length = o := by simp; omega
  rw [List.set_append_right _ _ (by omega), hl, Nat.sub_self]
  rfl
/-- where a key belongs, and where its record comes -/
theorem pIx_b {K : List Int64} {L N S P : List Nat} (hJ : J2 K L N S P) (key : Int64) : pIx K S key < S.length ∧ sm S 0 (pIx K S key) ≤ ngt K key ∧ ngt K key ≤ sm S 0 (pIx K S key) + S.getD (pIx K S key) 0 := by
  obtain ⟨j1, j2, j3, j4, j5, j6, j7, j8⟩ := hJ
  have hl := ngt_le K key
  have h0 : pIx K S key < S.length := gOf_lt j5
  refine ⟨h0, ?_⟩
  unfold pIx at *
  by_cases c : ngt K key - 1 < S.sum
  · rw [gOf_gIx c]
    have := gIx_spec c
    omega
  · have e : gOf S (ngt K key - 1) = 0 := by unfold gOf; rw [if_neg c]
    rw [e]
    have e2 : sm S 0 0 = 0 := rfl
    omega
theorem pIx_blT {K : List Int64} {L N S P : List Nat} (hJ : J2 K L N S P) (hs : srt K) (key : Int64) : blT K S key (pIx K S key) := by
  have hb := pIx_b hJ key
  obtain ⟨j1, j2, j3, j4, j5, j6, j7, j8⟩ := hJ
  have hl := ngt_le K key
  refine ⟨hb.1, fun i hi1 hi2 => ?_⟩
  have hS : ∀ q, q < S.length → 1 ≤ S.getD q 0 := by
    rcases j7 with z | z
    · intro q hq; omega
    · exact fun q hq => z _ (getD_mem hq)
  have g1 := sm0_get S i
  have g2 := hS i hi2
  rw [ngt_iff hs (by omega)]
  constructor
  · intro h
    rcases Nat.lt_or_ge (pIx K S key) i with q | q
    · exfalso
      have m := sm0_mono S (show pIx K S key + 1 ≤ i by omega)
      have s4 := sm0_s hb.1
      by_cases c : ngt K key = 0
      · omega
      · have c2 : ngt K key - 1 < S.sum := by omega
        have e : pIx K S key = gIx S (ngt K key - 1) := gOf_gIx c2
        have := gIx_spec c2
        rw [← e] at this
        omega
    · exact q
  · intro h
    have m := sm0_mono S h
    by_cases c : ngt K key = 0
    · exfalso
      have c2 : 0 < S.sum := by omega
      have e : pIx K S key = gIx S 0 := by unfold pIx; rw [c]; exact gOf_gIx c2
      have := gIx_spec c2
      have e3 : gIx S 0 = 0 := gIx_eq j5 (Nat.zero_le _) (by have := hS 0 j5; have e2 : sm S 0 0 = 0 := rfl; omega)
      omega
    · have c2 : ngt K key - 1 < S.sum := by omega
      have e : pIx K S key = gIx S (ngt K key - 1) := gOf_gIx c2
      have := gIx_spec c2
      rw [← e] at this
      omega
theorem own_t {K : List Int64} {S : List Nat} {key : Int64} {i : Nat} (hs : srt K) (hh : ¬ hask K key) (hi : i < S.length) (h1 : S.getD i 0 = 1) (hlt : sm S 0 i < K.length) (ht1 : sm S 0 i ≤ ngt K key) (ht2 : ngt K key ≤ sm S 0 i + S.getD i 0) : sm S 0 (ownAt K S key i) = ngt K key := by
  have hT := (lsT_n hs hh).2 _ hlt
  have s4 := sm0_s hi
  unfold ownAt
  by_cases c : K.getD (sm S 0 i) 0 < key
  · rw [if_pos c]
    have := hT.mp c
    omega
  · rw [if_neg c]
    have : ¬ sm S 0 i < ngt K key := fun z => c (hT.mpr z)
    omega
theorem ownAt_c (K : List Int64) (S : List Nat) (key : Int64) (i : Nat) : ownAt K S key i = i ∨ ownAt K S key i = i + 1 := by
  unfold ownAt
  split
  · exact Or.inr rfl
  · exact Or.inl rfl
/-- a record gets an interval of its own, at place o -/
theorem Core.own {rm wd nx ac : Nat} {K : List Int64} {L N S P A : List Nat} {fk : Nat → Int64} {gl go gi ga : Nat → Nat} (h : Core rm wd nx ac K L N S P A fk gl go gi ga) (hk : K.length < 600) (hrm : rm ≤ 1000) {key : Int64} {i o t len : Nat} (hi : i < S.length) (ho : o = i ∨ o = i + 1) (h1 : S.getD i 0 = 1) (ht : sm S 0 o = t) (hs : srt (ins K t key)) (hl1 : 1 ≤ len) (hl2 : len ≤ rm) (hw : P.getD (gIx P i) 0 < wd) (hnx : nx < 2 ^ 31) :
    Core rm wd (nx + 1) ac (ins K t key) (ins L t len) (ins N o nx) (ins S o 1) (P.set (gIx P i) (P.getD (gIx P i) 0 + 1)) A (vp_updL (shf fk t K.length) t key) (va_up (shf gl t K.length) t len) (va_up (shf go t K.length) t nx) (va_up (shf gi o S.length) o nx) (va_up (shf ga o S.length) o (ga i)) := by
  obtain ⟨⟨r1, r2, r3, r4, r5, r6, r7, r8⟩, ⟨j1, j2, j3, j4, j5, j6, j7, j8⟩, c1, c2, c3, c4, c5, c6, b1, b2, b3, b4⟩ := h
  have hgl := gIx_lt (L := P) (m := i) (by omega)
  have ho2 : o ≤ S.length := by omega
  have htl : t ≤ K.length := by have := sm_le S 0 o; omega
  have eK := ins_len (L := K) (j := t) (x := key) htl
  have eL := ins_len (L := L) (j := t) (x := len) (by omega)
  have eN := ins_len (L := N) (j := o) (x := nx) (by omega)
  have eS := ins_len (L := S) (j := o) (x := 1) ho2
  have eSs := ins_sum S o 1
  have ePs := set_sum (x := P.getD (gIx P i) 0 + 1) hgl
  have hL : ∀ x ∈ ins L t len, 1 ≤ x ∧ x ≤ rm := fun x hx => by
    rcases mem_ins hx with z | z
    · subst z; exact ⟨hl1, hl2⟩
    · exact c3 x z
  refine ⟨⟨arr_insL r1 htl, ?_, ?_, ?_, ?_, nodup_ins r6 (fun z => by have := c5 _ z; omega), r7, by rw [List.length_set]; exact r8⟩, ⟨by omega, by omega, by omega, by omega, by omega, ?_, Or.inr ?_, lsum_b hL hrm (by omega)⟩, hs, ?_, hL, ?_, ?_, c6, vup_b b1 (by omega), vup_b b2 hnx, vup_b b3 hnx, vup_b b4 (b4 i)⟩
  · intro j hj
    exact arr_insN (n := K.length) (by omega) (fun j hj => r2 j hj) htl j (by omega)
  · intro j hj
    have G := fun q => ins_get (L := N) (j := o) (x := nx) (d := 0) (by omega) q
    rw [gIx_new ho2 (by omega), ht]
    by_cases q : j < t
    · have c := (gI_cmp (S := S) (m := j) (i := o) (by omega)).mpr (by omega)
      rw [if_pos q, G, if_pos c]
      unfold va_up
      rw [if_neg (by omega), shf_lo (by omega), r3 j (by omega)]
    · rw [if_neg q]
      by_cases q2 : j = t
      · rw [if_pos q2, G, if_neg (Nat.lt_irrefl _), if_pos rfl]
        unfold va_up
        rw [if_pos q2]
      · have c : ¬ gIx S (j - 1) < o := fun z => by have := (gI_cmp (S := S) (m := j - 1) (i := o) (by omega)).mp z; omega
        rw [if_neg q2, G, if_neg (by omega), if_neg (by omega), Nat.add_sub_cancel]
        unfold va_up shf
        rw [if_neg q2, if_pos ⟨by omega, by omega⟩, r3 _ (by omega)]
  · intro q hq
    exact arr_insN (n := S.length) (by omega) (fun q hq => r4 q hq) ho2 q (by omega)
  · intro q hq
    exact ga_grow (m := S.length) (by omega) hi ho r5 q (by omega)
  · intro x hx
    rcases List.mem_or_eq_of_mem_set hx with y | y
    · exact j6 x y
    · omega
  · intro x hx
    rcases mem_ins hx with z | z
    · omega
    · rcases j7 with y | y
      · obtain ⟨w, rfl⟩ := List.length_eq_one_iff.mp y
        have e : i = 0 := by simp at hi; omega
        subst e
        simp at z h1
        omega
      · exact y x z
  · intro x hx
    rcases List.mem_or_eq_of_mem_set hx with y | y
    · exact c2 x y
    · omega
  · intro q hq
    have l1 := lin_pr (ins L t len) (ins S o 1) q
    have P1 := sm0_ins (L := S) (t := o) (x := 1) ho2 q
    have F := fun x => sm0_ins (L := L) (t := t) (x := len) (by omega) x
    rw [ins_get ho2] at l1
    rcases Nat.lt_trichotomy q o with z | z | z
    · rw [if_pos (by omega)] at P1
      have s4 := sm0_s (show q < S.length by omega)
      have m := sm0_mono S (show q + 1 ≤ o by omega)
      rw [P1, if_pos z, F, F, if_pos (by omega), if_pos (by omega)] at l1
      have l0 := lin_pr L S q
      have := c4 q (by omega)
      omega
    · subst z
      rw [if_pos (Nat.le_refl _)] at P1
      rw [P1, if_neg (Nat.lt_irrefl _), if_pos rfl, F, F, ht, if_pos (Nat.le_refl _), if_neg (by omega), Nat.add_sub_cancel] at l1
      omega
    · rw [if_neg (by omega)] at P1
      have m := sm0_mono S (show o ≤ q - 1 by omega)
      rw [P1, if_neg (by omega), if_neg (by omega), F, F, if_neg (by omega), if_neg (by omega), Nat.add_sub_cancel, show sm S 0 (q - 1) + 1 + S.getD (q - 1) 0 - 1 = sm S 0 (q - 1) + S.getD (q - 1) 0 by omega] at l1
      have l0 := lin_pr L S (q - 1)
      have := c4 (q - 1) (by omega)
      omega
  · intro x hx
    rcases mem_ins hx with z | z
    · omega
    · have := c5 x z; omega
