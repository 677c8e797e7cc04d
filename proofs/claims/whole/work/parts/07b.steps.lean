/-- the class's lists and the reference's arrays together -/
def Core (rm wd nx ac : Nat) (K : List Int64) (L N S P A : List Nat) (fk : Nat → Int64) (gl go gi ga : Nat → Nat) : Prop :=
  Rel3 K L N S P A fk gl go gi ga ∧ J2 K L N S P ∧ srt K ∧ (∀ x ∈ P, x ≤ wd) ∧ (∀ x ∈ L, 1 ≤ x ∧ x ≤ rm) ∧ (∀ i, i < S.length → lin L S i ≤ rm) ∧ (∀ x ∈ N, x < nx) ∧ (∀ x ∈ A, x ≤ ac) ∧ (∀ k, gl k < 2 ^ 31) ∧ (∀ k, go k < 2 ^ 31) ∧ (∀ k, gi k < 2 ^ 31) ∧ (∀ k, ga k < 2 ^ 31)
theorem lin_pr (L S : List Nat) (i : Nat) : lin L S i + sm L 0 (sm S 0 i) = sm L 0 (sm S 0 i + S.getD i 0) := by
  have h := sm_take L (sm S 0 i) (sm S 0 i + S.getD i 0)
  rw [Nat.min_eq_left (by omega)] at h
  exact h
theorem sum_le_mul {L : List Nat} {c : Nat} (h : ∀ x ∈ L, x ≤ c) : L.sum ≤ c * L.length := by
  induction L with
  | nil => exact Nat.zero_le _
  | cons x l ih =>
    have h1 := h x List.mem_cons_self
    have h2 := ih (fun y hy => h y (List.mem_cons_of_mem _ hy))
    simp only [List.sum_cons, List.length_cons, Nat.mul_add, Nat.mul_one]
    omega
theorem lsum_b {L : List Nat} {rm : Nat} (h : ∀ x ∈ L, 1 ≤ x ∧ x ≤ rm) (hrm : rm ≤ 1000) (hl : L.length ≤ 600) : L.sum ≤ 2 ^ 20 := by
  have h1 := sum_le_mul (c := 1000) (fun x hx => by have := h x hx; omega)
  omega
theorem arr_insL {fk : Nat → Int64} {K : List Int64} {t : Nat} {key : Int64} (h : ∀ j, j < K.length → fk j = K.getD j 0) (ht : t ≤ K.length) : ∀ j, j < (ins K t key).length → vp_updL (shf fk t K.length) t key j = (ins K t key).getD j 0 := by
  intro j hj
  rw [ins_len ht] at hj
  rw [ins_get ht]
  by_cases e : j = t
  · subst e; rw [pk_uLs, if_neg (Nat.lt_irrefl _), if_pos rfl]
  · rw [pk_uLn e]
    by_cases q : j < t
    · rw [if_pos q, shf_lo (by omega), h j (by omega)]
    · rw [if_neg q, if_neg e]
      unfold shf
      rw [if_pos ⟨by omega, by omega⟩, h _ (by omega)]
theorem arr_insN {g : Nat → Nat} {L : List Nat} {n t x : Nat} (hn : n = L.length) (h : ∀ j, j < n → g j = L.getD j 0) (ht : t ≤ n) : ∀ j, j < n + 1 → va_up (shf g t n) t x j = (ins L t x).getD j 0 := by
  intro j hj
  rw [ins_get (by omega)]
  by_cases e : j = t
  · subst e; rw [if_neg (Nat.lt_irrefl _), if_pos rfl]; unfold va_up; rw [if_pos rfl]
  · unfold va_up
    rw [if_neg e]
    by_cases q : j < t
    · rw [if_pos q, shf_lo (by omega), h j (by omega)]
    · rw [if_neg q, if_neg e]
      unfold shf
      rw [if_pos ⟨by omega, by omega⟩, h _ (by omega)]
theorem vup_b {g : Nat → Nat} {t n x : Nat} (h : ∀ k, g k < 2 ^ 31) (hx : x < 2 ^ 31) : ∀ k, va_up (shf g t n) t x k < 2 ^ 31 := by
  intro k
  unfold va_up shf
  split
  · exact hx
  · split
    · exact h _
    · exact h _
theorem srt_ins {K : List Int64} {key : Int64} (hs : srt K) (hh : ¬ hask K key) : srt (ins K (ngt K key) key) := by
  have ht := ngt_le K key
  have hT := lsT_n hs hh
  intro i j hij hj
  rw [ins_len ht] at hj
  rw [ins_get ht, ins_get ht]
  by_cases c1 : j < ngt K key
  · rw [if_pos c1, if_pos (by omega)]; exact hs i j hij (by omega)
  · rw [if_neg c1]
    by_cases c2 : j = ngt K key
    · rw [if_pos c2, if_pos (by omega)]
      exact (hT.2 i (by omega)).mpr (by omega)
    · rw [if_neg c2]
      by_cases c3 : i < ngt K key
      · rw [if_pos c3]; exact hs i (j - 1) (by omega) (by omega)
      · rw [if_neg c3]
        by_cases c4 : i = ngt K key
        · rw [if_pos c4]
          refine Int64.not_le.mp (fun h => ?_)
          have := (ngt_iff hs (show j - 1 < K.length by omega)).mp h
          omega
        · rw [if_neg c4]; exact hs (i - 1) (j - 1) (by omega) (by omega)
theorem nodup_ins {N : List Nat} {j x : Nat} (h : N.Nodup) (hx : x ∉ N) : (ins N j x).Nodup := by
  unfold ins
  have h1 : (N.take j ++ N.drop j).Nodup := by rw [List.take_append_drop]; exact h
  rw [List.nodup_append] at h1 ⊢
  refine ⟨h1.1, ?_, ?_⟩
  · rw [List.nodup_cons]; exact ⟨fun z => hx (List.mem_of_mem_drop z), h1.2.1⟩
  · intro a ha b hb e
    subst e
    rcases List.mem_cons.mp hb with z | z
    · subst z; exact hx (List.mem_of_mem_take ha)
    · exact h1.2.2 a ha a z rfl
/-- a record comes into interval i, at place t -/
theorem Core.ins1 {rm wd nx ac : Nat} {K : List Int64} {L N S P A : List Nat} {fk : Nat → Int64} {gl go gi ga : Nat → Nat} (h : Core rm wd nx ac K L N S P A fk gl go gi ga) (hk : K.length < 600) (hrm : rm ≤ 1000) {key : Int64} {i t len : Nat} (hi : i < S.length) (ht1 : sm S 0 i ≤ t) (ht2 : t ≤ sm S 0 i + S.getD i 0) (hs : srt (ins K t key)) (hl1 : 1 ≤ len) (hroom : lin L S i + len ≤ rm) :
    Core rm wd nx ac (ins K t key) (ins L t len) N (S.set i (S.getD i 0 + 1)) P A (vp_updL (shf fk t K.length) t key) (va_up (shf gl t K.length) t len) (va_up (shf go t K.length) t (gi i)) gi ga := by
  obtain ⟨⟨r1, r2, r3, r4, r5, r6, r7, r8⟩, ⟨j1, j2, j3, j4, j5, j6, j7, j8⟩, c1, c2, c3, c4, c5, c6, b1, b2, b3, b4⟩ := h
  have hg := sm0_get S i
  have eK := ins_len (L := K) (j := t) (x := key) (by omega)
  have eL := ins_len (L := L) (j := t) (x := len) (by omega)
  have eS : (S.set i (S.getD i 0 + 1)).length = S.length := List.length_set ..
  have eSs := set_sum (x := S.getD i 0 + 1) hi
  have hL : ∀ x ∈ ins L t len, 1 ≤ x ∧ x ≤ rm := fun x hx => by
    rcases mem_ins hx with z | z
    · subst z; exact ⟨hl1, by omega⟩
    · exact c3 x z
  refine ⟨⟨arr_insL r1 (by omega), ?_, ?_, ?_, ?_, r6, r7, r8⟩, ⟨by omega, by omega, by omega, by omega, by omega, j6, ?_, lsum_b hL hrm (by omega)⟩, hs, c2, hL, ?_, c5, c6, vup_b b1 (by omega), vup_b b2 (b3 i), b3, b4⟩
  · intro j hj
    exact arr_insN (n := K.length) (by omega) (fun j hj => r2 j hj) (by omega) j (by omega)
  · intro j hj
    rw [gIx_grow hi ht1 ht2 (by omega)]
    unfold va_up
    by_cases q : j = t
    · rw [if_pos q, if_neg (by omega), if_pos q, r4 i hi]
    · rw [if_neg q]
      by_cases q2 : j < t
      · rw [if_pos q2, shf_lo (by omega), r3 j (by omega)]
      · rw [if_neg q2, if_neg q]
        unfold shf
        rw [if_pos ⟨by omega, by omega⟩, r3 _ (by omega)]
  · intro q hq; exact r4 q (by omega)
  · intro q hq; exact r5 q (by omega)
  · rcases j7 with z | z
    · left; omega
    · right
      intro x hx
      rcases List.mem_or_eq_of_mem_set hx with y | y
      · exact z x y
      · omega
  · intro q hq
    have l0 := lin_pr L S q
    have l1 := lin_pr (ins L t len) (S.set i (S.getD i 0 + 1)) q
    have s1 := sm0_set (x := S.getD i 0 + 1) hi q
    have hc := c4 q (by omega)
    have F := fun x => sm0_ins (L := L) (t := t) (x := len) (by omega) x
    rw [getD_set hi] at l1
    rcases Nat.lt_trichotomy q i with z | z | z
    · rw [if_pos (by omega), if_pos (by omega)] at s1
      have m := sm0_mono S (show q + 1 ≤ i by omega)
      have s4 := sm0_s (show q < S.length by omega)
      rw [if_neg (by omega), F, F, if_pos (by omega), if_pos (by omega), show sm (S.set i (S.getD i 0 + 1)) 0 q = sm S 0 q by omega] at l1
      omega
    · subst z
      rw [if_pos (by omega), if_pos (by omega)] at s1
      rw [if_pos rfl, F, F, if_pos (by omega), if_neg (by omega), show sm (S.set q (S.getD q 0 + 1)) 0 q = sm S 0 q by omega, show sm S 0 q + (S.getD q 0 + 1) - 1 = sm S 0 q + S.getD q 0 by omega] at l1
      omega
    · rw [if_neg (by omega), if_neg (by omega)] at s1
      have m := sm0_mono S (show i + 1 ≤ q by omega)
      have s4 := sm0_s hi
      rw [if_neg (by omega), F, F, if_neg (by omega), if_neg (by omega), show sm (S.set i (S.getD i 0 + 1)) 0 q = sm S 0 q + 1 by omega, show sm S 0 q + 1 - 1 = sm S 0 q by omega, show sm S 0 q + 1 + S.getD q 0 - 1 = sm S 0 q + S.getD q 0 by omega] at l1
      omega
