/-! THE REFERENCE beside the class's lists -/
theorem gIx_spec {L : List Nat} : ∀ {m : Nat}, m < L.sum → sm L 0 (gIx L m) ≤ m ∧ m < sm L 0 (gIx L m) + L.getD (gIx L m) 0 := by
  induction L with
  | nil => intro m h; simp at h
  | cons x l ih =>
    intro m h
    simp only [List.sum_cons] at h
    by_cases hx : m < x
    · have e : gIx (x :: l) m = 0 := by simp [gIx, hx]
      rw [e]
      simp [sm, hx]
    · have e : gIx (x :: l) m = gIx l (m - x) + 1 := by simp [gIx, hx]
      rw [e]
      have q := ih (m := m - x) (by omega)
      rw [sm0] at q ⊢
      simp only [List.take_succ_cons, List.sum_cons, List.getD_cons_succ]
      omega
theorem gIx_iff {L : List Nat} {m i : Nat} (hm : m < L.sum) (hi : i < L.length) : gIx L m = i ↔ sm L 0 i ≤ m ∧ m < sm L 0 i + L.getD i 0 := by
  constructor
  · intro h
    subst h
    exact gIx_spec hm
  · intro h
    refine gIx_at hi h.1 ?_
    rw [take_s hi]
    exact h.2
theorem nd_inj {N : List Nat} (h : N.Nodup) {a b : Nat} (ha : a < N.length) (hb : b < N.length) (e : N.getD a 0 = N.getD b 0) : a = b := by
  have e1 : N.getD a 0 = N[a] := by simp [List.getD_eq_getElem?_getD, ha]
  have e2 : N.getD b 0 = N[b] := by simp [List.getD_eq_getElem?_getD, hb]
  rw [e1, e2] at e
  have h2 := List.pairwise_iff_getElem.mp h
  rcases Nat.lt_trichotomy a b with q | q | q
  · exact absurd e (h2 a b ha hb q)
  · exact q
  · exact absurd e.symm (h2 b a hb ha q)
/-- the arrays of the reference hold the lists: keys, lengths, each record's interval, each interval's number and area -/
def Rel3 (K : List Int64) (L N S P A : List Nat) (fk : Nat → Int64) (gl go gi ga : Nat → Nat) : Prop :=
  (∀ j, j < K.length → fk j = K.getD j 0) ∧ (∀ j, j < K.length → gl j = L.getD j 0) ∧ (∀ j, j < K.length → go j = N.getD (gIx S j) 0) ∧ (∀ i, i < S.length → gi i = N.getD i 0) ∧ (∀ i, i < S.length → ga i = A.getD (gIx P i) 0) ∧ N.Nodup ∧ A.Nodup ∧ A.length = P.length
theorem Rel3.of {K : List Int64} {L N S P A : List Nat} {fk : Nat → Int64} {gl go gi ga : Nat → Nat} (h : Rel3 K L N S P A fk gl go gi ga) (hJ : J2 K L N S P) {i j : Nat} (hi : i < S.length) (hj : j < K.length) : go j = gi i ↔ sm S 0 i ≤ j ∧ j < sm S 0 i + S.getD i 0 := by
  obtain ⟨h1, h2, h3, h4, h5, h6, h7, h8⟩ := h
  obtain ⟨j1, j2, j3, j4, j5, j6, j7, j8⟩ := hJ
  rw [h3 j hj, h4 i hi, ← gIx_iff (by omega) hi]
  exact ⟨fun e => nd_inj h6 (by have := gIx_lt (L := S) (m := j) (by omega); omega) (by omega) e, fun e => by rw [e]⟩
theorem Rel3.ar {K : List Int64} {L N S P A : List Nat} {fk : Nat → Int64} {gl go gi ga : Nat → Nat} (h : Rel3 K L N S P A fk gl go gi ga) (hJ : J2 K L N S P) {i k : Nat} (hi : i < S.length) (hk : k < S.length) : ga k = ga i ↔ gIx P k = gIx P i := by
  obtain ⟨h1, h2, h3, h4, h5, h6, h7, h8⟩ := h
  obtain ⟨j1, j2, j3, j4, j5, j6, j7, j8⟩ := hJ
  rw [h5 k hk, h5 i hi]
  exact ⟨fun e => nd_inj h7 (by have := gIx_lt (L := P) (m := k) (by omega); omega) (by have := gIx_lt (L := P) (m := i) (by omega); omega) e, fun e => by rw [e]⟩
theorem gOf_gIx {L : List Nat} {m : Nat} (h : m < L.sum) : gOf L m = gIx L m := by unfold gOf; rw [if_pos h]
theorem sm_snoc {L : List Nat} {a b : Nat} (h : a ≤ b) (hb : b < L.length) : sm L a (b + 1) = sm L a b + L.getD b 0 := by
  unfold sm
  rw [List.take_succ_eq_append_getElem hb, List.drop_append_of_le_length (by simp; omega), List.sum_append]
  simp [List.getD_eq_getElem?_getD, hb]
/-- keys in their order -/
def srt (K : List Int64) : Prop := ∀ i j, i < j → j < K.length → K.getD i 0 < K.getD j 0
theorem ngt_in {K : List Int64} {key : Int64} : ∀ {j : Nat}, j < ngt K key → K.getD j 0 ≤ key := by
  induction K with
  | nil => intro j h; simp [ngt] at h
  | cons x l ih =>
    intro j h
    simp only [ngt] at h
    split at h
    · cases j with
      | zero => simpa using ‹x ≤ key›
      | succ j => rw [List.getD_cons_succ]; exact ih (by omega)
    · omega
theorem ngt_out {K : List Int64} {key : Int64} : ngt K key < K.length → key < K.getD (ngt K key) 0 := by
  induction K with
  | nil => intro h; simp at h
  | cons x l ih =>
    intro h
    simp only [ngt] at h ⊢
    by_cases hx : x ≤ key
    · rw [if_pos hx] at h ⊢
      rw [List.getD_cons_succ]
      exact ih (by simpa using h)
    · rw [if_neg hx]
      simpa using Int64.not_le.mp hx
theorem ngt_iff {K : List Int64} {key : Int64} (hs : srt K) {j : Nat} (hj : j < K.length) : K.getD j 0 ≤ key ↔ j < ngt K key := by
  constructor
  · intro h
    rcases Nat.lt_or_ge j (ngt K key) with q | q
    · exact q
    · exfalso
      have h1 := ngt_out (K := K) (key := key) (by omega)
      rcases Nat.eq_or_lt_of_le q with e | e
      · rw [e] at h1; exact absurd h (Int64.not_le.mpr h1)
      · exact absurd h (Int64.not_le.mpr (Int64.lt_trans h1 (hs _ _ e hj)))
  · exact ngt_in
/-- how many keys are less: t -/
def lsT (K : List Int64) (key : Int64) (t : Nat) : Prop := t ≤ K.length ∧ ∀ j, j < K.length → (K.getD j 0 < key ↔ j < t)
theorem lsT_n {K : List Int64} {key : Int64} (hs : srt K) (hh : ¬ hask K key) : lsT K key (ngt K key) := by
  refine ⟨ngt_le K key, fun j hj => ?_⟩
  rw [← ngt_iff hs hj]
  constructor
  · exact fun h => Int64.le_of_lt h
  · intro h
    rcases Int64.lt_or_eq_of_le h with q | q
    · exact q
    · exfalso
      have h1 : j < ngt K key := (ngt_iff hs hj).mp h
      apply hh
      refine ⟨by omega, ?_⟩
      rcases Nat.lt_or_ge j (ngt K key - 1) with e | e
      · have h2 := hs j (ngt K key - 1) e (by have := ngt_le K key; omega)
        have h3 := ngt_in (K := K) (key := key) (j := ngt K key - 1) (by omega)
        rw [q] at h2
        exact absurd h3 (Int64.not_le.mpr h2)
      · have e2 : ngt K key - 1 = j := by omega
        rw [e2]; exact q
theorem lsT_y {K : List Int64} {key : Int64} (hs : srt K) (hh : hask K key) : lsT K key (ngt K key - 1) := by
  have hl := ngt_le K key
  have h0 := hh.1
  refine ⟨by omega, fun j hj => ?_⟩
  constructor
  · intro h
    have h1 := (ngt_iff hs hj).mp (Int64.le_of_lt h)
    rcases Nat.lt_or_ge j (ngt K key - 1) with e | e
    · exact e
    · have e2 : j = ngt K key - 1 := by omega
      rw [e2, hh.2] at h
      exact (Int64.lt_irrefl h).elim
  · intro h
    have := hs j (ngt K key - 1) h (by omega)
    rw [hh.2] at this
    exact this
