/-! lists of naturals: sums under a change; what the class's rows keep (J2); place as a function -/
theorem ins_sum (L : List Nat) (j x : Nat) : (ins L j x).sum = L.sum + x := by
  have h := sum_split L j
  unfold ins
  rw [List.sum_append, List.sum_cons]
  omega
theorem set_sum {L : List Nat} {j x : Nat} (h : j < L.length) : (L.set j x).sum + L.getD j 0 = L.sum + x := by
  have h1 := sum_split L j
  rw [List.drop_eq_getElem_cons h, List.sum_cons] at h1
  rw [List.set_eq_take_append_cons_drop, if_pos h, List.sum_append, List.sum_cons]
  have h2 : L.getD j 0 = L[j] := by simp [List.getD_eq_getElem?_getD, h]
  rw [h2]
  omega
theorem del_sum {L : List Nat} {j : Nat} (h : j < L.length) : (del L j).sum + L.getD j 0 = L.sum := by
  have h1 := sum_split L j
  rw [List.drop_eq_getElem_cons h, List.sum_cons] at h1
  unfold del
  rw [List.sum_append]
  have h2 : L.getD j 0 = L[j] := by simp [List.getD_eq_getElem?_getD, h]
  rw [h2]
  omega
theorem mem_ins {α : Type} {L : List α} {j : Nat} {x y : α} (h : y ∈ ins L j x) : y = x ∨ y ∈ L := by
  unfold ins at h
  rcases List.mem_append.mp h with h | h
  · exact Or.inr (List.mem_of_mem_take h)
  · rcases List.mem_cons.mp h with h | h
    · exact Or.inl h
    · exact Or.inr (List.mem_of_mem_drop h)
theorem mem_del {α : Type} {L : List α} {j : Nat} {y : α} (h : y ∈ del L j) : y ∈ L := by
  unfold del at h
  rcases List.mem_append.mp h with h | h
  · exact List.mem_of_mem_take h
  · exact List.mem_of_mem_drop h
theorem getD_mem {L : List Nat} {j : Nat} (h : j < L.length) : L.getD j 0 ∈ L := by
  have : L.getD j 0 = L[j] := by simp [List.getD_eq_getElem?_getD, h]
  rw [this]
  exact List.getElem_mem h
theorem len_le_sum {L : List Nat} (h : ∀ x ∈ L, 1 ≤ x) : L.length ≤ L.sum := by
  induction L with
  | nil => exact Nat.le_refl _
  | cons x l ih =>
    have h1 := h x List.mem_cons_self
    have h2 := ih (fun y hy => h y (List.mem_cons_of_mem _ hy))
    simp only [List.length_cons, List.sum_cons]
    omega
theorem sum_pos_len {L : List Nat} (h : 0 < L.sum) : 0 < L.length := by
  cases L with
  | nil => simp at h
  | cons x l => simp
/-- what the class's rows keep -/
def J2 (K : List Int64) (L N S P : List Nat) : Prop := L.length = K.length ∧ N.length = S.length ∧ S.sum = K.length ∧ P.sum = S.length ∧ 0 < S.length ∧ (∀ x ∈ P, 1 ≤ x) ∧ (S.length = 1 ∨ ∀ x ∈ S, 1 ≤ x) ∧ L.sum ≤ 2 ^ 20
theorem J2.b {K : List Int64} {L N S P : List Nat} (h : J2 K L N S P) : P.length ≤ S.length ∧ 0 < P.length ∧ S.length ≤ K.length + 1 ∧ (1 ≤ K.length → S.length ≤ K.length) := by
  obtain ⟨h1, h2, h3, h4, h5, h6, h7, h8⟩ := h
  have q1 := len_le_sum h6
  have q2 : 0 < P.length := sum_pos_len (by omega)
  refine ⟨by omega, q2, ?_, ?_⟩
  · rcases h7 with h7 | h7
    · omega
    · have := len_le_sum h7; omega
  · intro hk
    rcases h7 with h7 | h7
    · omega
    · have := len_le_sum h7; omega
theorem J2.area {K : List Int64} {L N S P : List Nat} {a w : Nat} (h : J2 K L N S P) (ha : a < P.length) (hw : 1 ≤ w) (hle : w + 1 ≤ P.getD a 0) : J2 K L N S (ins (P.set a (P.getD a 0 - w)) (a + 1) w) := by
  obtain ⟨h1, h2, h3, h4, h5, h6, h7, h8⟩ := h
  have q := set_sum (x := P.getD a 0 - w) ha
  refine ⟨h1, h2, h3, ?_, h5, ?_, h7, h8⟩
  · rw [ins_sum]; omega
  · intro x hx
    rcases mem_ins hx with hx | hx
    · omega
    · rcases List.mem_or_eq_of_mem_set hx with hx | hx
      · exact h6 x hx
      · omega
theorem J2.halve {K : List Int64} {L N S P : List Nat} {i g num k : Nat} (h : J2 K L N S P) (hi : i < S.length) (hg : g < P.length) (hk : 1 ≤ k) (hle : k + 1 ≤ S.getD i 0) : J2 K L (ins N (i + 1) num) (ins (S.set i (S.getD i 0 - (S.getD i 0 - k))) (i + 1) (S.getD i 0 - k)) (P.set g (P.getD g 0 + 1)) := by
  obtain ⟨h1, h2, h3, h4, h5, h6, h7, h8⟩ := h
  have q := set_sum (x := S.getD i 0 - (S.getD i 0 - k)) hi
  have q2 := set_sum (x := P.getD g 0 + 1) hg
  have q3 : (S.set i (S.getD i 0 - (S.getD i 0 - k))).length = S.length := List.length_set ..
  have q4 := ins_len (L := S.set i (S.getD i 0 - (S.getD i 0 - k))) (j := i + 1) (x := S.getD i 0 - k) (by omega)
  have q5 := ins_len (L := N) (j := i + 1) (x := num) (by omega)
  refine ⟨h1, by omega, ?_, by omega, by omega, ?_, Or.inr ?_, h8⟩
  · rw [ins_sum]; omega
  · intro x hx
    rcases List.mem_or_eq_of_mem_set hx with hx | hx
    · exact h6 x hx
    · omega
  · intro x hx
    rcases mem_ins hx with hx | hx
    · omega
    · rcases List.mem_or_eq_of_mem_set hx with hx | hx
      · rcases h7 with h7 | h7
        · obtain ⟨y, rfl⟩ := List.length_eq_one_iff.mp h7
          have e : i = 0 := by simp at hi; omega
          subst e
          simp at hx
          subst hx
          simp at hle
          omega
        · exact h7 x hx
      · omega
/-- the interval where a key belongs -/
def pIx (K : List Int64) (S : List Nat) (key : Int64) : Nat := gOf S (ngt K key - 1)
/-- putting a record: what is answered (1 put, 0 cut or no end), and all that is there behind it -/
def plc (rm wd : Nat) (key : Int64) (len tc : Nat) : Nat → Nat → (Nat → Int32) → Nat → List Int64 → List Nat → List Nat → List Nat → List Nat → Nat × (Nat → Int32) × Nat × List Int64 × List Nat × List Nat × List Nat × List Nat
  | 0, _, v, kd, K, L, N, S, P => (0, v, kd, K, L, N, S, P)
  | n + 1, nx, v, kd, K, L, N, S, P =>
    if lin L S (pIx K S key) + len ≤ rm then (1, v, kd, ins K (ngt K key) key, ins L (ngt K key) len, N, S.set (pIx K S key) (S.getD (pIx K S key) 0 + 1), P)
    else if tc ≠ 0 then (0, vClose v nx tc (kos P S wd (pIx K S key)) (pIx K S key), kos P S wd (pIx K S key), K, L, N, S, P)
    else if kos P S wd (pIx K S key) = 1 then (1, upd (upd v 9 (nI (nx + 1))) 15 (v 15 + nI 1), kd, ins K (ngt K key) key, ins L (ngt K key) len, ins N (ownAt K S key (pIx K S key)) nx, (ins S (ownAt K S key (pIx K S key)) 0).set (ownAt K S key (pIx K S key)) ((ins S (ownAt K S key (pIx K S key)) 0).getD (ownAt K S key (pIx K S key)) 0 + 1), P.set (gOf P (pIx K S key)) (P.getD (gOf P (pIx K S key)) 0 + 1))
    else if kos P S wd (pIx K S key) = 2 then plc rm wd key len tc n nx (upd v 16 (v 16 + nI 1)) kd K L N S (ins (P.set (gOf P (pIx K S key)) (P.getD (gOf P (pIx K S key)) 0 - wd / 2)) (gOf P (pIx K S key) + 1) (wd / 2))
    else plc rm wd key len tc n (nx + 1) (upd (upd v 9 (nI (nx + 1))) 15 ((upd v 9 (nI (nx + 1))) 15 + nI 1)) kd K L (ins N (pIx K S key + 1) nx) (ins (S.set (pIx K S key) (S.getD (pIx K S key) 0 - (S.getD (pIx K S key) 0 - kbh L S (pIx K S key)))) (pIx K S key + 1) (S.getD (pIx K S key) 0 - kbh L S (pIx K S key))) (P.set (gOf P (pIx K S key)) (P.getD (gOf P (pIx K S key)) 0 + 1))
theorem kbh_b {L S : List Nat} {i : Nat} (h : 2 ≤ S.getD i 0) : 1 ≤ kbh L S i ∧ kbh L S i + 1 ≤ S.getD i 0 := by
  have h1 : 1 ≤ kbh L S i := kbl_ge _ _ _ _ _ _ _
  have h2 : kbh L S i ≤ S.getD i 0 - 1 := kbl_le _ _ _ _ _ _ _ (by omega)
  omega
