/-! THE CORE: how the lists and the reference's arrays change together -/
theorem sm0_ins {L : List Nat} {t x : Nat} (ht : t ≤ L.length) (q : Nat) : sm (ins L t x) 0 q = if q ≤ t then sm L 0 q else sm L 0 (q - 1) + x := by
  rw [sm0, sm0, sm0]
  unfold ins
  have hl : (L.take t).length = t := by simp; omega
  by_cases h : q ≤ t
  · rw [if_pos h, List.take_append_of_le_length (by omega), List.take_take, Nat.min_eq_left h]
  · rw [if_neg h, List.take_append, hl, List.take_of_length_le (by omega)]
    obtain ⟨d, hd⟩ : ∃ d, q - t = d + 1 := ⟨q - t - 1, by omega⟩
    rw [hd, List.take_succ_cons, List.sum_append, List.sum_cons]
    have e : q - 1 = t + d := by omega
    rw [e, List.take_add, List.sum_append]
    omega
theorem sm0_set {L : List Nat} {i x : Nat} (hi : i < L.length) (q : Nat) : sm (L.set i x) 0 q + (if q ≤ i then 0 else L.getD i 0) = sm L 0 q + (if q ≤ i then 0 else x) := by
  rw [sm0, sm0, List.take_set]
  by_cases h : q ≤ i
  · rw [if_pos h, if_pos h, List.set_eq_of_length_le (by simp; omega)]
  · rw [if_neg h, if_neg h]
    have hl : i < (L.take q).length := by simp; omega
    have := set_sum (x := x) hl
    have e : (L.take q).getD i 0 = L.getD i 0 := by
      simp only [List.getD_eq_getElem?_getD]
      rw [List.getElem?_take_of_lt (by omega)]
    rw [e] at this
    exact this
theorem sm0_del {L : List Nat} {j : Nat} (hj : j < L.length) (q : Nat) : sm (del L j) 0 q + (if q ≤ j then 0 else L.getD j 0) = if q ≤ j then sm L 0 q else sm L 0 (q + 1) := by
  rw [sm0, sm0, sm0]
  unfold del
  have hl : (L.take j).length = j := by simp; omega
  by_cases h : q ≤ j
  · rw [if_pos h, if_pos h, List.take_append_of_le_length (by omega), List.take_take, Nat.min_eq_left h]; rfl
  · rw [if_neg h, if_neg h, List.take_append, hl, List.take_of_length_le (by omega), List.sum_append]
    have h1 := take_s hj
    have e : q + 1 = (j + 1) + (q - j) := by omega
    rw [e, List.take_add, List.sum_append]
    omega
theorem gIx_eq {S : List Nat} {m q : Nat} (hq : q < S.length) (h1 : sm S 0 q ≤ m) (h2 : m < sm S 0 q + S.getD q 0) : gIx S m = q := gIx_at hq h1 (by rw [take_s hq]; exact h2)
theorem sm0_mono (S : List Nat) {a b : Nat} (h : a ≤ b) : sm S 0 a ≤ sm S 0 b := sm_mono S h
theorem gI_cmp {S : List Nat} {m i : Nat} (hm : m < S.sum) : gIx S m < i ↔ m < sm S 0 i := by
  have h1 := gIx_spec hm
  have h2 := gIx_lt hm
  have h3 := sm0_s h2
  constructor
  · intro h
    have := sm0_mono S (show gIx S m + 1 ≤ i by omega)
    omega
  · intro h
    rcases Nat.lt_or_ge (gIx S m) i with q | q
    · exact q
    · have := sm0_mono S q; omega
theorem getD_set {P : List Nat} {a b x : Nat} (h : a < P.length) : (P.set a x).getD b 0 = if b = a then x else P.getD b 0 := by
  by_cases e : b = a
  · rw [if_pos e, e]; exact getD_set_self h
  · rw [if_neg e]; exact getD_set_ne (Ne.symm e)
theorem gI_key {S : List Nat} {m : Nat} (hm : m < S.sum) {i : Nat} (hi : i < S.length) : gIx S m < S.length ∧ sm S 0 (gIx S m) ≤ m ∧ m < sm S 0 (gIx S m) + S.getD (gIx S m) 0 ∧ (gIx S m < i → sm S 0 (gIx S m) + S.getD (gIx S m) 0 ≤ sm S 0 i) ∧ (gIx S m = i → sm S 0 (gIx S m) = sm S 0 i ∧ S.getD (gIx S m) 0 = S.getD i 0) ∧ (i < gIx S m → sm S 0 i + S.getD i 0 ≤ sm S 0 (gIx S m)) := by
  have a1 := gIx_spec hm
  have a2 := gIx_lt hm
  have a3 := sm0_s a2
  have a4 := sm0_s hi
  refine ⟨a2, a1.1, a1.2, fun h => ?_, fun h => by rw [h]; exact ⟨rfl, rfl⟩, fun h => ?_⟩
  · have := sm0_mono S (show gIx S m + 1 ≤ i by omega); omega
  · have := sm0_mono S (show i + 1 ≤ gIx S m by omega); omega
/-- a member comes into group i at place t -/
theorem gIx_grow {S : List Nat} {i t : Nat} (hi : i < S.length) (h1 : sm S 0 i ≤ t) (h2 : t ≤ sm S 0 i + S.getD i 0) {j : Nat} (hj : j < S.sum + 1) : gIx (S.set i (S.getD i 0 + 1)) j = if j < t then gIx S j else if j = t then i else gIx S (j - 1) := by
  have hl : (S.set i (S.getD i 0 + 1)).length = S.length := List.length_set ..
  by_cases c1 : j < t
  · rw [if_pos c1]
    have hjs : j < S.sum := by have := sm0_get S i; omega
    obtain ⟨a2, k0, k0', k1, k2, k3⟩ := gI_key hjs hi
    have s1 := sm0_set (x := S.getD i 0 + 1) hi (gIx S j)
    refine gIx_eq (by omega) ?_ ?_
    · split at s1 <;> omega
    · rw [getD_set hi]
      split at s1 <;> split <;> omega
  · rw [if_neg c1]
    by_cases c2 : j = t
    · rw [if_pos c2]
      have s1 := sm0_set (x := S.getD i 0 + 1) hi i
      rw [if_pos (Nat.le_refl _), if_pos (Nat.le_refl _)] at s1
      refine gIx_eq (by omega) (by omega) ?_
      rw [getD_set hi, if_pos rfl]
      omega
    · rw [if_neg c2]
      have hjs : j - 1 < S.sum := by omega
      obtain ⟨a2, k0, k0', k1, k2, k3⟩ := gI_key hjs hi
      have s1 := sm0_set (x := S.getD i 0 + 1) hi (gIx S (j - 1))
      refine gIx_eq (by omega) ?_ ?_
      · split at s1 <;> omega
      · rw [getD_set hi]
        split at s1 <;> split <;> omega
/-- group i falls in two: k of it, and the rest -/
theorem gIx_split {S : List Nat} {i k : Nat} (hi : i < S.length) (hk : k ≤ S.getD i 0) {j : Nat} (hj : j < S.sum) : gIx (ins (S.set i (S.getD i 0 - (S.getD i 0 - k))) (i + 1) (S.getD i 0 - k)) j = if gIx S j < i then gIx S j else if gIx S j = i then (if j < sm S 0 i + k then i else i + 1) else gIx S j + 1 := by
  have hl : (S.set i (S.getD i 0 - (S.getD i 0 - k))).length = S.length := List.length_set ..
  have hl2 := ins_len (L := S.set i (S.getD i 0 - (S.getD i 0 - k))) (j := i + 1) (x := S.getD i 0 - k) (by omega)
  obtain ⟨a2, k0, k0', k1, k2, k3⟩ := gI_key hj hi
  have P1 := fun q => sm0_ins (L := S.set i (S.getD i 0 - (S.getD i 0 - k))) (t := i + 1) (x := S.getD i 0 - k) (by omega) q
  have P2 := fun q => sm0_set (x := S.getD i 0 - (S.getD i 0 - k)) hi q
  have P3 := fun q => ins_get (L := S.set i (S.getD i 0 - (S.getD i 0 - k))) (j := i + 1) (x := S.getD i 0 - k) (d := 0) (by omega) q
  have s4 := sm0_s hi
  split
  · have p1 := P1 (gIx S j); have p2 := P2 (gIx S j)
    rw [if_pos (by omega)] at p1; rw [if_pos (by omega), if_pos (by omega)] at p2
    refine gIx_eq (by omega) (by omega) ?_
    rw [P3, if_pos (by omega), getD_set hi, if_neg (by omega)]
    omega
  · split
    · split
      · have p1 := P1 i; have p2 := P2 i
        rw [if_pos (by omega)] at p1; rw [if_pos (by omega), if_pos (by omega)] at p2
        refine gIx_eq (by omega) (by omega) ?_
        rw [P3, if_pos (by omega), getD_set hi, if_pos rfl]
        omega
      · have p1 := P1 (i + 1); have p2 := P2 (i + 1)
        rw [if_pos (by omega)] at p1; rw [if_neg (by omega), if_neg (by omega)] at p2
        refine gIx_eq (by omega) (by omega) ?_
        rw [P3, if_neg (by omega), if_pos rfl]
        omega
    · have p1 := P1 (gIx S j + 1); have p2 := P2 (gIx S j)
      rw [if_neg (by omega), Nat.add_sub_cancel] at p1; rw [if_neg (by omega), if_neg (by omega)] at p2
      refine gIx_eq (by omega) (by omega) ?_
      rw [P3, if_neg (by omega), if_neg (by omega), Nat.add_sub_cancel, getD_set hi, if_neg (by omega)]
      omega
/-- a group of one comes at place o -/
theorem gIx_new {S : List Nat} {o : Nat} (ho : o ≤ S.length) {j : Nat} (hj : j < S.sum + 1) : gIx (ins S o 1) j = if j < sm S 0 o then gIx S j else if j = sm S 0 o then o else gIx S (j - 1) + 1 := by
  have hl := ins_len (L := S) (j := o) (x := 1) ho
  have P1 := fun q => sm0_ins (L := S) (t := o) (x := 1) ho q
  have P3 := fun q => ins_get (L := S) (j := o) (x := 1) (d := 0) ho q
  by_cases c1 : j < sm S 0 o
  · rw [if_pos c1]
    have hjs : j < S.sum := by have := sm_le S 0 o; omega
    have c := (gI_cmp (i := o) hjs).mpr c1
    have a1 := gIx_spec hjs
    have p1 := P1 (gIx S j)
    rw [if_pos (by omega)] at p1
    refine gIx_eq (by omega) (by omega) ?_
    rw [P3, if_pos c]
    omega
  · rw [if_neg c1]
    by_cases c2 : j = sm S 0 o
    · rw [if_pos c2]
      have p1 := P1 o
      rw [if_pos (Nat.le_refl _)] at p1
      refine gIx_eq (by omega) (by omega) ?_
      rw [P3, if_neg (Nat.lt_irrefl _), if_pos rfl]
      omega
    · rw [if_neg c2]
      have hjs : j - 1 < S.sum := by omega
      have c : ¬ gIx S (j - 1) < o := fun h => by have := (gI_cmp (i := o) hjs).mp h; omega
      have a1 := gIx_spec hjs
      have a2 := gIx_lt hjs
      have p1 := P1 (gIx S (j - 1) + 1)
      rw [if_neg (by omega), Nat.add_sub_cancel] at p1
      refine gIx_eq (by omega) (by omega) ?_
      rw [P3, if_neg (by omega), if_neg (by omega), Nat.add_sub_cancel]
      omega
/-- a member goes from group i, at place t -/
theorem gIx_less {S : List Nat} {i t : Nat} (hi : i < S.length) (h1 : sm S 0 i ≤ t) (h2 : t < sm S 0 i + S.getD i 0) {j : Nat} (hj : j + 1 < S.sum) : gIx (S.set i (S.getD i 0 - 1)) j = if j < t then gIx S j else gIx S (j + 1) := by
  have hl : (S.set i (S.getD i 0 - 1)).length = S.length := List.length_set ..
  by_cases c1 : j < t
  · rw [if_pos c1]
    obtain ⟨a2, k0, k0', k1, k2, k3⟩ := gI_key (show j < S.sum by omega) hi
    have s1 := sm0_set (x := S.getD i 0 - 1) hi (gIx S j)
    refine gIx_eq (by omega) ?_ ?_
    · split at s1 <;> omega
    · rw [getD_set hi]
      split at s1 <;> split <;> omega
  · rw [if_neg c1]
    obtain ⟨a2, k0, k0', k1, k2, k3⟩ := gI_key hj hi
    have s1 := sm0_set (x := S.getD i 0 - 1) hi (gIx S (j + 1))
    refine gIx_eq (by omega) ?_ ?_
    · split at s1 <;> omega
    · rw [getD_set hi]
      split at s1 <;> split <;> omega
/-- an empty group goes -/
theorem gIx_gone {S : List Nat} {o : Nat} (ho : o < S.length) (h0 : S.getD o 0 = 0) {j : Nat} (hj : j < S.sum) : gIx (del S o) j = if gIx S j < o then gIx S j else gIx S j - 1 := by
  have hl := del_len (L := S) ho
  obtain ⟨a2, k0, k0', k1, k2, k3⟩ := gI_key hj ho
  have ne : gIx S j ≠ o := fun h => by have := k2 h; omega
  split
  · have p1 := sm0_del ho (gIx S j)
    rw [if_pos (by omega), if_pos (by omega)] at p1
    refine gIx_eq (by omega) (by omega) ?_
    rw [del_get ho, if_pos (by omega)]
    omega
  · have p1 := sm0_del ho (gIx S j - 1)
    have e : gIx S j - 1 + 1 = gIx S j := by omega
    have hq : sm (del S o) 0 (gIx S j - 1) = sm S 0 (gIx S j) := by
      by_cases z : gIx S j - 1 ≤ o
      · have e2 : gIx S j - 1 = o := by omega
        rw [if_pos z, if_pos z, e2] at p1
        have s4 := sm0_s ho
        have e3 : gIx S j = o + 1 := by omega
        rw [e2, e3]; omega
      · rw [if_neg z, if_neg z, e] at p1; omega
    refine gIx_eq (by omega) (by omega) ?_
    rw [del_get ho, if_neg (by omega), e]
    omega
