/-! THE CLASS: what its methods say of the lists -/
section RT2
variable {p : Program} {l : Launch} {e : Env} {R : Room} {s : State} {m : MethodId} {args : Array Value} {below : List Frame} {meth : Method} {c : Code} {H : Heap} {locs : List Loc} {mc ms : Nat}
variable {E : Gq} {cc : ByteArray} {nL : Nat} {A : Nat → Prop} {pc : Nat} {ls : Array Slot} {z : Nat → Nat} {v : Nat → Int32} {kd : Nat} {K : List Int64} {L N S P : List Nat} {ws0 : va_W} {post : Option Value → (Nat → Int32) → Nat → List Int64 → List Nat → List Nat → List Nat → List Nat → Prop}
theorem ret2_v (C : Cx E p s m args meth c cc nL none RX2 (va_A ws0 s.heap.size)) (X : X2w E (va_A ws0 s.heap.size) z v kd K L N S P s H locs) (hp : post none v kd K L N S P) (hdg : decode cc pc = .ok (.return_, 1)) : W p l e R s m args below meth c H locs mc ms (MQ below (Qw E ws0 s.heap.size (P2 E z post)) args s mc ms (va_A ws0 s.heap.size)) (F0 m pc ls []) := by
  obtain ⟨f, Wd, hf⟩ := X
  exact ret_vw C Wd ⟨v, kd, K, L, N, S, P, f, rfl, hf, hp⟩ hdg
theorem ret2_i {r : Int32} (C : Cx E p s m args meth c cc nL (some .int) RX2 (va_A ws0 s.heap.size)) (X : X2w E (va_A ws0 s.heap.size) z v kd K L N S P s H locs) (hp : post (some (.int r)) v kd K L N S P) (hdg : decode cc pc = .ok (.ireturn, 1)) : W p l e R s m args below meth c H locs mc ms (MQ below (Qw E ws0 s.heap.size (P2 E z post)) args s mc ms (va_A ws0 s.heap.size)) (F0 m pc ls [.int r]) := by
  obtain ⟨f, Wd, hf⟩ := X
  exact ret_iw C Wd ⟨v, kd, K, L, N, S, P, f, rfl, hf, hp⟩ hdg
theorem ret2_z {r : Int32} (C : Cx E p s m args meth c cc nL (some .boolean) RX2 (va_A ws0 s.heap.size)) (X : X2w E (va_A ws0 s.heap.size) z v kd K L N S P s H locs) (hp : post (some (.int r)) v kd K L N S P) (hn : narrow .boolean (.int r) = .int r) (hdg : decode cc pc = .ok (.ireturn, 1)) : W p l e R s m args below meth c H locs mc ms (MQ below (Qw E ws0 s.heap.size (P2 E z post)) args s mc ms (va_A ws0 s.heap.size)) (F0 m pc ls [.int r]) := by
  obtain ⟨f, Wd, hf⟩ := X
  exact ret_zw C Wd ⟨v, kd, K, L, N, S, P, f, rfl, hf, hp⟩ hn hdg
end RT2
/-- how many keys, from the head on, are not greater -/
def ngt : List Int64 → Int64 → Nat
  | [], _ => 0
  | x :: l, key => if x ≤ key then ngt l key + 1 else 0
theorem ngt_le (K : List Int64) (key : Int64) : ngt K key ≤ K.length := by
  induction K with
  | nil => exact Nat.le_refl _
  | cons x l ih =>
    simp only [ngt, List.length_cons]
    split <;> omega
theorem ngt_drop {K : List Int64} {key : Int64} {j : Nat} (h : j < K.length) : ngt (K.drop j) key = if K.getD j 0 ≤ key then ngt (K.drop (j + 1)) key + 1 else 0 := by
  rw [List.drop_eq_getElem_cons h]
  simp [ngt, List.getD_eq_getElem?_getD, List.getElem?_eq_getElem h]
def hask (K : List Int64) (key : Int64) : Prop := 0 < ngt K key ∧ K.getD (ngt K key - 1) 0 = key
theorem sm_le (L : List Nat) (a b : Nat) : sm L a b ≤ L.sum := by
  unfold sm
  have h1 := sum_split (L.take b) a
  have h2 := sum_split L b
  omega
theorem getD_le (L : List Nat) (j : Nat) : L.getD j 0 ≤ L.sum := by
  by_cases h : j < L.length
  · have h1 := take_s h
    have h2 := sum_split L (j + 1)
    omega
  · rw [List.getD_eq_getElem?_getD, List.getElem?_eq_none (by omega)]
    exact Nat.zero_le _
theorem sm0 (L : List Nat) (i : Nat) : sm L 0 i = (L.take i).sum := rfl
theorem sm0_get (L : List Nat) (i : Nat) : sm L 0 i + L.getD i 0 ≤ L.sum := by
  by_cases h : i < L.length
  · have h1 := take_s h
    have h2 := sum_split L (i + 1)
    rw [sm0]; omega
  · rw [List.getD_eq_getElem?_getD, List.getElem?_eq_none (by omega)]
    exact sm_le L 0 i
/-- the lengths in an interval -/
def lin (L S : List Nat) (i : Nat) : Nat := sm L (sm S 0 i) (sm S 0 i + S.getD i 0)
theorem gIx_lt {L : List Nat} : ∀ {m : Nat}, m < L.sum → gIx L m < L.length := by
  induction L with
  | nil => intro m h; simp at h
  | cons x l ih =>
    intro m h
    simp only [gIx, List.length_cons]
    split
    · omega
    · have := ih (m := m - x) (by simp at h; omega)
      omega
theorem gOf_lt {L : List Nat} {m : Nat} (h : 0 < L.length) : gOf L m < L.length := by
  unfold gOf
  split
  · exact gIx_lt ‹_›
  · exact h
/-- the kind of split: 2 area, 1 own, 0 halves -/
def kos (P S : List Nat) (wd i : Nat) : Nat := if wd ≤ P.getD (gOf P i) 0 then 2 else if S.getD i 0 ≤ 1 then 1 else 0
theorem kos_lt (P S : List Nat) (wd i : Nat) : kos P S wd i < 3 := by unfold kos; split; decide; split <;> decide
/-- how many an interval keeps: from kept on, together their lengths so far, at most 'most', at most 'half' -/
def kbl (L : List Nat) (start most half : Nat) : Nat → Nat → Nat → Nat
  | 0, kept, _ => kept
  | n + 1, kept, tog => if kept < most ∧ tog + L.getD (start + kept) 0 ≤ half then kbl L start most half n (kept + 1) (tog + L.getD (start + kept) 0) else kept
def kbh (L S : List Nat) (i : Nat) : Nat := kbl L (sm S 0 i) (S.getD i 0 - 1) (lin L S i / 2) (S.getD i 0) 1 (L.getD (sm S 0 i) 0)
theorem kbl_ge (L : List Nat) (start most half : Nat) : ∀ (n kept tog : Nat), kept ≤ kbl L start most half n kept tog := by
  intro n
  induction n with
  | zero => intro kept tog; exact Nat.le_refl _
  | succ n ih =>
    intro kept tog
    simp only [kbl]
    split
    · exact Nat.le_trans (Nat.le_succ kept) (ih _ _)
    · exact Nat.le_refl _
theorem kbl_le (L : List Nat) (start most half : Nat) : ∀ (n kept tog : Nat), kept ≤ most → kbl L start most half n kept tog ≤ most := by
  intro n
  induction n with
  | zero => intro kept tog h; exact h
  | succ n ih =>
    intro kept tog h
    simp only [kbl]
    split
    · exact ih _ _ (by omega)
    · exact h
