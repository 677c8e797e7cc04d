def pend (kd : Nat) : Nat := if kd = 2 then 3 else if kd = 1 then 2 else 1
/-- the numbers of the class (v2) and of the reference (v3) -/
def Sc (rm wd lr lw lq nx ac tc cl hr cp kd : Nat) (v2 v3 gs : Nat → Int32) (nK nS : Nat) : Prop :=
  v2 0 = nI rm ∧ v2 1 = nI wd ∧ v2 2 = nI lr ∧ v2 3 = nI lw ∧ v2 9 = nI nx ∧ v2 10 = nI tc ∧ v2 11 = nI cl ∧ v2 15 = gs 0 ∧ v2 16 = gs 1 ∧ v2 17 = gs 2 ∧ v2 18 = gs 3 ∧ v3 1 = nI rm ∧ v3 2 = nI wd ∧ v3 3 = nI lr ∧ v3 4 = nI lq ∧ v3 8 = nI nK ∧ v3 11 = nI nS ∧ v3 12 = nI nx ∧ v3 13 = nI ac ∧ v3 14 = nI tc ∧ v3 17 = nI cl ∧ (cl = 1 → v2 12 = nI hr ∧ v2 14 = nI cp ∧ v3 15 = nI (pend kd) ∧ v3 16 = nI cp ∧ v3 18 = nI hr)
/-- what is kept while it is closed -/
def Cl (wd nx tc cl hr cp kd : Nat) (N S P : List Nat) : Prop := tc ≤ 4 ∧ cl ≤ 1 ∧ (cl = 1 → hr ≤ 1 ∧ cp < S.length ∧ kd = kos P S wd cp ∧ 1 ≤ S.getD cp 0 ∧ (hr = 1 → kd = 0 → 1 ≤ nx ∧ ∀ x ∈ N, x < nx - 1))
/-- class and reference together: B bounds the counters -/
def Cpl (rm wd lr lw lq B : Nat) (v2 : Nat → Int32) (kd : Nat) (K : List Int64) (L N S P : List Nat) (v : Nat → Int32) (fk : Nat → Int64) (gl go gi ga : Nat → Nat) (gs : Nat → Int32) : Prop :=
  ∃ (nx ac tc cl hr cp : Nat) (A : List Nat), Core rm wd nx ac K L N S P A fk gl go gi ga ∧ Sc rm wd lr lw lq nx ac tc cl hr cp kd v2 v gs K.length S.length ∧ Cl wd nx tc cl hr cp kd N S P ∧ nx ≤ B ∧ ac ≤ B
theorem kos_c {P S : List Nat} {wd i : Nat} (hi : i < P.sum) : (kos P S wd i = 2 ↔ wd ≤ P.getD (gIx P i) 0) ∧ (kos P S wd i = 1 ↔ ¬ wd ≤ P.getD (gIx P i) 0 ∧ S.getD i 0 ≤ 1) ∧ (kos P S wd i = 0 ↔ ¬ wd ≤ P.getD (gIx P i) 0 ∧ ¬ S.getD i 0 ≤ 1) := by
  unfold kos
  rw [gOf_gIx hi]
  split
  · exact ⟨by omega, by omega, by omega⟩
  · split
    · exact ⟨by omega, by omega, by omega⟩
    · exact ⟨by omega, by omega, by omega⟩
/-- the target of a put, behind the split of its interval -/
theorem fuel_h {K : List Int64} {L N S P : List Nat} (hJ : J2 K L N S P) {key : Int64} {i k : Nat} (hid : pIx K S key = i) (hk1 : 1 ≤ k) (hk2 : k + 1 ≤ S.getD i 0) : (ins (S.set i (S.getD i 0 - (S.getD i 0 - k))) (i + 1) (S.getD i 0 - k)).getD (pIx K (ins (S.set i (S.getD i 0 - (S.getD i 0 - k))) (i + 1) (S.getD i 0 - k)) key) 0 + 1 ≤ S.getD i 0 := by
  have hb := pIx_b hJ key
  rw [hid] at hb
  obtain ⟨j1, j2, j3, j4, j5, j6, j7, j8⟩ := hJ
  have hl := ngt_le K key
  have hg := sm0_get S i
  have eS : (S.set i (S.getD i 0 - (S.getD i 0 - k))).length = S.length := List.length_set ..
  have q := set_sum (x := S.getD i 0 - (S.getD i 0 - k)) hb.1
  have qs : (ins (S.set i (S.getD i 0 - (S.getD i 0 - k))) (i + 1) (S.getD i 0 - k)).sum = S.sum := by rw [ins_sum]; omega
  have c : ngt K key - 1 < S.sum := by
    have := getD_le S i
    omega
  have e : gIx S (ngt K key - 1) = i := by rw [← hid]; exact (gOf_gIx c).symm
  have e2 : pIx K (ins (S.set i (S.getD i 0 - (S.getD i 0 - k))) (i + 1) (S.getD i 0 - k)) key = i ∨ pIx K (ins (S.set i (S.getD i 0 - (S.getD i 0 - k))) (i + 1) (S.getD i 0 - k)) key = i + 1 := by
    unfold pIx
    rw [gOf_gIx (by omega), gIx_split hb.1 (by omega) c, e, if_neg (Nat.lt_irrefl _), if_pos rfl]
    split
    · exact Or.inl rfl
    · exact Or.inr rfl
  rcases e2 with z | z
  · rw [z, ins_get (by omega), if_pos (by omega), getD_set hb.1, if_pos rfl]; omega
  · rw [z, ins_get (by omega), if_neg (by omega), if_pos rfl]; omega
theorem fuel_a {P : List Nat} {i w wd : Nat} (hP : i < P.sum) (hw : w ≤ P.getD (gIx P i) 0) (h1 : w < wd) (h2 : P.getD (gIx P i) 0 - w < wd) : ¬ wd ≤ (ins (P.set (gIx P i) (P.getD (gIx P i) 0 - w)) (gIx P i + 1) w).getD (gIx (ins (P.set (gIx P i) (P.getD (gIx P i) 0 - w)) (gIx P i + 1) w) i) 0 := by
  have hgl := gIx_lt hP
  generalize hg : gIx P i = g at *
  have eP : (P.set g (P.getD g 0 - w)).length = P.length := List.length_set ..
  have e : ins (P.set g (P.getD g 0 - w)) (g + 1) w = ins (P.set g (P.getD g 0 - (P.getD g 0 - (P.getD g 0 - w)))) (g + 1) (P.getD g 0 - (P.getD g 0 - w)) := by
    rw [show P.getD g 0 - (P.getD g 0 - w) = w by omega]
  have e2 : gIx (ins (P.set g (P.getD g 0 - w)) (g + 1) w) i = g ∨ gIx (ins (P.set g (P.getD g 0 - w)) (g + 1) w) i = g + 1 := by
    rw [e, gIx_split hgl (by omega) hP, hg, if_neg (Nat.lt_irrefl _), if_pos rfl]
    split
    · exact Or.inl rfl
    · exact Or.inr rfl
  rcases e2 with z | z
  · rw [z, ins_get (by omega), if_pos (by omega), getD_set hgl, if_pos rfl]; omega
  · rw [z, ins_get (by omega), if_neg (by omega), if_pos rfl]; omega
