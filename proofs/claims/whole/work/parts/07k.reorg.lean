/-! laying anew: the reference's loop beside the class's -/
theorem ins_end {α : Type} (L : List α) (x : α) : ins L L.length x = L ++ [x] := by simp [ins]
theorem getD_app {L : List Nat} {x : Nat} (q : Nat) : (L ++ [x]).getD q 0 = if q < L.length then L.getD q 0 else if q = L.length then x else 0 := by
  simp only [List.getD_eq_getElem?_getD]
  by_cases h : q < L.length
  · rw [if_pos h, List.getElem?_append_left h]
  · rw [if_neg h, List.getElem?_append_right (by omega)]
    by_cases e : q = L.length
    · rw [if_pos e, e, Nat.sub_self]; rfl
    · rw [if_neg e, List.getElem?_eq_none (by simp; omega)]; rfl
theorem sm_app {L : List Nat} {x q : Nat} (h : q ≤ L.length) : sm (L ++ [x]) 0 q = sm L 0 q := by
  rw [sm0, sm0, List.take_append_of_le_length h]
theorem gIx_app {S : List Nat} {x j : Nat} (hj : j < S.sum + x) : gIx (S ++ [x]) j = if j < S.sum then gIx S j else S.length := by
  have hl : (S ++ [x]).length = S.length + 1 := by simp
  by_cases h : j < S.sum
  · rw [if_pos h]
    have a1 := gIx_spec h
    have a2 := gIx_lt h
    refine gIx_eq (by omega) (by rw [sm_app (by omega)]; exact a1.1) ?_
    rw [sm_app (by omega), getD_app, if_pos a2]
    exact a1.2
  · rw [if_neg h]
    have e : sm S 0 S.length = S.sum := by rw [sm0, List.take_length]
    refine gIx_eq (by omega) (by rw [sm_app (Nat.le_refl _)]; omega) ?_
    rw [sm_app (Nat.le_refl _), getD_app, if_neg (Nat.lt_irrefl _), if_pos rfl]
    omega
theorem mod_st {m w : Nat} (hw : 1 ≤ w) : (m + 1) % w = (if m % w + 1 = w then 0 else m % w + 1) := by
  have h := Nat.mod_lt m (show 0 < w by omega)
  split
  · rename_i e
    rw [Nat.add_mod]
    by_cases q : w = 1
    · subst q; exact Nat.mod_one _
    · rw [Nat.mod_eq_of_lt (show 1 < w by omega), e, Nat.mod_self]
  · rename_i e
    rw [Nat.add_mod]
    by_cases q : w = 1
    · subst q; omega
    · rw [Nat.mod_eq_of_lt (show 1 < w by omega), Nat.mod_eq_of_lt (by omega)]
/-- the areas of m intervals laid anew, and the reference's numbers of them -/
def AreaOk (lw m ac : Nat) (P A : List Nat) (ga : Nat → Nat) : Prop := P.sum = m ∧ 0 < P.length ∧ A.length = P.length ∧ (∀ x ∈ P, 1 ≤ x ∧ x ≤ lw) ∧ A.Nodup ∧ (∀ x ∈ A, x ≤ ac) ∧ A.getD (P.length - 1) 0 = ac ∧ P.getD (P.length - 1) 0 = (m - 1) % lw + 1 ∧ ∀ q, q < m → ga q = A.getD (gIx P q) 0
theorem AreaOk.step {lw m ac : Nat} {P A : List Nat} {ga : Nat → Nat} (h : AreaOk lw m ac P A ga) (hlw : 1 ≤ lw) (hm : 1 ≤ m) : ∃ A', AreaOk lw (m + 1) (ac + (if m % lw = 0 then 1 else 0)) (lay P lw) A' (va_up ga m (ac + (if m % lw = 0 then 1 else 0))) := by
  obtain ⟨h1, h2, h3, h4, h5, h6, h7, h8, h9⟩ := h
  have hmod := mod_st (m := m - 1) hlw
  rw [show m - 1 + 1 = m by omega] at hmod
  have hmlt := Nat.mod_lt (m - 1) (show 0 < lw by omega)
  have hs := sum_split P (P.length - 1)
  have hlast := sm0_s (S := P) (j := P.length - 1) (by omega)
  have hfull : sm P 0 (P.length - 1 + 1) = P.sum := by rw [sm0, List.take_of_length_le (by omega)]
  have hup : ∀ x q, q < m → va_up ga m x q = ga q := fun x q hq => by unfold va_up; rw [if_neg (by omega)]
  have hup2 : ∀ x, va_up ga m x m = x := fun x => by unfold va_up; rw [if_pos rfl]
  by_cases c : (m - 1) % lw + 1 = lw
  · rw [if_pos c] at hmod
    have e : lay P lw = P ++ [1] := by unfold lay; rw [if_neg (fun z => by omega), ins_end]
    rw [e, if_pos hmod]
    refine ⟨A ++ [ac + 1], ?_, ?_, ?_, ?_, ?_, ?_, ?_, ?_, ?_⟩
    · rw [List.sum_append]; simp; omega
    · simp
    · simp; omega
    · intro x hx
      rcases List.mem_append.mp hx with z | z
      · exact h4 x z
      · simp at z; omega
    · rw [List.nodup_append]
      refine ⟨h5, by simp, fun a ha b hb => ?_⟩
      simp at hb
      have := h6 a ha
      omega
    · intro x hx
      rcases List.mem_append.mp hx with z | z
      · have := h6 x z; omega
      · simp at z; omega
    · rw [getD_app, List.length_append]
      simp only [List.length_singleton]
      rw [if_neg (by omega), if_pos (by omega)]
    · rw [getD_app, List.length_append]
      simp only [List.length_singleton]
      rw [if_neg (by omega), if_pos (by omega), show m + 1 - 1 = m by omega, hmod]
    · intro q hq
      rw [gIx_app (by omega)]
      by_cases z : q < m
      · rw [if_pos (by omega), hup _ q z, h9 q z, getD_app, if_pos (by have := gIx_lt (L := P) (m := q) (by omega); omega)]
      · have e2 : q = m := by omega
        rw [if_neg (by omega), e2, hup2, getD_app, if_neg (by omega), if_pos (by omega)]
  · rw [if_neg c] at hmod
    have e : lay P lw = P.set (P.length - 1) (P.getD (P.length - 1) 0 + 1) := by unfold lay; rw [if_pos ⟨h2, by omega⟩]
    rw [e, if_neg (by omega)]
    have es := set_sum (L := P) (j := P.length - 1) (x := P.getD (P.length - 1) 0 + 1) (by omega)
    refine ⟨A, by omega, by rw [List.length_set]; exact h2, by rw [List.length_set]; exact h3, ?_, h5, fun x hx => by have := h6 x hx; omega, by rw [List.length_set]; exact h7, ?_, ?_⟩
    · intro x hx
      rcases List.mem_or_eq_of_mem_set hx with z | z
      · exact h4 x z
      · omega
    · rw [List.length_set, getD_set_self (by omega), show m + 1 - 1 = m by omega]
      omega
    · intro q hq
      rw [gIx_grow (t := m) (by omega) (by omega) (by omega) (by omega)]
      by_cases z : q < m
      · rw [if_pos z, hup _ q z, h9 q z]
      · have e2 : q = m := by omega
        rw [if_neg z, if_pos e2, e2, hup2, h7, Nat.add_zero]
theorem AreaOk.one {lw ac : Nat} {ga : Nat → Nat} (hlw : 1 ≤ lw) : AreaOk lw 1 (ac + 1) (lay [] lw) [ac + 1] (va_up ga 0 (ac + 1)) := by
  have e : lay [] lw = [1] := by simp [lay, ins]
  rw [e]
  refine ⟨rfl, by decide, rfl, fun x hx => by simp at hx; omega, by simp, fun x hx => by simp at hx; omega, rfl, by simp, fun q hq => ?_⟩
  have : q = 0 := by omega
  subst this
  simp [va_up, gIx]
/-- what stands at the head of the reference's loop, i records laid, some held in the last interval -/
def RI (rm lw : Nat) (L : List Nat) (i held tog nx ac : Nat) (N S P A : List Nat) (go gi ga : Nat → Nat) : Prop :=
  N.length = S.length ∧ S.sum + held = i ∧ 1 ≤ held ∧ (∀ x ∈ S, 1 ≤ x) ∧ N.Nodup ∧ (∀ x ∈ N, x < nx) ∧ tog = sm L S.sum i ∧ tog ≤ rm ∧ (∀ q, q < S.length → lin L S q ≤ rm) ∧ (∀ j, j < i → go j = (N ++ [nx]).getD (gIx (S ++ [held]) j) 0) ∧ (∀ q, q < S.length + 1 → gi q = (N ++ [nx]).getD q 0) ∧ AreaOk lw (S.length + 1) ac (lay P lw) A ga
theorem RI.keep {rm lw : Nat} {L : List Nat} {i held tog nx ac : Nat} {N S P A : List Nat} {go gi ga : Nat → Nat} (h : RI rm lw L i held tog nx ac N S P A go gi ga) (hi : i < L.length) (hr : tog + L.getD i 0 ≤ rm) : RI rm lw L (i + 1) (held + 1) (tog + L.getD i 0) nx ac N S P A (va_up go i nx) gi ga := by
  obtain ⟨h1, h2, h3, h4, h5, h6, h7, h8, h9, h10, h11, h12⟩ := h
  refine ⟨h1, by omega, by omega, h4, h5, h6, by rw [h7, sm_snoc (by omega) hi], hr, h9, ?_, h11, h12⟩
  intro j hj
  rw [gIx_app (by omega)]
  unfold va_up
  by_cases e : j = i
  · rw [if_pos e, if_neg (by omega), getD_app, if_neg (by omega), if_pos (by omega)]
  · rw [if_neg e, h10 j (by omega), gIx_app (by omega)]
theorem RI.fresh {rm lw : Nat} {L : List Nat} {i held tog nx ac : Nat} {N S P A : List Nat} {go gi ga : Nat → Nat} (h : RI rm lw L i held tog nx ac N S P A go gi ga) (hlw : 1 ≤ lw) (hi : i < L.length) (hr : L.getD i 0 ≤ rm) : ∃ A', RI rm lw L (i + 1) (0 + 1) (0 + L.getD i 0) (nx + 1) (ac + (if (S.length + 1) % lw = 0 then 1 else 0)) (ins N N.length nx) (ins S S.length held) (lay P lw) A' (va_up go i (nx + 1)) (va_up gi (S.length + 1) (nx + 1)) (va_up ga (S.length + 1) (ac + (if (S.length + 1) % lw = 0 then 1 else 0))) := by
  obtain ⟨h1, h2, h3, h4, h5, h6, h7, h8, h9, h10, h11, h12⟩ := h
  obtain ⟨A', hA⟩ := h12.step hlw (by omega)
  rw [ins_end, ins_end]
  have eS : (S ++ [held]).sum = i := by rw [List.sum_append]; simp; omega
  have eSl : (S ++ [held]).length = S.length + 1 := by simp
  have eNl : (N ++ [nx]).length = N.length + 1 := by simp
  refine ⟨A', by omega, by rw [eS], by omega, ?_, ?_, ?_, ?_, by omega, ?_, ?_, ?_, ?_⟩
  · intro x hx
    rcases List.mem_append.mp hx with z | z
    · exact h4 x z
    · simp at z; omega
  · rw [List.nodup_append]
    refine ⟨h5, by simp, fun a ha b hb => ?_⟩
    simp at hb
    have := h6 a ha
    omega
  · intro x hx
    rcases List.mem_append.mp hx with z | z
    · have := h6 x z; omega
    · simp at z; omega
  · rw [eS, sm_snoc (Nat.le_refl _) hi, sm_end (Or.inl (Nat.le_refl _))]
  · intro q hq
    unfold lin
    rw [eSl] at hq
    rw [sm_app (by omega), getD_app]
    by_cases z : q < S.length
    · rw [if_pos z]; exact h9 q z
    · rw [if_neg z, if_pos (by omega), show q = S.length by omega]
      have e : sm S 0 S.length = S.sum := by rw [sm0, List.take_length]
      rw [e, h2, ← h7]
      exact h8
  · intro j hj
    rw [gIx_app (by omega), eS]
    unfold va_up
    by_cases e : j = i
    · rw [if_pos e, if_neg (by omega), getD_app, if_neg (by omega), if_pos (by omega)]
    · rw [if_neg e, if_pos (by omega), h10 j (by omega), getD_app (L := N ++ [nx]), if_pos (by have := gIx_lt (L := S ++ [held]) (m := j) (by omega); omega)]
  · intro q hq
    rw [eSl] at hq
    rw [getD_app]
    unfold va_up
    by_cases e : q = S.length + 1
    · rw [if_pos e, if_neg (by omega), if_pos (by omega)]
    · rw [if_neg e, if_pos (by omega), h11 q (by omega)]
  · rw [eSl]; exact hA
theorem RI.one {rm lw : Nat} {L : List Nat} {nx ac : Nat} {go gi ga : Nat → Nat} (hlw : 1 ≤ lw) (hi : 0 < L.length) (hr : L.getD 0 0 ≤ rm) : RI rm lw L (0 + 1) (0 + 1) (0 + L.getD 0 0) nx (ac + 1) [] [] [] [ac + 1] (va_up go 0 nx) (va_up gi 0 nx) (va_up ga 0 (ac + 1)) := by
  refine ⟨rfl, rfl, by omega, fun x hx => absurd hx List.not_mem_nil, List.nodup_nil, fun x hx => absurd hx List.not_mem_nil, ?_, by omega, fun q hq => absurd hq (Nat.not_lt_zero _), ?_, ?_, AreaOk.one hlw⟩
  · rw [show ([] : List Nat).sum = 0 from rfl, sm_snoc (Nat.le_refl _) hi, sm_end (Or.inl (Nat.le_refl _))]
  · intro j hj
    have : j = 0 := by omega
    subst this
    simp [va_up, gIx]
  · intro q hq
    have : q = 0 := by simp at hq; omega
    subst this
    simp [va_up]
/-- what stands behind the loop -/
theorem RI.done {rm wd lw : Nat} {K : List Int64} {L : List Nat} {held tog nx ac : Nat} {N S P A : List Nat} {fk : Nat → Int64} {gl go gi ga : Nat → Nat} (h : RI rm lw L L.length held tog nx ac N S P A go gi ga) (hlw : lw ≤ wd) (hL : L.length = K.length) (hk : K.length ≤ 600) (hrm : rm ≤ 1000) (r1 : ∀ j, j < K.length → fk j = K.getD j 0) (r2 : ∀ j, j < K.length → gl j = L.getD j 0) (hs : srt K) (c3 : ∀ x ∈ L, 1 ≤ x ∧ x ≤ rm) (b1 : ∀ k, gl k < 2 ^ 31) (b2 : ∀ k, go k < 2 ^ 31) (b3 : ∀ k, gi k < 2 ^ 31) (b4 : ∀ k, ga k < 2 ^ 31) :
    Core rm wd (nx + 1) ac K L (ins N N.length nx) (ins S S.length held) (lay P lw) A fk gl go gi ga := by
  obtain ⟨h1, h2, h3, h4, h5, h6, h7, h8, h9, h10, h11, a1, a2, a3, a4, a5, a6, a7, a8, a9⟩ := h
  rw [ins_end, ins_end]
  have eS : (S ++ [held]).sum = L.length := by rw [List.sum_append]; simp; omega
  have eSl : (S ++ [held]).length = S.length + 1 := by simp
  have eNl : (N ++ [nx]).length = N.length + 1 := by simp
  refine ⟨⟨r1, r2, fun j hj => h10 j (by omega), fun q hq => h11 q (by omega), fun q hq => a9 q (by omega), ?_, a5, a3⟩, ⟨hL, by omega, by omega, by omega, by omega, fun x hx => (a4 x hx).1, Or.inr ?_, lsum_b c3 hrm (by omega)⟩, hs, fun x hx => by have := a4 x hx; omega, c3, ?_, ?_, a6, b1, b2, b3, b4⟩
  · rw [List.nodup_append]
    refine ⟨h5, by simp, fun a ha b hb => ?_⟩
    simp at hb
    have := h6 a ha
    omega
  · intro x hx
    rcases List.mem_append.mp hx with z | z
    · exact h4 x z
    · simp at z; omega
  · intro q hq
    unfold lin
    rw [eSl] at hq
    rw [sm_app (by omega), getD_app]
    by_cases z : q < S.length
    · rw [if_pos z]; exact h9 q z
    · rw [if_neg z, if_pos (by omega), show q = S.length by omega]
      have e : sm S 0 S.length = S.sum := by rw [sm0, List.take_length]
      rw [e, h2, ← h7]
      exact h8
  · intro x hx
    rcases List.mem_append.mp hx with z | z
    · have := h6 x z; omega
    · simp at z; omega
