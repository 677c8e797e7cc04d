/-! a record goes -/
theorem shd_lo {α : Type} {f : Nat → α} {a k j : Nat} (h : j < a) : shd f a k j = f j := by unfold shd; rw [if_neg (by omega)]
theorem shd_in {α : Type} {f : Nat → α} {a k j : Nat} (h : a ≤ j) (h2 : j < k) : shd f a k j = f (j + 1) := by unfold shd; rw [if_pos ⟨h, h2⟩]
theorem arr_delL {fk : Nat → Int64} {K : List Int64} {t : Nat} (h : ∀ j, j < K.length → fk j = K.getD j 0) (ht : t < K.length) : ∀ j, j < (del K t).length → shd fk t (K.length - 1) j = (del K t).getD j 0 := by
  intro j hj
  rw [del_len ht] at hj
  rw [del_get ht]
  unfold shd
  by_cases q : j < t
  · rw [if_pos q, if_neg (by omega), h j (by omega)]
  · rw [if_neg q, if_pos ⟨by omega, by omega⟩, h _ (by omega)]
theorem arr_delN {g : Nat → Nat} {L : List Nat} {n t : Nat} (hn : n = L.length) (h : ∀ j, j < n → g j = L.getD j 0) (ht : t < n) : ∀ j, j < n - 1 → shd g t (n - 1) j = (del L t).getD j 0 := by
  intro j hj
  rw [del_get (by omega)]
  unfold shd
  by_cases q : j < t
  · rw [if_pos q, if_neg (by omega), h j (by omega)]
  · rw [if_neg q, if_pos ⟨by omega, by omega⟩, h _ (by omega)]
theorem shd_b {g : Nat → Nat} {t n : Nat} (h : ∀ k, g k < 2 ^ 31) : ∀ k, shd g t n k < 2 ^ 31 := by
  intro k
  unfold shd
  split
  · exact h _
  · exact h _
theorem srt_del {K : List Int64} {t : Nat} (hs : srt K) (ht : t < K.length) : srt (del K t) := by
  intro i j hij hj
  rw [del_len ht] at hj
  rw [del_get ht, del_get ht]
  by_cases c1 : j < t
  · rw [if_pos c1, if_pos (by omega)]; exact hs i j hij (by omega)
  · rw [if_neg c1]
    by_cases c2 : i < t
    · rw [if_pos c2]; exact hs i (j + 1) (by omega) (by omega)
    · rw [if_neg c2]; exact hs (i + 1) (j + 1) (by omega) (by omega)
theorem del_set {α : Type} (S : List α) (h : Nat) (x : α) : del (S.set h x) h = del S h := by
  unfold del
  rw [List.take_set, List.drop_set, List.set_eq_of_length_le (by simp; omega), if_pos (by omega)]
theorem nodup_del {N : List Nat} {j : Nat} (h : N.Nodup) : (del N j).Nodup := by
  unfold del
  have h1 : (N.take j ++ N.drop j).Nodup := by rw [List.take_append_drop]; exact h
  rw [List.nodup_append] at h1 ⊢
  have hsub : ∀ x, x ∈ N.drop (j + 1) → x ∈ N.drop j := fun x hx => by
    rw [← List.drop_drop] at hx
    exact List.mem_of_mem_drop hx
  refine ⟨h1.1, ?_, fun a ha b hb => h1.2.2 a ha b (hsub b hb)⟩
  rw [← List.drop_drop]
  exact h1.2.1.sublist (List.drop_sublist _ _)
/-- the sums of a row without its place t -/
theorem smd {L : List Nat} {t x : Nat} (ht : t < L.length) : (x ≤ t → sm (del L t) 0 x = sm L 0 x) ∧ (t ≤ x → sm (del L t) 0 x + L.getD t 0 = sm L 0 (x + 1)) := by
  have h := sm0_del ht x
  have s := sm0_s ht
  refine ⟨fun q => ?_, fun q => ?_⟩
  · rw [if_pos q, if_pos q] at h; omega
  · by_cases z : x ≤ t
    · have e : x = t := by omega
      subst e
      rw [if_pos z, if_pos z] at h
      omega
    · rw [if_neg z, if_neg z] at h
      omega
theorem Core.remk {rm wd nx ac : Nat} {K : List Int64} {L N S P A : List Nat} {fk : Nat → Int64} {gl go gi ga : Nat → Nat} (hC : Core rm wd nx ac K L N S P A fk gl go gi ga) (hk : K.length ≤ 600) (hrm : rm ≤ 1000) {h t : Nat} (hh : h < S.length) (h1 : sm S 0 h ≤ t) (h2 : t < sm S 0 h + S.getD h 0) (hkeep : ¬ (S.getD h 0 - 1 = 0 ∧ 1 < S.length)) :
    Core rm wd nx ac (del K t) (del L t) N (S.set h (S.getD h 0 - 1)) P A (shd fk t (K.length - 1)) (shd gl t (K.length - 1)) (shd go t (K.length - 1)) gi ga := by
  obtain ⟨⟨r1, r2, r3, r4, r5, r6, r7, r8⟩, ⟨j1, j2, j3, j4, j5, j6, j7, j8⟩, c1, c2, c3, c4, c5, c6, b1, b2, b3, b4⟩ := hC
  have hg := sm0_get S h
  have htl : t < K.length := by omega
  have eK := del_len (L := K) htl
  have eL := del_len (L := L) (j := t) (by omega)
  have eS : (S.set h (S.getD h 0 - 1)).length = S.length := List.length_set ..
  have eSs := set_sum (x := S.getD h 0 - 1) hh
  have hL : ∀ x ∈ del L t, 1 ≤ x ∧ x ≤ rm := fun x hx => c3 x (mem_del hx)
  refine ⟨⟨arr_delL r1 htl, ?_, ?_, ?_, ?_, r6, r7, r8⟩, ⟨by omega, by omega, by omega, by omega, by omega, j6, ?_, lsum_b hL hrm (by omega)⟩, srt_del c1 htl, c2, hL, ?_, c5, c6, shd_b b1, shd_b b2, b3, b4⟩
  · intro j hj
    exact arr_delN (n := K.length) (by omega) (fun j hj => r2 j hj) htl j (by omega)
  · intro j hj
    rw [gIx_less hh h1 h2 (by omega)]
    unfold shd
    by_cases q : j < t
    · rw [if_pos q, if_neg (by omega), r3 j (by omega)]
    · rw [if_neg q, if_pos ⟨by omega, by omega⟩, r3 _ (by omega)]
  · intro q hq; exact r4 q (by omega)
  · intro q hq; exact r5 q (by omega)
  · by_cases z : S.length = 1
    · left; omega
    · right
      have y : ∀ x ∈ S, 1 ≤ x := j7.resolve_left z
      intro x hx
      rcases List.mem_or_eq_of_mem_set hx with w | w
      · exact y x w
      · omega
  · intro q hq
    have l0 := lin_pr L S q
    have l1 := lin_pr (del L t) (S.set h (S.getD h 0 - 1)) q
    have s1 := sm0_set (x := S.getD h 0 - 1) hh q
    have hc := c4 q (by omega)
    have F := fun x => smd (L := L) (t := t) (x := x) (by omega)
    rw [getD_set hh] at l1
    rcases Nat.lt_trichotomy q h with z | z | z
    · rw [if_pos (by omega), if_pos (by omega)] at s1
      have m := sm0_mono S (show q + 1 ≤ h by omega)
      have s4 := sm0_s (show q < S.length by omega)
      rw [if_neg (by omega), show sm (S.set h (S.getD h 0 - 1)) 0 q = sm S 0 q by omega, (F _).1 (by omega), (F _).1 (by omega)] at l1
      omega
    · subst z
      rw [if_pos (by omega), if_pos (by omega)] at s1
      rw [if_pos rfl, show sm (S.set q (S.getD q 0 - 1)) 0 q = sm S 0 q by omega, (F _).1 (by omega)] at l1
      have f2 := (F (sm S 0 q + (S.getD q 0 - 1))).2 (by omega)
      rw [show sm S 0 q + (S.getD q 0 - 1) + 1 = sm S 0 q + S.getD q 0 by omega] at f2
      omega
    · rw [if_neg (by omega), if_neg (by omega)] at s1
      have m := sm0_mono S (show h + 1 ≤ q by omega)
      have s4 := sm0_s hh
      have e : sm (S.set h (S.getD h 0 - 1)) 0 q + 1 = sm S 0 q := by omega
      have f1 := (F (sm (S.set h (S.getD h 0 - 1)) 0 q)).2 (by omega)
      have f2 := (F (sm (S.set h (S.getD h 0 - 1)) 0 q + S.getD q 0)).2 (by omega)
      rw [if_neg (by omega)] at l1
      rw [e] at f1
      rw [show sm (S.set h (S.getD h 0 - 1)) 0 q + S.getD q 0 + 1 = sm S 0 q + S.getD q 0 by omega] at f2
      omega
theorem Core.remd {rm wd nx ac : Nat} {K : List Int64} {L N S P A : List Nat} {fk : Nat → Int64} {gl go gi ga : Nat → Nat} (hC : Core rm wd nx ac K L N S P A fk gl go gi ga) (hk : K.length ≤ 600) (hrm : rm ≤ 1000) {h t : Nat} (hh : h < S.length) (h1 : sm S 0 h ≤ t) (h2 : t < sm S 0 h + S.getD h 0) (hdrop : S.getD h 0 - 1 = 0 ∧ 1 < S.length) :
    ∃ A', Core rm wd nx ac (del K t) (del L t) (del N h) (del (S.set h (S.getD h 0 - 1)) h) (drp P (gIx P h)) A' (shd fk t (K.length - 1)) (shd gl t (K.length - 1)) (shd go t (K.length - 1)) (shd gi h (S.length - 1)) (shd ga h (S.length - 1)) := by
  obtain ⟨⟨r1, r2, r3, r4, r5, r6, r7, r8⟩, ⟨j1, j2, j3, j4, j5, j6, j7, j8⟩, c1, c2, c3, c4, c5, c6, b1, b2, b3, b4⟩ := hC
  have hg := sm0_get S h
  have htl : t < K.length := by omega
  have y : ∀ x ∈ S, 1 ≤ x := j7.resolve_left (by omega)
  have e1 : S.getD h 0 = 1 := by have := y _ (getD_mem hh); omega
  have et : t = sm S 0 h := by omega
  have eK := del_len (L := K) htl
  have eL := del_len (L := L) (j := t) (by omega)
  have eN := del_len (L := N) (j := h) (by omega)
  have eSl := del_len (L := S) hh
  have eSs := del_sum (L := S) hh
  have hL : ∀ x ∈ del L t, 1 ≤ x ∧ x ≤ rm := fun x hx => c3 x (mem_del hx)
  have hhP : h < P.sum := by omega
  have hgl := gIx_lt hhP
  have hgs := gIx_spec hhP
  have hP1 := j6 _ (getD_mem hgl)
  rw [del_set]
  -- each record's interval
  have R3 : ∀ j, j < (del K t).length → shd go t (K.length - 1) j = (del N h).getD (gIx (del S h) j) 0 := by
    intro j hj
    have hS1 : (S.set h (S.getD h 0 - 1)).length = S.length := List.length_set ..
    have hSs1 := set_sum (x := S.getD h 0 - 1) hh
    have z0 : (S.set h (S.getD h 0 - 1)).getD h 0 = 0 := by rw [getD_set hh, if_pos rfl]; omega
    rw [← del_set S h (S.getD h 0 - 1), gIx_gone (by omega) z0 (by omega), gIx_less hh h1 h2 (by omega)]
    have G := fun q => del_get (L := N) (j := h) (d := 0) (by omega) q
    by_cases q : j < t
    · have n1 : gIx S j < h := (gI_cmp (S := S) (m := j) (i := h) (by omega)).mpr (by omega)
      rw [if_pos q, if_pos n1, shd_lo q, G, if_pos n1, r3 j (by omega)]
    · have n1 : ¬ gIx S (j + 1) < h + 1 := fun z => by
        have := (gI_cmp (S := S) (m := j + 1) (i := h + 1) (by omega)).mp z
        have := sm0_s hh
        omega
      rw [if_neg q, if_neg (by omega), shd_in (by omega) (by omega), G, if_neg (by omega), show gIx S (j + 1) - 1 + 1 = gIx S (j + 1) by omega, r3 _ (by omega)]
  have R4 : ∀ q, q < (del S h).length → shd gi h (S.length - 1) q = (del N h).getD q 0 := fun q hq => arr_delN (n := S.length) (by omega) (fun q hq => r4 q hq) hh q (by omega)
  have hS2 : ∀ x ∈ del S h, 1 ≤ x := fun x hx => y x (mem_del hx)
  have hro : ∀ q, q < (del S h).length → lin (del L t) (del S h) q ≤ rm := by
    intro q hq
    have l1 := lin_pr (del L t) (del S h) q
    have F := fun x => smd (L := L) (t := t) (x := x) (by omega)
    have s4 := sm0_s hh
    rw [del_get hh] at l1
    by_cases z : q < h
    · have s1 := (smd (L := S) (t := h) (x := q) hh).1 (by omega)
      have m := sm0_mono S (show q + 1 ≤ h by omega)
      have s5 := sm0_s (show q < S.length by omega)
      have l0 := lin_pr L S q
      have := c4 q (by omega)
      rw [if_pos z, s1, (F _).1 (by omega), (F _).1 (by omega)] at l1
      omega
    · have s1 := (smd (L := S) (t := h) (x := q) hh).2 (by omega)
      have m := sm0_mono S (show h + 1 ≤ q + 1 by omega)
      have l0 := lin_pr L S (q + 1)
      have := c4 (q + 1) (by omega)
      have e : sm (del S h) 0 q + 1 = sm S 0 (q + 1) := by omega
      have f1 := (F (sm (del S h) 0 q)).2 (by omega)
      have f2 := (F (sm (del S h) 0 q + S.getD (q + 1) 0)).2 (by omega)
      rw [if_neg z] at l1
      rw [e] at f1
      rw [show sm (del S h) 0 q + S.getD (q + 1) 0 + 1 = sm S 0 (q + 1) + S.getD (q + 1) 0 by omega] at f2
      omega
  have hN2 : ∀ x ∈ del N h, x < nx := fun x hx => c5 x (mem_del hx)
  generalize hgd : gIx P h = g at *
  have ePs := set_sum (x := P.getD g 0 - 1) hgl
  have ePl : (P.set g (P.getD g 0 - 1)).length = P.length := List.length_set ..
  by_cases hz : P.getD g 0 - 1 = 0
  · have eP : drp P g = del P g := by unfold drp; rw [if_pos hz, del_set]
    have ePd := del_len (L := P) hgl
    have ePd2 := del_sum (L := P) hgl
    rw [eP]
    refine ⟨del A g, ⟨arr_delL r1 htl, ?_, R3, R4, ?_, nodup_del r6, nodup_del r7, by rw [del_len (by omega), ePd]; omega⟩, ⟨by omega, by omega, by omega, by omega, by omega, fun x hx => j6 x (mem_del hx), Or.inr hS2, lsum_b hL hrm (by omega)⟩, srt_del c1 htl, fun x hx => c2 x (mem_del hx), hL, hro, hN2, fun x hx => c6 x (mem_del hx), shd_b b1, shd_b b2, shd_b b3, shd_b b4⟩
    · intro j hj
      exact arr_delN (n := K.length) (by omega) (fun j hj => r2 j hj) htl j (by omega)
    · intro q hq
      have z0 : (P.set g (P.getD g 0 - 1)).getD g 0 = 0 := by rw [getD_set hgl, if_pos rfl]; omega
      rw [← del_set P g (P.getD g 0 - 1), gIx_gone (by omega) z0 (by omega), gIx_less hgl hgs.1 hgs.2 (by omega)]
      have G := fun q => del_get (L := A) (j := g) (d := 0) (by omega) q
      by_cases w : q < h
      · have n1 : gIx P q < g := (gI_cmp (S := P) (m := q) (i := g) (by omega)).mpr (by omega)
        rw [if_pos w, if_pos n1, shd_lo w, G, if_pos n1, r5 q (by omega)]
      · have n1 : ¬ gIx P (q + 1) < g + 1 := fun z => by
          have := (gI_cmp (S := P) (m := q + 1) (i := g + 1) (by omega)).mp z
          have := sm0_s hgl
          omega
        rw [if_neg w, if_neg (by omega), shd_in (by omega) (by omega), G, if_neg (by omega), show gIx P (q + 1) - 1 + 1 = gIx P (q + 1) by omega, r5 _ (by omega)]
  · have eP : drp P g = P.set g (P.getD g 0 - 1) := by unfold drp; rw [if_neg hz]
    rw [eP]
    refine ⟨A, ⟨arr_delL r1 htl, ?_, R3, R4, ?_, nodup_del r6, r7, by omega⟩, ⟨by omega, by omega, by omega, by omega, by omega, ?_, Or.inr hS2, lsum_b hL hrm (by omega)⟩, srt_del c1 htl, ?_, hL, hro, hN2, c6, shd_b b1, shd_b b2, shd_b b3, shd_b b4⟩
    · intro j hj
      exact arr_delN (n := K.length) (by omega) (fun j hj => r2 j hj) htl j (by omega)
    · intro q hq
      rw [gIx_less hgl hgs.1 hgs.2 (by omega)]
      unfold shd
      by_cases w : q < h
      · rw [if_pos w, if_neg (by omega), r5 q (by omega)]
      · rw [if_neg w, if_pos ⟨by omega, by omega⟩, r5 _ (by omega)]
    · intro x hx
      rcases List.mem_or_eq_of_mem_set hx with w | w
      · exact j6 x w
      · omega
    · intro x hx
      rcases List.mem_or_eq_of_mem_set hx with w | w
      · exact c2 x w
      · have := c2 _ (getD_mem hgl); omega
