/-! THE CLASS: its world (an object, five rows), what is read and written of it -/
def w2 (E : Gq) (z : Nat → Nat) (v : Nat → Int32) (kd : Nat) (K : List Int64) (L N S P : List Nat) (f : Nat → Nat → Int64) : va_W := [(z 0, .inr (2, [.int (v 0), .int (v 1), .int (v 2), .int (v 3), .ref (z 1), .ref (z 2), .ref (z 3), .ref (z 4), .ref (z 5), .int (v 9), .int (v 10), .int (v 11), .int (v 12), .ref (E.2.2.2 kd), .int (v 14), .int (v 15), .int (v 16), .int (v 17), .int (v 18)])), (z 1, .inr (1, [.ref (z 6), .int (nI K.length)])), (z 2, .inr (1, [.ref (z 7), .int (nI L.length)])), (z 3, .inr (1, [.ref (z 8), .int (nI N.length)])), (z 4, .inr (1, [.ref (z 9), .int (nI S.length)])), (z 5, .inr (1, [.ref (z 10), .int (nI P.length)])), (z 6, .inl (E.2.2.1, 600, .inr (.inl (f 1)))), (z 7, .inl (E.2.2.1, 600, .inr (.inl (f 2)))), (z 8, .inl (E.2.2.1, 601, .inr (.inl (f 3)))), (z 9, .inl (E.2.2.1, 601, .inr (.inl (f 4)))), (z 10, .inl (E.2.2.1, 601, .inr (.inl (f 5))))]
def Rok (f : Nat → Nat → Int64) (K : List Int64) (L N S P : List Nat) : Prop := RowOk (f 1) 600 K ∧ RowOk (f 2) 600 (L.map lN) ∧ RowOk (f 3) 601 (N.map lN) ∧ RowOk (f 4) 601 (S.map lN) ∧ RowOk (f 5) 601 (P.map lN)
def X2w (E : Gq) (A : Nat → Prop) (z : Nat → Nat) (v : Nat → Int32) (kd : Nat) (K : List Int64) (L N S P : List Nat) (s : State) (H : Heap) (locs : List Loc) : Prop := ∃ f, Wl E A (w2 E z v kd K L N S P f) s H locs ∧ Rok f K L N S P
def P2 (E : Gq) (z : Nat → Nat) (post : Option Value → (Nat → Int32) → Nat → List Int64 → List Nat → List Nat → List Nat → List Nat → Prop) : Option Value → va_W → Prop := fun r ws' => ∃ (v : Nat → Int32) (kd : Nat) (K : List Int64) (L N S P : List Nat) (f : Nat → Nat → Int64), ws' = w2 E z v kd K L N S P f ∧ Rok f K L N S P ∧ post r v kd K L N S P
/-- contracts of the class's methods: one that reads, one that writes -/
def M2r (l : Launch) (E : Gq) (y : MethodName) (cc : ByteArray) (maxL : Nat) (ret : Option FieldType) (k : Nat) (av : List Value) (z : Nat → Nat) (v : Nat → Int32) (kd : Nat) (K : List Int64) (L N S P : List Nat) (post : Option Value → Prop) : Prop := ∀ f, Rok f K L N S P → ∀ sz : Nat, Met l y (.code y cc maxL ret :: LT) (Rm k 0 0) (Pw E av (w2 E z v kd K L N S P f) sz) (Qr post) 0 0 (fun _ => False)
def M2w (l : Launch) (E : Gq) (y : MethodName) (cc : ByteArray) (maxL : Nat) (ret : Option FieldType) (k : Nat) (av : List Value) (z : Nat → Nat) (v : Nat → Int32) (kd : Nat) (K : List Int64) (L N S P : List Nat) (post : Option Value → (Nat → Int32) → Nat → List Int64 → List Nat → List Nat → List Nat → List Nat → Prop) : Prop := ∀ f, Rok f K L N S P → ∀ sz : Nat, Met l y (.code y cc maxL ret :: LT) (Rm k 0 0) (Pw E av (w2 E z v kd K L N S P f) sz) (Qw E (w2 E z v kd K L N S P f) sz (P2 E z post)) 0 0 (va_A (w2 E z v kd K L N S P f) sz)
theorem Rok.lens {f : Nat → Nat → Int64} {K : List Int64} {L N S P : List Nat} (h : Rok f K L N S P) : K.length ≤ 600 ∧ L.length ≤ 600 ∧ N.length ≤ 601 ∧ S.length ≤ 601 ∧ P.length ≤ 601 := by
  obtain ⟨h1, h2, h3, h4, h5⟩ := h
  have e2 := h2.1; have e3 := h3.1; have e4 := h4.1; have e5 := h5.1
  rw [List.length_map] at e2 e3 e4 e5
  exact ⟨h1.1, e2, e3, e4, e5⟩
theorem neg64 {q : Nat} (h : q < 2 ^ 31) : (-(nI q)).toInt64 = -(lN q) := by
  apply Int64.toInt_inj.mp
  rw [Int32.toInt_toInt64, sb_negT h, Int64.toInt_neg, lN_toInt h]
  exact (Int.bmod_eq_of_le (by omega) (by omega)).symm
theorem dn64 {x q : Nat} (h : q ≤ x) : lN x + -(lN q) = lN (x - q) := by rw [← Int64.sub_eq_add_neg, lN_sub h]
theorem setm (L : List Nat) (j y : Nat) : (L.map lN).set j (lN y) = (L.set j y).map lN := by rw [List.map_set]
section X2S
variable {p : Program} {l : Launch} {e : Env} {R : Room} {s : State} {m : MethodId} {args : Array Value} {below : List Frame} {meth : Method} {c : Code} {H : Heap} {locs : List Loc} {cells slots : Nat} {Q : State → Prop}
variable {E : Gq} {cc : ByteArray} {nL : Nat} {ret : Option FieldType} {A : Nat → Prop} {pc : Nat} {ls : Array Slot} {rest : List Value} {z : Nat → Nat} {v : Nat → Int32} {kd : Nat} {K : List Int64} {L N S P : List Nat}
theorem x2g_0 (C : Cx E p s m args meth c cc nL ret RX2 A) (X : X2w E A z v kd K L N S P s H locs) {x : Int32} (hv : v 0 = x) (hdg : decode cc pc = .ok (.getfield 72, 3)) (kk : W p l e R s m args below meth c H locs cells slots Q (F0 m (pc + 3) ls (.int x :: rest))) : W p l e R s m args below meth c H locs cells slots Q (F0 m pc ls (.ref (z 0) :: rest)) := by
  subst hv
  obtain ⟨f, Wd, -⟩ := X
  exact getf C Wd 0 rfl rfl in_X2 0 (by decide) tw_75 rfl hdg kk
theorem x2g_1 (C : Cx E p s m args meth c cc nL ret RX2 A) (X : X2w E A z v kd K L N S P s H locs) {x : Int32} (hv : v 1 = x) (hdg : decode cc pc = .ok (.getfield 75, 3)) (kk : W p l e R s m args below meth c H locs cells slots Q (F0 m (pc + 3) ls (.int x :: rest))) : W p l e R s m args below meth c H locs cells slots Q (F0 m pc ls (.ref (z 0) :: rest)) := by
  subst hv
  obtain ⟨f, Wd, -⟩ := X
  exact getf C Wd 0 rfl rfl in_X2 1 (by decide) tw_76 rfl hdg kk
theorem x2g_2 (C : Cx E p s m args meth c cc nL ret RX2 A) (X : X2w E A z v kd K L N S P s H locs) {x : Int32} (hv : v 2 = x) (hdg : decode cc pc = .ok (.getfield 78, 3)) (kk : W p l e R s m args below meth c H locs cells slots Q (F0 m (pc + 3) ls (.int x :: rest))) : W p l e R s m args below meth c H locs cells slots Q (F0 m pc ls (.ref (z 0) :: rest)) := by
  subst hv
  obtain ⟨f, Wd, -⟩ := X
  exact getf C Wd 0 rfl rfl in_X2 2 (by decide) tw_77 rfl hdg kk
theorem x2g_3 (C : Cx E p s m args meth c cc nL ret RX2 A) (X : X2w E A z v kd K L N S P s H locs) {x : Int32} (hv : v 3 = x) (hdg : decode cc pc = .ok (.getfield 87, 3)) (kk : W p l e R s m args below meth c H locs cells slots Q (F0 m (pc + 3) ls (.int x :: rest))) : W p l e R s m args below meth c H locs cells slots Q (F0 m pc ls (.ref (z 0) :: rest)) := by
  subst hv
  obtain ⟨f, Wd, -⟩ := X
  exact getf C Wd 0 rfl rfl in_X2 3 (by decide) tw_78 rfl hdg kk
theorem x2g_4 (C : Cx E p s m args meth c cc nL ret RX2 A) (X : X2w E A z v kd K L N S P s H locs) (hdg : decode cc pc = .ok (.getfield 14, 3)) (kk : W p l e R s m args below meth c H locs cells slots Q (F0 m (pc + 3) ls (.ref (z 1) :: rest))) : W p l e R s m args below meth c H locs cells slots Q (F0 m pc ls (.ref (z 0) :: rest)) := by
  obtain ⟨f, Wd, -⟩ := X
  exact getf C Wd 0 rfl rfl in_X2 4 (by decide) tw_79 rfl hdg kk
theorem x2g_5 (C : Cx E p s m args meth c cc nL ret RX2 A) (X : X2w E A z v kd K L N S P s H locs) (hdg : decode cc pc = .ok (.getfield 18, 3)) (kk : W p l e R s m args below meth c H locs cells slots Q (F0 m (pc + 3) ls (.ref (z 2) :: rest))) : W p l e R s m args below meth c H locs cells slots Q (F0 m pc ls (.ref (z 0) :: rest)) := by
  obtain ⟨f, Wd, -⟩ := X
  exact getf C Wd 0 rfl rfl in_X2 5 (by decide) tw_80 rfl hdg kk
theorem x2g_6 (C : Cx E p s m args meth c cc nL ret RX2 A) (X : X2w E A z v kd K L N S P s H locs) (hdg : decode cc pc = .ok (.getfield 21, 3)) (kk : W p l e R s m args below meth c H locs cells slots Q (F0 m (pc + 3) ls (.ref (z 3) :: rest))) : W p l e R s m args below meth c H locs cells slots Q (F0 m pc ls (.ref (z 0) :: rest)) := by
  obtain ⟨f, Wd, -⟩ := X
  exact getf C Wd 0 rfl rfl in_X2 6 (by decide) tw_81 rfl hdg kk
theorem x2g_7 (C : Cx E p s m args meth c cc nL ret RX2 A) (X : X2w E A z v kd K L N S P s H locs) (hdg : decode cc pc = .ok (.getfield 24, 3)) (kk : W p l e R s m args below meth c H locs cells slots Q (F0 m (pc + 3) ls (.ref (z 4) :: rest))) : W p l e R s m args below meth c H locs cells slots Q (F0 m pc ls (.ref (z 0) :: rest)) := by
  obtain ⟨f, Wd, -⟩ := X
  exact getf C Wd 0 rfl rfl in_X2 7 (by decide) tw_82 rfl hdg kk
theorem x2g_8 (C : Cx E p s m args meth c cc nL ret RX2 A) (X : X2w E A z v kd K L N S P s H locs) (hdg : decode cc pc = .ok (.getfield 27, 3)) (kk : W p l e R s m args below meth c H locs cells slots Q (F0 m (pc + 3) ls (.ref (z 5) :: rest))) : W p l e R s m args below meth c H locs cells slots Q (F0 m pc ls (.ref (z 0) :: rest)) := by
  obtain ⟨f, Wd, -⟩ := X
  exact getf C Wd 0 rfl rfl in_X2 8 (by decide) tw_83 rfl hdg kk
theorem x2g_9 (C : Cx E p s m args meth c cc nL ret RX2 A) (X : X2w E A z v kd K L N S P s H locs) {x : Int32} (hv : v 9 = x) (hdg : decode cc pc = .ok (.getfield 30, 3)) (kk : W p l e R s m args below meth c H locs cells slots Q (F0 m (pc + 3) ls (.int x :: rest))) : W p l e R s m args below meth c H locs cells slots Q (F0 m pc ls (.ref (z 0) :: rest)) := by
  subst hv
  obtain ⟨f, Wd, -⟩ := X
  exact getf C Wd 0 rfl rfl in_X2 9 (by decide) tw_84 rfl hdg kk
theorem x2g_10 (C : Cx E p s m args meth c cc nL ret RX2 A) (X : X2w E A z v kd K L N S P s H locs) {x : Int32} (hv : v 10 = x) (hdg : decode cc pc = .ok (.getfield 34, 3)) (kk : W p l e R s m args below meth c H locs cells slots Q (F0 m (pc + 3) ls (.int x :: rest))) : W p l e R s m args below meth c H locs cells slots Q (F0 m pc ls (.ref (z 0) :: rest)) := by
  subst hv
  obtain ⟨f, Wd, -⟩ := X
  exact getf C Wd 0 rfl rfl in_X2 10 (by decide) tw_85 rfl hdg kk
theorem x2g_11 (C : Cx E p s m args meth c cc nL ret RX2 A) (X : X2w E A z v kd K L N S P s H locs) {x : Int32} (hv : v 11 = x) (hdg : decode cc pc = .ok (.getfield 37, 3)) (kk : W p l e R s m args below meth c H locs cells slots Q (F0 m (pc + 3) ls (.int x :: rest))) : W p l e R s m args below meth c H locs cells slots Q (F0 m pc ls (.ref (z 0) :: rest)) := by
  subst hv
  obtain ⟨f, Wd, -⟩ := X
  exact getf C Wd 0 rfl rfl in_X2 11 (by decide) tw_86 rfl hdg kk
theorem x2g_12 (C : Cx E p s m args meth c cc nL ret RX2 A) (X : X2w E A z v kd K L N S P s H locs) {x : Int32} (hv : v 12 = x) (hdg : decode cc pc = .ok (.getfield 41, 3)) (kk : W p l e R s m args below meth c H locs cells slots Q (F0 m (pc + 3) ls (.int x :: rest))) : W p l e R s m args below meth c H locs cells slots Q (F0 m pc ls (.ref (z 0) :: rest)) := by
  subst hv
  obtain ⟨f, Wd, -⟩ := X
  exact getf C Wd 0 rfl rfl in_X2 12 (by decide) tw_87 rfl hdg kk
theorem x2g_13 (C : Cx E p s m args meth c cc nL ret RX2 A) (X : X2w E A z v kd K L N S P s H locs) (hdg : decode cc pc = .ok (.getfield 50, 3)) (kk : W p l e R s m args below meth c H locs cells slots Q (F0 m (pc + 3) ls (.ref (E.2.2.2 kd) :: rest))) : W p l e R s m args below meth c H locs cells slots Q (F0 m pc ls (.ref (z 0) :: rest)) := by
  obtain ⟨f, Wd, -⟩ := X
  exact getf C Wd 0 rfl rfl in_X2 13 (by decide) tw_88 rfl hdg kk
theorem x2g_14 (C : Cx E p s m args meth c cc nL ret RX2 A) (X : X2w E A z v kd K L N S P s H locs) {x : Int32} (hv : v 14 = x) (hdg : decode cc pc = .ok (.getfield 53, 3)) (kk : W p l e R s m args below meth c H locs cells slots Q (F0 m (pc + 3) ls (.int x :: rest))) : W p l e R s m args below meth c H locs cells slots Q (F0 m pc ls (.ref (z 0) :: rest)) := by
  subst hv
  obtain ⟨f, Wd, -⟩ := X
  exact getf C Wd 0 rfl rfl in_X2 14 (by decide) tw_89 rfl hdg kk
theorem x2g_15 (C : Cx E p s m args meth c cc nL ret RX2 A) (X : X2w E A z v kd K L N S P s H locs) {x : Int32} (hv : v 15 = x) (hdg : decode cc pc = .ok (.getfield 56, 3)) (kk : W p l e R s m args below meth c H locs cells slots Q (F0 m (pc + 3) ls (.int x :: rest))) : W p l e R s m args below meth c H locs cells slots Q (F0 m pc ls (.ref (z 0) :: rest)) := by
  subst hv
  obtain ⟨f, Wd, -⟩ := X
  exact getf C Wd 0 rfl rfl in_X2 15 (by decide) tw_90 rfl hdg kk
theorem x2g_16 (C : Cx E p s m args meth c cc nL ret RX2 A) (X : X2w E A z v kd K L N S P s H locs) {x : Int32} (hv : v 16 = x) (hdg : decode cc pc = .ok (.getfield 59, 3)) (kk : W p l e R s m args below meth c H locs cells slots Q (F0 m (pc + 3) ls (.int x :: rest))) : W p l e R s m args below meth c H locs cells slots Q (F0 m pc ls (.ref (z 0) :: rest)) := by
  subst hv
  obtain ⟨f, Wd, -⟩ := X
  exact getf C Wd 0 rfl rfl in_X2 16 (by decide) tw_91 rfl hdg kk
theorem x2g_17 (C : Cx E p s m args meth c cc nL ret RX2 A) (X : X2w E A z v kd K L N S P s H locs) {x : Int32} (hv : v 17 = x) (hdg : decode cc pc = .ok (.getfield 62, 3)) (kk : W p l e R s m args below meth c H locs cells slots Q (F0 m (pc + 3) ls (.int x :: rest))) : W p l e R s m args below meth c H locs cells slots Q (F0 m pc ls (.ref (z 0) :: rest)) := by
  subst hv
  obtain ⟨f, Wd, -⟩ := X
  exact getf C Wd 0 rfl rfl in_X2 17 (by decide) tw_92 rfl hdg kk
theorem x2g_18 (C : Cx E p s m args meth c cc nL ret RX2 A) (X : X2w E A z v kd K L N S P s H locs) {x : Int32} (hv : v 18 = x) (hdg : decode cc pc = .ok (.getfield 65, 3)) (kk : W p l e R s m args below meth c H locs cells slots Q (F0 m (pc + 3) ls (.int x :: rest))) : W p l e R s m args below meth c H locs cells slots Q (F0 m pc ls (.ref (z 0) :: rest)) := by
  subst hv
  obtain ⟨f, Wd, -⟩ := X
  exact getf C Wd 0 rfl rfl in_X2 18 (by decide) tw_93 rfl hdg kk
theorem x2p_9 (C : Cx E p s m args meth c cc nL ret RX2 A) (X : X2w E A z v kd K L N S P s H locs) {x : Int32} (hdg : decode cc pc = .ok (.putfield 30, 3)) (kk : ∀ (H1 : Heap) (locs1 : List Loc), X2w E A z (upd v 9 x) kd K L N S P s H1 locs1 → W p l e R s m args below meth c H1 locs1 cells slots Q (F0 m (pc + 3) ls rest)) : W p l e R s m args below meth c H locs cells slots Q (F0 m pc ls (.int x :: .ref (z 0) :: rest)) := by
  obtain ⟨f, Wd, hf⟩ := X
  exact putf C Wd 0 rfl rfl in_X2 tyX2 tyX2_ok nmX2 9 (by decide) tw_84 rfl (ty := .int) (by decide +kernel) rfl rfl (Nat.le_of_ble_eq_true rfl) hdg (fun H1 locs1 W1 => kk H1 locs1 ⟨f, W1, hf⟩)
theorem x2p_10 (C : Cx E p s m args meth c cc nL ret RX2 A) (X : X2w E A z v kd K L N S P s H locs) {x : Int32} (hdg : decode cc pc = .ok (.putfield 34, 3)) (kk : ∀ (H1 : Heap) (locs1 : List Loc), X2w E A z (upd v 10 x) kd K L N S P s H1 locs1 → W p l e R s m args below meth c H1 locs1 cells slots Q (F0 m (pc + 3) ls rest)) : W p l e R s m args below meth c H locs cells slots Q (F0 m pc ls (.int x :: .ref (z 0) :: rest)) := by
  obtain ⟨f, Wd, hf⟩ := X
  exact putf C Wd 0 rfl rfl in_X2 tyX2 tyX2_ok nmX2 10 (by decide) tw_85 rfl (ty := .int) (by decide +kernel) rfl rfl (Nat.le_of_ble_eq_true rfl) hdg (fun H1 locs1 W1 => kk H1 locs1 ⟨f, W1, hf⟩)
theorem x2p_11 (C : Cx E p s m args meth c cc nL ret RX2 A) (X : X2w E A z v kd K L N S P s H locs) {x : Int32} (hn : narrow .boolean (.int x) = .int x) (hfi : fits .boolean (.int x) = true) (hdg : decode cc pc = .ok (.putfield 37, 3)) (kk : ∀ (H1 : Heap) (locs1 : List Loc), X2w E A z (upd v 11 x) kd K L N S P s H1 locs1 → W p l e R s m args below meth c H1 locs1 cells slots Q (F0 m (pc + 3) ls rest)) : W p l e R s m args below meth c H locs cells slots Q (F0 m pc ls (.int x :: .ref (z 0) :: rest)) := by
  obtain ⟨f, Wd, hf⟩ := X
  exact putf C Wd 0 rfl rfl in_X2 tyX2 tyX2_ok nmX2 11 (by decide) tw_86 rfl (ty := .boolean) (by decide +kernel) hn hfi (Nat.le_of_ble_eq_true rfl) hdg (fun H1 locs1 W1 => kk H1 locs1 ⟨f, W1, hf⟩)
theorem x2p_12 (C : Cx E p s m args meth c cc nL ret RX2 A) (X : X2w E A z v kd K L N S P s H locs) {x : Int32} (hn : narrow .boolean (.int x) = .int x) (hfi : fits .boolean (.int x) = true) (hdg : decode cc pc = .ok (.putfield 41, 3)) (kk : ∀ (H1 : Heap) (locs1 : List Loc), X2w E A z (upd v 12 x) kd K L N S P s H1 locs1 → W p l e R s m args below meth c H1 locs1 cells slots Q (F0 m (pc + 3) ls rest)) : W p l e R s m args below meth c H locs cells slots Q (F0 m pc ls (.int x :: .ref (z 0) :: rest)) := by
  obtain ⟨f, Wd, hf⟩ := X
  exact putf C Wd 0 rfl rfl in_X2 tyX2 tyX2_ok nmX2 12 (by decide) tw_87 rfl (ty := .boolean) (by decide +kernel) hn hfi (Nat.le_of_ble_eq_true rfl) hdg (fun H1 locs1 W1 => kk H1 locs1 ⟨f, W1, hf⟩)
theorem x2p_14 (C : Cx E p s m args meth c cc nL ret RX2 A) (X : X2w E A z v kd K L N S P s H locs) {x : Int32} (hdg : decode cc pc = .ok (.putfield 53, 3)) (kk : ∀ (H1 : Heap) (locs1 : List Loc), X2w E A z (upd v 14 x) kd K L N S P s H1 locs1 → W p l e R s m args below meth c H1 locs1 cells slots Q (F0 m (pc + 3) ls rest)) : W p l e R s m args below meth c H locs cells slots Q (F0 m pc ls (.int x :: .ref (z 0) :: rest)) := by
  obtain ⟨f, Wd, hf⟩ := X
  exact putf C Wd 0 rfl rfl in_X2 tyX2 tyX2_ok nmX2 14 (by decide) tw_89 rfl (ty := .int) (by decide +kernel) rfl rfl (Nat.le_of_ble_eq_true rfl) hdg (fun H1 locs1 W1 => kk H1 locs1 ⟨f, W1, hf⟩)
theorem x2p_15 (C : Cx E p s m args meth c cc nL ret RX2 A) (X : X2w E A z v kd K L N S P s H locs) {x : Int32} (hdg : decode cc pc = .ok (.putfield 56, 3)) (kk : ∀ (H1 : Heap) (locs1 : List Loc), X2w E A z (upd v 15 x) kd K L N S P s H1 locs1 → W p l e R s m args below meth c H1 locs1 cells slots Q (F0 m (pc + 3) ls rest)) : W p l e R s m args below meth c H locs cells slots Q (F0 m pc ls (.int x :: .ref (z 0) :: rest)) := by
  obtain ⟨f, Wd, hf⟩ := X
  exact putf C Wd 0 rfl rfl in_X2 tyX2 tyX2_ok nmX2 15 (by decide) tw_90 rfl (ty := .int) (by decide +kernel) rfl rfl (Nat.le_of_ble_eq_true rfl) hdg (fun H1 locs1 W1 => kk H1 locs1 ⟨f, W1, hf⟩)
theorem x2p_16 (C : Cx E p s m args meth c cc nL ret RX2 A) (X : X2w E A z v kd K L N S P s H locs) {x : Int32} (hdg : decode cc pc = .ok (.putfield 59, 3)) (kk : ∀ (H1 : Heap) (locs1 : List Loc), X2w E A z (upd v 16 x) kd K L N S P s H1 locs1 → W p l e R s m args below meth c H1 locs1 cells slots Q (F0 m (pc + 3) ls rest)) : W p l e R s m args below meth c H locs cells slots Q (F0 m pc ls (.int x :: .ref (z 0) :: rest)) := by
  obtain ⟨f, Wd, hf⟩ := X
  exact putf C Wd 0 rfl rfl in_X2 tyX2 tyX2_ok nmX2 16 (by decide) tw_91 rfl (ty := .int) (by decide +kernel) rfl rfl (Nat.le_of_ble_eq_true rfl) hdg (fun H1 locs1 W1 => kk H1 locs1 ⟨f, W1, hf⟩)
theorem x2p_17 (C : Cx E p s m args meth c cc nL ret RX2 A) (X : X2w E A z v kd K L N S P s H locs) {x : Int32} (hdg : decode cc pc = .ok (.putfield 62, 3)) (kk : ∀ (H1 : Heap) (locs1 : List Loc), X2w E A z (upd v 17 x) kd K L N S P s H1 locs1 → W p l e R s m args below meth c H1 locs1 cells slots Q (F0 m (pc + 3) ls rest)) : W p l e R s m args below meth c H locs cells slots Q (F0 m pc ls (.int x :: .ref (z 0) :: rest)) := by
  obtain ⟨f, Wd, hf⟩ := X
  exact putf C Wd 0 rfl rfl in_X2 tyX2 tyX2_ok nmX2 17 (by decide) tw_92 rfl (ty := .int) (by decide +kernel) rfl rfl (Nat.le_of_ble_eq_true rfl) hdg (fun H1 locs1 W1 => kk H1 locs1 ⟨f, W1, hf⟩)
theorem x2p_18 (C : Cx E p s m args meth c cc nL ret RX2 A) (X : X2w E A z v kd K L N S P s H locs) {x : Int32} (hdg : decode cc pc = .ok (.putfield 65, 3)) (kk : ∀ (H1 : Heap) (locs1 : List Loc), X2w E A z (upd v 18 x) kd K L N S P s H1 locs1 → W p l e R s m args below meth c H1 locs1 cells slots Q (F0 m (pc + 3) ls rest)) : W p l e R s m args below meth c H locs cells slots Q (F0 m pc ls (.int x :: .ref (z 0) :: rest)) := by
  obtain ⟨f, Wd, hf⟩ := X
  exact putf C Wd 0 rfl rfl in_X2 tyX2 tyX2_ok nmX2 18 (by decide) tw_93 rfl (ty := .int) (by decide +kernel) rfl rfl (Nat.le_of_ble_eq_true rfl) hdg (fun H1 locs1 W1 => kk H1 locs1 ⟨f, W1, hf⟩)
theorem x2p_13 (C : Cx E p s m args meth c cc nL ret RX2 A) (X : X2w E A z v kd K L N S P s H locs) {kd' : Nat} (hdg : decode cc pc = .ok (.putfield 50, 3)) (kk : ∀ (H1 : Heap) (locs1 : List Loc), X2w E A z v kd' K L N S P s H1 locs1 → W p l e R s m args below meth c H1 locs1 cells slots Q (F0 m (pc + 3) ls rest)) : W p l e R s m args below meth c H locs cells slots Q (F0 m pc ls (.ref (E.2.2.2 kd') :: .ref (z 0) :: rest)) := by
  obtain ⟨f, Wd, hf⟩ := X
  exact putf C Wd 0 rfl rfl in_X2 tyX2 tyX2_ok nmX2 13 (by decide) tw_88 rfl (ty := .object "IntervalSplits$Kind") (by decide +kernel) rfl rfl (Nat.le_of_ble_eq_true rfl) hdg (fun H1 locs1 W1 => kk H1 locs1 ⟨f, W1, hf⟩)
theorem x2s_1 (C : Cx E p s m args meth c cc nL ret RX2 A) (X : X2w E A z v kd K L N S P s H locs) (hdg : decode cc pc = .ok (.getfield 97, 3)) (kk : W p l e R s m args below meth c H locs cells slots Q (F0 m (pc + 3) ls (.int (nI K.length) :: rest))) : W p l e R s m args below meth c H locs cells slots Q (F0 m pc ls (.ref (z 1) :: rest)) := by
  obtain ⟨f, Wd, -⟩ := X
  exact va_getN (ref := RX1) (C := RX1) (T := TX1) (N := 2) (ci := 1) C.hx C.hb C.hts in_X1 C.hown C.hK.1 Wd.1 1 rfl rfl 1 (by decide) (va_Nw.use rfl C.hK.2.2) (fun _ h => h) rfl hdg kk
theorem x2s_2 (C : Cx E p s m args meth c cc nL ret RX2 A) (X : X2w E A z v kd K L N S P s H locs) (hdg : decode cc pc = .ok (.getfield 97, 3)) (kk : W p l e R s m args below meth c H locs cells slots Q (F0 m (pc + 3) ls (.int (nI L.length) :: rest))) : W p l e R s m args below meth c H locs cells slots Q (F0 m pc ls (.ref (z 2) :: rest)) := by
  obtain ⟨f, Wd, -⟩ := X
  exact va_getN (ref := RX1) (C := RX1) (T := TX1) (N := 2) (ci := 1) C.hx C.hb C.hts in_X1 C.hown C.hK.1 Wd.1 2 rfl rfl 1 (by decide) (va_Nw.use rfl C.hK.2.2) (fun _ h => h) rfl hdg kk
theorem x2s_3 (C : Cx E p s m args meth c cc nL ret RX2 A) (X : X2w E A z v kd K L N S P s H locs) (hdg : decode cc pc = .ok (.getfield 97, 3)) (kk : W p l e R s m args below meth c H locs cells slots Q (F0 m (pc + 3) ls (.int (nI N.length) :: rest))) : W p l e R s m args below meth c H locs cells slots Q (F0 m pc ls (.ref (z 3) :: rest)) := by
  obtain ⟨f, Wd, -⟩ := X
  exact va_getN (ref := RX1) (C := RX1) (T := TX1) (N := 2) (ci := 1) C.hx C.hb C.hts in_X1 C.hown C.hK.1 Wd.1 3 rfl rfl 1 (by decide) (va_Nw.use rfl C.hK.2.2) (fun _ h => h) rfl hdg kk
theorem x2s_4 (C : Cx E p s m args meth c cc nL ret RX2 A) (X : X2w E A z v kd K L N S P s H locs) (hdg : decode cc pc = .ok (.getfield 97, 3)) (kk : W p l e R s m args below meth c H locs cells slots Q (F0 m (pc + 3) ls (.int (nI S.length) :: rest))) : W p l e R s m args below meth c H locs cells slots Q (F0 m pc ls (.ref (z 4) :: rest)) := by
  obtain ⟨f, Wd, -⟩ := X
  exact va_getN (ref := RX1) (C := RX1) (T := TX1) (N := 2) (ci := 1) C.hx C.hb C.hts in_X1 C.hown C.hK.1 Wd.1 4 rfl rfl 1 (by decide) (va_Nw.use rfl C.hK.2.2) (fun _ h => h) rfl hdg kk
theorem x2s_5 (C : Cx E p s m args meth c cc nL ret RX2 A) (X : X2w E A z v kd K L N S P s H locs) (hdg : decode cc pc = .ok (.getfield 97, 3)) (kk : W p l e R s m args below meth c H locs cells slots Q (F0 m (pc + 3) ls (.int (nI P.length) :: rest))) : W p l e R s m args below meth c H locs cells slots Q (F0 m pc ls (.ref (z 5) :: rest)) := by
  obtain ⟨f, Wd, -⟩ := X
  exact va_getN (ref := RX1) (C := RX1) (T := TX1) (N := 2) (ci := 1) C.hx C.hb C.hts in_X1 C.hown C.hK.1 Wd.1 5 rfl rfl 1 (by decide) (va_Nw.use rfl C.hK.2.2) (fun _ h => h) rfl hdg kk
theorem x2z_3 (C : Cx E p s m args meth c cc nL ret RX2 A) (X : X2w E A z v kd K L N S P s H locs) (hdg : decode cc pc = .ok (.putfield 97, 3)) (kk : ∀ (H1 : Heap) (locs1 : List Loc), X2w E A z v kd K L [] S P s H1 locs1 → W p l e R s m args below meth c H1 locs1 cells slots Q (F0 m (pc + 3) ls rest)) : W p l e R s m args below meth c H locs cells slots Q (F0 m pc ls (.int (nI 0) :: .ref (z 3) :: rest)) := by
  obtain ⟨f, Wd, h1, h2, h3, h4, h5⟩ := X
  exact va_putN (ref := RX1) (C := RX1) (T := TX1) (N := 2) (ci := 1) C.hx C.hb C.hts in_X1 tyX1 tyX1_ok nmX1 C.hown C.hK.1 Wd.1 Wd.2.1 Wd.2.2 3 rfl rfl 1 (by decide) (va_Nw.use rfl C.hK.2.2) (fun _ h => h) rfl (ty := .int) (by decide +kernel) rfl rfl (Nat.le_of_ble_eq_true rfl) hdg (fun H1 locs1 a1 a2 a3 => kk H1 locs1 ⟨f, ⟨a1, a2, a3⟩, h1, h2, ⟨Nat.zero_le _, fun j hj => absurd hj (Nat.not_lt_zero j)⟩, h4, h5⟩)
theorem x2z_4 (C : Cx E p s m args meth c cc nL ret RX2 A) (X : X2w E A z v kd K L N S P s H locs) (hdg : decode cc pc = .ok (.putfield 97, 3)) (kk : ∀ (H1 : Heap) (locs1 : List Loc), X2w E A z v kd K L N [] P s H1 locs1 → W p l e R s m args below meth c H1 locs1 cells slots Q (F0 m (pc + 3) ls rest)) : W p l e R s m args below meth c H locs cells slots Q (F0 m pc ls (.int (nI 0) :: .ref (z 4) :: rest)) := by
  obtain ⟨f, Wd, h1, h2, h3, h4, h5⟩ := X
  exact va_putN (ref := RX1) (C := RX1) (T := TX1) (N := 2) (ci := 1) C.hx C.hb C.hts in_X1 tyX1 tyX1_ok nmX1 C.hown C.hK.1 Wd.1 Wd.2.1 Wd.2.2 4 rfl rfl 1 (by decide) (va_Nw.use rfl C.hK.2.2) (fun _ h => h) rfl (ty := .int) (by decide +kernel) rfl rfl (Nat.le_of_ble_eq_true rfl) hdg (fun H1 locs1 a1 a2 a3 => kk H1 locs1 ⟨f, ⟨a1, a2, a3⟩, h1, h2, h3, ⟨Nat.zero_le _, fun j hj => absurd hj (Nat.not_lt_zero j)⟩, h5⟩)
theorem x2z_5 (C : Cx E p s m args meth c cc nL ret RX2 A) (X : X2w E A z v kd K L N S P s H locs) (hdg : decode cc pc = .ok (.putfield 97, 3)) (kk : ∀ (H1 : Heap) (locs1 : List Loc), X2w E A z v kd K L N S [] s H1 locs1 → W p l e R s m args below meth c H1 locs1 cells slots Q (F0 m (pc + 3) ls rest)) : W p l e R s m args below meth c H locs cells slots Q (F0 m pc ls (.int (nI 0) :: .ref (z 5) :: rest)) := by
  obtain ⟨f, Wd, h1, h2, h3, h4, h5⟩ := X
  exact va_putN (ref := RX1) (C := RX1) (T := TX1) (N := 2) (ci := 1) C.hx C.hb C.hts in_X1 tyX1 tyX1_ok nmX1 C.hown C.hK.1 Wd.1 Wd.2.1 Wd.2.2 5 rfl rfl 1 (by decide) (va_Nw.use rfl C.hK.2.2) (fun _ h => h) rfl (ty := .int) (by decide +kernel) rfl rfl (Nat.le_of_ble_eq_true rfl) hdg (fun H1 locs1 a1 a2 a3 => kk H1 locs1 ⟨f, ⟨a1, a2, a3⟩, h1, h2, h3, h4, ⟨Nat.zero_le _, fun j hj => absurd hj (Nat.not_lt_zero j)⟩⟩)
theorem x2_at (C : Cx E p s m args meth c cc nL ret RX2 A) (X : X2w E A z v kd K L N S P s H locs) {i : Int32} (hR : 1 ≤ R.frames ∧ 28 ≤ R.locals) (hsz : ls.size = nL) (hW : (rest.map fun v => v.category).sum ≤ 8) (hf : cells ≤ R.cells ∧ slots ≤ R.slots) (hdg : decode cc pc = .ok (.invokevirtual 157, 3)) (kk : W p l e R s m args below meth c H locs cells slots Q (F0 m (pc + 3) ls (.long (lAt K i) :: rest))) : W p l e R s m args below meth c H locs cells slots Q (F0 m pc ls (.int i :: .ref (z 1) :: rest)) := by
  obtain ⟨f, Wd, h1, h2, h3, h4, h5⟩ := X
  refine call_r (runVN (As := [.int i]) (rest := rest) C Wd (c1_at (l := l) (q0 := 1) (qa := 6) (h := z 1) (a := z 6) (cap := 600) (f := f 1) (M := K) rfl rfl h1 (by decide) i) wy_X1_at ts_4 (List.mem_of_getElem? (i := 4) rfl) rfl (q0 := 1) rfl hR rfl hsz rfl hW hdg hf) (fun v hv => ?_)
  subst hv
  exact kk
theorem x2_holds_1 (C : Cx E p s m args meth c cc nL ret RX2 A) (X : X2w E A z v kd K L N S P s H locs) {i : Int32} (hR : 1 ≤ R.frames ∧ 28 ≤ R.locals) (hsz : ls.size = nL) (hW : (rest.map fun v => v.category).sum ≤ 8) (hf : cells ≤ R.cells ∧ slots ≤ R.slots) (hdg : decode cc pc = .ok (.invokevirtual 124, 3)) (kk : W p l e R s m args below meth c H locs cells slots Q (F0 m (pc + 3) ls (.int (hld K.length i) :: rest))) : W p l e R s m args below meth c H locs cells slots Q (F0 m pc ls (.int i :: .ref (z 1) :: rest)) := by
  obtain ⟨f, Wd, h1, h2, h3, h4, h5⟩ := X
  refine call_r (runVN (As := [.int i]) (rest := rest) C Wd (c1_holds (l := l) (q0 := 1) (qa := 6) (h := z 1) (a := z 6) (cap := 600) (f := f 1) (M := K) rfl rfl h1 (by decide) i) wy_X1_holds ts_22 (List.mem_of_getElem? (i := 8) rfl) rfl (q0 := 1) rfl hR rfl hsz rfl hW hdg hf) (fun v hv => ?_)
  subst hv
  exact kk
theorem x2_holds_2 (C : Cx E p s m args meth c cc nL ret RX2 A) (X : X2w E A z v kd K L N S P s H locs) {i : Int32} (hR : 1 ≤ R.frames ∧ 28 ≤ R.locals) (hsz : ls.size = nL) (hW : (rest.map fun v => v.category).sum ≤ 8) (hf : cells ≤ R.cells ∧ slots ≤ R.slots) (hdg : decode cc pc = .ok (.invokevirtual 124, 3)) (kk : W p l e R s m args below meth c H locs cells slots Q (F0 m (pc + 3) ls (.int (hld L.length i) :: rest))) : W p l e R s m args below meth c H locs cells slots Q (F0 m pc ls (.int i :: .ref (z 2) :: rest)) := by
  obtain ⟨f, Wd, h1, h2, h3, h4, h5⟩ := X
  refine call_r (runVN (As := [.int i]) (rest := rest) C Wd (c1_holds (l := l) (q0 := 2) (qa := 7) (h := z 2) (a := z 7) (cap := 600) (f := f 2) (M := L.map lN) (by rw [List.length_map]; rfl) rfl h2 (by decide) i) wy_X1_holds ts_22 (List.mem_of_getElem? (i := 8) rfl) rfl (q0 := 2) rfl hR rfl hsz rfl hW hdg hf) (fun v hv => ?_)
  subst hv
  rw [List.length_map]
  exact kk
theorem x2_intAt_2 (C : Cx E p s m args meth c cc nL ret RX2 A) (X : X2w E A z v kd K L N S P s H locs) {j : Nat} (hj : j < 2 ^ 31) (hR : 2 ≤ R.frames ∧ 56 ≤ R.locals) (hsz : ls.size = nL) (hW : (rest.map fun v => v.category).sum ≤ 8) (hf : cells ≤ R.cells ∧ slots ≤ R.slots) (hdg : decode cc pc = .ok (.invokevirtual 108, 3)) (kk : W p l e R s m args below meth c H locs cells slots Q (F0 m (pc + 3) ls (.int (nI (L.getD j 0)) :: rest))) : W p l e R s m args below meth c H locs cells slots Q (F0 m pc ls (.int (nI j) :: .ref (z 2) :: rest)) := by
  obtain ⟨f, Wd, h1, h2, h3, h4, h5⟩ := X
  refine call_r (runVN (As := [.int (nI j)]) (rest := rest) C Wd (c1_intAt (l := l) (q0 := 2) (qa := 7) (h := z 2) (a := z 7) (cap := 600) (f := f 2) (M := L.map lN) (by rw [List.length_map]; rfl) rfl h2 (by decide) (nI j)) wy_X1_intAt ts_3 (List.mem_of_getElem? (i := 2) rfl) rfl (q0 := 2) rfl hR rfl hsz rfl hW hdg hf) (fun v hv => ?_)
  subst hv
  rw [lAt_m hj]
  exact kk
theorem x2_sum_2 (C : Cx E p s m args meth c cc nL ret RX2 A) (X : X2w E A z v kd K L N S P s H locs) {a b : Nat} (ha : a ≤ 2 ^ 30) (hb : b ≤ 2 ^ 30) (hR : 2 ≤ R.frames ∧ 56 ≤ R.locals) (hsz : ls.size = nL) (hW : (rest.map fun v => v.category).sum ≤ 8) (hf : cells ≤ R.cells ∧ slots ≤ R.slots) (hdg : decode cc pc = .ok (.invokevirtual 137, 3)) (kk : W p l e R s m args below meth c H locs cells slots Q (F0 m (pc + 3) ls (.int (nI (sm L a b)) :: rest))) : W p l e R s m args below meth c H locs cells slots Q (F0 m pc ls (.int (nI b) :: .int (nI a) :: .ref (z 2) :: rest)) := by
  obtain ⟨f, Wd, h1, h2, h3, h4, h5⟩ := X
  refine call_r (runVN (As := [.int (nI a), .int (nI b)]) (rest := rest) C Wd (c1_sum (l := l) (q0 := 2) (qa := 7) (h := z 2) (a := z 7) (cap := 600) (f := f 2) (L := L) (by rw [List.length_map]; rfl) rfl h2 (by decide) ha hb) wy_X1_sum ts_11 (List.mem_of_getElem? (i := 6) rfl) rfl (q0 := 2) rfl hR rfl hsz rfl hW hdg hf) (fun v hv => ?_)
  subst hv
  exact kk
theorem x2_groupOf_2 (C : Cx E p s m args meth c cc nL ret RX2 A) (X : X2w E A z v kd K L N S P s H locs) {b : Nat} (hb : b < 2 ^ 31) (hs : L.sum < 2 ^ 31) (hR : 2 ≤ R.frames ∧ 56 ≤ R.locals) (hsz : ls.size = nL) (hW : (rest.map fun v => v.category).sum ≤ 8) (hf : cells ≤ R.cells ∧ slots ≤ R.slots) (hdg : decode cc pc = .ok (.invokevirtual 104, 3)) (kk : W p l e R s m args below meth c H locs cells slots Q (F0 m (pc + 3) ls (.int (nI (gOf L b)) :: rest))) : W p l e R s m args below meth c H locs cells slots Q (F0 m pc ls (.int (nI b) :: .ref (z 2) :: rest)) := by
  obtain ⟨f, Wd, h1, h2, h3, h4, h5⟩ := X
  refine call_r (runVN (As := [.int (nI b)]) (rest := rest) C Wd (c1_groupOf (l := l) (q0 := 2) (qa := 7) (h := z 2) (a := z 7) (cap := 600) (f := f 2) (L := L) (by rw [List.length_map]; rfl) rfl h2 (by decide) hb hs) wy_X1_groupOf ts_9 (List.mem_of_getElem? (i := 5) rfl) rfl (q0 := 2) rfl hR rfl hsz rfl hW hdg hf) (fun v hv => ?_)
  subst hv
  exact kk
theorem x2_holds_3 (C : Cx E p s m args meth c cc nL ret RX2 A) (X : X2w E A z v kd K L N S P s H locs) {i : Int32} (hR : 1 ≤ R.frames ∧ 28 ≤ R.locals) (hsz : ls.size = nL) (hW : (rest.map fun v => v.category).sum ≤ 8) (hf : cells ≤ R.cells ∧ slots ≤ R.slots) (hdg : decode cc pc = .ok (.invokevirtual 124, 3)) (kk : W p l e R s m args below meth c H locs cells slots Q (F0 m (pc + 3) ls (.int (hld N.length i) :: rest))) : W p l e R s m args below meth c H locs cells slots Q (F0 m pc ls (.int i :: .ref (z 3) :: rest)) := by
  obtain ⟨f, Wd, h1, h2, h3, h4, h5⟩ := X
  refine call_r (runVN (As := [.int i]) (rest := rest) C Wd (c1_holds (l := l) (q0 := 3) (qa := 8) (h := z 3) (a := z 8) (cap := 601) (f := f 3) (M := N.map lN) (by rw [List.length_map]; rfl) rfl h3 (by decide) i) wy_X1_holds ts_22 (List.mem_of_getElem? (i := 8) rfl) rfl (q0 := 3) rfl hR rfl hsz rfl hW hdg hf) (fun v hv => ?_)
  subst hv
  rw [List.length_map]
  exact kk
theorem x2_intAt_3 (C : Cx E p s m args meth c cc nL ret RX2 A) (X : X2w E A z v kd K L N S P s H locs) {j : Nat} (hj : j < 2 ^ 31) (hR : 2 ≤ R.frames ∧ 56 ≤ R.locals) (hsz : ls.size = nL) (hW : (rest.map fun v => v.category).sum ≤ 8) (hf : cells ≤ R.cells ∧ slots ≤ R.slots) (hdg : decode cc pc = .ok (.invokevirtual 108, 3)) (kk : W p l e R s m args below meth c H locs cells slots Q (F0 m (pc + 3) ls (.int (nI (N.getD j 0)) :: rest))) : W p l e R s m args below meth c H locs cells slots Q (F0 m pc ls (.int (nI j) :: .ref (z 3) :: rest)) := by
  obtain ⟨f, Wd, h1, h2, h3, h4, h5⟩ := X
  refine call_r (runVN (As := [.int (nI j)]) (rest := rest) C Wd (c1_intAt (l := l) (q0 := 3) (qa := 8) (h := z 3) (a := z 8) (cap := 601) (f := f 3) (M := N.map lN) (by rw [List.length_map]; rfl) rfl h3 (by decide) (nI j)) wy_X1_intAt ts_3 (List.mem_of_getElem? (i := 2) rfl) rfl (q0 := 3) rfl hR rfl hsz rfl hW hdg hf) (fun v hv => ?_)
  subst hv
  rw [lAt_m hj]
  exact kk
theorem x2_sum_3 (C : Cx E p s m args meth c cc nL ret RX2 A) (X : X2w E A z v kd K L N S P s H locs) {a b : Nat} (ha : a ≤ 2 ^ 30) (hb : b ≤ 2 ^ 30) (hR : 2 ≤ R.frames ∧ 56 ≤ R.locals) (hsz : ls.size = nL) (hW : (rest.map fun v => v.category).sum ≤ 8) (hf : cells ≤ R.cells ∧ slots ≤ R.slots) (hdg : decode cc pc = .ok (.invokevirtual 137, 3)) (kk : W p l e R s m args below meth c H locs cells slots Q (F0 m (pc + 3) ls (.int (nI (sm N a b)) :: rest))) : W p l e R s m args below meth c H locs cells slots Q (F0 m pc ls (.int (nI b) :: .int (nI a) :: .ref (z 3) :: rest)) := by
  obtain ⟨f, Wd, h1, h2, h3, h4, h5⟩ := X
  refine call_r (runVN (As := [.int (nI a), .int (nI b)]) (rest := rest) C Wd (c1_sum (l := l) (q0 := 3) (qa := 8) (h := z 3) (a := z 8) (cap := 601) (f := f 3) (L := N) (by rw [List.length_map]; rfl) rfl h3 (by decide) ha hb) wy_X1_sum ts_11 (List.mem_of_getElem? (i := 6) rfl) rfl (q0 := 3) rfl hR rfl hsz rfl hW hdg hf) (fun v hv => ?_)
  subst hv
  exact kk
theorem x2_groupOf_3 (C : Cx E p s m args meth c cc nL ret RX2 A) (X : X2w E A z v kd K L N S P s H locs) {b : Nat} (hb : b < 2 ^ 31) (hs : N.sum < 2 ^ 31) (hR : 2 ≤ R.frames ∧ 56 ≤ R.locals) (hsz : ls.size = nL) (hW : (rest.map fun v => v.category).sum ≤ 8) (hf : cells ≤ R.cells ∧ slots ≤ R.slots) (hdg : decode cc pc = .ok (.invokevirtual 104, 3)) (kk : W p l e R s m args below meth c H locs cells slots Q (F0 m (pc + 3) ls (.int (nI (gOf N b)) :: rest))) : W p l e R s m args below meth c H locs cells slots Q (F0 m pc ls (.int (nI b) :: .ref (z 3) :: rest)) := by
  obtain ⟨f, Wd, h1, h2, h3, h4, h5⟩ := X
  refine call_r (runVN (As := [.int (nI b)]) (rest := rest) C Wd (c1_groupOf (l := l) (q0 := 3) (qa := 8) (h := z 3) (a := z 8) (cap := 601) (f := f 3) (L := N) (by rw [List.length_map]; rfl) rfl h3 (by decide) hb hs) wy_X1_groupOf ts_9 (List.mem_of_getElem? (i := 5) rfl) rfl (q0 := 3) rfl hR rfl hsz rfl hW hdg hf) (fun v hv => ?_)
  subst hv
  exact kk
theorem x2_holds_4 (C : Cx E p s m args meth c cc nL ret RX2 A) (X : X2w E A z v kd K L N S P s H locs) {i : Int32} (hR : 1 ≤ R.frames ∧ 28 ≤ R.locals) (hsz : ls.size = nL) (hW : (rest.map fun v => v.category).sum ≤ 8) (hf : cells ≤ R.cells ∧ slots ≤ R.slots) (hdg : decode cc pc = .ok (.invokevirtual 124, 3)) (kk : W p l e R s m args below meth c H locs cells slots Q (F0 m (pc + 3) ls (.int (hld S.length i) :: rest))) : W p l e R s m args below meth c H locs cells slots Q (F0 m pc ls (.int i :: .ref (z 4) :: rest)) := by
  obtain ⟨f, Wd, h1, h2, h3, h4, h5⟩ := X
  refine call_r (runVN (As := [.int i]) (rest := rest) C Wd (c1_holds (l := l) (q0 := 4) (qa := 9) (h := z 4) (a := z 9) (cap := 601) (f := f 4) (M := S.map lN) (by rw [List.length_map]; rfl) rfl h4 (by decide) i) wy_X1_holds ts_22 (List.mem_of_getElem? (i := 8) rfl) rfl (q0 := 4) rfl hR rfl hsz rfl hW hdg hf) (fun v hv => ?_)
  subst hv
  rw [List.length_map]
  exact kk
theorem x2_intAt_4 (C : Cx E p s m args meth c cc nL ret RX2 A) (X : X2w E A z v kd K L N S P s H locs) {j : Nat} (hj : j < 2 ^ 31) (hR : 2 ≤ R.frames ∧ 56 ≤ R.locals) (hsz : ls.size = nL) (hW : (rest.map fun v => v.category).sum ≤ 8) (hf : cells ≤ R.cells ∧ slots ≤ R.slots) (hdg : decode cc pc = .ok (.invokevirtual 108, 3)) (kk : W p l e R s m args below meth c H locs cells slots Q (F0 m (pc + 3) ls (.int (nI (S.getD j 0)) :: rest))) : W p l e R s m args below meth c H locs cells slots Q (F0 m pc ls (.int (nI j) :: .ref (z 4) :: rest)) := by
  obtain ⟨f, Wd, h1, h2, h3, h4, h5⟩ := X
  refine call_r (runVN (As := [.int (nI j)]) (rest := rest) C Wd (c1_intAt (l := l) (q0 := 4) (qa := 9) (h := z 4) (a := z 9) (cap := 601) (f := f 4) (M := S.map lN) (by rw [List.length_map]; rfl) rfl h4 (by decide) (nI j)) wy_X1_intAt ts_3 (List.mem_of_getElem? (i := 2) rfl) rfl (q0 := 4) rfl hR rfl hsz rfl hW hdg hf) (fun v hv => ?_)
  subst hv
  rw [lAt_m hj]
  exact kk
theorem x2_sum_4 (C : Cx E p s m args meth c cc nL ret RX2 A) (X : X2w E A z v kd K L N S P s H locs) {a b : Nat} (ha : a ≤ 2 ^ 30) (hb : b ≤ 2 ^ 30) (hR : 2 ≤ R.frames ∧ 56 ≤ R.locals) (hsz : ls.size = nL) (hW : (rest.map fun v => v.category).sum ≤ 8) (hf : cells ≤ R.cells ∧ slots ≤ R.slots) (hdg : decode cc pc = .ok (.invokevirtual 137, 3)) (kk : W p l e R s m args below meth c H locs cells slots Q (F0 m (pc + 3) ls (.int (nI (sm S a b)) :: rest))) : W p l e R s m args below meth c H locs cells slots Q (F0 m pc ls (.int (nI b) :: .int (nI a) :: .ref (z 4) :: rest)) := by
  obtain ⟨f, Wd, h1, h2, h3, h4, h5⟩ := X
  refine call_r (runVN (As := [.int (nI a), .int (nI b)]) (rest := rest) C Wd (c1_sum (l := l) (q0 := 4) (qa := 9) (h := z 4) (a := z 9) (cap := 601) (f := f 4) (L := S) (by rw [List.length_map]; rfl) rfl h4 (by decide) ha hb) wy_X1_sum ts_11 (List.mem_of_getElem? (i := 6) rfl) rfl (q0 := 4) rfl hR rfl hsz rfl hW hdg hf) (fun v hv => ?_)
  subst hv
  exact kk
theorem x2_groupOf_4 (C : Cx E p s m args meth c cc nL ret RX2 A) (X : X2w E A z v kd K L N S P s H locs) {b : Nat} (hb : b < 2 ^ 31) (hs : S.sum < 2 ^ 31) (hR : 2 ≤ R.frames ∧ 56 ≤ R.locals) (hsz : ls.size = nL) (hW : (rest.map fun v => v.category).sum ≤ 8) (hf : cells ≤ R.cells ∧ slots ≤ R.slots) (hdg : decode cc pc = .ok (.invokevirtual 104, 3)) (kk : W p l e R s m args below meth c H locs cells slots Q (F0 m (pc + 3) ls (.int (nI (gOf S b)) :: rest))) : W p l e R s m args below meth c H locs cells slots Q (F0 m pc ls (.int (nI b) :: .ref (z 4) :: rest)) := by
  obtain ⟨f, Wd, h1, h2, h3, h4, h5⟩ := X
  refine call_r (runVN (As := [.int (nI b)]) (rest := rest) C Wd (c1_groupOf (l := l) (q0 := 4) (qa := 9) (h := z 4) (a := z 9) (cap := 601) (f := f 4) (L := S) (by rw [List.length_map]; rfl) rfl h4 (by decide) hb hs) wy_X1_groupOf ts_9 (List.mem_of_getElem? (i := 5) rfl) rfl (q0 := 4) rfl hR rfl hsz rfl hW hdg hf) (fun v hv => ?_)
  subst hv
  exact kk
theorem x2_holds_5 (C : Cx E p s m args meth c cc nL ret RX2 A) (X : X2w E A z v kd K L N S P s H locs) {i : Int32} (hR : 1 ≤ R.frames ∧ 28 ≤ R.locals) (hsz : ls.size = nL) (hW : (rest.map fun v => v.category).sum ≤ 8) (hf : cells ≤ R.cells ∧ slots ≤ R.slots) (hdg : decode cc pc = .ok (.invokevirtual 124, 3)) (kk : W p l e R s m args below meth c H locs cells slots Q (F0 m (pc + 3) ls (.int (hld P.length i) :: rest))) : W p l e R s m args below meth c H locs cells slots Q (F0 m pc ls (.int i :: .ref (z 5) :: rest)) := by
  obtain ⟨f, Wd, h1, h2, h3, h4, h5⟩ := X
  refine call_r (runVN (As := [.int i]) (rest := rest) C Wd (c1_holds (l := l) (q0 := 5) (qa := 10) (h := z 5) (a := z 10) (cap := 601) (f := f 5) (M := P.map lN) (by rw [List.length_map]; rfl) rfl h5 (by decide) i) wy_X1_holds ts_22 (List.mem_of_getElem? (i := 8) rfl) rfl (q0 := 5) rfl hR rfl hsz rfl hW hdg hf) (fun v hv => ?_)
  subst hv
  rw [List.length_map]
  exact kk
theorem x2_intAt_5 (C : Cx E p s m args meth c cc nL ret RX2 A) (X : X2w E A z v kd K L N S P s H locs) {j : Nat} (hj : j < 2 ^ 31) (hR : 2 ≤ R.frames ∧ 56 ≤ R.locals) (hsz : ls.size = nL) (hW : (rest.map fun v => v.category).sum ≤ 8) (hf : cells ≤ R.cells ∧ slots ≤ R.slots) (hdg : decode cc pc = .ok (.invokevirtual 108, 3)) (kk : W p l e R s m args below meth c H locs cells slots Q (F0 m (pc + 3) ls (.int (nI (P.getD j 0)) :: rest))) : W p l e R s m args below meth c H locs cells slots Q (F0 m pc ls (.int (nI j) :: .ref (z 5) :: rest)) := by
  obtain ⟨f, Wd, h1, h2, h3, h4, h5⟩ := X
  refine call_r (runVN (As := [.int (nI j)]) (rest := rest) C Wd (c1_intAt (l := l) (q0 := 5) (qa := 10) (h := z 5) (a := z 10) (cap := 601) (f := f 5) (M := P.map lN) (by rw [List.length_map]; rfl) rfl h5 (by decide) (nI j)) wy_X1_intAt ts_3 (List.mem_of_getElem? (i := 2) rfl) rfl (q0 := 5) rfl hR rfl hsz rfl hW hdg hf) (fun v hv => ?_)
  subst hv
  rw [lAt_m hj]
  exact kk
theorem x2_sum_5 (C : Cx E p s m args meth c cc nL ret RX2 A) (X : X2w E A z v kd K L N S P s H locs) {a b : Nat} (ha : a ≤ 2 ^ 30) (hb : b ≤ 2 ^ 30) (hR : 2 ≤ R.frames ∧ 56 ≤ R.locals) (hsz : ls.size = nL) (hW : (rest.map fun v => v.category).sum ≤ 8) (hf : cells ≤ R.cells ∧ slots ≤ R.slots) (hdg : decode cc pc = .ok (.invokevirtual 137, 3)) (kk : W p l e R s m args below meth c H locs cells slots Q (F0 m (pc + 3) ls (.int (nI (sm P a b)) :: rest))) : W p l e R s m args below meth c H locs cells slots Q (F0 m pc ls (.int (nI b) :: .int (nI a) :: .ref (z 5) :: rest)) := by
  obtain ⟨f, Wd, h1, h2, h3, h4, h5⟩ := X
  refine call_r (runVN (As := [.int (nI a), .int (nI b)]) (rest := rest) C Wd (c1_sum (l := l) (q0 := 5) (qa := 10) (h := z 5) (a := z 10) (cap := 601) (f := f 5) (L := P) (by rw [List.length_map]; rfl) rfl h5 (by decide) ha hb) wy_X1_sum ts_11 (List.mem_of_getElem? (i := 6) rfl) rfl (q0 := 5) rfl hR rfl hsz rfl hW hdg hf) (fun v hv => ?_)
  subst hv
  exact kk
theorem x2_groupOf_5 (C : Cx E p s m args meth c cc nL ret RX2 A) (X : X2w E A z v kd K L N S P s H locs) {b : Nat} (hb : b < 2 ^ 31) (hs : P.sum < 2 ^ 31) (hR : 2 ≤ R.frames ∧ 56 ≤ R.locals) (hsz : ls.size = nL) (hW : (rest.map fun v => v.category).sum ≤ 8) (hf : cells ≤ R.cells ∧ slots ≤ R.slots) (hdg : decode cc pc = .ok (.invokevirtual 104, 3)) (kk : W p l e R s m args below meth c H locs cells slots Q (F0 m (pc + 3) ls (.int (nI (gOf P b)) :: rest))) : W p l e R s m args below meth c H locs cells slots Q (F0 m pc ls (.int (nI b) :: .ref (z 5) :: rest)) := by
  obtain ⟨f, Wd, h1, h2, h3, h4, h5⟩ := X
  refine call_r (runVN (As := [.int (nI b)]) (rest := rest) C Wd (c1_groupOf (l := l) (q0 := 5) (qa := 10) (h := z 5) (a := z 10) (cap := 601) (f := f 5) (L := P) (by rw [List.length_map]; rfl) rfl h5 (by decide) hb hs) wy_X1_groupOf ts_9 (List.mem_of_getElem? (i := 5) rfl) rfl (q0 := 5) rfl hR rfl hsz rfl hW hdg hf) (fun v hv => ?_)
  subst hv
  exact kk
theorem x2_insertAt_1 (C : Cx E p s m args meth c cc nL ret RX2 A) (X : X2w E A z v kd K L N S P s H locs) {j : Nat} {x : Int64} (hj : j ≤ K.length) (hc : K.length < 600) (hR : 2 ≤ R.frames ∧ 56 ≤ R.locals) (hsz : ls.size = nL) (hW : (rest.map fun v => v.category).sum ≤ 8) (hf : cells ≤ R.cells ∧ slots ≤ R.slots) (hdg : decode cc pc = .ok (.invokevirtual 194, 3)) (kk : ∀ (H1 : Heap) (locs1 : List Loc), X2w E A z v kd (ins K j x) L N S P s H1 locs1 → W p l e R s m args below meth c H1 locs1 cells slots Q (F0 m (pc + 3) ls rest)) : W p l e R s m args below meth c H locs cells slots Q (F0 m pc ls (.long x :: .int (nI j) :: .ref (z 1) :: rest)) := by
  obtain ⟨f, Wd, h1, h2, h3, h4, h5⟩ := X
  refine call_w C Wd (runVN (As := [.int (nI j), .long x]) (rest := rest) C Wd (c1_insertAt (l := l) (q0 := 1) (qa := 6) (h := z 1) (a := z 6) (cap := 600) (f := f 1) (M := K) rfl rfl h1 (by decide) hj hc x) wy_X1_insertAt ts_2 (List.mem_of_getElem? (i := 1) rfl) rfl (q0 := 1) rfl hR rfl hsz rfl hW hdg hf) (fun v ws' H1 locs1 hp Wd => ?_)
  obtain ⟨rfl, f', rfl, hok⟩ := hp
  have hok2 : RowOk f' 600 (ins K j x) := hok
  have e : K.length + 1 = (ins K j x).length := (ins_len hj).symm
  rw [e] at Wd
  exact kk H1 locs1 ⟨va_up f 1 f', Wd, hok2, h2, h3, h4, h5⟩
theorem x2_deleteAt_1 (C : Cx E p s m args meth c cc nL ret RX2 A) (X : X2w E A z v kd K L N S P s H locs) {j : Nat} (hj : j < K.length) (hR : 2 ≤ R.frames ∧ 56 ≤ R.locals) (hsz : ls.size = nL) (hW : (rest.map fun v => v.category).sum ≤ 8) (hf : cells ≤ R.cells ∧ slots ≤ R.slots) (hdg : decode cc pc = .ok (.invokevirtual 114, 3)) (kk : ∀ (H1 : Heap) (locs1 : List Loc), X2w E A z v kd (del K j) L N S P s H1 locs1 → W p l e R s m args below meth c H1 locs1 cells slots Q (F0 m (pc + 3) ls rest)) : W p l e R s m args below meth c H locs cells slots Q (F0 m pc ls (.int (nI j) :: .ref (z 1) :: rest)) := by
  obtain ⟨f, Wd, h1, h2, h3, h4, h5⟩ := X
  refine call_w C Wd (runVN (As := [.int (nI j)]) (rest := rest) C Wd (c1_deleteAt (l := l) (q0 := 1) (qa := 6) (h := z 1) (a := z 6) (cap := 600) (f := f 1) (M := K) rfl rfl h1 (by decide) hj) wy_X1_deleteAt ts_20 (List.mem_of_getElem? (i := 7) rfl) rfl (q0 := 1) rfl hR rfl hsz rfl hW hdg hf) (fun v ws' H1 locs1 hp Wd => ?_)
  obtain ⟨rfl, f', rfl, hok⟩ := hp
  have hok2 : RowOk f' 600 (del K j) := hok
  have e : K.length - 1 = (del K j).length := (del_len hj).symm
  rw [e] at Wd
  exact kk H1 locs1 ⟨va_up f 1 f', Wd, hok2, h2, h3, h4, h5⟩
theorem x2_insertAt_2 (C : Cx E p s m args meth c cc nL ret RX2 A) (X : X2w E A z v kd K L N S P s H locs) {j x : Nat} (hj : j ≤ L.length) (hc : L.length < 600) (hR : 2 ≤ R.frames ∧ 56 ≤ R.locals) (hsz : ls.size = nL) (hW : (rest.map fun v => v.category).sum ≤ 8) (hf : cells ≤ R.cells ∧ slots ≤ R.slots) (hdg : decode cc pc = .ok (.invokevirtual 194, 3)) (kk : ∀ (H1 : Heap) (locs1 : List Loc), X2w E A z v kd K (ins L j x) N S P s H1 locs1 → W p l e R s m args below meth c H1 locs1 cells slots Q (F0 m (pc + 3) ls rest)) : W p l e R s m args below meth c H locs cells slots Q (F0 m pc ls (.long (lN x) :: .int (nI j) :: .ref (z 2) :: rest)) := by
  obtain ⟨f, Wd, h1, h2, h3, h4, h5⟩ := X
  refine call_w C Wd (runVN (As := [.int (nI j), .long (lN x)]) (rest := rest) C Wd (c1_insertAt (l := l) (q0 := 2) (qa := 7) (h := z 2) (a := z 7) (cap := 600) (f := f 2) (M := L.map lN) (by rw [List.length_map]; rfl) rfl h2 (by decide) (by rw [List.length_map]; exact hj) (by rw [List.length_map]; exact hc) (lN x)) wy_X1_insertAt ts_2 (List.mem_of_getElem? (i := 1) rfl) rfl (q0 := 2) rfl hR rfl hsz rfl hW hdg hf) (fun v ws' H1 locs1 hp Wd => ?_)
  obtain ⟨rfl, f', rfl, hok⟩ := hp
  have hok2 : RowOk f' 600 ((ins L j x).map lN) := by rw [ins_map]; exact hok
  have e : (L.map lN).length + 1 = (ins L j x).length := by rw [List.length_map, ins_len hj]
  rw [e] at Wd
  exact kk H1 locs1 ⟨va_up f 2 f', Wd, h1, hok2, h3, h4, h5⟩
theorem x2_deleteAt_2 (C : Cx E p s m args meth c cc nL ret RX2 A) (X : X2w E A z v kd K L N S P s H locs) {j : Nat} (hj : j < L.length) (hR : 2 ≤ R.frames ∧ 56 ≤ R.locals) (hsz : ls.size = nL) (hW : (rest.map fun v => v.category).sum ≤ 8) (hf : cells ≤ R.cells ∧ slots ≤ R.slots) (hdg : decode cc pc = .ok (.invokevirtual 114, 3)) (kk : ∀ (H1 : Heap) (locs1 : List Loc), X2w E A z v kd K (del L j) N S P s H1 locs1 → W p l e R s m args below meth c H1 locs1 cells slots Q (F0 m (pc + 3) ls rest)) : W p l e R s m args below meth c H locs cells slots Q (F0 m pc ls (.int (nI j) :: .ref (z 2) :: rest)) := by
  obtain ⟨f, Wd, h1, h2, h3, h4, h5⟩ := X
  refine call_w C Wd (runVN (As := [.int (nI j)]) (rest := rest) C Wd (c1_deleteAt (l := l) (q0 := 2) (qa := 7) (h := z 2) (a := z 7) (cap := 600) (f := f 2) (M := L.map lN) (by rw [List.length_map]; rfl) rfl h2 (by decide) (by rw [List.length_map]; exact hj)) wy_X1_deleteAt ts_20 (List.mem_of_getElem? (i := 7) rfl) rfl (q0 := 2) rfl hR rfl hsz rfl hW hdg hf) (fun v ws' H1 locs1 hp Wd => ?_)
  obtain ⟨rfl, f', rfl, hok⟩ := hp
  have hok2 : RowOk f' 600 ((del L j).map lN) := by rw [del_map]; exact hok
  have e : (L.map lN).length - 1 = (del L j).length := by rw [List.length_map, del_len hj]
  rw [e] at Wd
  exact kk H1 locs1 ⟨va_up f 2 f', Wd, h1, hok2, h3, h4, h5⟩
theorem x2_raiseUp_2 (C : Cx E p s m args meth c cc nL ret RX2 A) (X : X2w E A z v kd K L N S P s H locs) {j q : Nat} (hj : j < L.length) (hq : q < 2 ^ 31) (hR : 1 ≤ R.frames ∧ 28 ≤ R.locals) (hsz : ls.size = nL) (hW : (rest.map fun v => v.category).sum ≤ 8) (hf : cells ≤ R.cells ∧ slots ≤ R.slots) (hdg : decode cc pc = .ok (.invokevirtual 117, 3)) (kk : ∀ (H1 : Heap) (locs1 : List Loc), X2w E A z v kd K (L.set j (L.getD j 0 + q)) N S P s H1 locs1 → W p l e R s m args below meth c H1 locs1 cells slots Q (F0 m (pc + 3) ls rest)) : W p l e R s m args below meth c H locs cells slots Q (F0 m pc ls (.int (nI q) :: .int (nI j) :: .ref (z 2) :: rest)) := by
  obtain ⟨f, Wd, h1, h2, h3, h4, h5⟩ := X
  refine call_w C Wd (runVN (As := [.int (nI j), .int (nI q)]) (rest := rest) C Wd (c1_raise (l := l) (q0 := 2) (qa := 7) (h := z 2) (a := z 7) (cap := 600) (f := f 2) (M := L.map lN) (by rw [List.length_map]; rfl) rfl h2 (by decide) (by rw [List.length_map]; exact hj) (nI q)) wy_X1_raise ts_5 (List.mem_of_getElem? (i := 3) rfl) rfl (q0 := 2) rfl hR rfl hsz rfl hW hdg hf) (fun v ws' H1 locs1 hp Wd => ?_)
  obtain ⟨rfl, f', rfl, hok⟩ := hp
  have hok2 : RowOk f' 600 ((L.set j (L.getD j 0 + q)).map lN) := by rw [map_getD, nI_l hq, lN_add, setm] at hok; exact hok
  have e : (L.map lN).length = (L.set j (L.getD j 0 + q)).length := by rw [List.length_map, List.length_set]
  rw [e] at Wd
  exact kk H1 locs1 ⟨va_up f 2 f', Wd, h1, hok2, h3, h4, h5⟩
theorem x2_raiseDn_2 (C : Cx E p s m args meth c cc nL ret RX2 A) (X : X2w E A z v kd K L N S P s H locs) {j q : Nat} {d : Int32} (hd : d = -(nI q)) (hj : j < L.length) (hq : q < 2 ^ 31) (hle : q ≤ L.getD j 0) (hR : 1 ≤ R.frames ∧ 28 ≤ R.locals) (hsz : ls.size = nL) (hW : (rest.map fun v => v.category).sum ≤ 8) (hf : cells ≤ R.cells ∧ slots ≤ R.slots) (hdg : decode cc pc = .ok (.invokevirtual 117, 3)) (kk : ∀ (H1 : Heap) (locs1 : List Loc), X2w E A z v kd K (L.set j (L.getD j 0 - q)) N S P s H1 locs1 → W p l e R s m args below meth c H1 locs1 cells slots Q (F0 m (pc + 3) ls rest)) : W p l e R s m args below meth c H locs cells slots Q (F0 m pc ls (.int d :: .int (nI j) :: .ref (z 2) :: rest)) := by
  obtain ⟨f, Wd, h1, h2, h3, h4, h5⟩ := X
  refine call_w C Wd (runVN (As := [.int (nI j), .int d]) (rest := rest) C Wd (c1_raise (l := l) (q0 := 2) (qa := 7) (h := z 2) (a := z 7) (cap := 600) (f := f 2) (M := L.map lN) (by rw [List.length_map]; rfl) rfl h2 (by decide) (by rw [List.length_map]; exact hj) d) wy_X1_raise ts_5 (List.mem_of_getElem? (i := 3) rfl) rfl (q0 := 2) rfl hR rfl hsz rfl hW hdg hf) (fun v ws' H1 locs1 hp Wd => ?_)
  obtain ⟨rfl, f', rfl, hok⟩ := hp
  have hok2 : RowOk f' 600 ((L.set j (L.getD j 0 - q)).map lN) := by rw [hd, map_getD, neg64 hq, dn64 hle, setm] at hok; exact hok
  have e : (L.map lN).length = (L.set j (L.getD j 0 - q)).length := by rw [List.length_map, List.length_set]
  rw [e] at Wd
  exact kk H1 locs1 ⟨va_up f 2 f', Wd, h1, hok2, h3, h4, h5⟩
theorem x2_insertAt_3 (C : Cx E p s m args meth c cc nL ret RX2 A) (X : X2w E A z v kd K L N S P s H locs) {j x : Nat} (hj : j ≤ N.length) (hc : N.length < 601) (hR : 2 ≤ R.frames ∧ 56 ≤ R.locals) (hsz : ls.size = nL) (hW : (rest.map fun v => v.category).sum ≤ 8) (hf : cells ≤ R.cells ∧ slots ≤ R.slots) (hdg : decode cc pc = .ok (.invokevirtual 194, 3)) (kk : ∀ (H1 : Heap) (locs1 : List Loc), X2w E A z v kd K L (ins N j x) S P s H1 locs1 → W p l e R s m args below meth c H1 locs1 cells slots Q (F0 m (pc + 3) ls rest)) : W p l e R s m args below meth c H locs cells slots Q (F0 m pc ls (.long (lN x) :: .int (nI j) :: .ref (z 3) :: rest)) := by
  obtain ⟨f, Wd, h1, h2, h3, h4, h5⟩ := X
  refine call_w C Wd (runVN (As := [.int (nI j), .long (lN x)]) (rest := rest) C Wd (c1_insertAt (l := l) (q0 := 3) (qa := 8) (h := z 3) (a := z 8) (cap := 601) (f := f 3) (M := N.map lN) (by rw [List.length_map]; rfl) rfl h3 (by decide) (by rw [List.length_map]; exact hj) (by rw [List.length_map]; exact hc) (lN x)) wy_X1_insertAt ts_2 (List.mem_of_getElem? (i := 1) rfl) rfl (q0 := 3) rfl hR rfl hsz rfl hW hdg hf) (fun v ws' H1 locs1 hp Wd => ?_)
  obtain ⟨rfl, f', rfl, hok⟩ := hp
  have hok2 : RowOk f' 601 ((ins N j x).map lN) := by rw [ins_map]; exact hok
  have e : (N.map lN).length + 1 = (ins N j x).length := by rw [List.length_map, ins_len hj]
  rw [e] at Wd
  exact kk H1 locs1 ⟨va_up f 3 f', Wd, h1, h2, hok2, h4, h5⟩
theorem x2_deleteAt_3 (C : Cx E p s m args meth c cc nL ret RX2 A) (X : X2w E A z v kd K L N S P s H locs) {j : Nat} (hj : j < N.length) (hR : 2 ≤ R.frames ∧ 56 ≤ R.locals) (hsz : ls.size = nL) (hW : (rest.map fun v => v.category).sum ≤ 8) (hf : cells ≤ R.cells ∧ slots ≤ R.slots) (hdg : decode cc pc = .ok (.invokevirtual 114, 3)) (kk : ∀ (H1 : Heap) (locs1 : List Loc), X2w E A z v kd K L (del N j) S P s H1 locs1 → W p l e R s m args below meth c H1 locs1 cells slots Q (F0 m (pc + 3) ls rest)) : W p l e R s m args below meth c H locs cells slots Q (F0 m pc ls (.int (nI j) :: .ref (z 3) :: rest)) := by
  obtain ⟨f, Wd, h1, h2, h3, h4, h5⟩ := X
  refine call_w C Wd (runVN (As := [.int (nI j)]) (rest := rest) C Wd (c1_deleteAt (l := l) (q0 := 3) (qa := 8) (h := z 3) (a := z 8) (cap := 601) (f := f 3) (M := N.map lN) (by rw [List.length_map]; rfl) rfl h3 (by decide) (by rw [List.length_map]; exact hj)) wy_X1_deleteAt ts_20 (List.mem_of_getElem? (i := 7) rfl) rfl (q0 := 3) rfl hR rfl hsz rfl hW hdg hf) (fun v ws' H1 locs1 hp Wd => ?_)
  obtain ⟨rfl, f', rfl, hok⟩ := hp
  have hok2 : RowOk f' 601 ((del N j).map lN) := by rw [del_map]; exact hok
  have e : (N.map lN).length - 1 = (del N j).length := by rw [List.length_map, del_len hj]
  rw [e] at Wd
  exact kk H1 locs1 ⟨va_up f 3 f', Wd, h1, h2, hok2, h4, h5⟩
theorem x2_raiseUp_3 (C : Cx E p s m args meth c cc nL ret RX2 A) (X : X2w E A z v kd K L N S P s H locs) {j q : Nat} (hj : j < N.length) (hq : q < 2 ^ 31) (hR : 1 ≤ R.frames ∧ 28 ≤ R.locals) (hsz : ls.size = nL) (hW : (rest.map fun v => v.category).sum ≤ 8) (hf : cells ≤ R.cells ∧ slots ≤ R.slots) (hdg : decode cc pc = .ok (.invokevirtual 117, 3)) (kk : ∀ (H1 : Heap) (locs1 : List Loc), X2w E A z v kd K L (N.set j (N.getD j 0 + q)) S P s H1 locs1 → W p l e R s m args below meth c H1 locs1 cells slots Q (F0 m (pc + 3) ls rest)) : W p l e R s m args below meth c H locs cells slots Q (F0 m pc ls (.int (nI q) :: .int (nI j) :: .ref (z 3) :: rest)) := by
  obtain ⟨f, Wd, h1, h2, h3, h4, h5⟩ := X
  refine call_w C Wd (runVN (As := [.int (nI j), .int (nI q)]) (rest := rest) C Wd (c1_raise (l := l) (q0 := 3) (qa := 8) (h := z 3) (a := z 8) (cap := 601) (f := f 3) (M := N.map lN) (by rw [List.length_map]; rfl) rfl h3 (by decide) (by rw [List.length_map]; exact hj) (nI q)) wy_X1_raise ts_5 (List.mem_of_getElem? (i := 3) rfl) rfl (q0 := 3) rfl hR rfl hsz rfl hW hdg hf) (fun v ws' H1 locs1 hp Wd => ?_)
  obtain ⟨rfl, f', rfl, hok⟩ := hp
  have hok2 : RowOk f' 601 ((N.set j (N.getD j 0 + q)).map lN) := by rw [map_getD, nI_l hq, lN_add, setm] at hok; exact hok
  have e : (N.map lN).length = (N.set j (N.getD j 0 + q)).length := by rw [List.length_map, List.length_set]
  rw [e] at Wd
  exact kk H1 locs1 ⟨va_up f 3 f', Wd, h1, h2, hok2, h4, h5⟩
theorem x2_raiseDn_3 (C : Cx E p s m args meth c cc nL ret RX2 A) (X : X2w E A z v kd K L N S P s H locs) {j q : Nat} {d : Int32} (hd : d = -(nI q)) (hj : j < N.length) (hq : q < 2 ^ 31) (hle : q ≤ N.getD j 0) (hR : 1 ≤ R.frames ∧ 28 ≤ R.locals) (hsz : ls.size = nL) (hW : (rest.map fun v => v.category).sum ≤ 8) (hf : cells ≤ R.cells ∧ slots ≤ R.slots) (hdg : decode cc pc = .ok (.invokevirtual 117, 3)) (kk : ∀ (H1 : Heap) (locs1 : List Loc), X2w E A z v kd K L (N.set j (N.getD j 0 - q)) S P s H1 locs1 → W p l e R s m args below meth c H1 locs1 cells slots Q (F0 m (pc + 3) ls rest)) : W p l e R s m args below meth c H locs cells slots Q (F0 m pc ls (.int d :: .int (nI j) :: .ref (z 3) :: rest)) := by
  obtain ⟨f, Wd, h1, h2, h3, h4, h5⟩ := X
  refine call_w C Wd (runVN (As := [.int (nI j), .int d]) (rest := rest) C Wd (c1_raise (l := l) (q0 := 3) (qa := 8) (h := z 3) (a := z 8) (cap := 601) (f := f 3) (M := N.map lN) (by rw [List.length_map]; rfl) rfl h3 (by decide) (by rw [List.length_map]; exact hj) d) wy_X1_raise ts_5 (List.mem_of_getElem? (i := 3) rfl) rfl (q0 := 3) rfl hR rfl hsz rfl hW hdg hf) (fun v ws' H1 locs1 hp Wd => ?_)
  obtain ⟨rfl, f', rfl, hok⟩ := hp
  have hok2 : RowOk f' 601 ((N.set j (N.getD j 0 - q)).map lN) := by rw [hd, map_getD, neg64 hq, dn64 hle, setm] at hok; exact hok
  have e : (N.map lN).length = (N.set j (N.getD j 0 - q)).length := by rw [List.length_map, List.length_set]
  rw [e] at Wd
  exact kk H1 locs1 ⟨va_up f 3 f', Wd, h1, h2, hok2, h4, h5⟩
theorem x2_insertAt_4 (C : Cx E p s m args meth c cc nL ret RX2 A) (X : X2w E A z v kd K L N S P s H locs) {j x : Nat} (hj : j ≤ S.length) (hc : S.length < 601) (hR : 2 ≤ R.frames ∧ 56 ≤ R.locals) (hsz : ls.size = nL) (hW : (rest.map fun v => v.category).sum ≤ 8) (hf : cells ≤ R.cells ∧ slots ≤ R.slots) (hdg : decode cc pc = .ok (.invokevirtual 194, 3)) (kk : ∀ (H1 : Heap) (locs1 : List Loc), X2w E A z v kd K L N (ins S j x) P s H1 locs1 → W p l e R s m args below meth c H1 locs1 cells slots Q (F0 m (pc + 3) ls rest)) : W p l e R s m args below meth c H locs cells slots Q (F0 m pc ls (.long (lN x) :: .int (nI j) :: .ref (z 4) :: rest)) := by
  obtain ⟨f, Wd, h1, h2, h3, h4, h5⟩ := X
  refine call_w C Wd (runVN (As := [.int (nI j), .long (lN x)]) (rest := rest) C Wd (c1_insertAt (l := l) (q0 := 4) (qa := 9) (h := z 4) (a := z 9) (cap := 601) (f := f 4) (M := S.map lN) (by rw [List.length_map]; rfl) rfl h4 (by decide) (by rw [List.length_map]; exact hj) (by rw [List.length_map]; exact hc) (lN x)) wy_X1_insertAt ts_2 (List.mem_of_getElem? (i := 1) rfl) rfl (q0 := 4) rfl hR rfl hsz rfl hW hdg hf) (fun v ws' H1 locs1 hp Wd => ?_)
  obtain ⟨rfl, f', rfl, hok⟩ := hp
  have hok2 : RowOk f' 601 ((ins S j x).map lN) := by rw [ins_map]; exact hok
  have e : (S.map lN).length + 1 = (ins S j x).length := by rw [List.length_map, ins_len hj]
  rw [e] at Wd
  exact kk H1 locs1 ⟨va_up f 4 f', Wd, h1, h2, h3, hok2, h5⟩
theorem x2_deleteAt_4 (C : Cx E p s m args meth c cc nL ret RX2 A) (X : X2w E A z v kd K L N S P s H locs) {j : Nat} (hj : j < S.length) (hR : 2 ≤ R.frames ∧ 56 ≤ R.locals) (hsz : ls.size = nL) (hW : (rest.map fun v => v.category).sum ≤ 8) (hf : cells ≤ R.cells ∧ slots ≤ R.slots) (hdg : decode cc pc = .ok (.invokevirtual 114, 3)) (kk : ∀ (H1 : Heap) (locs1 : List Loc), X2w E A z v kd K L N (del S j) P s H1 locs1 → W p l e R s m args below meth c H1 locs1 cells slots Q (F0 m (pc + 3) ls rest)) : W p l e R s m args below meth c H locs cells slots Q (F0 m pc ls (.int (nI j) :: .ref (z 4) :: rest)) := by
  obtain ⟨f, Wd, h1, h2, h3, h4, h5⟩ := X
  refine call_w C Wd (runVN (As := [.int (nI j)]) (rest := rest) C Wd (c1_deleteAt (l := l) (q0 := 4) (qa := 9) (h := z 4) (a := z 9) (cap := 601) (f := f 4) (M := S.map lN) (by rw [List.length_map]; rfl) rfl h4 (by decide) (by rw [List.length_map]; exact hj)) wy_X1_deleteAt ts_20 (List.mem_of_getElem? (i := 7) rfl) rfl (q0 := 4) rfl hR rfl hsz rfl hW hdg hf) (fun v ws' H1 locs1 hp Wd => ?_)
  obtain ⟨rfl, f', rfl, hok⟩ := hp
  have hok2 : RowOk f' 601 ((del S j).map lN) := by rw [del_map]; exact hok
  have e : (S.map lN).length - 1 = (del S j).length := by rw [List.length_map, del_len hj]
  rw [e] at Wd
  exact kk H1 locs1 ⟨va_up f 4 f', Wd, h1, h2, h3, hok2, h5⟩
theorem x2_raiseUp_4 (C : Cx E p s m args meth c cc nL ret RX2 A) (X : X2w E A z v kd K L N S P s H locs) {j q : Nat} (hj : j < S.length) (hq : q < 2 ^ 31) (hR : 1 ≤ R.frames ∧ 28 ≤ R.locals) (hsz : ls.size = nL) (hW : (rest.map fun v => v.category).sum ≤ 8) (hf : cells ≤ R.cells ∧ slots ≤ R.slots) (hdg : decode cc pc = .ok (.invokevirtual 117, 3)) (kk : ∀ (H1 : Heap) (locs1 : List Loc), X2w E A z v kd K L N (S.set j (S.getD j 0 + q)) P s H1 locs1 → W p l e R s m args below meth c H1 locs1 cells slots Q (F0 m (pc + 3) ls rest)) : W p l e R s m args below meth c H locs cells slots Q (F0 m pc ls (.int (nI q) :: .int (nI j) :: .ref (z 4) :: rest)) := by
  obtain ⟨f, Wd, h1, h2, h3, h4, h5⟩ := X
  refine call_w C Wd (runVN (As := [.int (nI j), .int (nI q)]) (rest := rest) C Wd (c1_raise (l := l) (q0 := 4) (qa := 9) (h := z 4) (a := z 9) (cap := 601) (f := f 4) (M := S.map lN) (by rw [List.length_map]; rfl) rfl h4 (by decide) (by rw [List.length_map]; exact hj) (nI q)) wy_X1_raise ts_5 (List.mem_of_getElem? (i := 3) rfl) rfl (q0 := 4) rfl hR rfl hsz rfl hW hdg hf) (fun v ws' H1 locs1 hp Wd => ?_)
  obtain ⟨rfl, f', rfl, hok⟩ := hp
  have hok2 : RowOk f' 601 ((S.set j (S.getD j 0 + q)).map lN) := by rw [map_getD, nI_l hq, lN_add, setm] at hok; exact hok
  have e : (S.map lN).length = (S.set j (S.getD j 0 + q)).length := by rw [List.length_map, List.length_set]
  rw [e] at Wd
  exact kk H1 locs1 ⟨va_up f 4 f', Wd, h1, h2, h3, hok2, h5⟩
theorem x2_raiseDn_4 (C : Cx E p s m args meth c cc nL ret RX2 A) (X : X2w E A z v kd K L N S P s H locs) {j q : Nat} {d : Int32} (hd : d = -(nI q)) (hj : j < S.length) (hq : q < 2 ^ 31) (hle : q ≤ S.getD j 0) (hR : 1 ≤ R.frames ∧ 28 ≤ R.locals) (hsz : ls.size = nL) (hW : (rest.map fun v => v.category).sum ≤ 8) (hf : cells ≤ R.cells ∧ slots ≤ R.slots) (hdg : decode cc pc = .ok (.invokevirtual 117, 3)) (kk : ∀ (H1 : Heap) (locs1 : List Loc), X2w E A z v kd K L N (S.set j (S.getD j 0 - q)) P s H1 locs1 → W p l e R s m args below meth c H1 locs1 cells slots Q (F0 m (pc + 3) ls rest)) : W p l e R s m args below meth c H locs cells slots Q (F0 m pc ls (.int d :: .int (nI j) :: .ref (z 4) :: rest)) := by
  obtain ⟨f, Wd, h1, h2, h3, h4, h5⟩ := X
  refine call_w C Wd (runVN (As := [.int (nI j), .int d]) (rest := rest) C Wd (c1_raise (l := l) (q0 := 4) (qa := 9) (h := z 4) (a := z 9) (cap := 601) (f := f 4) (M := S.map lN) (by rw [List.length_map]; rfl) rfl h4 (by decide) (by rw [List.length_map]; exact hj) d) wy_X1_raise ts_5 (List.mem_of_getElem? (i := 3) rfl) rfl (q0 := 4) rfl hR rfl hsz rfl hW hdg hf) (fun v ws' H1 locs1 hp Wd => ?_)
  obtain ⟨rfl, f', rfl, hok⟩ := hp
  have hok2 : RowOk f' 601 ((S.set j (S.getD j 0 - q)).map lN) := by rw [hd, map_getD, neg64 hq, dn64 hle, setm] at hok; exact hok
  have e : (S.map lN).length = (S.set j (S.getD j 0 - q)).length := by rw [List.length_map, List.length_set]
  rw [e] at Wd
  exact kk H1 locs1 ⟨va_up f 4 f', Wd, h1, h2, h3, hok2, h5⟩
theorem x2_insertAt_5 (C : Cx E p s m args meth c cc nL ret RX2 A) (X : X2w E A z v kd K L N S P s H locs) {j x : Nat} (hj : j ≤ P.length) (hc : P.length < 601) (hR : 2 ≤ R.frames ∧ 56 ≤ R.locals) (hsz : ls.size = nL) (hW : (rest.map fun v => v.category).sum ≤ 8) (hf : cells ≤ R.cells ∧ slots ≤ R.slots) (hdg : decode cc pc = .ok (.invokevirtual 194, 3)) (kk : ∀ (H1 : Heap) (locs1 : List Loc), X2w E A z v kd K L N S (ins P j x) s H1 locs1 → W p l e R s m args below meth c H1 locs1 cells slots Q (F0 m (pc + 3) ls rest)) : W p l e R s m args below meth c H locs cells slots Q (F0 m pc ls (.long (lN x) :: .int (nI j) :: .ref (z 5) :: rest)) := by
  obtain ⟨f, Wd, h1, h2, h3, h4, h5⟩ := X
  refine call_w C Wd (runVN (As := [.int (nI j), .long (lN x)]) (rest := rest) C Wd (c1_insertAt (l := l) (q0 := 5) (qa := 10) (h := z 5) (a := z 10) (cap := 601) (f := f 5) (M := P.map lN) (by rw [List.length_map]; rfl) rfl h5 (by decide) (by rw [List.length_map]; exact hj) (by rw [List.length_map]; exact hc) (lN x)) wy_X1_insertAt ts_2 (List.mem_of_getElem? (i := 1) rfl) rfl (q0 := 5) rfl hR rfl hsz rfl hW hdg hf) (fun v ws' H1 locs1 hp Wd => ?_)
  obtain ⟨rfl, f', rfl, hok⟩ := hp
  have hok2 : RowOk f' 601 ((ins P j x).map lN) := by rw [ins_map]; exact hok
  have e : (P.map lN).length + 1 = (ins P j x).length := by rw [List.length_map, ins_len hj]
  rw [e] at Wd
  exact kk H1 locs1 ⟨va_up f 5 f', Wd, h1, h2, h3, h4, hok2⟩
theorem x2_deleteAt_5 (C : Cx E p s m args meth c cc nL ret RX2 A) (X : X2w E A z v kd K L N S P s H locs) {j : Nat} (hj : j < P.length) (hR : 2 ≤ R.frames ∧ 56 ≤ R.locals) (hsz : ls.size = nL) (hW : (rest.map fun v => v.category).sum ≤ 8) (hf : cells ≤ R.cells ∧ slots ≤ R.slots) (hdg : decode cc pc = .ok (.invokevirtual 114, 3)) (kk : ∀ (H1 : Heap) (locs1 : List Loc), X2w E A z v kd K L N S (del P j) s H1 locs1 → W p l e R s m args below meth c H1 locs1 cells slots Q (F0 m (pc + 3) ls rest)) : W p l e R s m args below meth c H locs cells slots Q (F0 m pc ls (.int (nI j) :: .ref (z 5) :: rest)) := by
  obtain ⟨f, Wd, h1, h2, h3, h4, h5⟩ := X
  refine call_w C Wd (runVN (As := [.int (nI j)]) (rest := rest) C Wd (c1_deleteAt (l := l) (q0 := 5) (qa := 10) (h := z 5) (a := z 10) (cap := 601) (f := f 5) (M := P.map lN) (by rw [List.length_map]; rfl) rfl h5 (by decide) (by rw [List.length_map]; exact hj)) wy_X1_deleteAt ts_20 (List.mem_of_getElem? (i := 7) rfl) rfl (q0 := 5) rfl hR rfl hsz rfl hW hdg hf) (fun v ws' H1 locs1 hp Wd => ?_)
  obtain ⟨rfl, f', rfl, hok⟩ := hp
  have hok2 : RowOk f' 601 ((del P j).map lN) := by rw [del_map]; exact hok
  have e : (P.map lN).length - 1 = (del P j).length := by rw [List.length_map, del_len hj]
  rw [e] at Wd
  exact kk H1 locs1 ⟨va_up f 5 f', Wd, h1, h2, h3, h4, hok2⟩
theorem x2_raiseUp_5 (C : Cx E p s m args meth c cc nL ret RX2 A) (X : X2w E A z v kd K L N S P s H locs) {j q : Nat} (hj : j < P.length) (hq : q < 2 ^ 31) (hR : 1 ≤ R.frames ∧ 28 ≤ R.locals) (hsz : ls.size = nL) (hW : (rest.map fun v => v.category).sum ≤ 8) (hf : cells ≤ R.cells ∧ slots ≤ R.slots) (hdg : decode cc pc = .ok (.invokevirtual 117, 3)) (kk : ∀ (H1 : Heap) (locs1 : List Loc), X2w E A z v kd K L N S (P.set j (P.getD j 0 + q)) s H1 locs1 → W p l e R s m args below meth c H1 locs1 cells slots Q (F0 m (pc + 3) ls rest)) : W p l e R s m args below meth c H locs cells slots Q (F0 m pc ls (.int (nI q) :: .int (nI j) :: .ref (z 5) :: rest)) := by
  obtain ⟨f, Wd, h1, h2, h3, h4, h5⟩ := X
  refine call_w C Wd (runVN (As := [.int (nI j), .int (nI q)]) (rest := rest) C Wd (c1_raise (l := l) (q0 := 5) (qa := 10) (h := z 5) (a := z 10) (cap := 601) (f := f 5) (M := P.map lN) (by rw [List.length_map]; rfl) rfl h5 (by decide) (by rw [List.length_map]; exact hj) (nI q)) wy_X1_raise ts_5 (List.mem_of_getElem? (i := 3) rfl) rfl (q0 := 5) rfl hR rfl hsz rfl hW hdg hf) (fun v ws' H1 locs1 hp Wd => ?_)
  obtain ⟨rfl, f', rfl, hok⟩ := hp
  have hok2 : RowOk f' 601 ((P.set j (P.getD j 0 + q)).map lN) := by rw [map_getD, nI_l hq, lN_add, setm] at hok; exact hok
  have e : (P.map lN).length = (P.set j (P.getD j 0 + q)).length := by rw [List.length_map, List.length_set]
  rw [e] at Wd
  exact kk H1 locs1 ⟨va_up f 5 f', Wd, h1, h2, h3, h4, hok2⟩
theorem x2_raiseDn_5 (C : Cx E p s m args meth c cc nL ret RX2 A) (X : X2w E A z v kd K L N S P s H locs) {j q : Nat} {d : Int32} (hd : d = -(nI q)) (hj : j < P.length) (hq : q < 2 ^ 31) (hle : q ≤ P.getD j 0) (hR : 1 ≤ R.frames ∧ 28 ≤ R.locals) (hsz : ls.size = nL) (hW : (rest.map fun v => v.category).sum ≤ 8) (hf : cells ≤ R.cells ∧ slots ≤ R.slots) (hdg : decode cc pc = .ok (.invokevirtual 117, 3)) (kk : ∀ (H1 : Heap) (locs1 : List Loc), X2w E A z v kd K L N S (P.set j (P.getD j 0 - q)) s H1 locs1 → W p l e R s m args below meth c H1 locs1 cells slots Q (F0 m (pc + 3) ls rest)) : W p l e R s m args below meth c H locs cells slots Q (F0 m pc ls (.int d :: .int (nI j) :: .ref (z 5) :: rest)) := by
  obtain ⟨f, Wd, h1, h2, h3, h4, h5⟩ := X
  refine call_w C Wd (runVN (As := [.int (nI j), .int d]) (rest := rest) C Wd (c1_raise (l := l) (q0 := 5) (qa := 10) (h := z 5) (a := z 10) (cap := 601) (f := f 5) (M := P.map lN) (by rw [List.length_map]; rfl) rfl h5 (by decide) (by rw [List.length_map]; exact hj) d) wy_X1_raise ts_5 (List.mem_of_getElem? (i := 3) rfl) rfl (q0 := 5) rfl hR rfl hsz rfl hW hdg hf) (fun v ws' H1 locs1 hp Wd => ?_)
  obtain ⟨rfl, f', rfl, hok⟩ := hp
  have hok2 : RowOk f' 601 ((P.set j (P.getD j 0 - q)).map lN) := by rw [hd, map_getD, neg64 hq, dn64 hle, setm] at hok; exact hok
  have e : (P.map lN).length = (P.set j (P.getD j 0 - q)).length := by rw [List.length_map, List.length_set]
  rw [e] at Wd
  exact kk H1 locs1 ⟨va_up f 5 f', Wd, h1, h2, h3, h4, hok2⟩
section OC
variable {y : MethodName} {bytes : ByteArray} {maxL n k idx : Nat} {rt : Option FieldType} {As st0 : List Value}
theorem x2_cr {post : Option Value → Prop} (C : Cx E p s m args meth c cc nL ret RX2 A) (X : X2w E A z v kd K L N S P s H locs) (hM : M2r l E y bytes maxL rt k (.ref (z 0) :: As) z v kd K L N S P post) (hy : Wy y bytes maxL rt n) (hse : Cond.selects y.cls y y ∈ LT) (hl : Cond.methodLink RX2 idx y ∈ LT) (hc : vwCl[2]? = some (y.cls, TX2, 19)) (hR : k + 1 ≤ R.frames ∧ 28 * (k + 1) ≤ R.locals) (hn : As.length = n) (hsz : ls.size = nL) (hst : st0 = As.reverse ++ .ref (z 0) :: rest) (hW : (rest.map fun v => v.category).sum ≤ 8) (hf : cells ≤ R.cells ∧ slots ≤ R.slots) (hdg : decode cc pc = .ok (.invokevirtual idx, 3))
    (kk : ∀ r : Option Value, post r → W p l e R s m args below meth c H locs cells slots Q (F0 m (pc + 3) ls (r.toList ++ rest))) : W p l e R s m args below meth c H locs cells slots Q (F0 m pc ls st0) := by
  obtain ⟨f, Wd, h⟩ := X
  exact call_r (runV (As := As) (rest := rest) C Wd (hM f h) hy hse hl hc (q0 := 0) rfl hR hn hsz hst hW hdg hf) kk
theorem x2_cw {post : Option Value → (Nat → Int32) → Nat → List Int64 → List Nat → List Nat → List Nat → List Nat → Prop} (C : Cx E p s m args meth c cc nL ret RX2 A) (X : X2w E A z v kd K L N S P s H locs) (hM : M2w l E y bytes maxL rt k (.ref (z 0) :: As) z v kd K L N S P post) (hy : Wy y bytes maxL rt n) (hse : Cond.selects y.cls y y ∈ LT) (hl : Cond.methodLink RX2 idx y ∈ LT) (hc : vwCl[2]? = some (y.cls, TX2, 19)) (hR : k + 1 ≤ R.frames ∧ 28 * (k + 1) ≤ R.locals) (hn : As.length = n) (hsz : ls.size = nL) (hst : st0 = As.reverse ++ .ref (z 0) :: rest) (hW : (rest.map fun v => v.category).sum ≤ 8) (hf : cells ≤ R.cells ∧ slots ≤ R.slots) (hdg : decode cc pc = .ok (.invokevirtual idx, 3))
    (kk : ∀ (r : Option Value) (v' : Nat → Int32) (kd' : Nat) (K' : List Int64) (L' N' S' P' : List Nat) (H1 : Heap) (locs1 : List Loc), post r v' kd' K' L' N' S' P' → X2w E A z v' kd' K' L' N' S' P' s H1 locs1 → W p l e R s m args below meth c H1 locs1 cells slots Q (F0 m (pc + 3) ls (r.toList ++ rest))) : W p l e R s m args below meth c H locs cells slots Q (F0 m pc ls st0) := by
  obtain ⟨f, Wd, h⟩ := X
  refine call_w C Wd (runV (As := As) (rest := rest) C Wd (hM f h) hy hse hl hc (q0 := 0) rfl hR hn hsz hst hW hdg hf) (fun r ws' H1 locs1 hp Wd => ?_)
  obtain ⟨v', kd', K', L', N', S', P', f', rfl, hok, hpp⟩ := hp
  exact kk r v' kd' K' L' N' S' P' H1 locs1 hpp ⟨f', Wd, hok⟩
end OC
theorem x2_kind_0 (C : Cx E p s m args meth c cc nL ret RX2 A) (X : X2w E A z v kd K L N S P s H locs) (hdg : decode cc pc = .ok (.getstatic 44, 3)) (kk : W p l e R s m args below meth c H locs cells slots Q (F0 m (pc + 3) ls (.ref (E.2.2.2 0) :: rest))) : W p l e R s m args below meth c H locs cells slots Q (F0 m pc ls rest) := by
  obtain ⟨f, Wd, -⟩ := X
  exact va_gets (n := "HALVES") C.hx C.hb (C.hE.1 0 (by decide)).1 Wd.2.2 C.hown (C.hts _ tw_39) (fun _ h => h) hdg kk
theorem x2_kind_1 (C : Cx E p s m args meth c cc nL ret RX2 A) (X : X2w E A z v kd K L N S P s H locs) (hdg : decode cc pc = .ok (.getstatic 176, 3)) (kk : W p l e R s m args below meth c H locs cells slots Q (F0 m (pc + 3) ls (.ref (E.2.2.2 1) :: rest))) : W p l e R s m args below meth c H locs cells slots Q (F0 m pc ls rest) := by
  obtain ⟨f, Wd, -⟩ := X
  exact va_gets (n := "OWN") C.hx C.hb (C.hE.1 1 (by decide)).1 Wd.2.2 C.hown (C.hts _ tw_172) (fun _ h => h) hdg kk
theorem x2_kind_2 (C : Cx E p s m args meth c cc nL ret RX2 A) (X : X2w E A z v kd K L N S P s H locs) (hdg : decode cc pc = .ok (.getstatic 182, 3)) (kk : W p l e R s m args below meth c H locs cells slots Q (F0 m (pc + 3) ls (.ref (E.2.2.2 2) :: rest))) : W p l e R s m args below meth c H locs cells slots Q (F0 m pc ls rest) := by
  obtain ⟨f, Wd, -⟩ := X
  exact va_gets (n := "AREA") C.hx C.hb (C.hE.1 2 (by decide)).1 Wd.2.2 C.hown (C.hts _ tw_170) (fun _ h => h) hdg kk
theorem x2_acmp_ne (C : Cx E p s m args meth c cc nL ret RX2 A) {i j : Nat} (hi : i < 3) (hj : j < 3) {off : Int} {tgt : Nat} (hdg : decode cc pc = .ok (.if_acmp .ne off, 3)) (ht : (pc : Int) + off = (tgt : Int)) (kt : i ≠ j → W p l e R s m args below meth c H locs cells slots Q (F0 m tgt ls rest)) (kf : i = j → W p l e R s m args below meth c H locs cells slots Q (F0 m (pc + 3) ls rest)) : W p l e R s m args below meth c H locs cells slots Q (F0 m pc ls (.ref (E.2.2.2 j) :: .ref (E.2.2.2 i) :: rest)) :=
  lv_acmp_ne (rx := some (E.2.2.2 i)) (ry := some (E.2.2.2 j)) C.hx C.hb hdg ht (fun h => kt (fun q => h (by rw [q]))) (fun h => kf (C.hE.2 i j hi hj (Option.some.inj h)))
theorem x2_acmp_eq (C : Cx E p s m args meth c cc nL ret RX2 A) {i j : Nat} (hi : i < 3) (hj : j < 3) {off : Int} {tgt : Nat} (hdg : decode cc pc = .ok (.if_acmp .eq off, 3)) (ht : (pc : Int) + off = (tgt : Int)) (kt : i = j → W p l e R s m args below meth c H locs cells slots Q (F0 m tgt ls rest)) (kf : i ≠ j → W p l e R s m args below meth c H locs cells slots Q (F0 m (pc + 3) ls rest)) : W p l e R s m args below meth c H locs cells slots Q (F0 m pc ls (.ref (E.2.2.2 j) :: .ref (E.2.2.2 i) :: rest)) :=
  lv_acmp_eq (rx := some (E.2.2.2 i)) (ry := some (E.2.2.2 j)) C.hx C.hb hdg ht (fun h => kt (C.hE.2 i j hi hj (Option.some.inj h))) (fun h => kf (fun q => h (by rw [q])))
end X2S
