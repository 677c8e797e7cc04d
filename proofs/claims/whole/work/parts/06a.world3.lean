theorem wy_X3_init : Wy yX3_init cX3_init 7 none 4 := ⟨tw_360, tw_7, tw_359, by decide, by decide +kernel⟩
theorem wy_X3_held : Wz yX3_held cX3_held 3 (some .int) 3 := ⟨tw_364, tw_7, tw_363, by decide, by decide +kernel⟩
theorem wy_X3_thrown : Wy yX3_thrown cX3_thrown 1 (some .int) 0 := ⟨tw_430, tw_7, tw_428, by decide, by decide +kernel⟩
theorem wy_X3_less : Wy yX3_less cX3_less 5 (some .int) 1 := ⟨tw_442, tw_7, tw_441, by decide, by decide +kernel⟩
theorem wy_X3_has : Wy yX3_has cX3_has 4 (some .boolean) 1 := ⟨tw_438, tw_7, tw_437, by decide, by decide +kernel⟩
theorem wy_X3_first : Wy yX3_first cX3_first 3 (some .int) 1 := ⟨tw_450, tw_7, tw_449, by decide, by decide +kernel⟩
theorem wy_X3_recordsOf : Wy yX3_recordsOf cX3_recordsOf 4 (some .int) 1 := ⟨tw_462, tw_7, tw_461, by decide, by decide +kernel⟩
theorem wy_X3_lengthsOf : Wy yX3_lengthsOf cX3_lengthsOf 4 (some .int) 1 := ⟨tw_454, tw_7, tw_453, by decide, by decide +kernel⟩
theorem wy_X3_belongs : Wy yX3_belongs cX3_belongs 5 (some .int) 1 := ⟨tw_446, tw_7, tw_445, by decide, by decide +kernel⟩
theorem wy_X3_widthOf : Wy yX3_widthOf cX3_widthOf 4 (some .int) 1 := ⟨tw_466, tw_7, tw_465, by decide, by decide +kernel⟩
theorem wy_X3_insert : Wy yX3_insert cX3_insert 7 none 3 := ⟨tw_458, tw_7, tw_457, by decide, by decide +kernel⟩
theorem wy_X3_open : Wy yX3_open cX3_open 5 none 3 := ⟨tw_478, tw_7, tw_477, by decide, by decide +kernel⟩
theorem wy_X3_kept : Wy yX3_kept cX3_kept 9 (some .int) 1 := ⟨tw_486, tw_7, tw_485, by decide, by decide +kernel⟩
theorem wy_X3_splitInterval : Wy yX3_splitInterval cX3_splitInterval 6 none 2 := ⟨tw_482, tw_7, tw_481, by decide, by decide +kernel⟩
theorem wy_X3_splitArea : Wy yX3_splitArea cX3_splitArea 6 none 1 := ⟨tw_474, tw_7, tw_473, by decide, by decide +kernel⟩
theorem wy_X3_isCut : Wy yX3_isCut cX3_isCut 3 (some .boolean) 2 := ⟨tw_470, tw_7, tw_469, by decide, by decide +kernel⟩
theorem wy_X3_put : Wy yX3_put cX3_put 8 (some .int) 2 := ⟨tw_434, tw_7, tw_432, by decide, by decide +kernel⟩
theorem wy_X3_cut : Wy yX3_cut cX3_cut 3 (some .int) 1 := ⟨tw_490, tw_7, tw_488, by decide, by decide +kernel⟩
theorem wy_X3_open_ : Wy yX3_open_ cX3_open_ 1 (some .int) 0 := ⟨tw_494, tw_7, tw_492, by decide, by decide +kernel⟩
theorem wy_X3_remove : Wy yX3_remove cX3_remove 7 (some .int) 1 := ⟨tw_498, tw_7, tw_496, by decide, by decide +kernel⟩
theorem wy_X3_reorganise : Wy yX3_reorganise cX3_reorganise 6 (some .int) 0 := ⟨tw_502, tw_7, tw_500, by decide, by decide +kernel⟩
theorem wy_X3_find : Wy yX3_find cX3_find 3 (some .int) 1 := ⟨tw_506, tw_7, tw_504, by decide, by decide +kernel⟩
theorem wy_X3_next : Wy yX3_next cX3_next 4 (some .int) 1 := ⟨tw_510, tw_7, tw_508, by decide, by decide +kernel⟩
theorem wy_X3_areaOf : Wy yX3_areaOf cX3_areaOf 4 (some .int) 1 := ⟨tw_518, tw_7, tw_517, by decide, by decide +kernel⟩
theorem wy_X3_interval : Wy yX3_interval cX3_interval 3 (some .int) 2 := ⟨tw_514, tw_7, tw_512, by decide, by decide +kernel⟩
theorem wy_X3_split : Wy yX3_split cX3_split 2 (some .int) 1 := ⟨tw_522, tw_7, tw_520, by decide, by decide +kernel⟩
theorem wy_X3_index : Wy yX3_index cX3_index 6 (some .int) 2 := ⟨tw_526, tw_7, tw_524, by decide, by decide +kernel⟩
theorem wy_X3_verify : Wy yX3_verify cX3_verify 1 (some .int) 0 := ⟨tw_530, tw_7, tw_528, by decide, by decide +kernel⟩
theorem wy_X3_order : Wy yX3_order cX3_order 2 (some .long) 1 := ⟨tw_534, tw_7, tw_532, by decide, by decide +kernel⟩
theorem wy_X3_count : Wy yX3_count cX3_count 4 (some .int) 1 := ⟨tw_538, tw_7, tw_536, by decide, by decide +kernel⟩
/-! THE REFERENCE: its world (an object, six arrays), what is read and written of it -/
def w3 (E : Gq) (z : Nat → Nat) (v : Nat → Int32) (fk : Nat → Int64) (gl go gi ga : Nat → Nat) (gs : Nat → Int32) : va_W := [(z 0, .inr (3, [.int (v 0), .int (v 1), .int (v 2), .int (v 3), .int (v 4), .ref (z 1), .ref (z 2), .ref (z 3), .int (v 8), .ref (z 4), .ref (z 5), .int (v 11), .int (v 12), .int (v 13), .int (v 14), .int (v 15), .int (v 16), .int (v 17), .int (v 18), .ref (z 6)])), (z 1, .inl (E.2.2.1, 601, .inr (.inl fk))), (z 2, .inl (E.2.1, 601, .inl (fun k => nI (gl k)))), (z 3, .inl (E.2.1, 601, .inl (fun k => nI (go k)))), (z 4, .inl (E.2.1, 1300, .inl (fun k => nI (gi k)))), (z 5, .inl (E.2.1, 1300, .inl (fun k => nI (ga k)))), (z 6, .inl (E.2.1, 4, .inl gs))]
def X3w (E : Gq) (A : Nat → Prop) (z : Nat → Nat) (v : Nat → Int32) (fk : Nat → Int64) (gl go gi ga : Nat → Nat) (gs : Nat → Int32) (s : State) (H : Heap) (locs : List Loc) : Prop := Wl E A (w3 E z v fk gl go gi ga gs) s H locs
def P3 (E : Gq) (z : Nat → Nat) (post : Option Value → (Nat → Int32) → (Nat → Int64) → (Nat → Nat) → (Nat → Nat) → (Nat → Nat) → (Nat → Nat) → (Nat → Int32) → Prop) : Option Value → va_W → Prop := fun r ws' => ∃ (v : Nat → Int32) (fk : Nat → Int64) (gl go gi ga : Nat → Nat) (gs : Nat → Int32), ws' = w3 E z v fk gl go gi ga gs ∧ post r v fk gl go gi ga gs
def M3r (l : Launch) (E : Gq) (y : MethodName) (cc : ByteArray) (maxL : Nat) (ret : Option FieldType) (k : Nat) (av : List Value) (z : Nat → Nat) (v : Nat → Int32) (fk : Nat → Int64) (gl go gi ga : Nat → Nat) (gs : Nat → Int32) (post : Option Value → Prop) : Prop := ∀ sz : Nat, Met l y (.code y cc maxL ret :: LT) (Rm k 0 0) (Pw E av (w3 E z v fk gl go gi ga gs) sz) (Qr post) 0 0 (fun _ => False)
def M3w (l : Launch) (E : Gq) (y : MethodName) (cc : ByteArray) (maxL : Nat) (ret : Option FieldType) (k : Nat) (av : List Value) (z : Nat → Nat) (v : Nat → Int32) (fk : Nat → Int64) (gl go gi ga : Nat → Nat) (gs : Nat → Int32) (post : Option Value → (Nat → Int32) → (Nat → Int64) → (Nat → Nat) → (Nat → Nat) → (Nat → Nat) → (Nat → Nat) → (Nat → Int32) → Prop) : Prop := ∀ sz : Nat, Met l y (.code y cc maxL ret :: LT) (Rm k 0 0) (Pw E av (w3 E z v fk gl go gi ga gs) sz) (Qw E (w3 E z v fk gl go gi ga gs) sz (P3 E z post)) 0 0 (va_A (w3 E z v fk gl go gi ga gs) sz)
theorem updN {g : Nat → Nat} {j x : Nat} : upd (fun k => nI (g k)) j (nI x) = fun k => nI (va_up g j x k) := by
  funext k
  unfold upd va_up
  by_cases h : k = j
  · rw [if_pos h, if_pos h]
  · rw [if_neg h, if_neg h]
section X3S
variable {p : Program} {l : Launch} {e : Env} {R : Room} {s : State} {m : MethodId} {args : Array Value} {below : List Frame} {meth : Method} {c : Code} {H : Heap} {locs : List Loc} {cells slots : Nat} {Q : State → Prop}
variable {E : Gq} {cc : ByteArray} {nL : Nat} {ret : Option FieldType} {A : Nat → Prop} {pc : Nat} {ls : Array Slot} {rest : List Value} {z : Nat → Nat} {v : Nat → Int32} {fk : Nat → Int64} {gl go gi ga : Nat → Nat} {gs : Nat → Int32}
theorem x3g_0 (C : Cx E p s m args meth c cc nL ret RX3 A) (X : X3w E A z v fk gl go gi ga gs s H locs) {x : Int32} (hv : v 0 = x) (hdg : decode cc pc = .ok (.getfield 55, 3)) (kk : W p l e R s m args below meth c H locs cells slots Q (F0 m (pc + 3) ls (.int x :: rest))) : W p l e R s m args below meth c H locs cells slots Q (F0 m pc ls (.ref (z 0) :: rest)) := by
  subst hv
  exact getf C X 0 rfl rfl in_X3 0 (by decide) tw_365 rfl hdg kk
theorem x3g_1 (C : Cx E p s m args meth c cc nL ret RX3 A) (X : X3w E A z v fk gl go gi ga gs s H locs) {x : Int32} (hv : v 1 = x) (hdg : decode cc pc = .ok (.getfield 43, 3)) (kk : W p l e R s m args below meth c H locs cells slots Q (F0 m (pc + 3) ls (.int x :: rest))) : W p l e R s m args below meth c H locs cells slots Q (F0 m pc ls (.ref (z 0) :: rest)) := by
  subst hv
  exact getf C X 0 rfl rfl in_X3 1 (by decide) tw_366 rfl hdg kk
theorem x3g_2 (C : Cx E p s m args meth c cc nL ret RX3 A) (X : X3w E A z v fk gl go gi ga gs s H locs) {x : Int32} (hv : v 2 = x) (hdg : decode cc pc = .ok (.getfield 46, 3)) (kk : W p l e R s m args below meth c H locs cells slots Q (F0 m (pc + 3) ls (.int x :: rest))) : W p l e R s m args below meth c H locs cells slots Q (F0 m pc ls (.ref (z 0) :: rest)) := by
  subst hv
  exact getf C X 0 rfl rfl in_X3 2 (by decide) tw_367 rfl hdg kk
theorem x3g_3 (C : Cx E p s m args meth c cc nL ret RX3 A) (X : X3w E A z v fk gl go gi ga gs s H locs) {x : Int32} (hv : v 3 = x) (hdg : decode cc pc = .ok (.getfield 49, 3)) (kk : W p l e R s m args below meth c H locs cells slots Q (F0 m (pc + 3) ls (.int x :: rest))) : W p l e R s m args below meth c H locs cells slots Q (F0 m pc ls (.ref (z 0) :: rest)) := by
  subst hv
  exact getf C X 0 rfl rfl in_X3 3 (by decide) tw_368 rfl hdg kk
theorem x3g_4 (C : Cx E p s m args meth c cc nL ret RX3 A) (X : X3w E A z v fk gl go gi ga gs s H locs) {x : Int32} (hv : v 4 = x) (hdg : decode cc pc = .ok (.getfield 52, 3)) (kk : W p l e R s m args below meth c H locs cells slots Q (F0 m (pc + 3) ls (.int x :: rest))) : W p l e R s m args below meth c H locs cells slots Q (F0 m pc ls (.ref (z 0) :: rest)) := by
  subst hv
  exact getf C X 0 rfl rfl in_X3 4 (by decide) tw_369 rfl hdg kk
theorem x3g_5 (C : Cx E p s m args meth c cc nL ret RX3 A) (X : X3w E A z v fk gl go gi ga gs s H locs) (hdg : decode cc pc = .ok (.getfield 7, 3)) (kk : W p l e R s m args below meth c H locs cells slots Q (F0 m (pc + 3) ls (.ref (z 1) :: rest))) : W p l e R s m args below meth c H locs cells slots Q (F0 m pc ls (.ref (z 0) :: rest)) := getf C X 0 rfl rfl in_X3 5 (by decide) tw_370 rfl hdg kk
theorem x3g_6 (C : Cx E p s m args meth c cc nL ret RX3 A) (X : X3w E A z v fk gl go gi ga gs s H locs) (hdg : decode cc pc = .ok (.getfield 13, 3)) (kk : W p l e R s m args below meth c H locs cells slots Q (F0 m (pc + 3) ls (.ref (z 2) :: rest))) : W p l e R s m args below meth c H locs cells slots Q (F0 m pc ls (.ref (z 0) :: rest)) := getf C X 0 rfl rfl in_X3 6 (by decide) tw_371 rfl hdg kk
theorem x3g_7 (C : Cx E p s m args meth c cc nL ret RX3 A) (X : X3w E A z v fk gl go gi ga gs s H locs) (hdg : decode cc pc = .ok (.getfield 17, 3)) (kk : W p l e R s m args below meth c H locs cells slots Q (F0 m (pc + 3) ls (.ref (z 3) :: rest))) : W p l e R s m args below meth c H locs cells slots Q (F0 m pc ls (.ref (z 0) :: rest)) := getf C X 0 rfl rfl in_X3 7 (by decide) tw_372 rfl hdg kk
theorem x3g_8 (C : Cx E p s m args meth c cc nL ret RX3 A) (X : X3w E A z v fk gl go gi ga gs s H locs) {x : Int32} (hv : v 8 = x) (hdg : decode cc pc = .ok (.getfield 58, 3)) (kk : W p l e R s m args below meth c H locs cells slots Q (F0 m (pc + 3) ls (.int x :: rest))) : W p l e R s m args below meth c H locs cells slots Q (F0 m pc ls (.ref (z 0) :: rest)) := by
  subst hv
  exact getf C X 0 rfl rfl in_X3 8 (by decide) tw_373 rfl hdg kk
theorem x3g_9 (C : Cx E p s m args meth c cc nL ret RX3 A) (X : X3w E A z v fk gl go gi ga gs s H locs) (hdg : decode cc pc = .ok (.getfield 20, 3)) (kk : W p l e R s m args below meth c H locs cells slots Q (F0 m (pc + 3) ls (.ref (z 4) :: rest))) : W p l e R s m args below meth c H locs cells slots Q (F0 m pc ls (.ref (z 0) :: rest)) := getf C X 0 rfl rfl in_X3 9 (by decide) tw_374 rfl hdg kk
theorem x3g_10 (C : Cx E p s m args meth c cc nL ret RX3 A) (X : X3w E A z v fk gl go gi ga gs s H locs) (hdg : decode cc pc = .ok (.getfield 23, 3)) (kk : W p l e R s m args below meth c H locs cells slots Q (F0 m (pc + 3) ls (.ref (z 5) :: rest))) : W p l e R s m args below meth c H locs cells slots Q (F0 m pc ls (.ref (z 0) :: rest)) := getf C X 0 rfl rfl in_X3 10 (by decide) tw_375 rfl hdg kk
theorem x3g_11 (C : Cx E p s m args meth c cc nL ret RX3 A) (X : X3w E A z v fk gl go gi ga gs s H locs) {x : Int32} (hv : v 11 = x) (hdg : decode cc pc = .ok (.getfield 26, 3)) (kk : W p l e R s m args below meth c H locs cells slots Q (F0 m (pc + 3) ls (.int x :: rest))) : W p l e R s m args below meth c H locs cells slots Q (F0 m pc ls (.ref (z 0) :: rest)) := by
  subst hv
  exact getf C X 0 rfl rfl in_X3 11 (by decide) tw_376 rfl hdg kk
theorem x3g_12 (C : Cx E p s m args meth c cc nL ret RX3 A) (X : X3w E A z v fk gl go gi ga gs s H locs) {x : Int32} (hv : v 12 = x) (hdg : decode cc pc = .ok (.getfield 30, 3)) (kk : W p l e R s m args below meth c H locs cells slots Q (F0 m (pc + 3) ls (.int x :: rest))) : W p l e R s m args below meth c H locs cells slots Q (F0 m pc ls (.ref (z 0) :: rest)) := by
  subst hv
  exact getf C X 0 rfl rfl in_X3 12 (by decide) tw_377 rfl hdg kk
theorem x3g_13 (C : Cx E p s m args meth c cc nL ret RX3 A) (X : X3w E A z v fk gl go gi ga gs s H locs) {x : Int32} (hv : v 13 = x) (hdg : decode cc pc = .ok (.getfield 33, 3)) (kk : W p l e R s m args below meth c H locs cells slots Q (F0 m (pc + 3) ls (.int x :: rest))) : W p l e R s m args below meth c H locs cells slots Q (F0 m pc ls (.ref (z 0) :: rest)) := by
  subst hv
  exact getf C X 0 rfl rfl in_X3 13 (by decide) tw_378 rfl hdg kk
theorem x3g_14 (C : Cx E p s m args meth c cc nL ret RX3 A) (X : X3w E A z v fk gl go gi ga gs s H locs) {x : Int32} (hv : v 14 = x) (hdg : decode cc pc = .ok (.getfield 85, 3)) (kk : W p l e R s m args below meth c H locs cells slots Q (F0 m (pc + 3) ls (.int x :: rest))) : W p l e R s m args below meth c H locs cells slots Q (F0 m pc ls (.ref (z 0) :: rest)) := by
  subst hv
  exact getf C X 0 rfl rfl in_X3 14 (by decide) tw_379 rfl hdg kk
theorem x3g_15 (C : Cx E p s m args meth c cc nL ret RX3 A) (X : X3w E A z v fk gl go gi ga gs s H locs) {x : Int32} (hv : v 15 = x) (hdg : decode cc pc = .ok (.getfield 92, 3)) (kk : W p l e R s m args below meth c H locs cells slots Q (F0 m (pc + 3) ls (.int x :: rest))) : W p l e R s m args below meth c H locs cells slots Q (F0 m pc ls (.ref (z 0) :: rest)) := by
  subst hv
  exact getf C X 0 rfl rfl in_X3 15 (by decide) tw_380 rfl hdg kk
theorem x3g_16 (C : Cx E p s m args meth c cc nL ret RX3 A) (X : X3w E A z v fk gl go gi ga gs s H locs) {x : Int32} (hv : v 16 = x) (hdg : decode cc pc = .ok (.getfield 95, 3)) (kk : W p l e R s m args below meth c H locs cells slots Q (F0 m (pc + 3) ls (.int x :: rest))) : W p l e R s m args below meth c H locs cells slots Q (F0 m pc ls (.ref (z 0) :: rest)) := by
  subst hv
  exact getf C X 0 rfl rfl in_X3 16 (by decide) tw_381 rfl hdg kk
theorem x3g_17 (C : Cx E p s m args meth c cc nL ret RX3 A) (X : X3w E A z v fk gl go gi ga gs s H locs) {x : Int32} (hv : v 17 = x) (hdg : decode cc pc = .ok (.getfield 88, 3)) (kk : W p l e R s m args below meth c H locs cells slots Q (F0 m (pc + 3) ls (.int x :: rest))) : W p l e R s m args below meth c H locs cells slots Q (F0 m pc ls (.ref (z 0) :: rest)) := by
  subst hv
  exact getf C X 0 rfl rfl in_X3 17 (by decide) tw_382 rfl hdg kk
theorem x3g_18 (C : Cx E p s m args meth c cc nL ret RX3 A) (X : X3w E A z v fk gl go gi ga gs s H locs) {x : Int32} (hv : v 18 = x) (hdg : decode cc pc = .ok (.getfield 98, 3)) (kk : W p l e R s m args below meth c H locs cells slots Q (F0 m (pc + 3) ls (.int x :: rest))) : W p l e R s m args below meth c H locs cells slots Q (F0 m pc ls (.ref (z 0) :: rest)) := by
  subst hv
  exact getf C X 0 rfl rfl in_X3 18 (by decide) tw_383 rfl hdg kk
theorem x3g_19 (C : Cx E p s m args meth c cc nL ret RX3 A) (X : X3w E A z v fk gl go gi ga gs s H locs) (hdg : decode cc pc = .ok (.getfield 36, 3)) (kk : W p l e R s m args below meth c H locs cells slots Q (F0 m (pc + 3) ls (.ref (z 6) :: rest))) : W p l e R s m args below meth c H locs cells slots Q (F0 m pc ls (.ref (z 0) :: rest)) := getf C X 0 rfl rfl in_X3 19 (by decide) tw_384 rfl hdg kk
theorem x3p_0 (C : Cx E p s m args meth c cc nL ret RX3 A) (X : X3w E A z v fk gl go gi ga gs s H locs) {x : Int32} (hdg : decode cc pc = .ok (.putfield 55, 3)) (kk : ∀ (H1 : Heap) (locs1 : List Loc), X3w E A z (upd v 0 x) fk gl go gi ga gs s H1 locs1 → W p l e R s m args below meth c H1 locs1 cells slots Q (F0 m (pc + 3) ls rest)) : W p l e R s m args below meth c H locs cells slots Q (F0 m pc ls (.int x :: .ref (z 0) :: rest)) := putf C X 0 rfl rfl in_X3 tyX3 tyX3_ok nmX3 0 (by decide) tw_365 rfl (ty := .int) (by decide +kernel) rfl rfl (Nat.le_of_ble_eq_true rfl) hdg kk
theorem x3p_8 (C : Cx E p s m args meth c cc nL ret RX3 A) (X : X3w E A z v fk gl go gi ga gs s H locs) {x : Int32} (hdg : decode cc pc = .ok (.putfield 58, 3)) (kk : ∀ (H1 : Heap) (locs1 : List Loc), X3w E A z (upd v 8 x) fk gl go gi ga gs s H1 locs1 → W p l e R s m args below meth c H1 locs1 cells slots Q (F0 m (pc + 3) ls rest)) : W p l e R s m args below meth c H locs cells slots Q (F0 m pc ls (.int x :: .ref (z 0) :: rest)) := putf C X 0 rfl rfl in_X3 tyX3 tyX3_ok nmX3 8 (by decide) tw_373 rfl (ty := .int) (by decide +kernel) rfl rfl (Nat.le_of_ble_eq_true rfl) hdg kk
theorem x3p_11 (C : Cx E p s m args meth c cc nL ret RX3 A) (X : X3w E A z v fk gl go gi ga gs s H locs) {x : Int32} (hdg : decode cc pc = .ok (.putfield 26, 3)) (kk : ∀ (H1 : Heap) (locs1 : List Loc), X3w E A z (upd v 11 x) fk gl go gi ga gs s H1 locs1 → W p l e R s m args below meth c H1 locs1 cells slots Q (F0 m (pc + 3) ls rest)) : W p l e R s m args below meth c H locs cells slots Q (F0 m pc ls (.int x :: .ref (z 0) :: rest)) := putf C X 0 rfl rfl in_X3 tyX3 tyX3_ok nmX3 11 (by decide) tw_376 rfl (ty := .int) (by decide +kernel) rfl rfl (Nat.le_of_ble_eq_true rfl) hdg kk
theorem x3p_12 (C : Cx E p s m args meth c cc nL ret RX3 A) (X : X3w E A z v fk gl go gi ga gs s H locs) {x : Int32} (hdg : decode cc pc = .ok (.putfield 30, 3)) (kk : ∀ (H1 : Heap) (locs1 : List Loc), X3w E A z (upd v 12 x) fk gl go gi ga gs s H1 locs1 → W p l e R s m args below meth c H1 locs1 cells slots Q (F0 m (pc + 3) ls rest)) : W p l e R s m args below meth c H locs cells slots Q (F0 m pc ls (.int x :: .ref (z 0) :: rest)) := putf C X 0 rfl rfl in_X3 tyX3 tyX3_ok nmX3 12 (by decide) tw_377 rfl (ty := .int) (by decide +kernel) rfl rfl (Nat.le_of_ble_eq_true rfl) hdg kk
theorem x3p_13 (C : Cx E p s m args meth c cc nL ret RX3 A) (X : X3w E A z v fk gl go gi ga gs s H locs) {x : Int32} (hdg : decode cc pc = .ok (.putfield 33, 3)) (kk : ∀ (H1 : Heap) (locs1 : List Loc), X3w E A z (upd v 13 x) fk gl go gi ga gs s H1 locs1 → W p l e R s m args below meth c H1 locs1 cells slots Q (F0 m (pc + 3) ls rest)) : W p l e R s m args below meth c H locs cells slots Q (F0 m pc ls (.int x :: .ref (z 0) :: rest)) := putf C X 0 rfl rfl in_X3 tyX3 tyX3_ok nmX3 13 (by decide) tw_378 rfl (ty := .int) (by decide +kernel) rfl rfl (Nat.le_of_ble_eq_true rfl) hdg kk
theorem x3p_14 (C : Cx E p s m args meth c cc nL ret RX3 A) (X : X3w E A z v fk gl go gi ga gs s H locs) {x : Int32} (hdg : decode cc pc = .ok (.putfield 85, 3)) (kk : ∀ (H1 : Heap) (locs1 : List Loc), X3w E A z (upd v 14 x) fk gl go gi ga gs s H1 locs1 → W p l e R s m args below meth c H1 locs1 cells slots Q (F0 m (pc + 3) ls rest)) : W p l e R s m args below meth c H locs cells slots Q (F0 m pc ls (.int x :: .ref (z 0) :: rest)) := putf C X 0 rfl rfl in_X3 tyX3 tyX3_ok nmX3 14 (by decide) tw_379 rfl (ty := .int) (by decide +kernel) rfl rfl (Nat.le_of_ble_eq_true rfl) hdg kk
theorem x3p_15 (C : Cx E p s m args meth c cc nL ret RX3 A) (X : X3w E A z v fk gl go gi ga gs s H locs) {x : Int32} (hdg : decode cc pc = .ok (.putfield 92, 3)) (kk : ∀ (H1 : Heap) (locs1 : List Loc), X3w E A z (upd v 15 x) fk gl go gi ga gs s H1 locs1 → W p l e R s m args below meth c H1 locs1 cells slots Q (F0 m (pc + 3) ls rest)) : W p l e R s m args below meth c H locs cells slots Q (F0 m pc ls (.int x :: .ref (z 0) :: rest)) := putf C X 0 rfl rfl in_X3 tyX3 tyX3_ok nmX3 15 (by decide) tw_380 rfl (ty := .int) (by decide +kernel) rfl rfl (Nat.le_of_ble_eq_true rfl) hdg kk
theorem x3p_16 (C : Cx E p s m args meth c cc nL ret RX3 A) (X : X3w E A z v fk gl go gi ga gs s H locs) {x : Int32} (hdg : decode cc pc = .ok (.putfield 95, 3)) (kk : ∀ (H1 : Heap) (locs1 : List Loc), X3w E A z (upd v 16 x) fk gl go gi ga gs s H1 locs1 → W p l e R s m args below meth c H1 locs1 cells slots Q (F0 m (pc + 3) ls rest)) : W p l e R s m args below meth c H locs cells slots Q (F0 m pc ls (.int x :: .ref (z 0) :: rest)) := putf C X 0 rfl rfl in_X3 tyX3 tyX3_ok nmX3 16 (by decide) tw_381 rfl (ty := .int) (by decide +kernel) rfl rfl (Nat.le_of_ble_eq_true rfl) hdg kk
theorem x3p_17 (C : Cx E p s m args meth c cc nL ret RX3 A) (X : X3w E A z v fk gl go gi ga gs s H locs) {x : Int32} (hn : narrow .boolean (.int x) = .int x) (hfi : fits .boolean (.int x) = true) (hdg : decode cc pc = .ok (.putfield 88, 3)) (kk : ∀ (H1 : Heap) (locs1 : List Loc), X3w E A z (upd v 17 x) fk gl go gi ga gs s H1 locs1 → W p l e R s m args below meth c H1 locs1 cells slots Q (F0 m (pc + 3) ls rest)) : W p l e R s m args below meth c H locs cells slots Q (F0 m pc ls (.int x :: .ref (z 0) :: rest)) := putf C X 0 rfl rfl in_X3 tyX3 tyX3_ok nmX3 17 (by decide) tw_382 rfl (ty := .boolean) (by decide +kernel) hn hfi (Nat.le_of_ble_eq_true rfl) hdg kk
theorem x3p_18 (C : Cx E p s m args meth c cc nL ret RX3 A) (X : X3w E A z v fk gl go gi ga gs s H locs) {x : Int32} (hn : narrow .boolean (.int x) = .int x) (hfi : fits .boolean (.int x) = true) (hdg : decode cc pc = .ok (.putfield 98, 3)) (kk : ∀ (H1 : Heap) (locs1 : List Loc), X3w E A z (upd v 18 x) fk gl go gi ga gs s H1 locs1 → W p l e R s m args below meth c H1 locs1 cells slots Q (F0 m (pc + 3) ls rest)) : W p l e R s m args below meth c H locs cells slots Q (F0 m pc ls (.int x :: .ref (z 0) :: rest)) := putf C X 0 rfl rfl in_X3 tyX3 tyX3_ok nmX3 18 (by decide) tw_383 rfl (ty := .boolean) (by decide +kernel) hn hfi (Nat.le_of_ble_eq_true rfl) hdg kk
theorem x3l_1 (C : Cx E p s m args meth c cc nL ret RX3 A) (X : X3w E A z v fk gl go gi ga gs s H locs) {j : Nat} (hj : j < 601) (hdg : decode cc pc = .ok (.laload, 1)) (kk : W p l e R s m args below meth c H locs cells slots Q (F0 m (pc + 1) ls (.long (fk j) :: rest))) : W p l e R s m args below meth c H locs cells slots Q (F0 m pc ls (.int (nI j) :: .ref (z 1) :: rest)) := by
  refine lald C X 1 rfl (vp_in_nI hj (by decide)) hdg ?_
  rw [nI_clamp (show j < 2 ^ 31 by omega)]
  exact kk
theorem x3t_1 (C : Cx E p s m args meth c cc nL ret RX3 A) (X : X3w E A z v fk gl go gi ga gs s H locs) {j : Nat} {x : Int64} (hj : j < 601) (hdg : decode cc pc = .ok (.lastore, 1)) (kk : ∀ (H1 : Heap) (locs1 : List Loc), X3w E A z v (vp_updL fk j x) gl go gi ga gs s H1 locs1 → W p l e R s m args below meth c H1 locs1 cells slots Q (F0 m (pc + 1) ls rest)) : W p l e R s m args below meth c H locs cells slots Q (F0 m pc ls (.long x :: .int (nI j) :: .ref (z 1) :: rest)) := by
  refine last C X 1 rfl (vp_in_nI hj (by decide)) hdg (fun H1 locs1 W1 => ?_)
  rw [nI_clamp (show j < 2 ^ 31 by omega)] at W1
  exact kk H1 locs1 W1
theorem x3l_2 (C : Cx E p s m args meth c cc nL ret RX3 A) (X : X3w E A z v fk gl go gi ga gs s H locs) {j : Nat} (hj : j < 601) (hdg : decode cc pc = .ok (.iaload, 1)) (kk : W p l e R s m args below meth c H locs cells slots Q (F0 m (pc + 1) ls (.int (nI (gl j)) :: rest))) : W p l e R s m args below meth c H locs cells slots Q (F0 m pc ls (.int (nI j) :: .ref (z 2) :: rest)) := by
  refine iald C X 2 rfl (vp_in_nI hj (by decide)) hdg ?_
  rw [nI_clamp (show j < 2 ^ 31 by omega)]
  exact kk
theorem x3t_2 (C : Cx E p s m args meth c cc nL ret RX3 A) (X : X3w E A z v fk gl go gi ga gs s H locs) {j : Nat} {x : Nat} (hj : j < 601) (hdg : decode cc pc = .ok (.iastore, 1)) (kk : ∀ (H1 : Heap) (locs1 : List Loc), X3w E A z v fk (va_up gl j x) go gi ga gs s H1 locs1 → W p l e R s m args below meth c H1 locs1 cells slots Q (F0 m (pc + 1) ls rest)) : W p l e R s m args below meth c H locs cells slots Q (F0 m pc ls (.int (nI x) :: .int (nI j) :: .ref (z 2) :: rest)) := by
  refine iast C X 2 rfl (vp_in_nI hj (by decide)) hdg (fun H1 locs1 W1 => ?_)
  rw [nI_clamp (show j < 2 ^ 31 by omega)] at W1
  rw [updN] at W1
  exact kk H1 locs1 W1
theorem x3l_3 (C : Cx E p s m args meth c cc nL ret RX3 A) (X : X3w E A z v fk gl go gi ga gs s H locs) {j : Nat} (hj : j < 601) (hdg : decode cc pc = .ok (.iaload, 1)) (kk : W p l e R s m args below meth c H locs cells slots Q (F0 m (pc + 1) ls (.int (nI (go j)) :: rest))) : W p l e R s m args below meth c H locs cells slots Q (F0 m pc ls (.int (nI j) :: .ref (z 3) :: rest)) := by
  refine iald C X 3 rfl (vp_in_nI hj (by decide)) hdg ?_
  rw [nI_clamp (show j < 2 ^ 31 by omega)]
  exact kk
theorem x3t_3 (C : Cx E p s m args meth c cc nL ret RX3 A) (X : X3w E A z v fk gl go gi ga gs s H locs) {j : Nat} {x : Nat} (hj : j < 601) (hdg : decode cc pc = .ok (.iastore, 1)) (kk : ∀ (H1 : Heap) (locs1 : List Loc), X3w E A z v fk gl (va_up go j x) gi ga gs s H1 locs1 → W p l e R s m args below meth c H1 locs1 cells slots Q (F0 m (pc + 1) ls rest)) : W p l e R s m args below meth c H locs cells slots Q (F0 m pc ls (.int (nI x) :: .int (nI j) :: .ref (z 3) :: rest)) := by
  refine iast C X 3 rfl (vp_in_nI hj (by decide)) hdg (fun H1 locs1 W1 => ?_)
  rw [nI_clamp (show j < 2 ^ 31 by omega)] at W1
  rw [updN] at W1
  exact kk H1 locs1 W1
theorem x3l_4 (C : Cx E p s m args meth c cc nL ret RX3 A) (X : X3w E A z v fk gl go gi ga gs s H locs) {j : Nat} (hj : j < 1300) (hdg : decode cc pc = .ok (.iaload, 1)) (kk : W p l e R s m args below meth c H locs cells slots Q (F0 m (pc + 1) ls (.int (nI (gi j)) :: rest))) : W p l e R s m args below meth c H locs cells slots Q (F0 m pc ls (.int (nI j) :: .ref (z 4) :: rest)) := by
  refine iald C X 4 rfl (vp_in_nI hj (by decide)) hdg ?_
  rw [nI_clamp (show j < 2 ^ 31 by omega)]
  exact kk
theorem x3t_4 (C : Cx E p s m args meth c cc nL ret RX3 A) (X : X3w E A z v fk gl go gi ga gs s H locs) {j : Nat} {x : Nat} (hj : j < 1300) (hdg : decode cc pc = .ok (.iastore, 1)) (kk : ∀ (H1 : Heap) (locs1 : List Loc), X3w E A z v fk gl go (va_up gi j x) ga gs s H1 locs1 → W p l e R s m args below meth c H1 locs1 cells slots Q (F0 m (pc + 1) ls rest)) : W p l e R s m args below meth c H locs cells slots Q (F0 m pc ls (.int (nI x) :: .int (nI j) :: .ref (z 4) :: rest)) := by
  refine iast C X 4 rfl (vp_in_nI hj (by decide)) hdg (fun H1 locs1 W1 => ?_)
  rw [nI_clamp (show j < 2 ^ 31 by omega)] at W1
  rw [updN] at W1
  exact kk H1 locs1 W1
theorem x3l_5 (C : Cx E p s m args meth c cc nL ret RX3 A) (X : X3w E A z v fk gl go gi ga gs s H locs) {j : Nat} (hj : j < 1300) (hdg : decode cc pc = .ok (.iaload, 1)) (kk : W p l e R s m args below meth c H locs cells slots Q (F0 m (pc + 1) ls (.int (nI (ga j)) :: rest))) : W p l e R s m args below meth c H locs cells slots Q (F0 m pc ls (.int (nI j) :: .ref (z 5) :: rest)) := by
  refine iald C X 5 rfl (vp_in_nI hj (by decide)) hdg ?_
  rw [nI_clamp (show j < 2 ^ 31 by omega)]
  exact kk
theorem x3t_5 (C : Cx E p s m args meth c cc nL ret RX3 A) (X : X3w E A z v fk gl go gi ga gs s H locs) {j : Nat} {x : Nat} (hj : j < 1300) (hdg : decode cc pc = .ok (.iastore, 1)) (kk : ∀ (H1 : Heap) (locs1 : List Loc), X3w E A z v fk gl go gi (va_up ga j x) gs s H1 locs1 → W p l e R s m args below meth c H1 locs1 cells slots Q (F0 m (pc + 1) ls rest)) : W p l e R s m args below meth c H locs cells slots Q (F0 m pc ls (.int (nI x) :: .int (nI j) :: .ref (z 5) :: rest)) := by
  refine iast C X 5 rfl (vp_in_nI hj (by decide)) hdg (fun H1 locs1 W1 => ?_)
  rw [nI_clamp (show j < 2 ^ 31 by omega)] at W1
  rw [updN] at W1
  exact kk H1 locs1 W1
theorem x3l_6 (C : Cx E p s m args meth c cc nL ret RX3 A) (X : X3w E A z v fk gl go gi ga gs s H locs) {j : Nat} (hj : j < 4) (hdg : decode cc pc = .ok (.iaload, 1)) (kk : W p l e R s m args below meth c H locs cells slots Q (F0 m (pc + 1) ls (.int (gs j) :: rest))) : W p l e R s m args below meth c H locs cells slots Q (F0 m pc ls (.int (nI j) :: .ref (z 6) :: rest)) := by
  refine iald C X 6 rfl (vp_in_nI hj (by decide)) hdg ?_
  rw [nI_clamp (show j < 2 ^ 31 by omega)]
  exact kk
theorem x3t_6 (C : Cx E p s m args meth c cc nL ret RX3 A) (X : X3w E A z v fk gl go gi ga gs s H locs) {j : Nat} {x : Int32} (hj : j < 4) (hdg : decode cc pc = .ok (.iastore, 1)) (kk : ∀ (H1 : Heap) (locs1 : List Loc), X3w E A z v fk gl go gi ga (upd gs j x) s H1 locs1 → W p l e R s m args below meth c H1 locs1 cells slots Q (F0 m (pc + 1) ls rest)) : W p l e R s m args below meth c H locs cells slots Q (F0 m pc ls (.int x :: .int (nI j) :: .ref (z 6) :: rest)) := by
  refine iast C X 6 rfl (vp_in_nI hj (by decide)) hdg (fun H1 locs1 W1 => ?_)
  rw [nI_clamp (show j < 2 ^ 31 by omega)] at W1
  exact kk H1 locs1 W1
section OC3
variable {y : MethodName} {bytes : ByteArray} {maxL n k idx : Nat} {rt : Option FieldType} {As st0 : List Value}
theorem x3_cr {post : Option Value → Prop} (C : Cx E p s m args meth c cc nL ret RX3 A) (X : X3w E A z v fk gl go gi ga gs s H locs) (hM : M3r l E y bytes maxL rt k (.ref (z 0) :: As) z v fk gl go gi ga gs post) (hy : Wy y bytes maxL rt n) (hse : Cond.selects y.cls y y ∈ LT) (hl : Cond.methodLink RX3 idx y ∈ LT) (hc : vwCl[3]? = some (y.cls, TX3, 20)) (hR : k + 1 ≤ R.frames ∧ 28 * (k + 1) ≤ R.locals) (hn : As.length = n) (hsz : ls.size = nL) (hst : st0 = As.reverse ++ .ref (z 0) :: rest) (hW : (rest.map fun v => v.category).sum ≤ 8) (hf : cells ≤ R.cells ∧ slots ≤ R.slots) (hdg : decode cc pc = .ok (.invokevirtual idx, 3))
    (kk : ∀ r : Option Value, post r → W p l e R s m args below meth c H locs cells slots Q (F0 m (pc + 3) ls (r.toList ++ rest))) : W p l e R s m args below meth c H locs cells slots Q (F0 m pc ls st0) :=
  call_r (runV (As := As) (rest := rest) C X hM hy hse hl hc (q0 := 0) rfl hR hn hsz hst hW hdg hf) kk
theorem x3_cw {post : Option Value → (Nat → Int32) → (Nat → Int64) → (Nat → Nat) → (Nat → Nat) → (Nat → Nat) → (Nat → Nat) → (Nat → Int32) → Prop} (C : Cx E p s m args meth c cc nL ret RX3 A) (X : X3w E A z v fk gl go gi ga gs s H locs) (hM : M3w l E y bytes maxL rt k (.ref (z 0) :: As) z v fk gl go gi ga gs post) (hy : Wy y bytes maxL rt n) (hse : Cond.selects y.cls y y ∈ LT) (hl : Cond.methodLink RX3 idx y ∈ LT) (hc : vwCl[3]? = some (y.cls, TX3, 20)) (hR : k + 1 ≤ R.frames ∧ 28 * (k + 1) ≤ R.locals) (hn : As.length = n) (hsz : ls.size = nL) (hst : st0 = As.reverse ++ .ref (z 0) :: rest) (hW : (rest.map fun v => v.category).sum ≤ 8) (hf : cells ≤ R.cells ∧ slots ≤ R.slots) (hdg : decode cc pc = .ok (.invokevirtual idx, 3))
    (kk : ∀ (r : Option Value) (v' : Nat → Int32) (fk' : Nat → Int64) (gl' go' gi' ga' : Nat → Nat) (gs' : Nat → Int32) (H1 : Heap) (locs1 : List Loc), post r v' fk' gl' go' gi' ga' gs' → X3w E A z v' fk' gl' go' gi' ga' gs' s H1 locs1 → W p l e R s m args below meth c H1 locs1 cells slots Q (F0 m (pc + 3) ls (r.toList ++ rest))) : W p l e R s m args below meth c H locs cells slots Q (F0 m pc ls st0) := by
  refine call_w C X (runV (As := As) (rest := rest) C X hM hy hse hl hc (q0 := 0) rfl hR hn hsz hst hW hdg hf) (fun r ws' H1 locs1 hp Wd => ?_)
  obtain ⟨v', fk', gl', go', gi', ga', gs', rfl, hpp⟩ := hp
  exact kk r v' fk' gl' go' gi' ga' gs' H1 locs1 hpp Wd
end OC3
end X3S
section RT3
variable {p : Program} {l : Launch} {e : Env} {R : Room} {s : State} {m : MethodId} {args : Array Value} {below : List Frame} {meth : Method} {c : Code} {H : Heap} {locs : List Loc} {mc ms : Nat}
variable {E : Gq} {cc : ByteArray} {nL : Nat} {A : Nat → Prop} {pc : Nat} {ls : Array Slot} {z : Nat → Nat} {v : Nat → Int32} {fk : Nat → Int64} {gl go gi ga : Nat → Nat} {gs : Nat → Int32} {ws0 : va_W} {post : Option Value → (Nat → Int32) → (Nat → Int64) → (Nat → Nat) → (Nat → Nat) → (Nat → Nat) → (Nat → Nat) → (Nat → Int32) → Prop}
theorem ret3_v (C : Cx E p s m args meth c cc nL none RX3 (va_A ws0 s.heap.size)) (X : X3w E (va_A ws0 s.heap.size) z v fk gl go gi ga gs s H locs) (hp : post none v fk gl go gi ga gs) (hdg : decode cc pc = .ok (.return_, 1)) : W p l e R s m args below meth c H locs mc ms (MQ below (Qw E ws0 s.heap.size (P3 E z post)) args s mc ms (va_A ws0 s.heap.size)) (F0 m pc ls []) := ret_vw C X ⟨v, fk, gl, go, gi, ga, gs, rfl, hp⟩ hdg
theorem ret3_i {r : Int32} (C : Cx E p s m args meth c cc nL (some .int) RX3 (va_A ws0 s.heap.size)) (X : X3w E (va_A ws0 s.heap.size) z v fk gl go gi ga gs s H locs) (hp : post (some (.int r)) v fk gl go gi ga gs) (hdg : decode cc pc = .ok (.ireturn, 1)) : W p l e R s m args below meth c H locs mc ms (MQ below (Qw E ws0 s.heap.size (P3 E z post)) args s mc ms (va_A ws0 s.heap.size)) (F0 m pc ls [.int r]) := ret_iw C X ⟨v, fk, gl, go, gi, ga, gs, rfl, hp⟩ hdg
theorem ret3_z {r : Int32} (C : Cx E p s m args meth c cc nL (some .boolean) RX3 (va_A ws0 s.heap.size)) (X : X3w E (va_A ws0 s.heap.size) z v fk gl go gi ga gs s H locs) (hp : post (some (.int r)) v fk gl go gi ga gs) (hn : narrow .boolean (.int r) = .int r) (hdg : decode cc pc = .ok (.ireturn, 1)) : W p l e R s m args below meth c H locs mc ms (MQ below (Qw E ws0 s.heap.size (P3 E z post)) args s mc ms (va_A ws0 s.heap.size)) (F0 m pc ls [.int r]) := ret_zw C X ⟨v, fk, gl, go, gi, ga, gs, rfl, hp⟩ hn hdg
end RT3
