/-! an int held within bounds -/
def hd (x : Int32) (lo hi : Nat) : Nat := if x < nI lo then lo else if nI hi < x then hi else x.toNatClampNeg
theorem hd_b {x : Int32} {lo hi : Nat} (h : lo ≤ hi) (hh : hi < 2 ^ 31) : lo ≤ hd x lo hi ∧ hd x lo hi ≤ hi := by
  unfold hd
  have e1 := nI_toInt (n := lo) (by omega)
  have e2 := nI_toInt hh
  by_cases c1 : x < nI lo
  · rw [if_pos c1]; exact ⟨Nat.le_refl _, h⟩
  · rw [if_neg c1]
    by_cases c2 : nI hi < x
    · rw [if_pos c2]; exact ⟨h, Nat.le_refl _⟩
    · rw [if_neg c2]
      rw [Int32.lt_iff_toInt_lt] at c1 c2
      obtain ⟨j, hj, rfl⟩ := nI_of (x := x) (by rw [Int32.lt_iff_toInt_lt]; show ¬ x.toInt < (0 : Int); omega)
      have e3 := nI_toInt hj
      rw [nI_clamp hj]
      omega
theorem hd_i {x : Int32} {lo hi : Nat} (c1 : ¬ x < nI lo) (c2 : ¬ nI hi < x) (h : lo ≤ hi) (hh : hi < 2 ^ 31) : nI (hd x lo hi) = x := by
  have e1 := nI_toInt (n := lo) (by omega)
  have e2 := nI_toInt hh
  unfold hd
  rw [if_neg c1, if_neg c2]
  rw [Int32.lt_iff_toInt_lt] at c1 c2
  obtain ⟨j, hj, rfl⟩ := nI_of (x := x) (by rw [Int32.lt_iff_toInt_lt]; show ¬ x.toInt < (0 : Int); omega)
  rw [nI_clamp hj]
theorem hd_c {x : Int32} {lo hi : Nat} (h : lo ≤ hi) (hh : hi < 2 ^ 31) : (if nI lo < (if x < nI hi then x else nI hi) then (if x < nI hi then x else nI hi) else nI lo) = nI (hd x lo hi) := by
  have e1 := nI_toInt (n := lo) (by omega)
  have e2 := nI_toInt hh
  have hlt : ∀ a b : Int32, a < b ↔ a.toInt < b.toInt := fun a b => Int32.lt_iff_toInt_lt
  by_cases c1 : x < nI lo
  · have c1' := (hlt _ _).mp c1
    have d1 : x < nI hi := (hlt _ _).mpr (by omega)
    have d2 : ¬ nI lo < x := fun q => by have := (hlt _ _).mp q; omega
    have e : hd x lo hi = lo := by unfold hd; rw [if_pos c1]
    rw [e, if_pos d1, if_neg d2]
  · have c1' : ¬ x.toInt < (nI lo).toInt := fun q => c1 ((hlt _ _).mpr q)
    by_cases c2 : nI hi < x
    · have c2' := (hlt _ _).mp c2
      have d1 : ¬ x < nI hi := fun q => by have := (hlt _ _).mp q; omega
      have e : hd x lo hi = hi := by unfold hd; rw [if_neg c1, if_pos c2]
      rw [e, if_neg d1]
      split
      · rfl
      · rename_i c3
        have c3' : ¬ (nI lo).toInt < (nI hi).toInt := fun q => c3 ((hlt _ _).mpr q)
        rw [show lo = hi by omega]
    · have c2' : ¬ (nI hi).toInt < x.toInt := fun q => c2 ((hlt _ _).mpr q)
      rw [hd_i c1 c2 h hh]
      have d : (if x < nI hi then x else nI hi) = x := by
        split
        · rfl
        · rename_i c3
          have c3' : ¬ x.toInt < (nI hi).toInt := fun q => c3 ((hlt _ _).mpr q)
          exact Int32.toInt_inj.mp (by omega)
      rw [d]
      split
      · rfl
      · rename_i c4
        have c4' : ¬ (nI lo).toInt < x.toInt := fun q => c4 ((hlt _ _).mpr q)
        exact Int32.toInt_inj.mp (by omega)
theorem c2_heldTo {l : Launch} {E : Gq} {ws : va_W} {x : Int32} {lo hi : Nat} (h : lo ≤ hi) (hh : hi < 2 ^ 31) : ∀ sz : Nat, Met l yX2_heldTo (.code yX2_heldTo cX2_heldTo 3 (some .int) :: LT) (Rm 1 0 0) (Pw E [.int x, .int (nI lo), .int (nI hi)] ws sz) (Qr (fun r => r = some (.int (nI (hd x lo hi))))) 0 0 (fun _ => False) := by
  refine mk_r (by decide) (Nat.le_of_ble_eq_true rfl) ?_
  intro p e s m below meth c ls C Wd hl
  have hl : lv_has ls 3 [(0, .int x), (1, .int (nI lo)), (2, .int (nI hi))] := hl
  refine lv_iload_n C.hx C.hb dX2_heldTo_0 rfl (lv_at hl 1 rfl) ?_
  refine lv_iload_n C.hx C.hb dX2_heldTo_1 rfl (lv_at hl 2 rfl) ?_
  refine lv_iload_n C.hx C.hb dX2_heldTo_2 rfl (lv_at hl 0 rfl) ?_
  refine va_mmin C.hx C.hb (C.hml.trans hl.1.symm) C.hown (C.hts _ tw_44) (C.hts _ tw_45) (C.hts _ tw_3) (C.hts _ tw_46) (by decide) (Nat.le_of_ble_eq_true rfl) (Nat.le_refl _) (Nat.le_refl _) dX2_heldTo_3 ?_
  refine va_mmax C.hx C.hb (C.hml.trans hl.1.symm) C.hown (C.hts _ tw_47) (C.hts _ tw_28) (C.hts _ tw_3) (C.hts _ tw_29) (by decide) (Nat.le_of_ble_eq_true rfl) (Nat.le_refl _) (Nat.le_refl _) dX2_heldTo_6 ?_
  refine n_re (hd_c h hh) ?_
  exact ret_ir C rfl dX2_heldTo_9
theorem c3_held {l : Launch} {E : Gq} {ws : va_W} {x : Int32} {lo hi : Nat} (h : lo ≤ hi) (hh : hi < 2 ^ 31) : ∀ sz : Nat, Met l yX3_held (.code yX3_held cX3_held 3 (some .int) :: LT) (Rm 1 0 0) (Pw E [.int x, .int (nI lo), .int (nI hi)] ws sz) (Qr (fun r => r = some (.int (nI (hd x lo hi))))) 0 0 (fun _ => False) := by
  refine mk_r (by decide) (Nat.le_of_ble_eq_true rfl) ?_
  intro p e s m below meth c ls C Wd hl
  have hl : lv_has ls 3 [(0, .int x), (1, .int (nI lo)), (2, .int (nI hi))] := hl
  refine lv_iload_n C.hx C.hb dX3_held_0 rfl (lv_at hl 0 rfl) ?_
  refine lv_iload_n C.hx C.hb dX3_held_1 rfl (lv_at hl 1 rfl) ?_
  refine lv_icmp_ge (tgt := 9) C.hx C.hb dX3_held_2 (by decide) (fun c2 => ?_) (fun c2 => ?_)
  · refine lv_iload_n C.hx C.hb dX3_held_9 rfl (lv_at hl 0 rfl) ?_
    refine lv_iload_n C.hx C.hb dX3_held_10 rfl (lv_at hl 2 rfl) ?_
    refine lv_icmp_le (tgt := 18) C.hx C.hb dX3_held_11 (by decide) (fun c11 => ?_) (fun c11 => ?_)
    · refine lv_iload_n C.hx C.hb dX3_held_18 rfl (lv_at hl 0 rfl) ?_
      exact ret_ir C (by rw [hd_i (Int32.not_lt.mpr c2) (Int32.not_lt.mpr c11) h hh]) dX3_held_19
    · refine lv_iload_n C.hx C.hb dX3_held_14 rfl (lv_at hl 2 rfl) ?_
      refine lv_goto (tgt := 19) C.hx C.hb dX3_held_15 (by decide) ?_
      exact ret_ir C (by rw [show hd x lo hi = hi by unfold hd; rw [if_neg (Int32.not_lt.mpr c2), if_pos (Int32.not_le.mp c11)]]) dX3_held_19
  · refine lv_iload_n C.hx C.hb dX3_held_5 rfl (lv_at hl 1 rfl) ?_
    refine lv_goto (tgt := 19) C.hx C.hb dX3_held_6 (by decide) ?_
    exact ret_ir C (by rw [show hd x lo hi = lo by unfold hd; rw [if_pos (Int32.not_le.mp c2)]]) dX3_held_19
theorem x2F_0 {p : Program} {l : Launch} {e : Env} {R : Room} {s : State} {m : MethodId} {args : Array Value} {below : List Frame} {meth : Method} {c : Code} {H : Heap} {locs : List Loc} {cells slots : Nat} {Q : State → Prop} {E : Gq} {cc : ByteArray} {nL : Nat} {ret : Option FieldType} {A : Nat → Prop} {pc : Nat} {ls : Array Slot} {rest : List Value} {z : Nat → Nat} {v : Nat → Int32} {kd : Nat} {K : List Int64} {L N S P : List Nat} (C : Cx E p s m args meth c cc nL ret RX2 A) (X : X2w E A z v kd K L N S P s H locs) (hin : meth.name = "<init>") {x : Int32} (hdg : decode cc pc = .ok (.putfield 72, 3)) (kk : ∀ (H1 : Heap) (locs1 : List Loc), X2w E A z (upd v 0 x) kd K L N S P s H1 locs1 → W p l e R s m args below meth c H1 locs1 cells slots Q (F0 m (pc + 3) ls rest)) : W p l e R s m args below meth c H locs cells slots Q (F0 m pc ls (.int x :: .ref (z 0) :: rest)) := by
  obtain ⟨f, Wd, hf⟩ := X
  exact putF (q0 := 0) C Wd hin 0 rfl rfl in_X2 tyX2 tyX2_ok nmX2 0 (by decide) tw_75 rfl rfl (ty := .int) (by decide +kernel) rfl rfl (Nat.le_of_ble_eq_true rfl) hdg (fun H1 locs1 W1 => kk H1 locs1 ⟨f, W1, hf⟩)
theorem x2F_1 {p : Program} {l : Launch} {e : Env} {R : Room} {s : State} {m : MethodId} {args : Array Value} {below : List Frame} {meth : Method} {c : Code} {H : Heap} {locs : List Loc} {cells slots : Nat} {Q : State → Prop} {E : Gq} {cc : ByteArray} {nL : Nat} {ret : Option FieldType} {A : Nat → Prop} {pc : Nat} {ls : Array Slot} {rest : List Value} {z : Nat → Nat} {v : Nat → Int32} {kd : Nat} {K : List Int64} {L N S P : List Nat} (C : Cx E p s m args meth c cc nL ret RX2 A) (X : X2w E A z v kd K L N S P s H locs) (hin : meth.name = "<init>") {x : Int32} (hdg : decode cc pc = .ok (.putfield 75, 3)) (kk : ∀ (H1 : Heap) (locs1 : List Loc), X2w E A z (upd v 1 x) kd K L N S P s H1 locs1 → W p l e R s m args below meth c H1 locs1 cells slots Q (F0 m (pc + 3) ls rest)) : W p l e R s m args below meth c H locs cells slots Q (F0 m pc ls (.int x :: .ref (z 0) :: rest)) := by
  obtain ⟨f, Wd, hf⟩ := X
  exact putF (q0 := 0) C Wd hin 0 rfl rfl in_X2 tyX2 tyX2_ok nmX2 1 (by decide) tw_76 rfl rfl (ty := .int) (by decide +kernel) rfl rfl (Nat.le_of_ble_eq_true rfl) hdg (fun H1 locs1 W1 => kk H1 locs1 ⟨f, W1, hf⟩)
theorem x2F_2 {p : Program} {l : Launch} {e : Env} {R : Room} {s : State} {m : MethodId} {args : Array Value} {below : List Frame} {meth : Method} {c : Code} {H : Heap} {locs : List Loc} {cells slots : Nat} {Q : State → Prop} {E : Gq} {cc : ByteArray} {nL : Nat} {ret : Option FieldType} {A : Nat → Prop} {pc : Nat} {ls : Array Slot} {rest : List Value} {z : Nat → Nat} {v : Nat → Int32} {kd : Nat} {K : List Int64} {L N S P : List Nat} (C : Cx E p s m args meth c cc nL ret RX2 A) (X : X2w E A z v kd K L N S P s H locs) (hin : meth.name = "<init>") {x : Int32} (hdg : decode cc pc = .ok (.putfield 78, 3)) (kk : ∀ (H1 : Heap) (locs1 : List Loc), X2w E A z (upd v 2 x) kd K L N S P s H1 locs1 → W p l e R s m args below meth c H1 locs1 cells slots Q (F0 m (pc + 3) ls rest)) : W p l e R s m args below meth c H locs cells slots Q (F0 m pc ls (.int x :: .ref (z 0) :: rest)) := by
  obtain ⟨f, Wd, hf⟩ := X
  exact putF (q0 := 0) C Wd hin 0 rfl rfl in_X2 tyX2 tyX2_ok nmX2 2 (by decide) tw_77 rfl rfl (ty := .int) (by decide +kernel) rfl rfl (Nat.le_of_ble_eq_true rfl) hdg (fun H1 locs1 W1 => kk H1 locs1 ⟨f, W1, hf⟩)
theorem x2F_3 {p : Program} {l : Launch} {e : Env} {R : Room} {s : State} {m : MethodId} {args : Array Value} {below : List Frame} {meth : Method} {c : Code} {H : Heap} {locs : List Loc} {cells slots : Nat} {Q : State → Prop} {E : Gq} {cc : ByteArray} {nL : Nat} {ret : Option FieldType} {A : Nat → Prop} {pc : Nat} {ls : Array Slot} {rest : List Value} {z : Nat → Nat} {v : Nat → Int32} {kd : Nat} {K : List Int64} {L N S P : List Nat} (C : Cx E p s m args meth c cc nL ret RX2 A) (X : X2w E A z v kd K L N S P s H locs) (hin : meth.name = "<init>") {x : Int32} (hdg : decode cc pc = .ok (.putfield 87, 3)) (kk : ∀ (H1 : Heap) (locs1 : List Loc), X2w E A z (upd v 3 x) kd K L N S P s H1 locs1 → W p l e R s m args below meth c H1 locs1 cells slots Q (F0 m (pc + 3) ls rest)) : W p l e R s m args below meth c H locs cells slots Q (F0 m pc ls (.int x :: .ref (z 0) :: rest)) := by
  obtain ⟨f, Wd, hf⟩ := X
  exact putF (q0 := 0) C Wd hin 0 rfl rfl in_X2 tyX2 tyX2_ok nmX2 3 (by decide) tw_78 rfl rfl (ty := .int) (by decide +kernel) rfl rfl (Nat.le_of_ble_eq_true rfl) hdg (fun H1 locs1 W1 => kk H1 locs1 ⟨f, W1, hf⟩)
theorem x3F_1 {p : Program} {l : Launch} {e : Env} {R : Room} {s : State} {m : MethodId} {args : Array Value} {below : List Frame} {meth : Method} {c : Code} {H : Heap} {locs : List Loc} {cells slots : Nat} {Q : State → Prop} {E : Gq} {cc : ByteArray} {nL : Nat} {ret : Option FieldType} {A : Nat → Prop} {pc : Nat} {ls : Array Slot} {rest : List Value} {z : Nat → Nat} {v : Nat → Int32} {fk : Nat → Int64} {gl go gi ga : Nat → Nat} {gs : Nat → Int32} (C : Cx E p s m args meth c cc nL ret RX3 A) (X : X3w E A z v fk gl go gi ga gs s H locs) (hin : meth.name = "<init>") {x : Int32} (hdg : decode cc pc = .ok (.putfield 43, 3)) (kk : ∀ (H1 : Heap) (locs1 : List Loc), X3w E A z (upd v 1 x) fk gl go gi ga gs s H1 locs1 → W p l e R s m args below meth c H1 locs1 cells slots Q (F0 m (pc + 3) ls rest)) : W p l e R s m args below meth c H locs cells slots Q (F0 m pc ls (.int x :: .ref (z 0) :: rest)) :=
  putF (q0 := 0) C X hin 0 rfl rfl in_X3 tyX3 tyX3_ok nmX3 1 (by decide) tw_366 rfl rfl (ty := .int) (by decide +kernel) rfl rfl (Nat.le_of_ble_eq_true rfl) hdg kk
theorem x3F_2 {p : Program} {l : Launch} {e : Env} {R : Room} {s : State} {m : MethodId} {args : Array Value} {below : List Frame} {meth : Method} {c : Code} {H : Heap} {locs : List Loc} {cells slots : Nat} {Q : State → Prop} {E : Gq} {cc : ByteArray} {nL : Nat} {ret : Option FieldType} {A : Nat → Prop} {pc : Nat} {ls : Array Slot} {rest : List Value} {z : Nat → Nat} {v : Nat → Int32} {fk : Nat → Int64} {gl go gi ga : Nat → Nat} {gs : Nat → Int32} (C : Cx E p s m args meth c cc nL ret RX3 A) (X : X3w E A z v fk gl go gi ga gs s H locs) (hin : meth.name = "<init>") {x : Int32} (hdg : decode cc pc = .ok (.putfield 46, 3)) (kk : ∀ (H1 : Heap) (locs1 : List Loc), X3w E A z (upd v 2 x) fk gl go gi ga gs s H1 locs1 → W p l e R s m args below meth c H1 locs1 cells slots Q (F0 m (pc + 3) ls rest)) : W p l e R s m args below meth c H locs cells slots Q (F0 m pc ls (.int x :: .ref (z 0) :: rest)) :=
  putF (q0 := 0) C X hin 0 rfl rfl in_X3 tyX3 tyX3_ok nmX3 2 (by decide) tw_367 rfl rfl (ty := .int) (by decide +kernel) rfl rfl (Nat.le_of_ble_eq_true rfl) hdg kk
theorem x3F_3 {p : Program} {l : Launch} {e : Env} {R : Room} {s : State} {m : MethodId} {args : Array Value} {below : List Frame} {meth : Method} {c : Code} {H : Heap} {locs : List Loc} {cells slots : Nat} {Q : State → Prop} {E : Gq} {cc : ByteArray} {nL : Nat} {ret : Option FieldType} {A : Nat → Prop} {pc : Nat} {ls : Array Slot} {rest : List Value} {z : Nat → Nat} {v : Nat → Int32} {fk : Nat → Int64} {gl go gi ga : Nat → Nat} {gs : Nat → Int32} (C : Cx E p s m args meth c cc nL ret RX3 A) (X : X3w E A z v fk gl go gi ga gs s H locs) (hin : meth.name = "<init>") {x : Int32} (hdg : decode cc pc = .ok (.putfield 49, 3)) (kk : ∀ (H1 : Heap) (locs1 : List Loc), X3w E A z (upd v 3 x) fk gl go gi ga gs s H1 locs1 → W p l e R s m args below meth c H1 locs1 cells slots Q (F0 m (pc + 3) ls rest)) : W p l e R s m args below meth c H locs cells slots Q (F0 m pc ls (.int x :: .ref (z 0) :: rest)) :=
  putF (q0 := 0) C X hin 0 rfl rfl in_X3 tyX3 tyX3_ok nmX3 3 (by decide) tw_368 rfl rfl (ty := .int) (by decide +kernel) rfl rfl (Nat.le_of_ble_eq_true rfl) hdg kk
theorem x3F_4 {p : Program} {l : Launch} {e : Env} {R : Room} {s : State} {m : MethodId} {args : Array Value} {below : List Frame} {meth : Method} {c : Code} {H : Heap} {locs : List Loc} {cells slots : Nat} {Q : State → Prop} {E : Gq} {cc : ByteArray} {nL : Nat} {ret : Option FieldType} {A : Nat → Prop} {pc : Nat} {ls : Array Slot} {rest : List Value} {z : Nat → Nat} {v : Nat → Int32} {fk : Nat → Int64} {gl go gi ga : Nat → Nat} {gs : Nat → Int32} (C : Cx E p s m args meth c cc nL ret RX3 A) (X : X3w E A z v fk gl go gi ga gs s H locs) (hin : meth.name = "<init>") {x : Int32} (hdg : decode cc pc = .ok (.putfield 52, 3)) (kk : ∀ (H1 : Heap) (locs1 : List Loc), X3w E A z (upd v 4 x) fk gl go gi ga gs s H1 locs1 → W p l e R s m args below meth c H1 locs1 cells slots Q (F0 m (pc + 3) ls rest)) : W p l e R s m args below meth c H locs cells slots Q (F0 m pc ls (.int x :: .ref (z 0) :: rest)) :=
  putF (q0 := 0) C X hin 0 rfl rfl in_X3 tyX3 tyX3_ok nmX3 4 (by decide) tw_369 rfl rfl (ty := .int) (by decide +kernel) rfl rfl (Nat.le_of_ble_eq_true rfl) hdg kk
def d19 : List Value := [.int 0, .int 0, .int 0, .int 0, .null, .null, .null, .null, .null, .int 0, .int 0, .int 0, .int 0, .null, .int 0, .int 0, .int 0, .int 0, .int 0]
def vI2 : Nat → Int32 := fun k => if k = 9 then nI 1 else nI 0
set_option maxHeartbeats 4000000 in
set_option maxRecDepth 100000 in
/-- a new object of the class -/
theorem c2_init {l : Launch} {E : Gq} {q : Nat} {x1 x2 x3 x4 : Int32} : ∀ sz : Nat, Met l yX2_init (.code yX2_init cX2_init 7 none :: LT) (Rm 4 10 3013) (Pw E [.ref q, .int x1, .int x2, .int x3, .int x4] [(q, .inr (2, d19))] sz) (Qw E [(q, .inr (2, d19))] sz (fun r ws' => ∃ (z : Nat → Nat) (f : Nat → Nat → Int64) (v : Nat → Int32), r = none ∧ z 0 = q ∧ ws' = w2 E z v 0 [] [] [1] [0] (lay [] (max 1 ((hd x2 2 20) * (hd x3 1 (hd x4 1 100)) / (hd x4 1 100)))) f ∧ Rok f [] [] [1] [0] (lay [] (max 1 ((hd x2 2 20) * (hd x3 1 (hd x4 1 100)) / (hd x4 1 100)))) ∧ v 0 = nI (hd x1 1 1000) ∧ v 1 = nI (hd x2 2 20) ∧ v 2 = nI ((hd x1 1 1000) * (hd x3 1 (hd x4 1 100)) / (hd x4 1 100)) ∧ v 3 = nI (max 1 ((hd x2 2 20) * (hd x3 1 (hd x4 1 100)) / (hd x4 1 100))) ∧ v 9 = nI 2 ∧ v 10 = nI 0 ∧ v 11 = nI 0 ∧ v 15 = nI 0 ∧ v 16 = nI 0 ∧ v 17 = nI 0 ∧ v 18 = nI 0)) 10 3013 (va_A [(q, .inr (2, d19))] sz) := by
  refine mk_i (by decide) (Nat.le_of_ble_eq_true rfl) ?_
  intro p e s m below meth c ls C Wd hin hl
  have hl : lv_has ls 7 [(0, .ref q), (1, .int x1), (2, .int x2), (3, .int x3), (4, .int x4)] := hl
  refine lv_aload_n C.hx C.hb dX2_init_0 rfl (lv_at hl 0 rfl) ?_
  refine objI C tw_18 hl.1 (Nat.le_of_ble_eq_true rfl) ⟨by decide, by decide⟩ dX2_init_1 ?_
  refine lv_aload_n C.hx C.hb dX2_init_4 rfl (lv_at hl 0 rfl) ?_
  refine newO C Wd (ci := 1) (fs := [.null, .int 0]) tyX1 rfl in_X1 tyX1_ok tw_21 tw_22 tw_2 (by decide +kernel) (by decide) (by decide) dX2_init_5 (fun h1 H Wd => ?_)
  refine lv_dup C.hx C.hb dX2_init_8 rfl ?_
  refine lv_sipush (v := nI 600) C.hx C.hb dX2_init_9 (by decide) ?_
  refine call_w2 (wc := [(h1, .inr (1, [.null, .int 0]))]) C Wd.swap (runIN (As := [.int (nI 600)]) (rest := [.ref h1, .ref q]) C Wd.swap.left (c1_init (cap := 600) (by decide)) wy_X1_init rfl (List.mem_of_getElem? (i := 0) rfl) ⟨by decide, by decide⟩ rfl hl.1 rfl (Nat.le_of_ble_eq_true rfl) dX2_init_12 ⟨by decide, by decide⟩) (fun r wc' H locs hp Wd => ?_)
  obtain ⟨a1, rfl, rfl⟩ := hp
  have Wd : Wl E _ [(h1, .inr (1, [.ref a1, .int (nI 0)])), (a1, .inl (E.2.2.1, 600, .inr (.inl (fun _ => 0)))), (q, .inr (2, [.int 0, .int 0, .int 0, .int 0, .null, .null, .null, .null, .null, .int 0, .int 0, .int 0, .int 0, .null, .int 0, .int 0, .int 0, .int 0, .int 0]))] s H locs := Wd
  refine W.eq (g2 := F0 m 15 ls [.ref h1, .ref q]) rfl ?_
  refine putF (q0 := 2) C Wd hin 2 rfl rfl in_X2 tyX2 tyX2_ok nmX2 4 (by decide) tw_79 rfl rfl (ty := .object "IntervalSplits$Row") (by decide +kernel) rfl rfl (Nat.le_of_ble_eq_true rfl) dX2_init_15 (fun H locs Wd => ?_)
  have Wd : Wl E _ [(h1, .inr (1, [.ref a1, .int (nI 0)])), (a1, .inl (E.2.2.1, 600, .inr (.inl (fun _ => 0)))), (q, .inr (2, [.int 0, .int 0, .int 0, .int 0, .ref h1, .null, .null, .null, .null, .int 0, .int 0, .int 0, .int 0, .null, .int 0, .int 0, .int 0, .int 0, .int 0]))] s H locs := Wd
  refine lv_aload_n C.hx C.hb dX2_init_18 rfl (lv_at hl 0 rfl) ?_
  refine newO C Wd (ci := 1) (fs := [.null, .int 0]) tyX1 rfl in_X1 tyX1_ok tw_21 tw_22 tw_2 (by decide +kernel) (by decide) (by decide) dX2_init_19 (fun h2 H Wd => ?_)
  refine lv_dup C.hx C.hb dX2_init_22 rfl ?_
  refine lv_sipush (v := nI 600) C.hx C.hb dX2_init_23 (by decide) ?_
  refine call_w2 (wc := [(h2, .inr (1, [.null, .int 0]))]) C Wd.swap (runIN (As := [.int (nI 600)]) (rest := [.ref h2, .ref q]) C Wd.swap.left (c1_init (cap := 600) (by decide)) wy_X1_init rfl (List.mem_of_getElem? (i := 0) rfl) ⟨by decide, by decide⟩ rfl hl.1 rfl (Nat.le_of_ble_eq_true rfl) dX2_init_26 ⟨by decide, by decide⟩) (fun r wc' H locs hp Wd => ?_)
  obtain ⟨a2, rfl, rfl⟩ := hp
  have Wd : Wl E _ [(h2, .inr (1, [.ref a2, .int (nI 0)])), (a2, .inl (E.2.2.1, 600, .inr (.inl (fun _ => 0)))), (h1, .inr (1, [.ref a1, .int (nI 0)])), (a1, .inl (E.2.2.1, 600, .inr (.inl (fun _ => 0)))), (q, .inr (2, [.int 0, .int 0, .int 0, .int 0, .ref h1, .null, .null, .null, .null, .int 0, .int 0, .int 0, .int 0, .null, .int 0, .int 0, .int 0, .int 0, .int 0]))] s H locs := Wd
  refine W.eq (g2 := F0 m 29 ls [.ref h2, .ref q]) rfl ?_
  refine putF (q0 := 4) C Wd hin 4 rfl rfl in_X2 tyX2 tyX2_ok nmX2 5 (by decide) tw_80 rfl rfl (ty := .object "IntervalSplits$Row") (by decide +kernel) rfl rfl (Nat.le_of_ble_eq_true rfl) dX2_init_29 (fun H locs Wd => ?_)
  have Wd : Wl E _ [(h2, .inr (1, [.ref a2, .int (nI 0)])), (a2, .inl (E.2.2.1, 600, .inr (.inl (fun _ => 0)))), (h1, .inr (1, [.ref a1, .int (nI 0)])), (a1, .inl (E.2.2.1, 600, .inr (.inl (fun _ => 0)))), (q, .inr (2, [.int 0, .int 0, .int 0, .int 0, .ref h1, .ref h2, .null, .null, .null, .int 0, .int 0, .int 0, .int 0, .null, .int 0, .int 0, .int 0, .int 0, .int 0]))] s H locs := Wd
  refine lv_aload_n C.hx C.hb dX2_init_32 rfl (lv_at hl 0 rfl) ?_
  refine newO C Wd (ci := 1) (fs := [.null, .int 0]) tyX1 rfl in_X1 tyX1_ok tw_21 tw_22 tw_2 (by decide +kernel) (by decide) (by decide) dX2_init_33 (fun h3 H Wd => ?_)
  refine lv_dup C.hx C.hb dX2_init_36 rfl ?_
  refine lv_sipush (v := nI 601) C.hx C.hb dX2_init_37 (by decide) ?_
  refine call_w2 (wc := [(h3, .inr (1, [.null, .int 0]))]) C Wd.swap (runIN (As := [.int (nI 601)]) (rest := [.ref h3, .ref q]) C Wd.swap.left (c1_init (cap := 601) (by decide)) wy_X1_init rfl (List.mem_of_getElem? (i := 0) rfl) ⟨by decide, by decide⟩ rfl hl.1 rfl (Nat.le_of_ble_eq_true rfl) dX2_init_40 ⟨by decide, by decide⟩) (fun r wc' H locs hp Wd => ?_)
  obtain ⟨a3, rfl, rfl⟩ := hp
  have Wd : Wl E _ [(h3, .inr (1, [.ref a3, .int (nI 0)])), (a3, .inl (E.2.2.1, 601, .inr (.inl (fun _ => 0)))), (h2, .inr (1, [.ref a2, .int (nI 0)])), (a2, .inl (E.2.2.1, 600, .inr (.inl (fun _ => 0)))), (h1, .inr (1, [.ref a1, .int (nI 0)])), (a1, .inl (E.2.2.1, 600, .inr (.inl (fun _ => 0)))), (q, .inr (2, [.int 0, .int 0, .int 0, .int 0, .ref h1, .ref h2, .null, .null, .null, .int 0, .int 0, .int 0, .int 0, .null, .int 0, .int 0, .int 0, .int 0, .int 0]))] s H locs := Wd
  refine W.eq (g2 := F0 m 43 ls [.ref h3, .ref q]) rfl ?_
  refine putF (q0 := 6) C Wd hin 6 rfl rfl in_X2 tyX2 tyX2_ok nmX2 6 (by decide) tw_81 rfl rfl (ty := .object "IntervalSplits$Row") (by decide +kernel) rfl rfl (Nat.le_of_ble_eq_true rfl) dX2_init_43 (fun H locs Wd => ?_)
  have Wd : Wl E _ [(h3, .inr (1, [.ref a3, .int (nI 0)])), (a3, .inl (E.2.2.1, 601, .inr (.inl (fun _ => 0)))), (h2, .inr (1, [.ref a2, .int (nI 0)])), (a2, .inl (E.2.2.1, 600, .inr (.inl (fun _ => 0)))), (h1, .inr (1, [.ref a1, .int (nI 0)])), (a1, .inl (E.2.2.1, 600, .inr (.inl (fun _ => 0)))), (q, .inr (2, [.int 0, .int 0, .int 0, .int 0, .ref h1, .ref h2, .ref h3, .null, .null, .int 0, .int 0, .int 0, .int 0, .null, .int 0, .int 0, .int 0, .int 0, .int 0]))] s H locs := Wd
  refine lv_aload_n C.hx C.hb dX2_init_46 rfl (lv_at hl 0 rfl) ?_
  refine newO C Wd (ci := 1) (fs := [.null, .int 0]) tyX1 rfl in_X1 tyX1_ok tw_21 tw_22 tw_2 (by decide +kernel) (by decide) (by decide) dX2_init_47 (fun h4 H Wd => ?_)
  refine lv_dup C.hx C.hb dX2_init_50 rfl ?_
  refine lv_sipush (v := nI 601) C.hx C.hb dX2_init_51 (by decide) ?_
  refine call_w2 (wc := [(h4, .inr (1, [.null, .int 0]))]) C Wd.swap (runIN (As := [.int (nI 601)]) (rest := [.ref h4, .ref q]) C Wd.swap.left (c1_init (cap := 601) (by decide)) wy_X1_init rfl (List.mem_of_getElem? (i := 0) rfl) ⟨by decide, by decide⟩ rfl hl.1 rfl (Nat.le_of_ble_eq_true rfl) dX2_init_54 ⟨by decide, by decide⟩) (fun r wc' H locs hp Wd => ?_)
  obtain ⟨a4, rfl, rfl⟩ := hp
  have Wd : Wl E _ [(h4, .inr (1, [.ref a4, .int (nI 0)])), (a4, .inl (E.2.2.1, 601, .inr (.inl (fun _ => 0)))), (h3, .inr (1, [.ref a3, .int (nI 0)])), (a3, .inl (E.2.2.1, 601, .inr (.inl (fun _ => 0)))), (h2, .inr (1, [.ref a2, .int (nI 0)])), (a2, .inl (E.2.2.1, 600, .inr (.inl (fun _ => 0)))), (h1, .inr (1, [.ref a1, .int (nI 0)])), (a1, .inl (E.2.2.1, 600, .inr (.inl (fun _ => 0)))), (q, .inr (2, [.int 0, .int 0, .int 0, .int 0, .ref h1, .ref h2, .ref h3, .null, .null, .int 0, .int 0, .int 0, .int 0, .null, .int 0, .int 0, .int 0, .int 0, .int 0]))] s H locs := Wd
  refine W.eq (g2 := F0 m 57 ls [.ref h4, .ref q]) rfl ?_
  refine putF (q0 := 8) C Wd hin 8 rfl rfl in_X2 tyX2 tyX2_ok nmX2 7 (by decide) tw_82 rfl rfl (ty := .object "IntervalSplits$Row") (by decide +kernel) rfl rfl (Nat.le_of_ble_eq_true rfl) dX2_init_57 (fun H locs Wd => ?_)
  have Wd : Wl E _ [(h4, .inr (1, [.ref a4, .int (nI 0)])), (a4, .inl (E.2.2.1, 601, .inr (.inl (fun _ => 0)))), (h3, .inr (1, [.ref a3, .int (nI 0)])), (a3, .inl (E.2.2.1, 601, .inr (.inl (fun _ => 0)))), (h2, .inr (1, [.ref a2, .int (nI 0)])), (a2, .inl (E.2.2.1, 600, .inr (.inl (fun _ => 0)))), (h1, .inr (1, [.ref a1, .int (nI 0)])), (a1, .inl (E.2.2.1, 600, .inr (.inl (fun _ => 0)))), (q, .inr (2, [.int 0, .int 0, .int 0, .int 0, .ref h1, .ref h2, .ref h3, .ref h4, .null, .int 0, .int 0, .int 0, .int 0, .null, .int 0, .int 0, .int 0, .int 0, .int 0]))] s H locs := Wd
  refine lv_aload_n C.hx C.hb dX2_init_60 rfl (lv_at hl 0 rfl) ?_
  refine newO C Wd (ci := 1) (fs := [.null, .int 0]) tyX1 rfl in_X1 tyX1_ok tw_21 tw_22 tw_2 (by decide +kernel) (by decide) (by decide) dX2_init_61 (fun h5 H Wd => ?_)
  refine lv_dup C.hx C.hb dX2_init_64 rfl ?_
  refine lv_sipush (v := nI 601) C.hx C.hb dX2_init_65 (by decide) ?_
  refine call_w2 (wc := [(h5, .inr (1, [.null, .int 0]))]) C Wd.swap (runIN (As := [.int (nI 601)]) (rest := [.ref h5, .ref q]) C Wd.swap.left (c1_init (cap := 601) (by decide)) wy_X1_init rfl (List.mem_of_getElem? (i := 0) rfl) ⟨by decide, by decide⟩ rfl hl.1 rfl (Nat.le_of_ble_eq_true rfl) dX2_init_68 ⟨by decide, by decide⟩) (fun r wc' H locs hp Wd => ?_)
  obtain ⟨a5, rfl, rfl⟩ := hp
  have Wd : Wl E _ [(h5, .inr (1, [.ref a5, .int (nI 0)])), (a5, .inl (E.2.2.1, 601, .inr (.inl (fun _ => 0)))), (h4, .inr (1, [.ref a4, .int (nI 0)])), (a4, .inl (E.2.2.1, 601, .inr (.inl (fun _ => 0)))), (h3, .inr (1, [.ref a3, .int (nI 0)])), (a3, .inl (E.2.2.1, 601, .inr (.inl (fun _ => 0)))), (h2, .inr (1, [.ref a2, .int (nI 0)])), (a2, .inl (E.2.2.1, 600, .inr (.inl (fun _ => 0)))), (h1, .inr (1, [.ref a1, .int (nI 0)])), (a1, .inl (E.2.2.1, 600, .inr (.inl (fun _ => 0)))), (q, .inr (2, [.int 0, .int 0, .int 0, .int 0, .ref h1, .ref h2, .ref h3, .ref h4, .null, .int 0, .int 0, .int 0, .int 0, .null, .int 0, .int 0, .int 0, .int 0, .int 0]))] s H locs := Wd
  refine W.eq (g2 := F0 m 71 ls [.ref h5, .ref q]) rfl ?_
  refine putF (q0 := 10) C Wd hin 10 rfl rfl in_X2 tyX2 tyX2_ok nmX2 8 (by decide) tw_83 rfl rfl (ty := .object "IntervalSplits$Row") (by decide +kernel) rfl rfl (Nat.le_of_ble_eq_true rfl) dX2_init_71 (fun H locs Wd => ?_)
  have Wd : Wl E _ [(h5, .inr (1, [.ref a5, .int (nI 0)])), (a5, .inl (E.2.2.1, 601, .inr (.inl (fun _ => 0)))), (h4, .inr (1, [.ref a4, .int (nI 0)])), (a4, .inl (E.2.2.1, 601, .inr (.inl (fun _ => 0)))), (h3, .inr (1, [.ref a3, .int (nI 0)])), (a3, .inl (E.2.2.1, 601, .inr (.inl (fun _ => 0)))), (h2, .inr (1, [.ref a2, .int (nI 0)])), (a2, .inl (E.2.2.1, 600, .inr (.inl (fun _ => 0)))), (h1, .inr (1, [.ref a1, .int (nI 0)])), (a1, .inl (E.2.2.1, 600, .inr (.inl (fun _ => 0)))), (q, .inr (2, [.int 0, .int 0, .int 0, .int 0, .ref h1, .ref h2, .ref h3, .ref h4, .ref h5, .int 0, .int 0, .int 0, .int 0, .null, .int 0, .int 0, .int 0, .int 0, .int 0]))] s H locs := Wd
  have Wd : Wl E _ [(q, .inr (2, [.int 0, .int 0, .int 0, .int 0, .ref h1, .ref h2, .ref h3, .ref h4, .ref h5, .int 0, .int 0, .int 0, .int 0, .null, .int 0, .int 0, .int 0, .int 0, .int 0])), (h1, .inr (1, [.ref a1, .int (nI 0)])), (h2, .inr (1, [.ref a2, .int (nI 0)])), (h3, .inr (1, [.ref a3, .int (nI 0)])), (h4, .inr (1, [.ref a4, .int (nI 0)])), (h5, .inr (1, [.ref a5, .int (nI 0)])), (a1, .inl (E.2.2.1, 600, .inr (.inl (fun _ => 0)))), (a2, .inl (E.2.2.1, 600, .inr (.inl (fun _ => 0)))), (a3, .inl (E.2.2.1, 601, .inr (.inl (fun _ => 0)))), (a4, .inl (E.2.2.1, 601, .inr (.inl (fun _ => 0)))), (a5, .inl (E.2.2.1, 601, .inr (.inl (fun _ => 0))))] s H locs := Wd.sub [10, 8, 6, 4, 2, 0, 9, 7, 5, 3, 1] (by decide) rfl rfl
  refine lv_aload_n C.hx C.hb dX2_init_74 rfl (lv_at hl 0 rfl) ?_
  refine lv_iconst (v := nI 1) C.hx C.hb dX2_init_75 (by decide) ?_
  refine putf C Wd 0 rfl rfl in_X2 tyX2 tyX2_ok nmX2 9 (by decide) tw_84 rfl (ty := .int) (by decide +kernel) rfl rfl (Nat.le_of_ble_eq_true rfl) dX2_init_76 (fun H locs Wd => ?_)
  have Wd : Wl E _ [(q, .inr (2, [.int 0, .int 0, .int 0, .int 0, .ref h1, .ref h2, .ref h3, .ref h4, .ref h5, .int (nI 1), .int 0, .int 0, .int 0, .null, .int 0, .int 0, .int 0, .int 0, .int 0])), (h1, .inr (1, [.ref a1, .int (nI 0)])), (h2, .inr (1, [.ref a2, .int (nI 0)])), (h3, .inr (1, [.ref a3, .int (nI 0)])), (h4, .inr (1, [.ref a4, .int (nI 0)])), (h5, .inr (1, [.ref a5, .int (nI 0)])), (a1, .inl (E.2.2.1, 600, .inr (.inl (fun _ => 0)))), (a2, .inl (E.2.2.1, 600, .inr (.inl (fun _ => 0)))), (a3, .inl (E.2.2.1, 601, .inr (.inl (fun _ => 0)))), (a4, .inl (E.2.2.1, 601, .inr (.inl (fun _ => 0)))), (a5, .inl (E.2.2.1, 601, .inr (.inl (fun _ => 0))))] s H locs := Wd
  refine lv_aload_n C.hx C.hb dX2_init_79 rfl (lv_at hl 0 rfl) ?_
  refine lv_iconst (v := nI 0) C.hx C.hb dX2_init_80 (by decide) ?_
  refine putf C Wd 0 rfl rfl in_X2 tyX2 tyX2_ok nmX2 10 (by decide) tw_85 rfl (ty := .int) (by decide +kernel) rfl rfl (Nat.le_of_ble_eq_true rfl) dX2_init_81 (fun H locs Wd => ?_)
  have Wd : Wl E _ [(q, .inr (2, [.int 0, .int 0, .int 0, .int 0, .ref h1, .ref h2, .ref h3, .ref h4, .ref h5, .int (nI 1), .int (nI 0), .int 0, .int 0, .null, .int 0, .int 0, .int 0, .int 0, .int 0])), (h1, .inr (1, [.ref a1, .int (nI 0)])), (h2, .inr (1, [.ref a2, .int (nI 0)])), (h3, .inr (1, [.ref a3, .int (nI 0)])), (h4, .inr (1, [.ref a4, .int (nI 0)])), (h5, .inr (1, [.ref a5, .int (nI 0)])), (a1, .inl (E.2.2.1, 600, .inr (.inl (fun _ => 0)))), (a2, .inl (E.2.2.1, 600, .inr (.inl (fun _ => 0)))), (a3, .inl (E.2.2.1, 601, .inr (.inl (fun _ => 0)))), (a4, .inl (E.2.2.1, 601, .inr (.inl (fun _ => 0)))), (a5, .inl (E.2.2.1, 601, .inr (.inl (fun _ => 0))))] s H locs := Wd
  refine lv_aload_n C.hx C.hb dX2_init_84 rfl (lv_at hl 0 rfl) ?_
  refine lv_iconst (v := nI 0) C.hx C.hb dX2_init_85 (by decide) ?_
  refine putf C Wd 0 rfl rfl in_X2 tyX2 tyX2_ok nmX2 11 (by decide) tw_86 rfl (ty := .boolean) (by decide +kernel) rfl rfl (Nat.le_of_ble_eq_true rfl) dX2_init_86 (fun H locs Wd => ?_)
  have Wd : Wl E _ [(q, .inr (2, [.int 0, .int 0, .int 0, .int 0, .ref h1, .ref h2, .ref h3, .ref h4, .ref h5, .int (nI 1), .int (nI 0), .int (nI 0), .int 0, .null, .int 0, .int 0, .int 0, .int 0, .int 0])), (h1, .inr (1, [.ref a1, .int (nI 0)])), (h2, .inr (1, [.ref a2, .int (nI 0)])), (h3, .inr (1, [.ref a3, .int (nI 0)])), (h4, .inr (1, [.ref a4, .int (nI 0)])), (h5, .inr (1, [.ref a5, .int (nI 0)])), (a1, .inl (E.2.2.1, 600, .inr (.inl (fun _ => 0)))), (a2, .inl (E.2.2.1, 600, .inr (.inl (fun _ => 0)))), (a3, .inl (E.2.2.1, 601, .inr (.inl (fun _ => 0)))), (a4, .inl (E.2.2.1, 601, .inr (.inl (fun _ => 0)))), (a5, .inl (E.2.2.1, 601, .inr (.inl (fun _ => 0))))] s H locs := Wd
  refine lv_aload_n C.hx C.hb dX2_init_89 rfl (lv_at hl 0 rfl) ?_
  refine lv_iconst (v := nI 0) C.hx C.hb dX2_init_90 (by decide) ?_
  refine putf C Wd 0 rfl rfl in_X2 tyX2 tyX2_ok nmX2 12 (by decide) tw_87 rfl (ty := .boolean) (by decide +kernel) rfl rfl (Nat.le_of_ble_eq_true rfl) dX2_init_91 (fun H locs Wd => ?_)
  have Wd : Wl E _ [(q, .inr (2, [.int 0, .int 0, .int 0, .int 0, .ref h1, .ref h2, .ref h3, .ref h4, .ref h5, .int (nI 1), .int (nI 0), .int (nI 0), .int (nI 0), .null, .int 0, .int 0, .int 0, .int 0, .int 0])), (h1, .inr (1, [.ref a1, .int (nI 0)])), (h2, .inr (1, [.ref a2, .int (nI 0)])), (h3, .inr (1, [.ref a3, .int (nI 0)])), (h4, .inr (1, [.ref a4, .int (nI 0)])), (h5, .inr (1, [.ref a5, .int (nI 0)])), (a1, .inl (E.2.2.1, 600, .inr (.inl (fun _ => 0)))), (a2, .inl (E.2.2.1, 600, .inr (.inl (fun _ => 0)))), (a3, .inl (E.2.2.1, 601, .inr (.inl (fun _ => 0)))), (a4, .inl (E.2.2.1, 601, .inr (.inl (fun _ => 0)))), (a5, .inl (E.2.2.1, 601, .inr (.inl (fun _ => 0))))] s H locs := Wd
  refine lv_aload_n C.hx C.hb dX2_init_94 rfl (lv_at hl 0 rfl) ?_
  refine va_gets (n := "HALVES") C.hx C.hb (C.hE.1 0 (by decide)).1 Wd.2.2 C.hown (C.hts _ tw_39) (fun _ h => h) dX2_init_95 ?_
  refine putf C Wd 0 rfl rfl in_X2 tyX2 tyX2_ok nmX2 13 (by decide) tw_88 rfl (ty := .object "IntervalSplits$Kind") (by decide +kernel) rfl rfl (Nat.le_of_ble_eq_true rfl) dX2_init_98 (fun H locs Wd => ?_)
  have Wd : Wl E _ [(q, .inr (2, [.int 0, .int 0, .int 0, .int 0, .ref h1, .ref h2, .ref h3, .ref h4, .ref h5, .int (nI 1), .int (nI 0), .int (nI 0), .int (nI 0), .ref (E.2.2.2 0), .int 0, .int 0, .int 0, .int 0, .int 0])), (h1, .inr (1, [.ref a1, .int (nI 0)])), (h2, .inr (1, [.ref a2, .int (nI 0)])), (h3, .inr (1, [.ref a3, .int (nI 0)])), (h4, .inr (1, [.ref a4, .int (nI 0)])), (h5, .inr (1, [.ref a5, .int (nI 0)])), (a1, .inl (E.2.2.1, 600, .inr (.inl (fun _ => 0)))), (a2, .inl (E.2.2.1, 600, .inr (.inl (fun _ => 0)))), (a3, .inl (E.2.2.1, 601, .inr (.inl (fun _ => 0)))), (a4, .inl (E.2.2.1, 601, .inr (.inl (fun _ => 0)))), (a5, .inl (E.2.2.1, 601, .inr (.inl (fun _ => 0))))] s H locs := Wd
  refine lv_aload_n C.hx C.hb dX2_init_101 rfl (lv_at hl 0 rfl) ?_
  refine lv_iconst (v := nI 0) C.hx C.hb dX2_init_102 (by decide) ?_
  refine putf C Wd 0 rfl rfl in_X2 tyX2 tyX2_ok nmX2 14 (by decide) tw_89 rfl (ty := .int) (by decide +kernel) rfl rfl (Nat.le_of_ble_eq_true rfl) dX2_init_103 (fun H locs Wd => ?_)
  have Wd : Wl E _ [(q, .inr (2, [.int 0, .int 0, .int 0, .int 0, .ref h1, .ref h2, .ref h3, .ref h4, .ref h5, .int (nI 1), .int (nI 0), .int (nI 0), .int (nI 0), .ref (E.2.2.2 0), .int (nI 0), .int 0, .int 0, .int 0, .int 0])), (h1, .inr (1, [.ref a1, .int (nI 0)])), (h2, .inr (1, [.ref a2, .int (nI 0)])), (h3, .inr (1, [.ref a3, .int (nI 0)])), (h4, .inr (1, [.ref a4, .int (nI 0)])), (h5, .inr (1, [.ref a5, .int (nI 0)])), (a1, .inl (E.2.2.1, 600, .inr (.inl (fun _ => 0)))), (a2, .inl (E.2.2.1, 600, .inr (.inl (fun _ => 0)))), (a3, .inl (E.2.2.1, 601, .inr (.inl (fun _ => 0)))), (a4, .inl (E.2.2.1, 601, .inr (.inl (fun _ => 0)))), (a5, .inl (E.2.2.1, 601, .inr (.inl (fun _ => 0))))] s H locs := Wd
  refine lv_aload_n C.hx C.hb dX2_init_106 rfl (lv_at hl 0 rfl) ?_
  refine lv_iconst (v := nI 0) C.hx C.hb dX2_init_107 (by decide) ?_
  refine putf C Wd 0 rfl rfl in_X2 tyX2 tyX2_ok nmX2 15 (by decide) tw_90 rfl (ty := .int) (by decide +kernel) rfl rfl (Nat.le_of_ble_eq_true rfl) dX2_init_108 (fun H locs Wd => ?_)
  have Wd : Wl E _ [(q, .inr (2, [.int 0, .int 0, .int 0, .int 0, .ref h1, .ref h2, .ref h3, .ref h4, .ref h5, .int (nI 1), .int (nI 0), .int (nI 0), .int (nI 0), .ref (E.2.2.2 0), .int (nI 0), .int (nI 0), .int 0, .int 0, .int 0])), (h1, .inr (1, [.ref a1, .int (nI 0)])), (h2, .inr (1, [.ref a2, .int (nI 0)])), (h3, .inr (1, [.ref a3, .int (nI 0)])), (h4, .inr (1, [.ref a4, .int (nI 0)])), (h5, .inr (1, [.ref a5, .int (nI 0)])), (a1, .inl (E.2.2.1, 600, .inr (.inl (fun _ => 0)))), (a2, .inl (E.2.2.1, 600, .inr (.inl (fun _ => 0)))), (a3, .inl (E.2.2.1, 601, .inr (.inl (fun _ => 0)))), (a4, .inl (E.2.2.1, 601, .inr (.inl (fun _ => 0)))), (a5, .inl (E.2.2.1, 601, .inr (.inl (fun _ => 0))))] s H locs := Wd
  refine lv_aload_n C.hx C.hb dX2_init_111 rfl (lv_at hl 0 rfl) ?_
  refine lv_iconst (v := nI 0) C.hx C.hb dX2_init_112 (by decide) ?_
  refine putf C Wd 0 rfl rfl in_X2 tyX2 tyX2_ok nmX2 16 (by decide) tw_91 rfl (ty := .int) (by decide +kernel) rfl rfl (Nat.le_of_ble_eq_true rfl) dX2_init_113 (fun H locs Wd => ?_)
  have Wd : Wl E _ [(q, .inr (2, [.int 0, .int 0, .int 0, .int 0, .ref h1, .ref h2, .ref h3, .ref h4, .ref h5, .int (nI 1), .int (nI 0), .int (nI 0), .int (nI 0), .ref (E.2.2.2 0), .int (nI 0), .int (nI 0), .int (nI 0), .int 0, .int 0])), (h1, .inr (1, [.ref a1, .int (nI 0)])), (h2, .inr (1, [.ref a2, .int (nI 0)])), (h3, .inr (1, [.ref a3, .int (nI 0)])), (h4, .inr (1, [.ref a4, .int (nI 0)])), (h5, .inr (1, [.ref a5, .int (nI 0)])), (a1, .inl (E.2.2.1, 600, .inr (.inl (fun _ => 0)))), (a2, .inl (E.2.2.1, 600, .inr (.inl (fun _ => 0)))), (a3, .inl (E.2.2.1, 601, .inr (.inl (fun _ => 0)))), (a4, .inl (E.2.2.1, 601, .inr (.inl (fun _ => 0)))), (a5, .inl (E.2.2.1, 601, .inr (.inl (fun _ => 0))))] s H locs := Wd
  refine lv_aload_n C.hx C.hb dX2_init_116 rfl (lv_at hl 0 rfl) ?_
  refine lv_iconst (v := nI 0) C.hx C.hb dX2_init_117 (by decide) ?_
  refine putf C Wd 0 rfl rfl in_X2 tyX2 tyX2_ok nmX2 17 (by decide) tw_92 rfl (ty := .int) (by decide +kernel) rfl rfl (Nat.le_of_ble_eq_true rfl) dX2_init_118 (fun H locs Wd => ?_)
  have Wd : Wl E _ [(q, .inr (2, [.int 0, .int 0, .int 0, .int 0, .ref h1, .ref h2, .ref h3, .ref h4, .ref h5, .int (nI 1), .int (nI 0), .int (nI 0), .int (nI 0), .ref (E.2.2.2 0), .int (nI 0), .int (nI 0), .int (nI 0), .int (nI 0), .int 0])), (h1, .inr (1, [.ref a1, .int (nI 0)])), (h2, .inr (1, [.ref a2, .int (nI 0)])), (h3, .inr (1, [.ref a3, .int (nI 0)])), (h4, .inr (1, [.ref a4, .int (nI 0)])), (h5, .inr (1, [.ref a5, .int (nI 0)])), (a1, .inl (E.2.2.1, 600, .inr (.inl (fun _ => 0)))), (a2, .inl (E.2.2.1, 600, .inr (.inl (fun _ => 0)))), (a3, .inl (E.2.2.1, 601, .inr (.inl (fun _ => 0)))), (a4, .inl (E.2.2.1, 601, .inr (.inl (fun _ => 0)))), (a5, .inl (E.2.2.1, 601, .inr (.inl (fun _ => 0))))] s H locs := Wd
  refine lv_aload_n C.hx C.hb dX2_init_121 rfl (lv_at hl 0 rfl) ?_
  refine lv_iconst (v := nI 0) C.hx C.hb dX2_init_122 (by decide) ?_
  refine putf C Wd 0 rfl rfl in_X2 tyX2 tyX2_ok nmX2 18 (by decide) tw_93 rfl (ty := .int) (by decide +kernel) rfl rfl (Nat.le_of_ble_eq_true rfl) dX2_init_123 (fun H locs Wd => ?_)
  have Wd : Wl E _ [(q, .inr (2, [.int 0, .int 0, .int 0, .int 0, .ref h1, .ref h2, .ref h3, .ref h4, .ref h5, .int (nI 1), .int (nI 0), .int (nI 0), .int (nI 0), .ref (E.2.2.2 0), .int (nI 0), .int (nI 0), .int (nI 0), .int (nI 0), .int (nI 0)])), (h1, .inr (1, [.ref a1, .int (nI 0)])), (h2, .inr (1, [.ref a2, .int (nI 0)])), (h3, .inr (1, [.ref a3, .int (nI 0)])), (h4, .inr (1, [.ref a4, .int (nI 0)])), (h5, .inr (1, [.ref a5, .int (nI 0)])), (a1, .inl (E.2.2.1, 600, .inr (.inl (fun _ => 0)))), (a2, .inl (E.2.2.1, 600, .inr (.inl (fun _ => 0)))), (a3, .inl (E.2.2.1, 601, .inr (.inl (fun _ => 0)))), (a4, .inl (E.2.2.1, 601, .inr (.inl (fun _ => 0)))), (a5, .inl (E.2.2.1, 601, .inr (.inl (fun _ => 0))))] s H locs := Wd
  obtain ⟨z, hz⟩ : ∃ z : Nat → Nat, z = fun k => [q, h1, h2, h3, h4, h5, a1, a2, a3, a4, a5].getD k 0 := ⟨_, rfl⟩
  have hz0 : z 0 = q := by rw [hz]; rfl
  have X : X2w E _ z vI2 0 [] [] [] [] [] s H locs := ⟨fun _ _ => 0, by subst hz; exact Wd, ⟨Nat.zero_le _, fun j hj => absurd hj (Nat.not_lt_zero j)⟩, ⟨Nat.zero_le _, fun j hj => absurd hj (Nat.not_lt_zero j)⟩, ⟨Nat.zero_le _, fun j hj => absurd hj (Nat.not_lt_zero j)⟩, ⟨Nat.zero_le _, fun j hj => absurd hj (Nat.not_lt_zero j)⟩, ⟨Nat.zero_le _, fun j hj => absurd hj (Nat.not_lt_zero j)⟩⟩
  have hl : lv_has ls 7 [(0, .ref (z 0)), (1, .int x1), (2, .int x2), (3, .int x3), (4, .int x4)] := by rw [hz0]; exact hl
  have q1 := hd_b (x := x4) (lo := 1) (hi := 100) (by decide) (by decide)
  have q2 := hd_b (x := x3) (lo := 1) (hi := hd x4 1 100) q1.1 (by omega)
  have q3 := hd_b (x := x1) (lo := 1) (hi := 1000) (by decide) (by decide)
  have q4 := hd_b (x := x2) (lo := 2) (hi := 20) (by decide) (by decide)
  have q5 : hd x1 1 1000 * hd x3 1 (hd x4 1 100) ≤ 1000 * 100 := Nat.mul_le_mul q3.2 (by omega)
  have q6 : hd x2 2 20 * hd x3 1 (hd x4 1 100) ≤ 20 * 100 := Nat.mul_le_mul q4.2 (by omega)
  have q7 : hd x2 2 20 * hd x3 1 (hd x4 1 100) / hd x4 1 100 ≤ 20 * 100 := Nat.le_trans (Nat.div_le_self _ _) q6
  have q8 : hd x1 1 1000 * hd x3 1 (hd x4 1 100) / hd x4 1 100 ≤ 1000 * 100 := Nat.le_trans (Nat.div_le_self _ _) q5
  refine lv_iload C.hx C.hb dX2_init_126 (lv_at hl 4 rfl) ?_
  refine lv_iconst (v := nI (1)) C.hx C.hb dX2_init_128 (by decide) ?_
  refine lv_bipush (v := nI (100)) C.hx C.hb dX2_init_129 (by decide) ?_
  refine call_r (runS (As := [.int (x4), .int (nI (1)), .int (nI (100))]) (rest := []) C X.choose_spec.1 (c2_heldTo (x := x4) (lo := 1) (hi := 100) (by omega) (by omega)) wy_X2_heldTo tw_41 ⟨by decide, by decide⟩ rfl hl.1 rfl (Nat.le_of_ble_eq_true rfl) dX2_init_131 ⟨by decide, by decide⟩) (fun r hp => ?_)
  subst hp
  refine W.eq (g2 := F0 m 134 ls [.int (nI (hd x4 1 100))]) rfl ?_
  refine lv_istore (lv' := [(5, .int (nI (hd x4 1 100))), (0, .ref (z 0)), (1, .int (x1)), (2, .int (x2)), (3, .int (x3)), (4, .int (x4))]) C.hx C.hb dX2_init_134 hl (by decide) rfl (fun ls hl => ?_)
  refine lv_iload_n C.hx C.hb dX2_init_136 rfl (lv_at hl 4 rfl) ?_
  refine lv_iconst (v := nI (1)) C.hx C.hb dX2_init_137 (by decide) ?_
  refine lv_iload C.hx C.hb dX2_init_138 (lv_at hl 0 rfl) ?_
  refine call_r (runS (As := [.int (x3), .int (nI (1)), .int (nI (hd x4 1 100))]) (rest := []) C X.choose_spec.1 (c2_heldTo (x := x3) (lo := 1) (hi := (hd x4 1 100)) (by omega) (by omega)) wy_X2_heldTo tw_41 ⟨by decide, by decide⟩ rfl hl.1 rfl (Nat.le_of_ble_eq_true rfl) dX2_init_140 ⟨by decide, by decide⟩) (fun r hp => ?_)
  subst hp
  refine W.eq (g2 := F0 m 143 ls [.int (nI (hd x3 1 (hd x4 1 100)))]) rfl ?_
  refine lv_istore (lv' := [(6, .int (nI (hd x3 1 (hd x4 1 100)))), (5, .int (nI (hd x4 1 100))), (0, .ref (z 0)), (1, .int (x1)), (2, .int (x2)), (3, .int (x3)), (4, .int (x4))]) C.hx C.hb dX2_init_143 hl (by decide) rfl (fun ls hl => ?_)
  refine lv_aload_n C.hx C.hb dX2_init_145 rfl (lv_at hl 2 rfl) ?_
  refine lv_iload_n C.hx C.hb dX2_init_146 rfl (lv_at hl 3 rfl) ?_
  refine lv_iconst (v := nI (1)) C.hx C.hb dX2_init_147 (by decide) ?_
  refine lv_sipush (v := nI (1000)) C.hx C.hb dX2_init_148 (by decide) ?_
  refine call_r (runS (As := [.int (x1), .int (nI (1)), .int (nI (1000))]) (rest := [.ref (z 0)]) C X.choose_spec.1 (c2_heldTo (x := x1) (lo := 1) (hi := 1000) (by omega) (by omega)) wy_X2_heldTo tw_41 ⟨by decide, by decide⟩ rfl hl.1 rfl (Nat.le_of_ble_eq_true rfl) dX2_init_151 ⟨by decide, by decide⟩) (fun r hp => ?_)
  subst hp
  refine W.eq (g2 := F0 m 154 ls [.int (nI (hd x1 1 1000)), .ref (z 0)]) rfl ?_
  refine x2F_0 C X hin dX2_init_154 (fun H locs X => ?_)
  refine lv_aload_n C.hx C.hb dX2_init_157 rfl (lv_at hl 2 rfl) ?_
  refine lv_iload_n C.hx C.hb dX2_init_158 rfl (lv_at hl 4 rfl) ?_
  refine lv_iconst (v := nI (2)) C.hx C.hb dX2_init_159 (by decide) ?_
  refine lv_bipush (v := nI (20)) C.hx C.hb dX2_init_160 (by decide) ?_
  refine call_r (runS (As := [.int (x2), .int (nI (2)), .int (nI (20))]) (rest := [.ref (z 0)]) C X.choose_spec.1 (c2_heldTo (x := x2) (lo := 2) (hi := 20) (by omega) (by omega)) wy_X2_heldTo tw_41 ⟨by decide, by decide⟩ rfl hl.1 rfl (Nat.le_of_ble_eq_true rfl) dX2_init_162 ⟨by decide, by decide⟩) (fun r hp => ?_)
  subst hp
  refine W.eq (g2 := F0 m 165 ls [.int (nI (hd x2 2 20)), .ref (z 0)]) rfl ?_
  refine x2F_1 C X hin dX2_init_165 (fun H locs X => ?_)
  refine lv_aload_n C.hx C.hb dX2_init_168 rfl (lv_at hl 2 rfl) ?_
  refine lv_aload_n C.hx C.hb dX2_init_169 rfl (lv_at hl 2 rfl) ?_
  refine x2g_0 C X (x := nI (hd x1 1 1000)) rfl dX2_init_170 ?_
  refine lv_iload C.hx C.hb dX2_init_173 (lv_at hl 0 rfl) ?_
  refine n_mul C dX2_init_175 ?_
  refine lv_iload C.hx C.hb dX2_init_176 (lv_at hl 1 rfl) ?_
  refine n_div C dX2_init_178 (by omega) (by omega) (by omega) ?_
  refine x2F_2 C X hin dX2_init_179 (fun H locs X => ?_)
  refine lv_aload_n C.hx C.hb dX2_init_182 rfl (lv_at hl 2 rfl) ?_
  refine lv_iconst (v := nI (1)) C.hx C.hb dX2_init_183 (by decide) ?_
  refine lv_aload_n C.hx C.hb dX2_init_184 rfl (lv_at hl 2 rfl) ?_
  refine x2g_1 C X (x := nI (hd x2 2 20)) rfl dX2_init_185 ?_
  refine lv_iload C.hx C.hb dX2_init_188 (lv_at hl 0 rfl) ?_
  refine n_mul C dX2_init_190 ?_
  refine lv_iload C.hx C.hb dX2_init_191 (lv_at hl 1 rfl) ?_
  refine n_div C dX2_init_193 (by omega) (by omega) (by omega) ?_
  refine va_mmax C.hx C.hb (C.hml.trans hl.1.symm) C.hown (C.hts _ tw_47) (C.hts _ tw_28) (C.hts _ tw_3) (C.hts _ tw_29) (by decide) (Nat.le_of_ble_eq_true rfl) (by decide) (by decide) dX2_init_194 ?_
  refine n_re (j := nI (max 1 (((hd x2 2 20) * (hd x3 1 (hd x4 1 100))) / (hd x4 1 100)))) (nmax (by omega) (by omega)) ?_
  refine x2F_3 C X hin dX2_init_197 (fun H locs X => ?_)
  refine lv_aload_n C.hx C.hb dX2_init_200 rfl (lv_at hl 2 rfl) ?_
  refine lv_iconst (v := nI (0)) C.hx C.hb dX2_init_201 (by decide) ?_
  refine x2_cw (As := [.int (nI (0))]) (rest := []) C X (c2_layInterval (nx := 1) (lw := max 1 ((hd x2 2 20) * (hd x3 1 (hd x4 1 100)) / (hd x4 1 100))) rfl rfl (by omega) (by decide) (by decide) (by decide) (by decide) (by decide) (by decide)) wy_X2_layInterval ts_0 tw_48 rfl ⟨by decide, by decide⟩ rfl hl.1 rfl (Nat.le_of_ble_eq_true rfl) ⟨by decide, by decide⟩ dX2_init_202 (fun r v' kd' K' L' N' S' P' H locs hp X => ?_)
  obtain ⟨rfl, rfl, rfl, rfl, rfl, rfl, rfl, rfl⟩ := hp
  refine W.eq (g2 := F0 m 205 ls []) rfl ?_
  obtain ⟨f, Wd, hf⟩ := X
  exact ret_vw C Wd ⟨z, f, _, rfl, hz0, rfl, hf, rfl, rfl, rfl, rfl, rfl, rfl, rfl, rfl, rfl, rfl, rfl⟩ dX2_init_205
def d20 : List Value := [.int 0, .int 0, .int 0, .int 0, .int 0, .null, .null, .null, .int 0, .null, .null, .int 0, .int 0, .int 0, .int 0, .int 0, .int 0, .int 0, .int 0, .null]
def vI3 : Nat → Int32 := fun k => if k = 11 then nI 1 else if k = 12 then nI 2 else if k = 13 then nI 1 else nI 0
set_option maxHeartbeats 4000000 in
set_option maxRecDepth 100000 in
/-- a new object of the reference -/
theorem c3_init {l : Launch} {E : Gq} {q : Nat} {x1 x2 x3 x4 : Int32} : ∀ sz : Nat, Met l yX3_init (.code yX3_init cX3_init 7 none :: LT) (Rm 2 6 4407) (Pw E [.ref q, .int x1, .int x2, .int x3, .int x4] [(q, .inr (3, d20))] sz) (Qw E [(q, .inr (3, d20))] sz (fun r ws' => ∃ (z : Nat → Nat) (v : Nat → Int32), r = none ∧ z 0 = q ∧ ws' = w3 E z v (fun _ => 0) (fun _ => 0) (fun _ => 0) (va_up (fun _ => 0) 0 1) (va_up (fun _ => 0) 0 0) (fun _ => nI 0) ∧ v 1 = nI (hd x1 1 1000) ∧ v 2 = nI (hd x2 2 20) ∧ v 3 = nI ((hd x1 1 1000) * (hd x3 1 (hd x4 1 100)) / (hd x4 1 100)) ∧ v 4 = nI ((hd x2 2 20) * (hd x3 1 (hd x4 1 100)) / (hd x4 1 100)) ∧ v 8 = nI 0 ∧ v 11 = nI 1 ∧ v 12 = nI 2 ∧ v 13 = nI 1 ∧ v 14 = nI 0 ∧ v 17 = nI 0)) 6 4407 (va_A [(q, .inr (3, d20))] sz) := by
  refine mk_i (by decide) (Nat.le_of_ble_eq_true rfl) ?_
  intro p e s m below meth c ls C Wd hin hl
  have hl : lv_has ls 7 [(0, .ref q), (1, .int x1), (2, .int x2), (3, .int x3), (4, .int x4)] := hl
  refine lv_aload_n C.hx C.hb dX3_init_0 rfl (lv_at hl 0 rfl) ?_
  refine objI C tw_361 hl.1 (Nat.le_of_ble_eq_true rfl) ⟨by decide, by decide⟩ dX3_init_1 ?_
  refine lv_aload_n C.hx C.hb dX3_init_4 rfl (lv_at hl 0 rfl) ?_
  refine lv_sipush (v := nI 601) C.hx C.hb dX3_init_5 (by decide) ?_
  refine newJ C Wd (N := 601) (by decide) (by decide) (by decide) dX3_init_8 (fun a1 H Wd => ?_)
  have Wd : Wl E _ [(q, .inr (3, [.int 0, .int 0, .int 0, .int 0, .int 0, .null, .null, .null, .int 0, .null, .null, .int 0, .int 0, .int 0, .int 0, .int 0, .int 0, .int 0, .int 0, .null])), (a1, .inl (E.2.2.1, 601, .inr (.inl (fun _ => 0))))] s H _ := Wd
  refine putF (q0 := 0) C Wd hin 0 rfl rfl in_X3 tyX3 tyX3_ok nmX3 5 (by decide) tw_370 rfl rfl (ty := .array .long) (by decide +kernel) rfl rfl (Nat.le_of_ble_eq_true rfl) dX3_init_10 (fun H locs Wd => ?_)
  have Wd : Wl E _ [(q, .inr (3, [.int 0, .int 0, .int 0, .int 0, .int 0, .ref a1, .null, .null, .int 0, .null, .null, .int 0, .int 0, .int 0, .int 0, .int 0, .int 0, .int 0, .int 0, .null])), (a1, .inl (E.2.2.1, 601, .inr (.inl (fun _ => 0))))] s H locs := Wd
  refine lv_aload_n C.hx C.hb dX3_init_13 rfl (lv_at hl 0 rfl) ?_
  refine lv_sipush (v := nI 601) C.hx C.hb dX3_init_14 (by decide) ?_
  refine newI C Wd (N := 601) (by decide) tw_426 (by decide) (by decide) dX3_init_17 (fun a2 H Wd => ?_)
  have Wd : Wl E _ [(q, .inr (3, [.int 0, .int 0, .int 0, .int 0, .int 0, .ref a1, .null, .null, .int 0, .null, .null, .int 0, .int 0, .int 0, .int 0, .int 0, .int 0, .int 0, .int 0, .null])), (a1, .inl (E.2.2.1, 601, .inr (.inl (fun _ => 0)))), (a2, .inl (E.2.1, 601, .inl (fun _ => nI 0)))] s H _ := Wd
  refine putF (q0 := 0) C Wd hin 0 rfl rfl in_X3 tyX3 tyX3_ok nmX3 6 (by decide) tw_371 rfl rfl (ty := .array .int) (by decide +kernel) rfl rfl (Nat.le_of_ble_eq_true rfl) dX3_init_19 (fun H locs Wd => ?_)
  have Wd : Wl E _ [(q, .inr (3, [.int 0, .int 0, .int 0, .int 0, .int 0, .ref a1, .ref a2, .null, .int 0, .null, .null, .int 0, .int 0, .int 0, .int 0, .int 0, .int 0, .int 0, .int 0, .null])), (a1, .inl (E.2.2.1, 601, .inr (.inl (fun _ => 0)))), (a2, .inl (E.2.1, 601, .inl (fun _ => nI 0)))] s H locs := Wd
  refine lv_aload_n C.hx C.hb dX3_init_22 rfl (lv_at hl 0 rfl) ?_
  refine lv_sipush (v := nI 601) C.hx C.hb dX3_init_23 (by decide) ?_
  refine newI C Wd (N := 601) (by decide) tw_426 (by decide) (by decide) dX3_init_26 (fun a3 H Wd => ?_)
  have Wd : Wl E _ [(q, .inr (3, [.int 0, .int 0, .int 0, .int 0, .int 0, .ref a1, .ref a2, .null, .int 0, .null, .null, .int 0, .int 0, .int 0, .int 0, .int 0, .int 0, .int 0, .int 0, .null])), (a1, .inl (E.2.2.1, 601, .inr (.inl (fun _ => 0)))), (a2, .inl (E.2.1, 601, .inl (fun _ => nI 0))), (a3, .inl (E.2.1, 601, .inl (fun _ => nI 0)))] s H _ := Wd
  refine putF (q0 := 0) C Wd hin 0 rfl rfl in_X3 tyX3 tyX3_ok nmX3 7 (by decide) tw_372 rfl rfl (ty := .array .int) (by decide +kernel) rfl rfl (Nat.le_of_ble_eq_true rfl) dX3_init_28 (fun H locs Wd => ?_)
  have Wd : Wl E _ [(q, .inr (3, [.int 0, .int 0, .int 0, .int 0, .int 0, .ref a1, .ref a2, .ref a3, .int 0, .null, .null, .int 0, .int 0, .int 0, .int 0, .int 0, .int 0, .int 0, .int 0, .null])), (a1, .inl (E.2.2.1, 601, .inr (.inl (fun _ => 0)))), (a2, .inl (E.2.1, 601, .inl (fun _ => nI 0))), (a3, .inl (E.2.1, 601, .inl (fun _ => nI 0)))] s H locs := Wd
  refine lv_aload_n C.hx C.hb dX3_init_31 rfl (lv_at hl 0 rfl) ?_
  refine lv_sipush (v := nI 1300) C.hx C.hb dX3_init_32 (by decide) ?_
  refine newI C Wd (N := 1300) (by decide) tw_426 (by decide) (by decide) dX3_init_35 (fun a4 H Wd => ?_)
  have Wd : Wl E _ [(q, .inr (3, [.int 0, .int 0, .int 0, .int 0, .int 0, .ref a1, .ref a2, .ref a3, .int 0, .null, .null, .int 0, .int 0, .int 0, .int 0, .int 0, .int 0, .int 0, .int 0, .null])), (a1, .inl (E.2.2.1, 601, .inr (.inl (fun _ => 0)))), (a2, .inl (E.2.1, 601, .inl (fun _ => nI 0))), (a3, .inl (E.2.1, 601, .inl (fun _ => nI 0))), (a4, .inl (E.2.1, 1300, .inl (fun _ => nI 0)))] s H _ := Wd
  refine putF (q0 := 0) C Wd hin 0 rfl rfl in_X3 tyX3 tyX3_ok nmX3 9 (by decide) tw_374 rfl rfl (ty := .array .int) (by decide +kernel) rfl rfl (Nat.le_of_ble_eq_true rfl) dX3_init_37 (fun H locs Wd => ?_)
  have Wd : Wl E _ [(q, .inr (3, [.int 0, .int 0, .int 0, .int 0, .int 0, .ref a1, .ref a2, .ref a3, .int 0, .ref a4, .null, .int 0, .int 0, .int 0, .int 0, .int 0, .int 0, .int 0, .int 0, .null])), (a1, .inl (E.2.2.1, 601, .inr (.inl (fun _ => 0)))), (a2, .inl (E.2.1, 601, .inl (fun _ => nI 0))), (a3, .inl (E.2.1, 601, .inl (fun _ => nI 0))), (a4, .inl (E.2.1, 1300, .inl (fun _ => nI 0)))] s H locs := Wd
  refine lv_aload_n C.hx C.hb dX3_init_40 rfl (lv_at hl 0 rfl) ?_
  refine lv_sipush (v := nI 1300) C.hx C.hb dX3_init_41 (by decide) ?_
  refine newI C Wd (N := 1300) (by decide) tw_426 (by decide) (by decide) dX3_init_44 (fun a5 H Wd => ?_)
  have Wd : Wl E _ [(q, .inr (3, [.int 0, .int 0, .int 0, .int 0, .int 0, .ref a1, .ref a2, .ref a3, .int 0, .ref a4, .null, .int 0, .int 0, .int 0, .int 0, .int 0, .int 0, .int 0, .int 0, .null])), (a1, .inl (E.2.2.1, 601, .inr (.inl (fun _ => 0)))), (a2, .inl (E.2.1, 601, .inl (fun _ => nI 0))), (a3, .inl (E.2.1, 601, .inl (fun _ => nI 0))), (a4, .inl (E.2.1, 1300, .inl (fun _ => nI 0))), (a5, .inl (E.2.1, 1300, .inl (fun _ => nI 0)))] s H _ := Wd
  refine putF (q0 := 0) C Wd hin 0 rfl rfl in_X3 tyX3 tyX3_ok nmX3 10 (by decide) tw_375 rfl rfl (ty := .array .int) (by decide +kernel) rfl rfl (Nat.le_of_ble_eq_true rfl) dX3_init_46 (fun H locs Wd => ?_)
  have Wd : Wl E _ [(q, .inr (3, [.int 0, .int 0, .int 0, .int 0, .int 0, .ref a1, .ref a2, .ref a3, .int 0, .ref a4, .ref a5, .int 0, .int 0, .int 0, .int 0, .int 0, .int 0, .int 0, .int 0, .null])), (a1, .inl (E.2.2.1, 601, .inr (.inl (fun _ => 0)))), (a2, .inl (E.2.1, 601, .inl (fun _ => nI 0))), (a3, .inl (E.2.1, 601, .inl (fun _ => nI 0))), (a4, .inl (E.2.1, 1300, .inl (fun _ => nI 0))), (a5, .inl (E.2.1, 1300, .inl (fun _ => nI 0)))] s H locs := Wd
  refine lv_aload_n C.hx C.hb dX3_init_49 rfl (lv_at hl 0 rfl) ?_
  refine lv_iconst (v := nI 1) C.hx C.hb dX3_init_50 (by decide) ?_
  refine putf C Wd 0 rfl rfl in_X3 tyX3 tyX3_ok nmX3 11 (by decide) tw_376 rfl (ty := .int) (by decide +kernel) rfl rfl (Nat.le_of_ble_eq_true rfl) dX3_init_51 (fun H locs Wd => ?_)
  have Wd : Wl E _ [(q, .inr (3, [.int 0, .int 0, .int 0, .int 0, .int 0, .ref a1, .ref a2, .ref a3, .int 0, .ref a4, .ref a5, .int (nI 1), .int 0, .int 0, .int 0, .int 0, .int 0, .int 0, .int 0, .null])), (a1, .inl (E.2.2.1, 601, .inr (.inl (fun _ => 0)))), (a2, .inl (E.2.1, 601, .inl (fun _ => nI 0))), (a3, .inl (E.2.1, 601, .inl (fun _ => nI 0))), (a4, .inl (E.2.1, 1300, .inl (fun _ => nI 0))), (a5, .inl (E.2.1, 1300, .inl (fun _ => nI 0)))] s H locs := Wd
  refine lv_aload_n C.hx C.hb dX3_init_54 rfl (lv_at hl 0 rfl) ?_
  refine lv_iconst (v := nI 2) C.hx C.hb dX3_init_55 (by decide) ?_
  refine putf C Wd 0 rfl rfl in_X3 tyX3 tyX3_ok nmX3 12 (by decide) tw_377 rfl (ty := .int) (by decide +kernel) rfl rfl (Nat.le_of_ble_eq_true rfl) dX3_init_56 (fun H locs Wd => ?_)
  have Wd : Wl E _ [(q, .inr (3, [.int 0, .int 0, .int 0, .int 0, .int 0, .ref a1, .ref a2, .ref a3, .int 0, .ref a4, .ref a5, .int (nI 1), .int (nI 2), .int 0, .int 0, .int 0, .int 0, .int 0, .int 0, .null])), (a1, .inl (E.2.2.1, 601, .inr (.inl (fun _ => 0)))), (a2, .inl (E.2.1, 601, .inl (fun _ => nI 0))), (a3, .inl (E.2.1, 601, .inl (fun _ => nI 0))), (a4, .inl (E.2.1, 1300, .inl (fun _ => nI 0))), (a5, .inl (E.2.1, 1300, .inl (fun _ => nI 0)))] s H locs := Wd
  refine lv_aload_n C.hx C.hb dX3_init_59 rfl (lv_at hl 0 rfl) ?_
  refine lv_iconst (v := nI 1) C.hx C.hb dX3_init_60 (by decide) ?_
  refine putf C Wd 0 rfl rfl in_X3 tyX3 tyX3_ok nmX3 13 (by decide) tw_378 rfl (ty := .int) (by decide +kernel) rfl rfl (Nat.le_of_ble_eq_true rfl) dX3_init_61 (fun H locs Wd => ?_)
  have Wd : Wl E _ [(q, .inr (3, [.int 0, .int 0, .int 0, .int 0, .int 0, .ref a1, .ref a2, .ref a3, .int 0, .ref a4, .ref a5, .int (nI 1), .int (nI 2), .int (nI 1), .int 0, .int 0, .int 0, .int 0, .int 0, .null])), (a1, .inl (E.2.2.1, 601, .inr (.inl (fun _ => 0)))), (a2, .inl (E.2.1, 601, .inl (fun _ => nI 0))), (a3, .inl (E.2.1, 601, .inl (fun _ => nI 0))), (a4, .inl (E.2.1, 1300, .inl (fun _ => nI 0))), (a5, .inl (E.2.1, 1300, .inl (fun _ => nI 0)))] s H locs := Wd
  refine lv_aload_n C.hx C.hb dX3_init_64 rfl (lv_at hl 0 rfl) ?_
  refine lv_iconst (v := nI 4) C.hx C.hb dX3_init_65 (by decide) ?_
  refine newI C Wd (N := 4) (by decide) tw_426 (by decide) (by decide) dX3_init_66 (fun a6 H Wd => ?_)
  have Wd : Wl E _ [(q, .inr (3, [.int 0, .int 0, .int 0, .int 0, .int 0, .ref a1, .ref a2, .ref a3, .int 0, .ref a4, .ref a5, .int (nI 1), .int (nI 2), .int (nI 1), .int 0, .int 0, .int 0, .int 0, .int 0, .null])), (a1, .inl (E.2.2.1, 601, .inr (.inl (fun _ => 0)))), (a2, .inl (E.2.1, 601, .inl (fun _ => nI 0))), (a3, .inl (E.2.1, 601, .inl (fun _ => nI 0))), (a4, .inl (E.2.1, 1300, .inl (fun _ => nI 0))), (a5, .inl (E.2.1, 1300, .inl (fun _ => nI 0))), (a6, .inl (E.2.1, 4, .inl (fun _ => nI 0)))] s H _ := Wd
  refine putF (q0 := 0) C Wd hin 0 rfl rfl in_X3 tyX3 tyX3_ok nmX3 19 (by decide) tw_384 rfl rfl (ty := .array .int) (by decide +kernel) rfl rfl (Nat.le_of_ble_eq_true rfl) dX3_init_68 (fun H locs Wd => ?_)
  have Wd : Wl E _ [(q, .inr (3, [.int 0, .int 0, .int 0, .int 0, .int 0, .ref a1, .ref a2, .ref a3, .int 0, .ref a4, .ref a5, .int (nI 1), .int (nI 2), .int (nI 1), .int 0, .int 0, .int 0, .int 0, .int 0, .ref a6])), (a1, .inl (E.2.2.1, 601, .inr (.inl (fun _ => 0)))), (a2, .inl (E.2.1, 601, .inl (fun _ => nI 0))), (a3, .inl (E.2.1, 601, .inl (fun _ => nI 0))), (a4, .inl (E.2.1, 1300, .inl (fun _ => nI 0))), (a5, .inl (E.2.1, 1300, .inl (fun _ => nI 0))), (a6, .inl (E.2.1, 4, .inl (fun _ => nI 0)))] s H locs := Wd
  obtain ⟨z, hz⟩ : ∃ z : Nat → Nat, z = fun k => [q, a1, a2, a3, a4, a5, a6].getD k 0 := ⟨_, rfl⟩
  have hz0 : z 0 = q := by rw [hz]; rfl
  have X : X3w E (va_A [(q, .inr (3, d20))] s.heap.size) z vI3 (fun _ => 0) (fun _ => 0) (fun _ => 0) (fun _ => 0) (fun _ => 0) (fun _ => nI 0) s H locs := by subst hz; exact Wd
  have hl : lv_has ls 7 [(0, .ref (z 0)), (1, .int x1), (2, .int x2), (3, .int x3), (4, .int x4)] := by rw [hz0]; exact hl
  have q1 := hd_b (x := x4) (lo := 1) (hi := 100) (by decide) (by decide)
  have q2 := hd_b (x := x3) (lo := 1) (hi := hd x4 1 100) q1.1 (by omega)
  have q3 := hd_b (x := x1) (lo := 1) (hi := 1000) (by decide) (by decide)
  have q4 := hd_b (x := x2) (lo := 2) (hi := 20) (by decide) (by decide)
  have q5 : hd x1 1 1000 * hd x3 1 (hd x4 1 100) ≤ 1000 * 100 := Nat.mul_le_mul q3.2 (by omega)
  have q6 : hd x2 2 20 * hd x3 1 (hd x4 1 100) ≤ 20 * 100 := Nat.mul_le_mul q4.2 (by omega)
  have q7 : hd x2 2 20 * hd x3 1 (hd x4 1 100) / hd x4 1 100 ≤ 20 * 100 := Nat.le_trans (Nat.div_le_self _ _) q6
  have q8 : hd x1 1 1000 * hd x3 1 (hd x4 1 100) / hd x4 1 100 ≤ 1000 * 100 := Nat.le_trans (Nat.div_le_self _ _) q5
  refine lv_aload_n C.hx C.hb dX3_init_71 rfl (lv_at hl 0 rfl) ?_
  refine lv_iload_n C.hx C.hb dX3_init_72 rfl (lv_at hl 1 rfl) ?_
  refine lv_iconst (v := nI (1)) C.hx C.hb dX3_init_73 (by decide) ?_
  refine lv_sipush (v := nI (1000)) C.hx C.hb dX3_init_74 (by decide) ?_
  refine call_r (runS (As := [.int (x1), .int (nI (1)), .int (nI (1000))]) (rest := [.ref (z 0)]) C X (c3_held (x := x1) (lo := 1) (hi := 1000) (by omega) (by omega)) wy_X3_held tw_362 ⟨by decide, by decide⟩ rfl hl.1 rfl (Nat.le_of_ble_eq_true rfl) dX3_init_77 ⟨by decide, by decide⟩) (fun r hp => ?_)
  subst hp
  refine W.eq (g2 := F0 m 80 ls [.int (nI (hd x1 1 1000)), .ref (z 0)]) rfl ?_
  refine x3F_1 C X hin dX3_init_80 (fun H locs X => ?_)
  refine lv_aload_n C.hx C.hb dX3_init_83 rfl (lv_at hl 0 rfl) ?_
  refine lv_iload_n C.hx C.hb dX3_init_84 rfl (lv_at hl 2 rfl) ?_
  refine lv_iconst (v := nI (2)) C.hx C.hb dX3_init_85 (by decide) ?_
  refine lv_bipush (v := nI (20)) C.hx C.hb dX3_init_86 (by decide) ?_
  refine call_r (runS (As := [.int (x2), .int (nI (2)), .int (nI (20))]) (rest := [.ref (z 0)]) C X (c3_held (x := x2) (lo := 2) (hi := 20) (by omega) (by omega)) wy_X3_held tw_362 ⟨by decide, by decide⟩ rfl hl.1 rfl (Nat.le_of_ble_eq_true rfl) dX3_init_88 ⟨by decide, by decide⟩) (fun r hp => ?_)
  subst hp
  refine W.eq (g2 := F0 m 91 ls [.int (nI (hd x2 2 20)), .ref (z 0)]) rfl ?_
  refine x3F_2 C X hin dX3_init_91 (fun H locs X => ?_)
  refine lv_iload C.hx C.hb dX3_init_94 (lv_at hl 4 rfl) ?_
  refine lv_iconst (v := nI (1)) C.hx C.hb dX3_init_96 (by decide) ?_
  refine lv_bipush (v := nI (100)) C.hx C.hb dX3_init_97 (by decide) ?_
  refine call_r (runS (As := [.int (x4), .int (nI (1)), .int (nI (100))]) (rest := []) C X (c3_held (x := x4) (lo := 1) (hi := 100) (by omega) (by omega)) wy_X3_held tw_362 ⟨by decide, by decide⟩ rfl hl.1 rfl (Nat.le_of_ble_eq_true rfl) dX3_init_99 ⟨by decide, by decide⟩) (fun r hp => ?_)
  subst hp
  refine W.eq (g2 := F0 m 102 ls [.int (nI (hd x4 1 100))]) rfl ?_
  refine lv_istore (lv' := [(5, .int (nI (hd x4 1 100))), (0, .ref (z 0)), (1, .int (x1)), (2, .int (x2)), (3, .int (x3)), (4, .int (x4))]) C.hx C.hb dX3_init_102 hl (by decide) rfl (fun ls hl => ?_)
  refine lv_iload_n C.hx C.hb dX3_init_104 rfl (lv_at hl 4 rfl) ?_
  refine lv_iconst (v := nI (1)) C.hx C.hb dX3_init_105 (by decide) ?_
  refine lv_iload C.hx C.hb dX3_init_106 (lv_at hl 0 rfl) ?_
  refine call_r (runS (As := [.int (x3), .int (nI (1)), .int (nI (hd x4 1 100))]) (rest := []) C X (c3_held (x := x3) (lo := 1) (hi := (hd x4 1 100)) (by omega) (by omega)) wy_X3_held tw_362 ⟨by decide, by decide⟩ rfl hl.1 rfl (Nat.le_of_ble_eq_true rfl) dX3_init_108 ⟨by decide, by decide⟩) (fun r hp => ?_)
  subst hp
  refine W.eq (g2 := F0 m 111 ls [.int (nI (hd x3 1 (hd x4 1 100)))]) rfl ?_
  refine lv_istore (lv' := [(6, .int (nI (hd x3 1 (hd x4 1 100)))), (5, .int (nI (hd x4 1 100))), (0, .ref (z 0)), (1, .int (x1)), (2, .int (x2)), (3, .int (x3)), (4, .int (x4))]) C.hx C.hb dX3_init_111 hl (by decide) rfl (fun ls hl => ?_)
  refine lv_aload_n C.hx C.hb dX3_init_113 rfl (lv_at hl 2 rfl) ?_
  refine lv_aload_n C.hx C.hb dX3_init_114 rfl (lv_at hl 2 rfl) ?_
  refine x3g_1 C X (x := nI (hd x1 1 1000)) rfl dX3_init_115 ?_
  refine lv_iload C.hx C.hb dX3_init_118 (lv_at hl 0 rfl) ?_
  refine n_mul C dX3_init_120 ?_
  refine lv_iload C.hx C.hb dX3_init_121 (lv_at hl 1 rfl) ?_
  refine n_div C dX3_init_123 (by omega) (by omega) (by omega) ?_
  refine x3F_3 C X hin dX3_init_124 (fun H locs X => ?_)
  refine lv_aload_n C.hx C.hb dX3_init_127 rfl (lv_at hl 2 rfl) ?_
  refine lv_aload_n C.hx C.hb dX3_init_128 rfl (lv_at hl 2 rfl) ?_
  refine x3g_2 C X (x := nI (hd x2 2 20)) rfl dX3_init_129 ?_
  refine lv_iload C.hx C.hb dX3_init_132 (lv_at hl 0 rfl) ?_
  refine n_mul C dX3_init_134 ?_
  refine lv_iload C.hx C.hb dX3_init_135 (lv_at hl 1 rfl) ?_
  refine n_div C dX3_init_137 (by omega) (by omega) (by omega) ?_
  refine x3F_4 C X hin dX3_init_138 (fun H locs X => ?_)
  refine lv_aload_n C.hx C.hb dX3_init_141 rfl (lv_at hl 2 rfl) ?_
  refine x3g_9 C X dX3_init_142 ?_
  refine lv_iconst (v := nI (0)) C.hx C.hb dX3_init_145 (by decide) ?_
  refine lv_iconst (v := nI (1)) C.hx C.hb dX3_init_146 (by decide) ?_
  refine x3t_4 C X (by omega) dX3_init_147 (fun H locs X => ?_)
  refine lv_aload_n C.hx C.hb dX3_init_148 rfl (lv_at hl 2 rfl) ?_
  refine x3g_10 C X dX3_init_149 ?_
  refine lv_iconst (v := nI (0)) C.hx C.hb dX3_init_152 (by decide) ?_
  refine lv_iconst (v := nI (0)) C.hx C.hb dX3_init_153 (by decide) ?_
  refine x3t_5 C X (by omega) dX3_init_154 (fun H locs X => ?_)
  exact ret_vw C X ⟨z, _, rfl, hz0, rfl, rfl, rfl, rfl, rfl, rfl, rfl, rfl, rfl, rfl, rfl⟩ dX3_init_155
