/-! the throw of index: what the machine asks of it -/
def xAI : String := "java/lang/ArrayIndexOutOfBoundsException"
def upAI : List String := ["java/lang/IndexOutOfBoundsException", "java/lang/RuntimeException", "java/lang/Exception"]
set_option maxRecDepth 20000 in
theorem ow_320 : Cond.codeSync ⟨"java/lang/Throwable", "fillInStackTrace", "()Ljava/lang/Throwable;"⟩ prog_14_method_18_code 1 (some (FieldType.object "java/lang/Throwable")) ∈ LT := mT 320 (by rfl) (by rfl)
def swAI (a : Cond) : Prop := a = .declares (Bundle.initS "java/lang/IndexOutOfBoundsException") ∨ a = .declares (Bundle.initS "java/lang/RuntimeException") ∨ a = .declares (Bundle.initS "java/lang/Exception") ∨ a = .declares (Bundle.initS "java/lang/Throwable") ∨ a = .castable xAI xAI
def spAI (a : Cond) : Prop := a = .laysStatic Bundle.tN "UNASSIGNED_STACK" Bundle.steD ∨ a = .laysStatic Bundle.tN "SUPPRESSED_SENTINEL" Bundle.listD ∨ a = .isRef (.static Bundle.tN "UNASSIGNED_STACK" Bundle.steD) ∨ a = .isRef (.static Bundle.tN "SUPPRESSED_SENTINEL" Bundle.listD)
set_option maxRecDepth 20000 in
theorem own_in : ∀ a ∈ Bundle.ownAtoms RX2 144 xAI upAI, a ∈ LT ∨ swAI a ∨ spAI a := by
  refine List.forall_mem_cons.mpr ⟨Or.inl tw_8, ?_⟩
  refine List.forall_mem_cons.mpr ⟨Or.inl tw_309, ?_⟩
  refine List.forall_mem_cons.mpr ⟨Or.inl tw_318, ?_⟩
  refine List.forall_mem_cons.mpr ⟨Or.inl ow_320, ?_⟩
  refine List.forall_mem_cons.mpr ⟨Or.inl tw_323, ?_⟩
  refine List.forall_mem_cons.mpr ⟨Or.inl tw_325, ?_⟩
  refine List.forall_mem_cons.mpr ⟨Or.inl tw_310, ?_⟩
  refine List.forall_mem_cons.mpr ⟨Or.inl tw_311, ?_⟩
  refine List.forall_mem_cons.mpr ⟨Or.inl tw_19, ?_⟩
  refine List.forall_mem_cons.mpr ⟨Or.inl tw_20, ?_⟩
  refine List.forall_mem_cons.mpr ⟨Or.inl tw_312, ?_⟩
  refine List.forall_mem_cons.mpr ⟨Or.inl tw_317, ?_⟩
  refine List.forall_mem_cons.mpr ⟨Or.inl tw_321, ?_⟩
  refine List.forall_mem_cons.mpr ⟨Or.inl tw_344, ?_⟩
  refine List.forall_mem_cons.mpr ⟨Or.inl tw_299, ?_⟩
  refine List.forall_mem_cons.mpr ⟨Or.inl tw_345, ?_⟩
  refine List.forall_mem_cons.mpr ⟨Or.inl tw_301, ?_⟩
  refine List.forall_mem_cons.mpr ⟨Or.inl tw_346, ?_⟩
  refine List.forall_mem_cons.mpr ⟨Or.inl tw_303, ?_⟩
  refine List.forall_mem_cons.mpr ⟨Or.inl tw_313, ?_⟩
  refine List.forall_mem_cons.mpr ⟨Or.inr (Or.inr (Or.inl rfl)), ?_⟩
  refine List.forall_mem_cons.mpr ⟨Or.inl tw_315, ?_⟩
  refine List.forall_mem_cons.mpr ⟨Or.inr (Or.inr (Or.inr (Or.inl rfl))), ?_⟩
  refine List.forall_mem_cons.mpr ⟨Or.inl tw_305, ?_⟩
  refine List.forall_mem_cons.mpr ⟨Or.inl tw_340, ?_⟩
  refine List.forall_mem_cons.mpr ⟨Or.inl tw_341, ?_⟩
  refine List.forall_mem_cons.mpr ⟨Or.inl tw_343, ?_⟩
  refine List.forall_mem_cons.mpr ⟨Or.inl tw_305, ?_⟩
  refine List.forall_mem_cons.mpr ⟨Or.inl tw_328, ?_⟩
  refine List.forall_mem_cons.mpr ⟨Or.inl tw_329, ?_⟩
  refine List.forall_mem_cons.mpr ⟨Or.inl tw_330, ?_⟩
  refine List.forall_mem_cons.mpr ⟨Or.inl tw_331, ?_⟩
  refine List.forall_mem_cons.mpr ⟨Or.inr (Or.inl (Or.inl rfl)), ?_⟩
  refine List.forall_mem_cons.mpr ⟨Or.inl tw_331, ?_⟩
  refine List.forall_mem_cons.mpr ⟨Or.inl tw_332, ?_⟩
  refine List.forall_mem_cons.mpr ⟨Or.inl tw_333, ?_⟩
  refine List.forall_mem_cons.mpr ⟨Or.inl tw_334, ?_⟩
  refine List.forall_mem_cons.mpr ⟨Or.inr (Or.inl (Or.inr (Or.inl rfl))), ?_⟩
  refine List.forall_mem_cons.mpr ⟨Or.inl tw_334, ?_⟩
  refine List.forall_mem_cons.mpr ⟨Or.inl tw_335, ?_⟩
  refine List.forall_mem_cons.mpr ⟨Or.inl tw_336, ?_⟩
  refine List.forall_mem_cons.mpr ⟨Or.inl tw_337, ?_⟩
  refine List.forall_mem_cons.mpr ⟨Or.inr (Or.inl (Or.inr (Or.inr (Or.inl rfl)))), ?_⟩
  refine List.forall_mem_cons.mpr ⟨Or.inl tw_337, ?_⟩
  refine List.forall_mem_cons.mpr ⟨Or.inl tw_338, ?_⟩
  refine List.forall_mem_cons.mpr ⟨Or.inl tw_339, ?_⟩
  refine List.forall_mem_cons.mpr ⟨Or.inl tw_340, ?_⟩
  refine List.forall_mem_cons.mpr ⟨Or.inr (Or.inl (Or.inr (Or.inr (Or.inr (Or.inl rfl))))), ?_⟩
  refine List.forall_mem_cons.mpr ⟨Or.inl tw_327, ?_⟩
  refine List.forall_mem_cons.mpr ⟨Or.inl tw_286, ?_⟩
  refine List.forall_mem_cons.mpr ⟨Or.inr (Or.inl (Or.inr (Or.inr (Or.inr (Or.inr rfl))))), ?_⟩
  refine List.forall_mem_cons.mpr ⟨Or.inl tw_296, ?_⟩
  refine List.forall_mem_cons.mpr ⟨Or.inl tw_297, ?_⟩
  refine List.forall_mem_cons.mpr ⟨Or.inl tw_298, ?_⟩
  refine List.forall_mem_cons.mpr ⟨Or.inl tw_300, ?_⟩
  refine List.forall_mem_cons.mpr ⟨Or.inl tw_302, ?_⟩
  refine List.forall_mem_cons.mpr ⟨Or.inl tw_304, ?_⟩
  refine List.forall_mem_cons.mpr ⟨Or.inr (Or.inr (Or.inr (Or.inr (Or.inl rfl)))), ?_⟩
  refine List.forall_mem_cons.mpr ⟨Or.inr (Or.inr (Or.inr (Or.inr (Or.inr rfl)))), ?_⟩
  refine List.forall_mem_cons.mpr ⟨Or.inl tw_308, ?_⟩
  refine List.forall_mem_cons.mpr ⟨Or.inl tw_307, ?_⟩
  refine List.forall_mem_cons.mpr ⟨Or.inl tw_306, ?_⟩
  exact fun _ h => absurd h List.not_mem_nil
def TZ1 (n d : String) (A : Nat → Prop) (U : State) (H : Heap) : Prop := ∃ (c : ClassId) (k : Class) (i : Nat) (f : Field) (a : Nat) (cell : Cell) (v : Value), U.vm.findClass Bundle.tN = some c ∧ U.fieldFound? Bundle.tN n d = some (c, k, i, f) ∧ f.isStatic = true ∧ k.statics = some a ∧ H[a]? = some cell ∧ cell.vm.isStatics = true ∧ cell.cls = c ∧ f.slot < cell.slots.size ∧ k.staticTypes[f.slot]? = some f.type ∧ cell.slots[f.slot]? = some v ∧ v.isRef = true ∧ ¬ A a
def TZ (A : Nat → Prop) (U : State) (H : Heap) : Prop := TZ1 "UNASSIGNED_STACK" Bundle.steD A U H ∧ TZ1 "SUPPRESSED_SENTINEL" Bundle.listD A U H
theorem TZ1.moved {n d : String} {A : Nat → Prop} {u U : State} {H : Heap} (hvm : u.vm.Alike U.vm) (h : TZ1 n d A u H) : TZ1 n d A U H := by
  obtain ⟨c, k, i, f, a, cell, v, h1, h2, h3, h4, h5, h6, h7, h8, h9, h10⟩ := h
  obtain ⟨k', hi', he⟩ := State.fieldFound?_setVm hvm h2
  exact ⟨c, k', i, f, a, cell, v, by rw [← h1]; exact hvm.findClass _ _, hi', h3, by rw [he]; exact h4, h5, h6, h7, h8, by rw [he]; exact h9, h10⟩
theorem TZ1.kept {n d : String} {A : Nat → Prop} {U : State} {H H1 : Heap} (h : TZ1 n d A U H) (hq : ∀ a : Nat, a < H.size → ¬ A a → H1[a]? = H[a]?) : TZ1 n d A U H1 := by
  obtain ⟨c, k, i, f, a, cell, v, h1, h2, h3, h4, h5, h6, h7, h8, h9, h10, h11, h12⟩ := h
  exact ⟨c, k, i, f, a, cell, v, h1, h2, h3, h4, by rw [hq a (Array.getElem?_eq_some_iff.mp h5).1 h12]; exact h5, h6, h7, h8, h9, h10, h11, h12⟩
theorem TZ1.narrow {n d : String} {A B : Nat → Prop} {U : State} {H : Heap} (h : TZ1 n d A U H) (hAB : ∀ q, B q → A q) : TZ1 n d B U H := by
  obtain ⟨c, k, i, f, a, cell, v, h1, h2, h3, h4, h5, h6, h7, h8, h9, h10, h11, h12⟩ := h
  exact ⟨c, k, i, f, a, cell, v, h1, h2, h3, h4, h5, h6, h7, h8, h9, h10, h11, fun z => h12 (hAB a z)⟩
theorem TZ1.of {n d : String} {A : Nat → Prop} {args : Array Value} {s : State} (hl : (Cond.laysStatic Bundle.tN n d).before args s = true) (hr : (Cond.isRef (.static Bundle.tN n d)).before args s = true) (hA : ∀ a : Nat, a < s.heap.size → ¬ A a) : TZ1 n d A s s.heap := by
  obtain ⟨c, k, i, f, a, cell, h1, h2, h3, h4, h5, h6, h7, h8, h9⟩ := Cond.laysStatic_spec hl
  obtain ⟨u, hu⟩ := Cond.staticRefV h2 h3 h4 h5 h6 hr
  exact ⟨c, k, i, f, a, cell, u.v, h1, h2, h3, h4, h5, h6, h7, h8, h9, hu, u.ok, hA a (Array.getElem?_eq_some_iff.mp h5).1⟩
theorem TZ1.lays {n d : String} {A : Nat → Prop} {args : Array Value} {s : State} (h : TZ1 n d A s s.heap) : (Cond.laysStatic Bundle.tN n d).before args s = true := by
  obtain ⟨c, k, i, f, a, cell, v, h1, h2, h3, h4, h5, h6, h7, h8, h9, h10, h11, h12⟩ := h
  simp [Cond.before, Cond.holds, Cond.value, h1, h2, h3, h4, h5, h6, h7, h8, h9]
theorem TZ1.isRef {n d : String} {A : Nat → Prop} {args : Array Value} {s : State} (h : TZ1 n d A s s.heap) : (Cond.isRef (.static Bundle.tN n d)).before args s = true := by
  obtain ⟨c, k, i, f, a, cell, v, h1, h2, h3, h4, h5, h6, h7, h8, h9, h10, h11, h12⟩ := h
  have he : (Term.static Bundle.tN n d).eval args s none [] s = some v := by
    simp [Term.eval, State.fieldNamed?, h2, h3, h4, h5, h6, h10]
  cases v <;> first | (simp [Value.isRef] at h11; done) | simp [Cond.before, Cond.holds, Cond.value, he]
def TW (U : State) : Prop := ∀ w : Cond, swAI w → w.before #[] U = true
theorem TW.args {args : Array Value} {s : State} (h : TW s) : ∀ w : Cond, swAI w → w.before args s = true := fun w hw => by
  have := h w hw
  rcases hw with rfl | rfl | rfl | rfl | rfl <;> exact this
theorem TW.same {u U : State} (hv : u.vm = U.vm) (h : TW u) : TW U := fun w hw => by
  have h1 := h w hw
  have e1 : u = u.setVm u.vm := rfl
  have e2 : U = U.setVm u.vm := by rw [hv]; rfl
  rw [e2]
  rw [e1] at h1
  rw [Cond.onTables_vm (A' := #[]) (U' := u) u.vm w (by rcases hw with rfl | rfl | rfl | rfl | rfl <;> rfl)]
  exact h1
theorem TW.warm {s U : State} (hW : s.WarmedH U.vm) (h : TW s) : TW U := TW.same (u := s.setVm U.vm) rfl (fun w hw => Cond.before_shiftedFace (State.Shifted.of_warmed hW) w (by rcases hw with rfl | rfl | rfl | rfl | rfl <;> first | rfl | decide +kernel) (h w hw))
def TQ (A : Nat → Prop) (U : State) (H : Heap) : Prop := TZ A U H ∧ TW U ∧ ∃ q, vk_R RX2 142 "no such level, interval or area" q U
theorem TQ.kept {A : Nat → Prop} {U : State} {H H1 : Heap} (h : TQ A U H) (hq : ∀ a : Nat, a < H.size → ¬ A a → H1[a]? = H[a]?) : TQ A U H1 := ⟨⟨h.1.1.kept hq, h.1.2.kept hq⟩, h.2⟩
theorem TQ.narrow {A B : Nat → Prop} {U : State} {H : Heap} (h : TQ A U H) (hAB : ∀ q, B q → A q) : TQ B U H := ⟨⟨h.1.1.narrow hAB, h.1.2.narrow hAB⟩, h.2⟩
theorem TQ.warm {A : Nat → Prop} {s U : State} {H : Heap} (hW : s.WarmedH U.vm) (h : TQ A s H) : TQ A U H := ⟨⟨h.1.1.moved hW.alike, h.1.2.moved hW.alike⟩, h.2.1.warm hW, h.2.2.elim fun q hq => ⟨q, vk_R.warm hW hq⟩⟩
theorem TQ.same {A : Nat → Prop} {u U : State} {H : Heap} (hv : u.vm = U.vm) (h : TQ A u H) : TQ A U H := ⟨⟨h.1.1.moved (by rw [hv]; exact Vm.Alike.refl _), h.1.2.moved (by rw [hv]; exact Vm.Alike.refl _)⟩, h.2.1.same hv, h.2.2.elim fun q hq => ⟨q, vk_R.same hv.symm hq⟩⟩
theorem TQ.own {A : Nat → Prop} {args : Array Value} {s : State} (h : TQ A s s.heap) (hts : ∀ w ∈ LT, w.before args s = true) : ∀ a ∈ Bundle.ownAtoms RX2 144 xAI upAI, a.before args s = true := by
  intro a ha
  rcases own_in a ha with h1 | h1 | rfl | rfl | rfl | rfl
  · exact hts _ h1
  · exact h.2.1.args a h1
  · exact h.1.1.lays
  · exact h.1.2.lays
  · exact h.1.1.isRef
  · exact h.1.2.isRef
