/-! What holds of the tables and of statics that nobody writes, all the way. -/
/-- a static field, where it lies, what it holds -/
def xs_S (C n d : String) (P : Value → Prop) (A : Nat → Prop) (U : State) (H : Heap) : Prop := ∃ (c : ClassId) (k : Class) (i : Nat) (f : Field) (a : Nat) (cell : Cell) (v : Value), (U.vm.findClass C = some c ∧ U.fieldFound? C n d = some (c, k, i, f) ∧ f.isStatic = true ∧ k.init = .initialized ∧ k.statics = some a ∧ k.staticTypes[f.slot]? = some f.type) ∧ (H[a]? = some cell ∧ cell.vm.isStatics = true ∧ cell.cls = c ∧ f.slot < cell.slots.size ∧ cell.slots[f.slot]? = some v ∧ P v) ∧ ¬ A a
theorem xs_S.moved {C n d : String} {P : Value → Prop} {A : Nat → Prop} {u U : State} {H : Heap} (hvm : u.vm.Alike U.vm) (h : xs_S C n d P A u H) : xs_S C n d P A U H := by
  obtain ⟨c, k, i, f, a, cell, v, ⟨h1, h2, h3, h4, h5, h6⟩, h7, h8⟩ := h
  obtain ⟨k', hi', he⟩ := State.fieldFound?_setVm hvm h2
  exact ⟨c, k', i, f, a, cell, v, ⟨by rw [hvm.findClass]; exact h1, hi', h3, by rw [he]; exact h4, by rw [he]; exact h5, by rw [he]; exact h6⟩, h7, h8⟩
theorem xs_S.kept {C n d : String} {P : Value → Prop} {A : Nat → Prop} {U : State} {H H1 : Heap} (hq : ∀ a : Nat, a < H.size → ¬ A a → H1[a]? = H[a]?) (h : xs_S C n d P A U H) : xs_S C n d P A U H1 := by
  obtain ⟨c, k, i, f, a, cell, v, h1, ⟨g1, g2⟩, h8⟩ := h
  exact ⟨c, k, i, f, a, cell, v, h1, ⟨by rw [hq a (Array.getElem?_eq_some_iff.mp g1).1 h8]; exact g1, g2⟩, h8⟩
theorem xs_S.narrow {C n d : String} {P : Value → Prop} {A B : Nat → Prop} {U : State} {H : Heap} (hAB : ∀ q, B q → A q) (h : xs_S C n d P A U H) : xs_S C n d P B U H := by
  obtain ⟨c, k, i, f, a, cell, v, h1, h2, h8⟩ := h
  exact ⟨c, k, i, f, a, cell, v, h1, h2, fun z => h8 (hAB _ z)⟩
theorem xs_S.lays {C n d : String} {P : Value → Prop} {A : Nat → Prop} {s : State} {args : Array Value} (h : xs_S C n d P A s s.heap) : (Cond.laysStatic C n d).before args s = true := by
  obtain ⟨c, k, i, f, a, cell, v, ⟨h1, h2, h3, h4, h5, h6⟩, ⟨g1, g2, g3, g4, g5, g6⟩, h8⟩ := h
  exact Cond.laysStatic_of h1 h2 h3 h5 g1 g2 g3 g4 h6
theorem xs_S.isRef {C n d : String} {A : Nat → Prop} {s : State} {args : Array Value} (h : xs_S C n d (fun v => v.isRef = true) A s s.heap) : (Cond.isRef (.static C n d)).before args s = true := by
  obtain ⟨c, k, i, f, a, cell, v, ⟨h1, h2, h3, h4, h5, h6⟩, ⟨g1, g2, g3, g4, g5, g6⟩, h8⟩ := h
  have he : (Term.static C n d).eval args s none [] s = some v := by simp [Term.eval, State.fieldNamed?, h2, h3, h5, g1, g2, g5]
  simp only [Cond.before, Cond.holds, Cond.value, he]
  cases v <;> simp_all [Value.isRef]
theorem xs_S.va {C n d : String} {A : Nat → Prop} {U : State} {H : Heap} {w : Value} (h : xs_S C n d (fun v => v = w) A U H) : va_Z C n d w A U H := by
  obtain ⟨c, k, i, f, a, cell, v, ⟨h1, h2, h3, h4, h5, h6⟩, ⟨g1, g2, g3, g4, g5, g6⟩, h8⟩ := h
  subst g6
  exact ⟨c, k, i, f, a, cell, h2, h3, h4, h5, g1, g2, g5, h8⟩
theorem xs_S.of {args : Array Value} {s : State} {C n d : String} {v : Value} {P : Value → Prop} {A : Nat → Prop} (hl : (Cond.laysStatic C n d).before args s = true) (hini : (Cond.initialized C).before args s = true) (hv : (Term.static C n d).eval args s none [] s = some v) (hp : P v) (hA : ∀ a : Nat, a < s.heap.size → ¬ A a) : xs_S C n d P A s s.heap := by
  obtain ⟨c, k, i, f, a, cell, h1, h2, h3, h4, h5, h6, h7, h8, h9⟩ := Cond.laysStatic_spec hl
  obtain ⟨-, a', cell', ha', hcell', -, hslot⟩ := Term.static_spec h2 hv
  cases h4.symm.trans ha'
  cases h5.symm.trans hcell'
  exact ⟨c, k, i, f, a, cell, v, ⟨h1, h2, h3, Cond.initialized_spec h1 (State.fieldFound?_spec h2).1 hini, h4, h9⟩, ⟨h5, h6, h7, h8, hslot, hp⟩, hA a (Array.getElem?_eq_some_iff.mp h5).1⟩
def xs_Ca (C T : String) (U : State) : Prop := ∃ c t : ClassId, U.vm.findClass C = some c ∧ U.vm.findClass T = some t ∧ U.vm.assignable c t = true
theorem xs_Ca.moved {C T : String} {u U : State} (hvm : u.vm.Alike U.vm) (h : xs_Ca C T u) : xs_Ca C T U := by
  obtain ⟨c, t, h1, h2, h3⟩ := h
  exact ⟨c, t, by rw [hvm.findClass]; exact h1, by rw [hvm.findClass]; exact h2, by rw [hvm.assignable]; exact h3⟩
theorem xs_Ca.use {C T : String} {U : State} {A : Array Value} (h : xs_Ca C T U) : (Cond.castable C T).before A U = true := by
  obtain ⟨c, t, h1, h2, h3⟩ := h
  simp [Cond.before, Cond.holds, Cond.value, h1, h2, h3]
theorem xs_Ca.of {C T : String} {U : State} {A : Array Value} (h : (Cond.castable C T).before A U = true) : xs_Ca C T U := by
  obtain ⟨c, t, h1, h2, h3⟩ := Cond.castable_spec h
  exact ⟨c, t, h1, h2, h3⟩
theorem xs_De {x : MethodName} {u U : State} (hvm : u.vm.Alike U.vm) (h : va_Nw (.declares x) u) : va_Nw (.declares x) U := va_tabs rfl (rfl : (u.setVm U.vm).vm = U.vm) (by rw [Cond.declares_setVm hvm]; exact h)
/-- of the tables alone -/
def xV (U : State) : Prop := (va_Nc "java/lang/IllegalArgumentException" "java/lang/IndexOutOfBoundsException" U ∧ va_Nc "java/lang/IllegalStateException" "java/lang/IndexOutOfBoundsException" U ∧ va_Nc "java/lang/IllegalStateException" "java/lang/IllegalArgumentException" U) ∧
  (xs_Ca "java/lang/IndexOutOfBoundsException" "java/lang/IndexOutOfBoundsException" U ∧ xs_Ca "java/lang/IllegalArgumentException" "java/lang/IllegalArgumentException" U ∧ xs_Ca "java/lang/IllegalStateException" "java/lang/IllegalStateException" U ∧ xs_Ca "SplitFabric$Served" "java/lang/Object" U ∧ xs_Ca "SplitFabric$Served" "SplitFabric$Served" U) ∧
  (∃ mi, va_Mi "[Ljava/lang/Object;" mi U) ∧ va_Dc U ∧ va_AO "java/lang/Object" U ∧
  va_Nw (.declares (Bundle.init0 "java/lang/RuntimeException")) U ∧ va_Nw (.declares (Bundle.init0 "java/lang/Exception")) U ∧ va_Nw (.declares (Bundle.init0 Bundle.tN)) U
theorem xV.moved {u U : State} (hvm : u.vm.Alike U.vm) (h : xV u) : xV U := by
  obtain ⟨⟨a1, a2, a3⟩, ⟨b1, b2, b3, b4, b5⟩, ⟨mi, c1⟩, c2, c3, e1, e2, e3⟩ := h
  exact ⟨⟨a1.moved hvm, a2.moved hvm, a3.moved hvm⟩, ⟨b1.moved hvm, b2.moved hvm, b3.moved hvm, b4.moved hvm, b5.moved hvm⟩, ⟨mi, c1.moved hvm⟩, c2.moved hvm, c3.moved hvm, xs_De hvm e1, xs_De hvm e2, xs_De hvm e3⟩
def xZ (tz : Nat) (A : Nat → Prop) (U : State) (H : Heap) : Prop := xV U ∧ xs_S Bundle.tN "UNASSIGNED_STACK" Bundle.steD (fun v => v.isRef = true) A U H ∧ xs_S Bundle.tN "SUPPRESSED_SENTINEL" Bundle.listD (fun v => v.isRef = true) A U H ∧
  xs_S "java/util/ArrayList" "DEFAULTCAPACITY_EMPTY_ELEMENTDATA" "[Ljava/lang/Object;" (fun v => v = .ref tz) A U H ∧ va_T (.object "java/lang/Object") tz 0 (fun _ => .null) A U H
theorem xZL (tz : Nat) : xr_ZL (xZ tz) := by
  refine ⟨fun A u U H hvm h => ?_, fun A U H H1 hq h => ?_, fun A B U H hAB h => ?_⟩
  · obtain ⟨h1, h2, h3, h4, h5⟩ := h
    exact ⟨h1.moved hvm, h2.moved hvm, h3.moved hvm, h4.moved hvm, va_T.moved hvm h5⟩
  · obtain ⟨h1, h2, h3, h4, h5⟩ := h
    exact ⟨h1, h2.kept hq, h3.kept hq, h4.kept hq, va_T.kept h5 hq⟩
  · obtain ⟨h1, h2, h3, h4, h5⟩ := h
    exact ⟨h1, h2.narrow hAB, h3.narrow hAB, h4.narrow hAB, va_T.narrow h5 hAB⟩
