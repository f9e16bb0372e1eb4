/-! What is made: cells of any kind, under names. -/
theorem xw_u2_u2 {α : Type} (f : Nat → Nat → α) (r k : Nat) (v w : α) : xw_u2 (xw_u2 f r k v) r k w = xw_u2 f r k w := by
  funext a b
  by_cases h : a = r ∧ b = k
  · obtain ⟨rfl, rfl⟩ := h
    rw [xw_u2_s, xw_u2_s]
  · rw [xw_u2_n _ _ h, xw_u2_n _ _ h, xw_u2_n _ _ h]
theorem xw_u2_comm {α : Type} (f : Nat → Nat → α) {r k a b : Nat} (v w : α) (h : ¬ (a = r ∧ b = k)) : xw_u2 (xw_u2 f r k v) a b w = xw_u2 (xw_u2 f a b w) r k v := by
  funext x y
  by_cases h1 : x = a ∧ y = b
  · obtain ⟨rfl, rfl⟩ := h1
    rw [xw_u2_s, xw_u2_n _ _ h, xw_u2_s]
  · rw [xw_u2_n _ _ h1]
    by_cases h2 : x = r ∧ y = k
    · obtain ⟨rfl, rfl⟩ := h2
      rw [xw_u2_s, xw_u2_s]
    · rw [xw_u2_n _ _ h2, xw_u2_n _ _ h2, xw_u2_n _ _ h1]
theorem xw_u2_id {α : Type} (f : Nat → Nat → α) {r k : Nat} {v : α} (h : f r k = v) : xw_u2 f r k v = f := by
  funext a b
  by_cases h1 : a = r ∧ b = k
  · obtain ⟨rfl, rfl⟩ := h1
    rw [xw_u2_s, h]
  · rw [xw_u2_n _ _ h1]
section
variable {p : Program} {l : Launch} {e : Env} {R : Room} {s : State} {m : MethodId} {args : Array Value} {below : List Frame} {meth : Method} {c : Code} {H : Heap} {locs : List Loc} {cells slots : Nat} {Q : State → Prop}
variable {cc : ByteArray} {pc : Nat} {ls : Array Slot} {rest st0 : List Value} {D : va_G} {cl : List vw_C} {tys : List (ClassId × FieldType)} {A : Nat → Prop} {own : String} {Ts : List Cond} {I : List (Nat × Nat)} {ad : Nat → Nat → Nat} {E : Nat → Nat → va_E} {r k : Nat} {Z : (Nat → Prop) → State → Heap → Prop}
theorem xr_newa (C : xr_C Ts p c cc own s m args) (w : xr_W cl tys D I ad E A s H locs) (hI : (r, k) ∉ I) {atype : ArrayType} (harr : Cond.arrayClass (newarray.typeOf atype) ∈ Ts) {ty : FieldType} (hty : newarray.typeOf atype = ty) {cA0 : ClassId} (t0 : Nat) (ht0 : tys[t0]? = some (cA0, ty)) {n : Int32} (N' : Nat) (a0 : vp_A) (ha : ∀ cA : ClassId, vp_cell cA a0 = arrV cA N' (fun _ => defaultValue ty)) (hn : n = nI N') (hN : N' ≤ 67108864) (hbytes : N' * componentBytes ty ≤ 536870912) (hcells : cells + 1 ≤ R.cells) (hslots : slots + N' ≤ R.slots) (hdg : decode cc pc = .ok (.newarray atype, 2))
    (kk : ∀ (q : Nat) (H1 : Heap), xr_W cl tys D (I ++ [(r, k)]) (xw_u2 ad r k q) (xw_u2 E r k (.inl (cA0, a0))) A s H1 locs → W p l e R s m args below meth c H1 locs (cells + 1) (slots + N') Q (F0 m (pc + 2) ls (.ref q :: rest))) : W p l e R s m args below meth c H locs cells slots Q (F0 m pc ls (.int n :: rest)) := by
  obtain ⟨hx, hb, hown, hts⟩ := C
  obtain ⟨hP, hD, hK, hS, hA⟩ := w
  subst hn
  refine va_newa hx hb (hts _ harr) hty hK hP hD hS hA (a0 := a0) ha (nI_pos (by omega)) (nI_clamp (by omega)) hbytes hcells hslots hdg (fun q cA1 H1 hK1 hP1 hD1 hS1 => ?_)
  have e1 : cA1 = cA0 := by
    have h1 := (hK1.2 tys.length (cA1, ty) (by simp)).2
    have h2 := (hK.2 t0 _ ht0).2
    subst hty
    cases atype <;> exact Option.some.inj (h1.symm.trans h2)
  subst e1
  rw [xw_new hI] at hP1 hD1
  exact kk q H1 ⟨hP1, hD1, hK, hS1, hA⟩
theorem xr_newq (C : xr_C Ts p c cc own s m args) (w : xr_W cl tys D I ad E A s H locs) (hI : (r, k) ∉ I) {Cn : String} {index : Nat} (hlink : Cond.classLink own index Cn ∈ Ts) (hover : va_AO Cn s) {cA0 : ClassId} (t0 : Nat) (ht0 : tys[t0]? = some (cA0, .object Cn)) {n : Int32} (N' : Nat) (hn : n = nI N') (hN : N' ≤ 67108864) (hcells : cells + 1 ≤ R.cells) (hslots : slots + N' ≤ R.slots) (hdg : decode cc pc = .ok (.anewarray index, 3))
    (kk : ∀ (q : Nat) (H1 : Heap), xr_W cl tys D (I ++ [(r, k)]) (xw_u2 ad r k q) (xw_u2 E r k (.inl (cA0, N', .inr (.inr (.inr (.inr (fun _ => none))))))) A s H1 locs → W p l e R s m args below meth c H1 locs (cells + 1) (slots + N') Q (F0 m (pc + 3) ls (.ref q :: rest))) : W p l e R s m args below meth c H locs cells slots Q (F0 m pc ls (.int n :: rest)) := by
  obtain ⟨hx, hb, hown, hts⟩ := C
  obtain ⟨hP, hD, hK, hS, hA⟩ := w
  subst hn
  refine va_newq hx hb hown (hts _ hlink) hover hK hP hD hS hA (n := nI N') (N' := N') (nI_pos (by omega)) (nI_clamp (by omega)) (by omega) hcells hslots hdg (fun q cA1 H1 hK1 hP1 hD1 hS1 => ?_)
  have e1 : cA1 = cA0 := by
    obtain ⟨_, _, _, _, _, h1⟩ := (hK1.2 tys.length (cA1, .object Cn) (by simp)).2
    obtain ⟨_, _, _, _, _, h2⟩ := (hK.2 t0 _ ht0).2
    exact Option.some.inj (h1.symm.trans h2)
  subst e1
  rw [xw_new hI] at hP1 hD1
  exact kk q H1 ⟨hP1, hD1, hK, hS1, hA⟩
theorem xr_putC {ci : Nat} {fs : List Value} (C : xr_C Ts p c cc own s m args) (w : xr_W cl tys D I ad (xw_u2 E r k (.inr (ci, fs))) A s H locs) (hI : (r, k) ∈ I) {a : Nat} (ha : ad r k = a) {Cn : String} {T : u_T} {N : Nat} (hc : cl[ci]? = some (Cn, T, N)) (hin : ∀ w ∈ u_ws Cn T N, w ∈ Ts)
    (ty0 : Nat → FieldType) (hty : ∀ k, k < N → parseFieldDescriptor (T k).2.2.1 = some (ty0 k)) (hnm : ∀ a, a < N → ∀ b, b < N → a ≠ b → (T a).2.1 ≠ (T b).2.1)
    (i : Nat) (hi : i < N) {index : Nat} (hlink : Cond.fieldLink own index Cn (T i).2.1 (T i).2.2.1 ∈ Ts) (hs : (T i).1 = Cn) (hfin : (T i).2.2.2 = false) {v : Value} (hn : narrow (ty0 i) v = v) (hfit : fits (ty0 i) v = true) (hl : i < fs.length) (hdg : decode cc pc = .ok (.putfield index, 3))
    (kk : ∀ (H1 : Heap) (locs1 : List Loc), xr_W cl tys D I ad (xw_u2 E r k (.inr (ci, fs.set i v))) A s H1 locs1 → W p l e R s m args below meth c H1 locs1 cells slots Q (F0 m (pc + 3) ls rest)) : W p l e R s m args below meth c H locs cells slots Q (F0 m pc ls (v :: .ref a :: rest)) := by
  subst ha
  refine xr_put C w hI (xw_u2_s _ _ _ _) hc hin ty0 hty hnm i hi hlink hs hfin hn hfit hl hdg (fun H1 locs1 w1 => kk H1 locs1 ?_)
  rw [xw_u2_u2] at w1
  exact w1
theorem xr_putFC {ci : Nat} {fs : List Value} (C : xr_C Ts p c cc own s m args) (w : xr_W cl tys D I ad (xw_u2 E r k (.inr (ci, fs))) A s H locs) (hI : (r, k) ∈ I) {a : Nat} (ha : ad r k = a) {Cn : String} {T : u_T} {N : Nat} (hc : cl[ci]? = some (Cn, T, N)) (hin : ∀ w ∈ u_ws Cn T N, w ∈ Ts)
    (ty0 : Nat → FieldType) (hty : ∀ k, k < N → parseFieldDescriptor (T k).2.2.1 = some (ty0 k)) (hnm : ∀ a, a < N → ∀ b, b < N → a ≠ b → (T a).2.1 ≠ (T b).2.1) (hinit : meth.name = "<init>")
    (i : Nat) (hi : i < N) {index : Nat} (hlink : Cond.fieldLink own index Cn (T i).2.1 (T i).2.2.1 ∈ Ts) (hs : (T i).1 = Cn) (ho : Cn = own) (hfin : (T i).2.2.2 = true) {v : Value} (hn : narrow (ty0 i) v = v) (hfit : fits (ty0 i) v = true) (hl : i < fs.length) (hdg : decode cc pc = .ok (.putfield index, 3))
    (kk : ∀ (H1 : Heap) (locs1 : List Loc), xr_W cl tys D I ad (xw_u2 E r k (.inr (ci, fs.set i v))) A s H1 locs1 → W p l e R s m args below meth c H1 locs1 cells slots Q (F0 m (pc + 3) ls rest)) : W p l e R s m args below meth c H locs cells slots Q (F0 m pc ls (v :: .ref a :: rest)) := by
  subst ha
  refine xr_putF C w hI (xw_u2_s _ _ _ _) hc hin ty0 hty hnm hinit i hi hlink hs ho hfin hn hfit hl hdg (fun H1 locs1 w1 => kk H1 locs1 ?_)
  rw [xw_u2_u2] at w1
  exact w1
/-- a constructor of a nest mate -/
theorem xr_callIN {y : MethodName} {bytes : ByteArray} {maxL d mc ms nL n index : Nat} {As : List Value} {B : xr_B} {host : String} (hG : ∀ w ∈ Ts, goodWord w = true) (hZ : xr_ZL Z) (C : xr_C Ts p c cc own s m args) (w : xr_W cl tys D I ad E A s H locs) (hz : Z A s s.heap) (hml : c.maxLocals = nL) (hls : ls.size = nL)
    (k1 : va_Nw (.methodLinkNest own index y host) s) (k2 : Cond.instanceMethod y ∈ Ts) (k3 : Cond.initialized y.cls ∈ Ts) (k4 : Cond.code y bytes maxL none ∈ Ts) (k5 : y.name = "<init>") (k6 : y.cls ≠ "java/lang/invoke/MethodHandle" ∧ y.cls ≠ "java/lang/invoke/VarHandle" ∧ (parseMethodDescriptor y.desc).map (fun d => d.parameters.length) = some n) {b : Nat} (hM : xr_M Ts cl tys D Z l y bytes maxL none d mc ms (.ref b :: As) I ad E B)
    (hn : As.length = n) (hst : st0 = As.reverse ++ .ref b :: rest) (hrest : (rest.map fun v => v.category).sum ≤ 8) (hR : d + 1 ≤ R.frames ∧ 8 + (maxL + 11) + 40 * d ≤ R.locals) (hf : cells + mc ≤ R.cells ∧ slots + ms ≤ R.slots) (hdg : decode cc pc = .ok (.invokespecial index, 3))
    (kk : ∀ (o : Option Value) (I' : List (Nat × Nat)) (ad' : Nat → Nat → Nat) (E' : Nat → Nat → va_E) (H1 : Heap) (locs1 : List Loc), B o I' ad' E' → xr_W cl tys D I' ad' E' A s H1 locs1 → W p l e R s m args below meth c H1 locs1 (cells + mc) (slots + ms) Q (F0 m (pc + 3) ls (o.toList ++ rest))) : W p l e R s m args below meth c H locs cells slots Q (F0 m pc ls st0) := by
  obtain ⟨hx, hb, hown, hts⟩ := id C
  refine xr_after w (a := (Value.ref b :: As).toArray) (va_runIN (Ts := Ts) (As := As) (rest := rest) (host := host) ⟨hx, hb, hml, hown, hts⟩ (hM H.size) ⟨va_cnB n hts (xr_good hG k4) rfl rfl rfl k1 (hts _ k3) k6 hR, k5, hts _ k2⟩ ⟨xr_blind hZ, fun U hU hW => ⟨rfl, xr_pre hZ w hz hU hW⟩⟩ rfl hn hls hst (lv_room hrest) hdg hf) kk
/-- two equal longs -/
theorem lv_lcmpE (hexec : p.tables.exec = Jvm.exec) (hb : c.code = cc) {x : Int64} (hdg : decode cc pc = .ok (.lcmp, 1))
    (k : W p l e R s m args below meth c H locs cells slots Q (F0 m (pc + 1) ls (.int (nI 0) :: rest))) : W p l e R s m args below meth c H locs cells slots Q (F0 m pc ls (.long x :: .long x :: rest)) := by
  intro T hT X
  obtain ⟨t, a, b⟩ := k T hT X
  refine ⟨t, ?_, b⟩
  jvm_step X.here [X.here.top, hexec, hb, hdg, lcmp.wp_sem]
  exact a
end
section
variable {E : CtlPost} {e : Env} {d : Bool} {acts : List Action}
theorem ma_new {S : State} {c2 : ClassId} {k2 : Class} {comp : ClassId} {ty : FieldType} {v : Value} (hk : S.vm.classes[c2]? = some k2) (hkind : k2.kind = .array comp ty) (hv : fits ty v = true) (hdv : v.isDefault = true)
    (hlimit : ¬ 4 > e.platform.arrayLengthLimit) (hheap : ¬ 4 * componentBytes ty > e.platform.maxHeapBytes) (h1 : S.heap.size < e.platform.maxCells) (h2 : S.slotsUsed + 4 ≤ e.platform.maxSlots) {Q : Addr → Pre}
    (hQ : Q S.heap.size d acts (S.pushCell { cls := c2, slots := Array.replicate 4 v, vm := .none })) : wp (Jvm.newArray c2 4 v) Q E e d acts S := by
  have hfit : ∀ i w, (Array.replicate 4 v)[i]? = some w → S.fitsSlot c2 .none i w = true := by
    intro i w hw
    simp only [Array.getElem?_replicate] at hw
    split at hw
    · cases hw; simp [State.fitsSlot, State.slotType?, hk, hkind, hv]
    · cases hw
  have hdef : allocActs (Array.replicate 4 v) S.heap.size acts = acts := by
    have hall : ((Array.replicate 4 v).all (·.isDefault)) = true := by
      rw [Array.all_replicate]; split <;> simp [hdv]
    unfold allocActs; rw [if_pos hall]
  simp only [Jvm.newArray, Jvm.arrayFits, wp_bind', W.ask, W.ite, hlimit, if_false, wp_pure', W.theClass, hk, Option.some.injEq, exists_eq_left', hkind, hheap, W.alloc, W.stop, hdef]
  rw [if_neg (by omega)]
  exact ⟨h1, by rw [Array.size_replicate]; exact h2, hfit, hQ⟩
theorem ma_in {S : State} {c2 : ClassId} {k2 : Class} {comp : ClassId} (hk : S.vm.classes[c2]? = some k2) (hkind : k2.kind = .array comp .int)
    (hlimit : ¬ 4 > e.platform.arrayLengthLimit) (hheap : ¬ 4 * componentBytes .int > e.platform.maxHeapBytes) (h1 : S.heap.size < e.platform.maxCells) (h2 : S.slotsUsed + 4 ≤ e.platform.maxSlots) {Q : Addr → Pre}
    (hQ : Q S.heap.size d acts (S.pushCell { cls := c2, slots := Array.replicate 4 (.int 0), vm := .none })) : wp (multianewarray.make c2 [(4 : Int32)]) Q E e d acts S := by
  simp only [multianewarray.make, wp_bind', W.ite, W.theClass, hk, Option.some.injEq, exists_eq_left', hkind, wp_pure']
  rw [if_neg (by decide)]
  exact ma_new hk hkind rfl rfl hlimit hheap h1 h2 hQ
theorem ma_out {S : State} {c1 c2 comp : ClassId} {k1 k2 : Class} (hk : S.vm.classes[c1]? = some k1) (hkind : k1.kind = .array c2 (.array .int)) (hkind2 : k2.kind = .array comp .int)
    (hlimit : ¬ 4 > e.platform.arrayLengthLimit) (hheap : ¬ 4 * componentBytes (.array .int) > e.platform.maxHeapBytes) (hheap2 : ¬ 4 * componentBytes .int > e.platform.maxHeapBytes) (h1 : S.heap.size < e.platform.maxCells) (h2 : S.slotsUsed + 4 ≤ e.platform.maxSlots) {Q : Addr → Pre}
    (J : Nat → State → Prop) (h0 : J 0 (S.pushCell { cls := c1, slots := Array.replicate 4 .null, vm := .none }))
    (hs : ∀ (i : Nat) (U : State), i < 4 → J i U → (U.heap.size < e.platform.maxCells ∧ U.slotsUsed + 4 ≤ e.platform.maxSlots ∧ U.vm.classes[c2]? = some k2) ∧ ∃ cell, (U.pushCell { cls := c2, slots := Array.replicate 4 (.int 0), vm := .none }).heap[S.heap.size]? = some cell ∧ cell.vm ≠ .unknown ∧ i < cell.slots.size ∧ (U.pushCell { cls := c2, slots := Array.replicate 4 (.int 0), vm := .none }).fitsSlot cell.cls cell.vm i (.ref U.heap.size) = true ∧ J (i + 1) ((U.pushCell { cls := c2, slots := Array.replicate 4 (.int 0), vm := .none }).setCell S.heap.size (cell.setSlot i (.ref U.heap.size))))
    (hQ : ∀ d acts V, J 4 V → Q S.heap.size d acts V) : wp (multianewarray.make c1 [(4 : Int32), (4 : Int32)]) Q E e d acts S := by
  rw [multianewarray.make]
  simp only [wp_bind', W.ite, W.theClass, hk, Option.some.injEq, exists_eq_left', hkind, wp_pure']
  rw [if_neg (by decide)]
  refine ma_new hk hkind rfl rfl hlimit hheap h1 h2 ?_
  rw [if_neg (by decide)]
  simp only [wp_bind', wp_pure', Std.Legacy.Range.forIn_eq_forIn_range']
  refine wp_forIn_inv (fun rest V => ∃ i, i ≤ 4 ∧ rest = List.range' i (4 - i) ∧ J i V) _ _ ⟨0, by omega, rfl, h0⟩ ?_ ?_
  · rintro x rest V d' acts' Q' ⟨i, hi, hr, hJ⟩ hk'
    by_cases hi4 : i = 4
    · subst hi4
      cases hr
    · have e4 : 4 - i = (4 - (i + 1)) + 1 := by omega
      rw [e4, List.range'_succ] at hr
      cases hr
      obtain ⟨⟨g1, g2, g3⟩, cell, g4, g5, g6, g7, g8⟩ := hs x V (by omega) hJ
      rw [wp_bind']
      refine ma_in g3 hkind2 hlimit hheap2 g1 g2 ?_
      rw [wp_bind', W.writeLoc]
      refine ⟨cell, g4, g5, g6, g7, ?_⟩
      rw [wp_pure']
      exact hk' _ _ _ ⟨x + 1, by omega, rfl, g8⟩
  · rintro V d' acts' ⟨i, hi, hr, hJ⟩
    have hi4 : i = 4 := by
      have := congrArg List.length hr
      simp at this
      omega
    subst hi4
    exact hQ _ _ _ hJ
theorem ma_sem {T : State} {f : JFrame} {index : Nat} {rest : List Value} {c1 c2 comp : ClassId} {k1 k2 : Class} (hs : T.topJava?.isSome) (hr : T.vm.classReady f.method.cls index c1) (hk : T.vm.classes[c1]? = some k1) (hkind : k1.kind = .array c2 (.array .int)) (hkind2 : k2.kind = .array comp .int)
    (hstack : f.stack = .int 4 :: .int 4 :: rest)
    (hlimit : ¬ 4 > e.platform.arrayLengthLimit) (hheap : ¬ 4 * componentBytes (.array .int) > e.platform.maxHeapBytes) (hheap2 : ¬ 4 * componentBytes .int > e.platform.maxHeapBytes) (h1 : T.heap.size < e.platform.maxCells) (h2 : T.slotsUsed + 4 ≤ e.platform.maxSlots) {Q : Unit → Pre}
    (K : Nat → State → Prop) (h0 : K 0 (T.pushCell { cls := c1, slots := Array.replicate 4 .null, vm := .none })) (hK : ∀ i U, K i U → U.topJava?.isSome)
    (hst : ∀ (i : Nat) (U : State), i < 4 → K i U → (U.heap.size < e.platform.maxCells ∧ U.slotsUsed + 4 ≤ e.platform.maxSlots ∧ U.vm.classes[c2]? = some k2) ∧ ∃ cell, (U.pushCell { cls := c2, slots := Array.replicate 4 (.int 0), vm := .none }).heap[T.heap.size]? = some cell ∧ cell.vm ≠ .unknown ∧ i < cell.slots.size ∧ (U.pushCell { cls := c2, slots := Array.replicate 4 (.int 0), vm := .none }).fitsSlot cell.cls cell.vm i (.ref U.heap.size) = true ∧ K (i + 1) ((U.pushCell { cls := c2, slots := Array.replicate 4 (.int 0), vm := .none }).setCell T.heap.size (cell.setSlot i (.ref U.heap.size))))
    (hQ : ∀ acts V, K 4 V → Q () true acts (V.setTop { f with stack := .ref T.heap.size :: rest })) : wp (multianewarray.sem index 2) Q E e d acts (T.setTop f) := by
  have hpop := fun Q => popN_top (Q := Q) (E := E) (e := e) (d := d) (acts := acts) (f := f) hs (args := [.int 4, .int 4]) (rest := rest) hstack
  simp only [multianewarray.sem, wp_bind', W.resolveClassAt_ready (State.method?_setTop f hs) hr]
  refine (hpop _).mpr ?_
  simp only [List.mapM_cons, List.mapM_nil, wp_bind', wp_pure']
  refine ma_out (S := T.setTop { f with stack := rest }) (k2 := k2) hk hkind hkind2 hlimit hheap hheap2 h1 h2 (fun i V => ∃ U, V = U.setTop { f with stack := rest } ∧ K i U) ⟨_, rfl, h0⟩ ?_ ?_
  · rintro i V hi ⟨U, rfl, hU⟩
    obtain ⟨⟨g1, g2, g3⟩, cell, g4, g5, g6, g7, g8⟩ := hst i U hi hU
    exact ⟨⟨g1, g2, g3⟩, cell, g4, g5, g6, g7, _, rfl, g8⟩
  · rintro d' acts' V ⟨U, rfl, hU⟩
    rw [wp_bind', W.mark, W.pushRef]
    exact ⟨_, State.topJava?_setTop' _ (hK 4 U hU), by rw [State.setTop_setTop]; exact hQ _ _ hU⟩
theorem ma_cold {Q : Unit → Pre} {index n c0 : Nat} {vm' : Vm} {T : State} {f : JFrame} (hs : T.topJava?.isSome) (hg : (Jvm.resolveClass f.method.cls index).Gives e.toSetting T.vm (.ok c0) vm') (hr : vm'.classReady f.method.cls index c0) (hsz : vm'.classes.size ≤ T.vm.classes.size) :
    wp (multianewarray.sem index n) Q E e d acts (T.setTop f) ↔ wp (multianewarray.sem index n) Q E e d acts ((T.setVm vm').setTop f) := by
  simp only [multianewarray.sem, wp_bind']
  exact W.resolveClassAt_transfer (s := T.setTop f) (State.method?_setTop f hs) hg hr hsz
end
def xs_MA (cA : Nat → ClassId) (U : State) : Prop := ∃ k, U.vm.classes[cA 3]? = some k ∧ k.kind = .array (cA 0) (.array .int)
theorem xs_MA.moved {cA : Nat → ClassId} {u U : State} (hvm : u.vm.Alike U.vm) (h : xs_MA cA u) : xs_MA cA U := by
  obtain ⟨k, h1, h2⟩ := h
  obtain ⟨k', h3, he⟩ := hvm.2.2 _ _ h1
  exact ⟨k', h3, by rw [he]; exact h2⟩
def ma_ad (ad : Nat → Nat → Nat) (q : Nat) : Nat → Nat → Nat := xw_u2 (xw_u2 (xw_u2 (xw_u2 (xw_u2 ad 9 0 q) 4 0 (q + 1)) 4 1 (q + 2)) 4 2 (q + 3)) 4 3 (q + 4)
def ma_e9 (cA : Nat → ClassId) (ad : Nat → Nat → Nat) (q : Nat) : va_E := .inl (cA 3, 4, .inr (.inr (.inr (.inr (fun i => some (ma_ad ad q 4 i))))))
def ma_e4 (cA : Nat → ClassId) : va_E := .inl (cA 0, 4, .inl (fun _ => 0))
def ma_E (cA : Nat → ClassId) (ad : Nat → Nat → Nat) (E : Nat → Nat → va_E) (q : Nat) : Nat → Nat → va_E := xw_u2 (xw_u2 (xw_u2 (xw_u2 (xw_u2 E 9 0 (ma_e9 cA ad q)) 4 0 (ma_e4 cA)) 4 1 (ma_e4 cA)) 4 2 (ma_e4 cA)) 4 3 (ma_e4 cA)
theorem ma_l {cA : Nat → ClassId} {I : List (Nat × Nat)} {ad : Nat → Nat → Nat} {E : Nat → Nat → va_E} {q : Nat} (n9 : (9, 0) ∉ I) (n4 : ∀ k, (4, k) ∉ I) : xw_l I ad E ++ [(q, ma_e9 cA ad q)] ++ [(q + 1, ma_e4 cA)] ++ [(q + 2, ma_e4 cA)] ++ [(q + 3, ma_e4 cA)] ++ [(q + 4, ma_e4 cA)] = xw_l (I ++ [(9, 0)] ++ [(4, 0)] ++ [(4, 1)] ++ [(4, 2)] ++ [(4, 3)]) (ma_ad ad q) (ma_E cA ad E q) := by
  rw [xw_new n9, xw_new (r := 4) (k := 0) (by simp [n4]), xw_new (r := 4) (k := 1) (by simp [n4]), xw_new (r := 4) (k := 2) (by simp [n4]), xw_new (r := 4) (k := 3) (by simp [n4])]
  rfl
theorem va_P_one {D : va_G} {cl : List vw_C} {ws : va_W} {H : Heap} {q : Nat} {cA : ClassId} {a0 : vp_A} (h : H[q]? = some (vp_cell cA a0)) (hP : va_P D cl ws H) : va_P D cl (ws ++ [(q, .inl (cA, a0))]) H := by
  refine hP.app (fun k x hx => ?_)
  have hz : k < 1 := (List.getElem?_eq_some_iff.mp hx).1
  rw [show k = 0 by omega] at hx
  cases hx
  exact h
theorem va_D_one {A : Nat → Prop} {ws : va_W} {q : Nat} {e : va_E} (h : va_D A ws) (hq : ∀ (k : Nat) (x : Nat × va_E), ws[k]? = some x → x.1 < q) (hA : A q) : va_D A (ws ++ [(q, e)]) ∧ ∀ (k : Nat) (x : Nat × va_E), (ws ++ [(q, e)])[k]? = some x → x.1 < q + 1 := by
  have one : ∀ (k : Nat) (x : Nat × va_E), ([(q, e)] : va_W)[k]? = some x → k = 0 ∧ x = (q, e) := by
    intro k x hx
    have hz : k < 1 := (List.getElem?_eq_some_iff.mp hx).1
    have hk : k = 0 := by omega
    subst hk
    cases hx
    exact ⟨rfl, rfl⟩
  refine ⟨va_D.app h ⟨fun i j x y hi hj _ => ?_, fun k x hx => ?_⟩ (fun i j x y hi hj => ?_), fun k x hx => ?_⟩
  · rw [(one i x hi).1, (one j y hj).1]
  · rw [(one k x hx).2]
    exact hA
  · have := hq i x hi
    rw [(one j y hj).2]
    show x.1 ≠ q
    omega
  · by_cases hl : k < ws.length
    · rw [List.getElem?_append_left hl] at hx
      have := hq k x hx
      omega
    · rw [List.getElem?_append_right (by omega)] at hx
      rw [(one _ x hx).2]
      show q < q + 1
      omega
section
variable {p : Program} {l : Launch} {e : Env} {R : Room} {s : State} {m : MethodId} {args : Array Value} {below : List Frame} {meth : Method} {c : Code} {H : Heap} {locs : List Loc} {cells slots : Nat} {Q : State → Prop}
variable {cc : ByteArray} {pc : Nat} {ls : Array Slot} {rest : List Value} {D : va_G} {A : Nat → Prop} {own : String} {I : List (Nat × Nat)} {ad : Nat → Nat → Nat} {E : Nat → Nat → va_E} {cA : Nat → ClassId}
/-- the states on the way -/
def ma_st (c1 c2 h : Nat) (T : State) : Nat → State
  | 0 => T.pushCell { cls := c1, slots := Array.replicate 4 .null, vm := .none }
  | i + 1 => ((ma_st c1 c2 h T i).pushCell { cls := c2, slots := Array.replicate 4 (.int 0), vm := .none }).setCell h ((arrV c1 4 (fun j => if j < i then .ref (h + 1 + j) else .null)).setSlot i (.ref (h + 1 + i)))
theorem ma_fact {T : State} {c1 c2 h : Nat} (hh : T.heap.size = h) (X : Stand p l e R s m args below meth c T locs cells slots) : ∀ i, i ≤ 4 → (ma_st c1 c2 h T i).vm = T.vm ∧ (∃ L : List Loc, (∀ q ∈ L, q.base = h) ∧ Stand p l e R s m args below meth c (ma_st c1 c2 h T i) (locs ++ L) (cells + 1 + i) (slots + 4 + 4 * i)) ∧
    (ma_st c1 c2 h T i).heap.size = h + 1 + i ∧ (ma_st c1 c2 h T i).heap[h]? = some (arrV c1 4 (fun j => if j < i then .ref (h + 1 + j) else .null)) ∧ (∀ j, j < i → (ma_st c1 c2 h T i).heap[h + 1 + j]? = some (arrV c2 4 (fun _ => .int 0))) ∧ ∀ q, q < h → (ma_st c1 c2 h T i).heap[q]? = T.heap[q]? := by
  intro i
  induction i with
  | zero =>
    intro _
    have hp := State.heap_pushCell_size T { cls := c1, slots := Array.replicate 4 .null, vm := .none }
    refine ⟨rfl, ⟨[], (fun q hq => by cases hq), by
      have h9 := X.pushed { cls := c1, slots := Array.replicate 4 .null, vm := .none }
      simp only [Array.size_replicate] at h9
      rw [List.append_nil]
      exact h9⟩, ?_, ?_, (fun j hj => by omega), fun q hq => ?_⟩
    · show (T.heap.push _).size = _
      rw [Array.size_push, hh]
    · rw [← hh]
      refine hp.trans ?_
      rw [arrV_new]
      simp
    · show (T.heap.push _)[q]? = _
      rw [Array.getElem?_push, if_neg (by omega)]
  | succ i ih =>
    intro hi
    obtain ⟨h1, ⟨L, hL, hX⟩, h2, h3, h4, h5⟩ := ih (by omega)
    generalize hU : ma_st c1 c2 h T i = U at h1 hX h2 h3 h4 h5
    have hV : ma_st c1 c2 h T (i + 1) = (U.pushCell { cls := c2, slots := Array.replicate 4 (.int 0), vm := .none }).setCell h ((arrV c1 4 (fun j => if j < i then .ref (h + 1 + j) else .null)).setSlot i (.ref (h + 1 + i))) := by rw [← hU]; rfl
    rw [hV]
    have o1 : ∀ q, q < h + 1 + i → (U.pushCell { cls := c2, slots := Array.replicate 4 (.int 0), vm := .none }).heap[q]? = U.heap[q]? := by
      intro q hq
      show (U.heap.push _)[q]? = _
      rw [Array.getElem?_push, if_neg (by omega)]
    have z1 : (U.pushCell { cls := c2, slots := Array.replicate 4 (.int 0), vm := .none }).heap.size = h + 1 + (i + 1) := by
      show (U.heap.push _).size = _
      rw [Array.size_push, h2]
      omega
    have n1 : (U.pushCell { cls := c2, slots := Array.replicate 4 (.int 0), vm := .none }).heap[h + 1 + i]? = some (arrV c2 4 (fun _ => .int 0)) := by
      rw [← h2]
      refine (State.heap_pushCell_size U _).trans ?_
      rw [arrV_new]
    have e3 : (U.pushCell { cls := c2, slots := Array.replicate 4 (.int 0), vm := .none }).heap[h]? = some (arrV c1 4 (fun j => if j < i then .ref (h + 1 + j) else .null)) := (o1 h (by omega)).trans h3
    refine ⟨h1, ⟨L ++ [⟨h, i⟩], fun q hq => ?_, ?_⟩, ?_, ?_, fun j hj => ?_, fun q hq => ?_⟩
    · rcases List.mem_append.mp hq with z | z
      · exact hL q z
      · rw [List.mem_singleton.mp z]
    · have := (hX.pushed { cls := c2, slots := Array.replicate 4 (.int 0), vm := .none }).stored e3 i (.ref (h + 1 + i))
      rw [List.append_assoc] at this
      simpa [Nat.add_assoc, Nat.mul_add] using this
    · rw [size_setCell]
      exact z1
    · have hlt : h < h + 1 + (i + 1) := by omega
      rw [heapAt_setCell_self _ (by rw [z1]; exact hlt), arrV_store]
      congr 2
      funext j
      unfold updV
      by_cases hj : j = i
      · subst hj
        simp
      · by_cases hj2 : j < i
        · simp [hj, hj2, Nat.lt_succ_of_lt hj2]
        · simp [hj, hj2, show ¬ j < i + 1 by omega]
    · have n5 : h ≠ h + 1 + j := by omega
      rw [heapAt_setCell_ne _ n5]
      by_cases hji : j = i
      · subst hji
        exact n1
      · rw [o1 _ (by omega)]
        exact h4 j (by omega)
    · have n6 : h ≠ q := by omega
      rw [heapAt_setCell_ne _ n6, o1 q (by omega)]
      exact h5 q hq
theorem xr_multi (C : xr_C xBIG p c cc own s m args) (w : xr_W xCl (xT cA) D I ad E A s H locs) (hma : xs_MA cA s) {index : Nat} (hlink : Cond.classLink own index "[[I" ∈ xBIG) (n9 : (9, 0) ∉ I) (n4 : ∀ k, (4, k) ∉ I) (hcells : cells + 5 ≤ R.cells) (hslots : slots + 20 ≤ R.slots) (hdg : decode cc pc = .ok (.multianewarray index 2, 4))
    (kk : ∀ (q : Nat) (H1 : Heap) (locs1 : List Loc), xr_W xCl (xT cA) D (I ++ [(9, 0)] ++ [(4, 0)] ++ [(4, 1)] ++ [(4, 2)] ++ [(4, 3)]) (ma_ad ad q) (ma_E cA ad E q) A s H1 locs1 → W p l e R s m args below meth c H1 locs1 (cells + 5) (slots + 20) Q (F0 m (pc + 4) ls (.ref q :: rest))) :
    W p l e R s m args below meth c H locs cells slots Q (F0 m pc ls (.int (nI 4) :: .int (nI 4) :: rest)) := by
  obtain ⟨hx, hb, hown, hts⟩ := C
  obtain ⟨hP, hD, hK, hS, hA⟩ := w
  intro T hT X
  subst hT
  have hpl : e.platform.magicAccessors = ({} : Platform).magicAccessors := by rw [X.admits.platform]
  obtain ⟨c3, hfcc, hcl⟩ := Cond.classLink_spec hown (hts _ hlink) e.platform hpl
  have hs9 : "[" ++ (FieldType.array .int).toString = "[[I" := by decide +kernel
  have h3 : s.vm.findClass "[[I" = some (cA 3) := by
    have h9 : s.vm.findClass ("[" ++ (FieldType.array .int).toString) = some (cA 3) := (hK.2 3 (cA 3, .array .int) rfl).2
    rw [hs9] at h9
    exact h9
  have ecc : c3 = cA 3 := Option.some.inj (hfcc.symm.trans h3)
  subst ecc
  obtain ⟨hg₁, hwarm₁, hready₁⟩ := State.classEntry (e := e) X.warmed hcl
  have hsz : (T.vm.noted m.cls index (.cls (cA 3))).classes.size ≤ T.vm.classes.size := by no_record
  generalize T.vm.noted m.cls index (.cls (cA 3)) = vm₁ at hg₁ hwarm₁ hready₁ hsz
  have hal := hwarm₁.alike
  obtain ⟨k1, hk1, hkind1⟩ := hma
  obtain ⟨k1', hk1', he1⟩ := hal.2.2 _ _ hk1
  obtain ⟨-, k2, hk2, comp, hkind2⟩ := (hK.2 0 (cA 0, .int) rfl).1 0 (fun _ => .null)
  obtain ⟨k2', hk2', he2⟩ := hal.2.2 _ _ hk2
  have hkind1' : k1'.kind = .array (cA 0) (.array .int) := by rw [he1]; exact hkind1
  have hkind2' : k2'.kind = .array comp .int := by rw [he2]; exact hkind2
  have hlimit : ¬ 4 > e.platform.arrayLengthLimit := by rw [Launch.admits_arrayLengthLimit X.admits]; omega
  have hheap : ¬ 4 * componentBytes (.array .int) > e.platform.maxHeapBytes := by rw [Launch.admits_maxHeapBytes X.admits]; decide
  have hheap2 : ¬ 4 * componentBytes .int > e.platform.maxHeapBytes := by rw [Launch.admits_maxHeapBytes X.admits]; decide
  have X₁ := X.noted hwarm₁
  obtain ⟨hr1, hr2⟩ := X.roomAbove hcells hslots
  have hF := ma_fact (c1 := cA 3) (c2 := cA 0) (T := T.setVm vm₁) (h := T.heap.size) rfl X₁
  obtain ⟨hv4, ⟨L, hL, hX4⟩, hs4, hh4, hi4, ho4⟩ := hF 4 (Nat.le_refl 4)
  have hS4 : va_S A s.heap (ma_st (cA 3) (cA 0) T.heap.size (T.setVm vm₁) 4).heap (locs ++ L) := by
    refine ⟨by rw [hs4]; have := hS.1; omega, fun q h1 h2 => ?_, fun q hq => ?_⟩
    · rw [ho4 q (Nat.lt_of_lt_of_le h1 hS.1)]
      exact hS.2.1 q h1 h2
    · rcases List.mem_append.mp hq with z | z
      · exact hS.2.2 q z
      · rw [hL q z]
        exact hA _ hS.1
  have hP4 : va_P D xCl (xw_l I ad E) (ma_st (cA 3) (cA 0) T.heap.size (T.setVm vm₁) 4).heap := hP.kept (fun k x hx => ho4 x.1 ((hP k x hx).lt))
  have d0 : ∀ (k : Nat) (x : Nat × va_E), (xw_l I ad E)[k]? = some x → x.1 < T.heap.size := fun k x hx => (hP k x hx).lt
  obtain ⟨D1, d1⟩ := va_D_one (e := ma_e9 cA ad T.heap.size) hD d0 (hA _ hS.1)
  obtain ⟨D2, d2⟩ := va_D_one (e := ma_e4 cA) D1 d1 (hA _ (by have := hS.1; omega))
  obtain ⟨D3, d3⟩ := va_D_one (e := ma_e4 cA) D2 d2 (hA _ (by have := hS.1; omega))
  obtain ⟨D4, d4⟩ := va_D_one (e := ma_e4 cA) D3 d3 (hA _ (by have := hS.1; omega))
  obtain ⟨D5, -⟩ := va_D_one (e := ma_e4 cA) D4 d4 (hA _ (by have := hS.1; omega))
  have e9 : (ma_st (cA 3) (cA 0) T.heap.size (T.setVm vm₁) 4).heap[T.heap.size]? = some (vp_cell (cA 3) (4, .inr (.inr (.inr (.inr (fun i => some (ma_ad ad T.heap.size 4 i))))))) := by
    rw [hh4, vp_cell_q]
    unfold arrV
    congr 2
  have P1 := va_P_one e9 hP4
  have P2 := va_P_one (a0 := (4, .inl (fun _ => 0))) (hi4 0 (by omega)) P1
  have P3 := va_P_one (a0 := (4, .inl (fun _ => 0))) (hi4 1 (by omega)) P2
  have P4 := va_P_one (a0 := (4, .inl (fun _ => 0))) (hi4 2 (by omega)) P3
  have P5 := va_P_one (a0 := (4, .inl (fun _ => 0))) (hi4 3 (by omega)) P4
  have E5 := ma_l (cA := cA) (ad := ad) (E := E) (q := T.heap.size) n9 n4
  have P5' : va_P D xCl (xw_l (I ++ [(9, 0)] ++ [(4, 0)] ++ [(4, 1)] ++ [(4, 2)] ++ [(4, 3)]) (ma_ad ad T.heap.size) (ma_E cA ad E T.heap.size)) (ma_st (cA 3) (cA 0) T.heap.size (T.setVm vm₁) 4).heap := by rw [← E5]; exact P5
  have D5' : va_D A (xw_l (I ++ [(9, 0)] ++ [(4, 0)] ++ [(4, 1)] ++ [(4, 2)] ++ [(4, 3)]) (ma_ad ad T.heap.size) (ma_E cA ad E T.heap.size)) := by rw [← E5]; exact D5
  obtain ⟨t, a1, b1⟩ := kk T.heap.size _ (locs ++ L) ⟨P5', D5', hK, hS4, hA⟩ (ma_st (cA 3) (cA 0) T.heap.size (T.setVm vm₁) 4) rfl hX4
  refine ⟨t, ?_, b1⟩
  jvm_step X.here [X.here.top, hx, hb, hdg]
  refine (ma_cold X.here.top hg₁ hready₁ hsz).mpr ?_
  refine ma_sem (T := T.setVm vm₁) (f := F0 m pc ls (.int (nI 4) :: .int (nI 4) :: rest)) (index := index) (k1 := k1') (k2 := k2') X.here.top hready₁ hk1' hkind1' hkind2' (show (Value.int (nI 4) :: Value.int (nI 4) :: rest : List Value) = .int 4 :: .int 4 :: rest by rw [show nI 4 = (4 : Int32) by decide]) hlimit hheap hheap2 (by show T.heap.size < _; omega) (by show T.slotsUsed + 4 ≤ _; omega) (fun i U => i ≤ 4 ∧ U = ma_st (cA 3) (cA 0) T.heap.size (T.setVm vm₁) i) ⟨by omega, rfl⟩ (fun i U hU => ?_) (fun i U hi hU => ?_) (fun acts V hV => ?_)
  · obtain ⟨-, ⟨L', -, hX'⟩, -⟩ := hF i hU.1
    rw [hU.2]
    exact hX'.here.top
  · obtain ⟨-, rfl⟩ := hU
    obtain ⟨g1, ⟨L', hL', hX'⟩, g2, g3, g4, g5⟩ := hF i (by omega)
    obtain ⟨q1, q2⟩ := hX'.roomAbove (a := 4 - i) (b := 16 - 4 * i) (by omega) (by omega)
    refine ⟨⟨by omega, by omega, by rw [g1]; exact hk2'⟩, arrV (cA 3) 4 (fun j => if j < i then .ref (T.heap.size + 1 + j) else .null), ?_, (fun z => by cases z), by rw [arrV_size]; exact hi, ?_, by omega, ?_⟩
    · show (Array.push _ _)[_]? = _
      rw [Array.getElem?_push, if_neg (by rw [g2]; show ¬ T.heap.size = _; omega)]
      exact g3
    · show State.fitsSlot _ (cA 3) .none i _ = true
      have hk9 : (ma_st (cA 3) (cA 0) T.heap.size (T.setVm vm₁) i).vm.classes[cA 3]? = some k1' := by
        rw [g1]
        exact hk1'
      simp [State.fitsSlot, State.slotType?, hk9, hkind1', fits]
    · show _ = ma_st (cA 3) (cA 0) T.heap.size (T.setVm vm₁) (i + 1)
      rw [g2]
      rfl
  · obtain ⟨-, rfl⟩ := hV
    intro acts2
    rw [afterInstr_ok]
    exact a1
end
section
variable {p : Program} {l : Launch} {e : Env} {R : Room} {s : State} {m : MethodId} {args : Array Value} {below : List Frame} {meth : Method} {c : Code} {H : Heap} {locs : List Loc} {cells slots : Nat} {Q : State → Prop}
variable {cc : ByteArray} {pc : Nat} {ls : Array Slot} {rest st0 : List Value} {D : va_G} {cl : List vw_C} {tys : List (ClassId × FieldType)} {A : Nat → Prop} {own : String} {Ts : List Cond} {I : List (Nat × Nat)} {ad : Nat → Nat → Nat} {E : Nat → Nat → va_E} {r k : Nat} {cA : Nat → ClassId}
/-! the same beside an object that is under way -/
theorem xr_newaC {o : va_E} (r2 k2 : Nat) (C : xr_C Ts p c cc own s m args) (w : xr_W cl tys D I ad (xw_u2 E r k o) A s H locs) (hne : ¬ (r2 = r ∧ k2 = k)) (hI : (r2, k2) ∉ I) {atype : ArrayType} (harr : Cond.arrayClass (newarray.typeOf atype) ∈ Ts) {ty : FieldType} (hty : newarray.typeOf atype = ty) {cA0 : ClassId} (t0 : Nat) (ht0 : tys[t0]? = some (cA0, ty)) {n : Int32} (N' : Nat) (a0 : vp_A) (ha : ∀ cA : ClassId, vp_cell cA a0 = arrV cA N' (fun _ => defaultValue ty)) (hn : n = nI N') (hN : N' ≤ 67108864) (hbytes : N' * componentBytes ty ≤ 536870912) (hcells : cells + 1 ≤ R.cells) (hslots : slots + N' ≤ R.slots) (hdg : decode cc pc = .ok (.newarray atype, 2))
    (kk : ∀ (q : Nat) (H1 : Heap), xr_W cl tys D (I ++ [(r2, k2)]) (xw_u2 ad r2 k2 q) (xw_u2 (xw_u2 E r2 k2 (.inl (cA0, a0))) r k o) A s H1 locs → W p l e R s m args below meth c H1 locs (cells + 1) (slots + N') Q (F0 m (pc + 2) ls (.ref q :: rest))) : W p l e R s m args below meth c H locs cells slots Q (F0 m pc ls (.int n :: rest)) :=
  xr_newa C w hI harr hty t0 ht0 N' a0 ha hn hN hbytes hcells hslots hdg (fun q H1 w1 => kk q H1 (by rw [xw_u2_comm E o _ hne] at w1; exact w1))
theorem xr_newqC {o : va_E} (r2 k2 : Nat) (C : xr_C Ts p c cc own s m args) (w : xr_W cl tys D I ad (xw_u2 E r k o) A s H locs) (hne : ¬ (r2 = r ∧ k2 = k)) (hI : (r2, k2) ∉ I) {Cn : String} {index : Nat} (hlink : Cond.classLink own index Cn ∈ Ts) (hover : va_AO Cn s) {cA0 : ClassId} (t0 : Nat) (ht0 : tys[t0]? = some (cA0, .object Cn)) {n : Int32} (N' : Nat) (hn : n = nI N') (hN : N' ≤ 67108864) (hcells : cells + 1 ≤ R.cells) (hslots : slots + N' ≤ R.slots) (hdg : decode cc pc = .ok (.anewarray index, 3))
    (kk : ∀ (q : Nat) (H1 : Heap), xr_W cl tys D (I ++ [(r2, k2)]) (xw_u2 ad r2 k2 q) (xw_u2 (xw_u2 E r2 k2 (.inl (cA0, N', .inr (.inr (.inr (.inr (fun _ => none))))))) r k o) A s H1 locs → W p l e R s m args below meth c H1 locs (cells + 1) (slots + N') Q (F0 m (pc + 3) ls (.ref q :: rest))) : W p l e R s m args below meth c H locs cells slots Q (F0 m pc ls (.int n :: rest)) :=
  xr_newq C w hI hlink hover t0 ht0 N' hn hN hcells hslots hdg (fun q H1 w1 => kk q H1 (by rw [xw_u2_comm E o _ hne] at w1; exact w1))
theorem ma_E_comm (cA : Nat → ClassId) (ad : Nat → Nat → Nat) (E : Nat → Nat → va_E) (o : va_E) (q : Nat) : ma_E cA ad (xw_u2 E 5 0 o) q = xw_u2 (ma_E cA ad E q) 5 0 o := by
  unfold ma_E
  rw [xw_u2_comm E o _ (by decide), xw_u2_comm (xw_u2 E 9 0 _) o _ (by decide), xw_u2_comm (xw_u2 (xw_u2 E 9 0 _) 4 0 _) o _ (by decide), xw_u2_comm (xw_u2 (xw_u2 (xw_u2 E 9 0 _) 4 0 _) 4 1 _) o _ (by decide), xw_u2_comm (xw_u2 (xw_u2 (xw_u2 (xw_u2 E 9 0 _) 4 0 _) 4 1 _) 4 2 _) o _ (by decide)]
end
/-! names and memory at the start -/
def xsm (a b : Nat) : xMem := fun r k => match r with
  | 0 => fun i => if i = 0 then nI (k / 4) else if i = 1 then nI (k % 4) else nI 0
  | 2 => fun i => if i = 2 then nI 4 else if i = 3 then -1 else nI 0
  | 5 => fun i => if i = 8 then nI 3 else if i = 9 then nI 15 else nI 0
  | 6 => fun i => if i = 0 then nI a else 0
  | 7 => fun i => if i = 0 then nI b else 0
  | 11 => fun i => if i = 0 then nI 0 else 0
  | 20 => fun i => if i = 18 then nI 15 else if i = 19 then nI 3 else 0
  | 25 => va_up (va_up (va_up (fun _ => 0) 0 (-1)) 1 (-1)) 2 (-1)
  | _ => fun _ => 0
def xNm (I : List (Nat × Nat)) (i t : Nat) : Prop := ∀ r k, (r, k) ∈ I ↔ (r ≤ 1 ∧ k < i) ∨ ((r = 2 ∨ r = 3) ∧ k < t) ∨ (r = 4 ∧ k < 4) ∨ (5 ≤ r ∧ r ≤ 11 ∧ k = 0)
theorem xsm_6 {a a' b r k : Nat} (h : r ≠ 6) : xsm a b r k = xsm a' b r k := by
  unfold xsm
  split <;> first | rfl | (exfalso; omega)
theorem xsm_7 {a b b' r k : Nat} (h : r ≠ 7) : xsm a b r k = xsm a b' r k := by
  unfold xsm
  split <;> first | rfl | (exfalso; omega)
/-- a cell's picture where the addresses that it tells of are the same -/
theorem xcell_cg {cA : Nat → ClassId} {tz : Nat} {ad ad' : Nat → Nat → Nat} {r k : Nat} {f : Nat → Int32} (h0 : ∀ a, 4 ≤ a → a < 40 → ad' a = ad a) (h1 : r = 0 → ad' 1 k = ad 1 k) (h2 : r = 2 → ad' 3 k = ad 3 k) (h6 : r = 6 → ∀ i, i < (f 0).toNatClampNeg → ad' 0 i = ad 0 i) (h7 : r = 7 → ∀ i, i < (f 0).toNatClampNeg → ad' 2 i = ad 2 i) :
    xcell cA tz ad' r k f = xcell cA tz ad r k f := by
  have e4 := h0 4 (by decide) (by decide)
  have e6 := h0 6 (by decide) (by decide)
  have e7 := h0 7 (by decide) (by decide)
  have e8 := h0 8 (by decide) (by decide)
  have e9 := h0 9 (by decide) (by decide)
  have e10 := h0 10 (by decide) (by decide)
  have e11 := h0 11 (by decide) (by decide)
  have e12 := h0 12 (by decide) (by decide)
  have e13 := h0 13 (by decide) (by decide)
  have e21 := h0 21 (by decide) (by decide)
  have e22 := h0 22 (by decide) (by decide)
  have e23 := h0 23 (by decide) (by decide)
  have e24 := h0 24 (by decide) (by decide)
  have e25 := h0 25 (by decide) (by decide)
  have e26 := h0 26 (by decide) (by decide)
  have e27 := h0 27 (by decide) (by decide)
  have e28 := h0 28 (by decide) (by decide)
  have e29 := h0 29 (by decide) (by decide)
  have e30 := h0 30 (by decide) (by decide)
  have e31 := h0 31 (by decide) (by decide)
  have e32 := h0 32 (by decide) (by decide)
  have e33 := h0 33 (by decide) (by decide)
  have e34 := h0 34 (by decide) (by decide)
  have e35 := h0 35 (by decide) (by decide)
  have e36 := h0 36 (by decide) (by decide)
  unfold xcell
  split
  all_goals try simp only [e4, e6, e7, e8, e9, e10, e11, e12, e13, e21, e22, e23, e24, e25, e26, e27, e28, e29, e30, e31, e32, e33, e34, e35, e36]
  · rw [h1 rfl]
  · rw [h2 rfl]
  · rw [xv_fill_congr (h6 rfl)]
  · rw [xv_fill_congr (h7 rfl)]
/-- cells of the class, where only others' addresses are new -/
theorem xcell_lt {cA : Nat → ClassId} {tz : Nat} {ad ad' : Nat → Nat → Nat} {r k : Nat} {f : Nat → Int32} (h : r < 14) (h0 : ∀ a, a < 14 → ad' a = ad a) : xcell cA tz ad' r k f = xcell cA tz ad r k f := by
  have e0 := h0 0 (by decide)
  have e1 := h0 1 (by decide)
  have e2 := h0 2 (by decide)
  have e3 := h0 3 (by decide)
  have e4 := h0 4 (by decide)
  have e6 := h0 6 (by decide)
  have e7 := h0 7 (by decide)
  have e8 := h0 8 (by decide)
  have e9 := h0 9 (by decide)
  have e10 := h0 10 (by decide)
  have e11 := h0 11 (by decide)
  have e12 := h0 12 (by decide)
  have e13 := h0 13 (by decide)
  unfold xcell
  split
  all_goals first | (exfalso; omega) | simp only [e0, e1, e2, e3, e4, e6, e7, e8, e9, e10, e11, e12, e13]
theorem xcell_40 {cA : Nat → ClassId} {tz : Nat} {ad ad' : Nat → Nat → Nat} {r k : Nat} {f : Nat → Int32} (h0 : ∀ a, a < 40 → ad' a = ad a) : xcell cA tz ad' r k f = xcell cA tz ad r k f :=
  xcell_cg (fun a _ h => h0 a h) (fun _ => by rw [h0 1 (by decide)]) (fun _ => by rw [h0 3 (by decide)]) (fun _ i _ => by rw [h0 0 (by decide)]) (fun _ i _ => by rw [h0 2 (by decide)])
