/-! Contracts over worlds by names, their bodies, their ends, their calls. -/
section
/-- statics that nobody writes: what they say stays -/
def xr_ZL (Z : (Nat → Prop) → State → Heap → Prop) : Prop :=
  (∀ (A : Nat → Prop) (u U : State) (H : Heap), u.vm.Alike U.vm → Z A u H → Z A U H) ∧ (∀ (A : Nat → Prop) (U : State) (H H1 : Heap), (∀ a : Nat, a < H.size → ¬ A a → H1[a]? = H[a]?) → Z A U H → Z A U H1) ∧ ∀ (A B : Nat → Prop) (U : State) (H : Heap), (∀ q, B q → A q) → Z A U H → Z B U H
abbrev xr_B : Type := Option Value → List (Nat × Nat) → (Nat → Nat → Nat) → (Nat → Nat → va_E) → Prop
def xr_Pre (cl : List vw_C) (tys : List (ClassId × FieldType)) (D : va_G) (Z : (Nat → Prop) → State → Heap → Prop) (I : List (Nat × Nat)) (ad : Nat → Nat → Nat) (E : Nat → Nat → va_E) (sz : Nat) : State → Prop := fun U =>
  U.heap.size = sz ∧ va_P D cl (xw_l I ad E) U.heap ∧ va_D (fun _ => True) (xw_l I ad E) ∧ va_K D cl tys U ∧ Z (xw_A I ad sz) U U.heap
def xr_Q (cl : List vw_C) (D : va_G) (A : Nat → Prop) (B : xr_B) : Array Value → State → Outcome → State → Prop := fun _ st oc t =>
  ∃ (o : Option Value) (I' : List (Nat × Nat)) (ad' : Nat → Nat → Nat) (E' : Nat → Nat → va_E), oc = .returned o ∧ B o I' ad' E' ∧ va_P D cl (xw_l I' ad' E') t.heap ∧ va_D A (xw_l I' ad' E') ∧ va_F A st t
def xr_R (d mc ms : Nat) : Room := { frames := d, cells := mc, slots := ms, locals := 40 * d }
/-- a method's contract: at any size of the heap -/
def xr_M (Ts : List Cond) (cl : List vw_C) (tys : List (ClassId × FieldType)) (D : va_G) (Z : (Nat → Prop) → State → Heap → Prop) (l : Launch) (y : MethodName) (bytes : ByteArray) (maxL : Nat) (ret : Option FieldType) (d mc ms : Nat) (av : List Value) (I : List (Nat × Nat)) (ad : Nat → Nat → Nat) (E : Nat → Nat → va_E) (B : xr_B) : Prop :=
  ∀ sz : Nat, Met l y (Cond.code y bytes maxL ret :: Ts) (xr_R d mc ms) (va_Pc av (xr_Pre cl tys D Z I ad E sz)) (xr_Q cl D (xw_A I ad sz) B) mc ms (xw_A I ad sz)
variable {p : Program} {l : Launch} {e : Env} {R : Room} {s : State} {m : MethodId} {args : Array Value} {below : List Frame} {meth : Method} {c : Code} {H : Heap} {locs : List Loc} {cells slots : Nat} {Q : State → Prop}
variable {cc : ByteArray} {pc : Nat} {ls : Array Slot} {rest st0 : List Value} {D : va_G} {cl : List vw_C} {tys : List (ClassId × FieldType)} {A : Nat → Prop} {own : String} {Ts : List Cond} {I : List (Nat × Nat)} {ad : Nat → Nat → Nat} {E : Nat → Nat → va_E} {r k : Nat} {Z : (Nat → Prop) → State → Heap → Prop}
variable {y : MethodName} {bytes : ByteArray} {maxL d mc ms nL n index : Nat} {ret : Option FieldType} {av As : List Value} {B : xr_B}
theorem xr_of (hy : plainName y.cls = true) (hls : (lg_sl av).length ≤ maxL)
    (h : ∀ (p : Program) (e : Env) (s : State) (m : MethodId) (args : Array Value) (below : List Frame) (meth : Method) (c : Code) (A : Nat → Prop) (ls : Array Slot), xr_C Ts p c bytes y.cls s m args → meth.sig.returnType = ret → meth.locks = false → c.maxLocals = maxL → meth.name = y.name → lv_has ls maxL (lv_args 0 av) → xr_W cl tys D I ad E A s s.heap [] → Z A s s.heap →
      W p l e (xr_R d mc ms) s m args below meth c s.heap [] 0 0 (MQ below (xr_Q cl D A B) args s mc ms A) (F0 m 0 ls [])) : xr_M Ts cl tys D Z l y bytes maxL ret d mc ms av I ad E B := by
  intro sz
  refine Met.ofW (cc := bytes) (maxL := maxL) (ret := ret) hy rfl ?_
  intro p e s m args below meth c s₁ B' hml hv
  obtain ⟨rfl, hsz, hP, hD, hK, hZ⟩ := hv
  subst hsz
  have hts := atoms_spec (ws := Cond.code y bytes maxL ret :: Ts) B'.pre
  rw [lg_entry_eq]
  exact h p e s m _ below meth c (xw_A I ad s.heap.size) _ ⟨B'.exec, B'.bytes, findClass_of_methodNamed B'.named, fun w hw => hts w (List.mem_cons_of_mem _ hw)⟩ B'.returns B'.notSynchronized hml (name_of_methodNamed B'.named B'.method).1 (lv_entry av hls) ⟨hP, xw_DA hD, hK, va_S.rf, fun q hq => Or.inr hq⟩ hZ
theorem xr_iret (C : xr_C Ts p c cc own s m args) (w : xr_W cl tys D I ad E A s H locs) {v : Int32} (hr : meth.sig.returnType = some .int) (hlocks : meth.locks = false) (hB : B (some (.int v)) I ad E) (hc : cells ≤ mc) (hs : slots ≤ ms) (hdg : decode cc pc = .ok (.ireturn, 1)) :
    W p l e R s m args below meth c H locs cells slots (MQ below (xr_Q cl D A B) args s mc ms A) (F0 m pc ls [.int v]) := by
  obtain ⟨hP, hD, hK, hS, hA⟩ := w
  refine W.widen hc hs ?_
  exact W.iret C.1 C.2.1 hr (fun t ht hW => ⟨some (.int v), I, ad, E, rfl, hB, by rw [ht]; exact hP, hD, hS.F ht⟩) hS.2.2 hdg hlocks
theorem xr_zret (C : xr_C Ts p c cc own s m args) (w : xr_W cl tys D I ad E A s H locs) {v : Int32} (hr : meth.sig.returnType = some .boolean) (hv : v = nI 0 ∨ v = nI 1) (hlocks : meth.locks = false) (hB : B (some (.int v)) I ad E) (hc : cells ≤ mc) (hs : slots ≤ ms) (hdg : decode cc pc = .ok (.ireturn, 1)) :
    W p l e R s m args below meth c H locs cells slots (MQ below (xr_Q cl D A B) args s mc ms A) (F0 m pc ls [.int v]) := by
  obtain ⟨hP, hD, hK, hS, hA⟩ := w
  refine W.widen hc hs ?_
  exact W.zret C.1 C.2.1 hr (by rcases hv with h | h <;> subst h <;> decide +kernel) (fun t ht hW => ⟨some (.int v), I, ad, E, rfl, hB, by rw [ht]; exact hP, hD, hS.F ht⟩) hS.2.2 hdg hlocks
theorem xr_vret (C : xr_C Ts p c cc own s m args) (w : xr_W cl tys D I ad E A s H locs) (hr : meth.sig.returnType = none) (hlocks : meth.locks = false) (hB : B none I ad E) (hc : cells ≤ mc) (hs : slots ≤ ms) (hdg : decode cc pc = .ok (.return_, 1)) :
    W p l e R s m args below meth c H locs cells slots (MQ below (xr_Q cl D A B) args s mc ms A) (F0 m pc ls []) := by
  obtain ⟨hP, hD, hK, hS, hA⟩ := w
  refine W.widen hc hs ?_
  exact W.vret C.1 C.2.1 hr (fun t ht hW => ⟨none, I, ad, E, rfl, hB, by rw [ht]; exact hP, hD, hS.F ht⟩) hS.2.2 hdg hlocks
theorem xr_blind (hZ : xr_ZL Z) {sz : Nat} : FrameBlind (va_Pc av (xr_Pre cl tys D Z I ad E sz)) := by
  intro a U g mk q
  obtain ⟨q0, q1, qP, qD, qK, qZ⟩ := q
  exact ⟨q0, q1, qP, qD, va_K.moved (u := U) (U := U.calling g mk a) (Vm.Alike.refl U.vm) qK, hZ.1 _ U (U.calling g mk a) _ (Vm.Alike.refl U.vm) qZ⟩
theorem xr_pre (hZ : xr_ZL Z) (w : xr_W cl tys D I ad E A s H locs) (hz : Z A s s.heap) {U : State} (hU : U.heap = H) (hW : s.WarmedH U.vm) : xr_Pre cl tys D Z I ad E H.size U := by
  obtain ⟨hP, hD, hK, hS, hA⟩ := w
  refine ⟨by rw [hU], by rw [hU]; exact hP, hD.weaken (fun _ _ _ _ => trivial), va_K.moved hW.alike hK, ?_⟩
  rw [hU]
  exact hZ.2.2 _ _ _ _ (xw_free (sz := H.size) hD (fun q hq => hA q (Nat.le_trans hS.1 hq))) (hZ.1 _ _ _ _ hW.alike (hZ.2.1 _ _ _ _ hS.2.1 hz))
theorem xr_after (w : xr_W cl tys D I ad E A s H locs) {a : Array Value} (hr : va_Run p l e R s m args below meth c H locs cells slots mc ms (F0 m pc ls st0) rest (xr_Q cl D (xw_A I ad H.size) B a) (xw_A I ad H.size))
    (kk : ∀ (o : Option Value) (I' : List (Nat × Nat)) (ad' : Nat → Nat → Nat) (E' : Nat → Nat → va_E) (H1 : Heap) (locs1 : List Loc), B o I' ad' E' → xr_W cl tys D I' ad' E' A s H1 locs1 → W p l e R s m args below meth c H1 locs1 (cells + mc) (slots + ms) Q (F0 m (pc + 3) ls (o.toList ++ rest))) : W p l e R s m args below meth c H locs cells slots Q (F0 m pc ls st0) := by
  obtain ⟨hP, hD, hK, hS, hA⟩ := w
  have hF := xw_free (sz := H.size) hD (fun q hq => hA q (Nat.le_trans hS.1 hq))
  intro T hT X
  obtain ⟨v, st₀, t, T', L, h0, X', hL, e1, e2, ⟨o, I', ad', E', hv, hB, hP', hD', hz, hk⟩, st⟩ := hr T hT X
  cases hv
  rw [h0] at hz hk
  obtain ⟨t2, a1, b1⟩ := kk v I' ad' E' T'.heap (locs ++ L) hB ⟨by rw [e1]; exact hP', hD'.weaken (fun _ q _ h => hF q.1 h), hK, ⟨Nat.le_trans hS.1 (by rw [e1]; exact hz), fun q h1 h2 => by rw [e1, hk q (Nat.lt_of_lt_of_le h1 hS.1) (fun z => h2 (hF q z))]; exact hS.2.1 q h1 h2, fun q hq => by
      rcases List.mem_append.mp hq with h | h
      · exact hS.2.2 q h
      · exact hF _ (hL q h)⟩, hA⟩ T' rfl X'
  exact ⟨t2, st t2 a1, b1⟩
/-- what a call site needs of the words: of a virtual call, of a static one, of a constructor -/
def xr_KV (Ts : List Cond) (own : String) (index : Nat) (y : MethodName) (bytes : ByteArray) (maxL : Nat) (ret : Option FieldType) (n : Nat) : Prop :=
  Cond.methodLink own index y ∈ Ts ∧ Cond.instanceMethod y ∈ Ts ∧ Cond.selects y.cls y y ∈ Ts ∧ Cond.initialized y.cls ∈ Ts ∧ Cond.code y bytes maxL ret ∈ Ts ∧ (y.cls ≠ "java/lang/invoke/MethodHandle" ∧ y.cls ≠ "java/lang/invoke/VarHandle" ∧ (parseMethodDescriptor y.desc).map (fun d => d.parameters.length) = some n)
def xr_KS (Ts : List Cond) (own : String) (index : Nat) (y : MethodName) (bytes : ByteArray) (maxL : Nat) (ret : Option FieldType) (n : Nat) : Prop :=
  Cond.methodLink own index y ∈ Ts ∧ Cond.static y ∈ Ts ∧ Cond.initialized y.cls ∈ Ts ∧ Cond.code y bytes maxL ret ∈ Ts ∧ (y.cls ≠ "java/lang/invoke/MethodHandle" ∧ y.cls ≠ "java/lang/invoke/VarHandle" ∧ (parseMethodDescriptor y.desc).map (fun d => d.parameters.length) = some n)
def xr_KI (Ts : List Cond) (own : String) (index : Nat) (y : MethodName) (bytes : ByteArray) (maxL : Nat) (n : Nat) : Prop :=
  Cond.methodLink own index y ∈ Ts ∧ Cond.instanceMethod y ∈ Ts ∧ Cond.initialized y.cls ∈ Ts ∧ Cond.code y bytes maxL none ∈ Ts ∧ y.name = "<init>" ∧ (y.cls ≠ "java/lang/invoke/MethodHandle" ∧ y.cls ≠ "java/lang/invoke/VarHandle" ∧ (parseMethodDescriptor y.desc).map (fun d => d.parameters.length) = some n)
theorem xr_good (hG : ∀ w ∈ Ts, goodWord w = true) (hc : Cond.code y bytes maxL ret ∈ Ts) : GoodIn Ts (Cond.code y bytes maxL ret :: Ts) := by
  intro w hw
  rcases List.mem_cons.mp hw with rfl | h
  · exact ⟨hc, good_of_word (hG _ hc)⟩
  · exact ⟨h, good_of_word (hG _ h)⟩
theorem xr_callV (hG : ∀ w ∈ Ts, goodWord w = true) (hZ : xr_ZL Z) (C : xr_C Ts p c cc own s m args) (w : xr_W cl tys D I ad E A s H locs) (hz : Z A s s.heap) (hml : c.maxLocals = nL) (hls : ls.size = nL)
    (hK : xr_KV Ts own index y bytes maxL ret n) (hM : xr_M Ts cl tys D Z l y bytes maxL ret d mc ms (.ref (ad r k) :: As) I ad E B) (hI : (r, k) ∈ I) {ci : Nat} {fs : List Value} (he : E r k = .inr (ci, fs)) {T : u_T} {N : Nat} (hc : cl[ci]? = some (y.cls, T, N))
    (hn : As.length = n) (hst : st0 = As.reverse ++ .ref (ad r k) :: rest) (hrest : (rest.map fun v => v.category).sum ≤ 8) (hR : d + 1 ≤ R.frames ∧ 8 + (maxL + 11) + 40 * d ≤ R.locals) (hf : cells + mc ≤ R.cells ∧ slots + ms ≤ R.slots) (hdg : decode cc pc = .ok (.invokevirtual index, 3))
    (kk : ∀ (o : Option Value) (I' : List (Nat × Nat)) (ad' : Nat → Nat → Nat) (E' : Nat → Nat → va_E) (H1 : Heap) (locs1 : List Loc), B o I' ad' E' → xr_W cl tys D I' ad' E' A s H1 locs1 → W p l e R s m args below meth c H1 locs1 (cells + mc) (slots + ms) Q (F0 m (pc + 3) ls (o.toList ++ rest))) : W p l e R s m args below meth c H locs cells slots Q (F0 m pc ls st0) := by
  obtain ⟨k1, k2, k3, k4, k5, k6⟩ := hK
  obtain ⟨hx, hb, hown, hts⟩ := id C
  obtain ⟨q, hq⟩ := xw_at ad E hI
  rw [he] at hq
  refine xr_after w (a := (Value.ref (ad r k) :: As).toArray) (va_runV (C := y.cls) (Ts := Ts) (As := As) (rest := rest) ⟨hx, hb, hml, hown, hts⟩ (hM H.size) (cwV n hts (fun w' hw' => ?_) rfl rfl rfl ⟨rfl, k6⟩ hR) ⟨xr_blind hZ, va_recv w.2.2.1 w.1 hc hq, fun U hU hW => ⟨rfl, xr_pre hZ w hz hU hW⟩⟩ rfl hn hls hst (lv_room hrest) hdg hf) kk
  have hm : w' ∈ Ts := by
    simp only [wsV, List.cons_append, List.nil_append, List.mem_cons] at hw'
    rcases hw' with rfl | rfl | rfl | rfl | rfl | h
    · exact k1
    · exact k2
    · exact k3
    · exact k4
    · exact k5
    · exact h
  exact ⟨hm, good_of_word (hG _ hm)⟩
theorem xr_callS (hG : ∀ w ∈ Ts, goodWord w = true) (hZ : xr_ZL Z) (C : xr_C Ts p c cc own s m args) (w : xr_W cl tys D I ad E A s H locs) (hz : Z A s s.heap) (hml : c.maxLocals = nL) (hls : ls.size = nL)
    (hK : xr_KS Ts own index y bytes maxL ret n) (hM : xr_M Ts cl tys D Z l y bytes maxL ret d mc ms As I ad E B)
    (hn : As.length = n) (hst : st0 = As.reverse ++ rest) (hrest : (rest.map fun v => v.category).sum ≤ 8) (hR : d + 1 ≤ R.frames ∧ 8 + (maxL + 11) + 40 * d ≤ R.locals) (hf : cells + mc ≤ R.cells ∧ slots + ms ≤ R.slots) (hdg : decode cc pc = .ok (.invokestatic index, 3))
    (kk : ∀ (o : Option Value) (I' : List (Nat × Nat)) (ad' : Nat → Nat → Nat) (E' : Nat → Nat → va_E) (H1 : Heap) (locs1 : List Loc), B o I' ad' E' → xr_W cl tys D I' ad' E' A s H1 locs1 → W p l e R s m args below meth c H1 locs1 (cells + mc) (slots + ms) Q (F0 m (pc + 3) ls (o.toList ++ rest))) : W p l e R s m args below meth c H locs cells slots Q (F0 m pc ls st0) := by
  obtain ⟨k1, k2, k3, k4, k5⟩ := hK
  obtain ⟨hx, hb, hown, hts⟩ := id C
  refine xr_after w (a := As.toArray) (va_runS (Ts := Ts) (As := As) (rest := rest) ⟨hx, hb, hml, hown, hts⟩ (hM H.size) ⟨callB_of n hts (xr_good hG k4) rfl rfl rfl (hts _ k3) (hts _ k1) k5 hR, hts _ k2⟩ ⟨xr_blind hZ, fun U hU hW => ⟨rfl, xr_pre hZ w hz hU hW⟩⟩ rfl hn hls hst (lv_room hrest) hdg hf) kk
theorem xr_callI (hG : ∀ w ∈ Ts, goodWord w = true) (hZ : xr_ZL Z) (C : xr_C Ts p c cc own s m args) (w : xr_W cl tys D I ad E A s H locs) (hz : Z A s s.heap) (hml : c.maxLocals = nL) (hls : ls.size = nL)
    (hK : xr_KI Ts own index y bytes maxL n) {b : Nat} (hM : xr_M Ts cl tys D Z l y bytes maxL none d mc ms (.ref b :: As) I ad E B)
    (hn : As.length = n) (hst : st0 = As.reverse ++ .ref b :: rest) (hrest : (rest.map fun v => v.category).sum ≤ 8) (hR : d + 1 ≤ R.frames ∧ 8 + (maxL + 11) + 40 * d ≤ R.locals) (hf : cells + mc ≤ R.cells ∧ slots + ms ≤ R.slots) (hdg : decode cc pc = .ok (.invokespecial index, 3))
    (kk : ∀ (o : Option Value) (I' : List (Nat × Nat)) (ad' : Nat → Nat → Nat) (E' : Nat → Nat → va_E) (H1 : Heap) (locs1 : List Loc), B o I' ad' E' → xr_W cl tys D I' ad' E' A s H1 locs1 → W p l e R s m args below meth c H1 locs1 (cells + mc) (slots + ms) Q (F0 m (pc + 3) ls (o.toList ++ rest))) : W p l e R s m args below meth c H locs cells slots Q (F0 m pc ls st0) := by
  obtain ⟨k1, k2, k3, k4, k5, k6⟩ := hK
  obtain ⟨hx, hb, hown, hts⟩ := id C
  refine xr_after w (a := (Value.ref b :: As).toArray) (va_runI (Ts := Ts) (As := As) (rest := rest) ⟨hx, hb, hml, hown, hts⟩ (hM H.size) (cwI n hts (xr_good hG k4) rfl rfl rfl (hts _ k3) (hts _ k1) (hts _ k2) k5 k6 hR) ⟨xr_blind hZ, fun U hU hW => ⟨rfl, xr_pre hZ w hz hU hW⟩⟩ rfl hn hls hst (lv_room hrest) hdg hf) kk
end
section
variable {p : Program} {l : Launch} {e : Env} {R : Room} {s : State} {m : MethodId} {args : Array Value} {below : List Frame} {meth : Method} {c : Code} {H : Heap} {locs : List Loc} {cells slots mc ms pc : Nat} {cc : ByteArray} {ls : Array Slot} {D : va_G} {cl : List vw_C} {tys : List (ClassId × FieldType)} {A : Nat → Prop} {own : String} {Ts : List Cond} {I : List (Nat × Nat)} {ad : Nat → Nat → Nat} {E : Nat → Nat → va_E} {B : xr_B}
theorem xr_aret (C : xr_C Ts p c cc own s m args) (w : xr_W cl tys D I ad E A s H locs) {v : Value} {rt : FieldType} (hr : meth.sig.returnType = some rt) (hrt : (∃ n, rt = .object n) ∨ ∃ t, rt = .array t) (hv : v = .null ∨ ∃ a, v = .ref a) (hlocks : meth.locks = false) (hB : B (some v) I ad E) (hc : cells ≤ mc) (hs : slots ≤ ms) (hdg : decode cc pc = .ok (.areturn, 1)) :
    W p l e R s m args below meth c H locs cells slots (MQ below (xr_Q cl D A B) args s mc ms A) (F0 m pc ls [v]) := by
  obtain ⟨hP, hD, hK, hS, hA⟩ := w
  refine W.widen hc hs ?_
  exact W.aret C.1 C.2.1 hr hrt hv (fun t ht hW => ⟨some v, I, ad, E, rfl, hB, by rw [ht]; exact hP, hD, hS.F ht⟩) hS.2.2 hdg hlocks
end
