/-! Methods with handlers: their contracts, their calls, what they catch. -/
def xH (l : Launch) (y : MethodName) (bytes : ByteArray) (maxL : Nat) (ret : Option FieldType) (hh : List (Nat × Nat × Nat × Nat)) (d mc ms : Nat) (av : List Value) (D : va_G) (cA : Nat → ClassId) (tz : Nat) (I : List (Nat × Nat)) (ad : Nat → Nat → Nat) (σ : xMem) (o : (Nat → Nat → Nat) → Option Value) (σ' : xMem) (n' g' : Nat) : Prop :=
  ∀ sz : Nat, Met l y (Cond.codeWith y bytes maxL ret hh :: xBIG) (xr_R d mc ms) (va_Pc av (xr_Pre xCl (xT cA) D (xZ tz) I ad (xc cA tz ad σ) sz)) (xr_Q xCl D (xw_A I ad sz) (xAB o cA tz I ad σ' n' g')) mc ms (xw_A I ad sz)
section
variable {p : Program} {l : Launch} {e : Env} {R : Room} {s : State} {m : MethodId} {args : Array Value} {below : List Frame} {meth : Method} {c : Code} {H : Heap} {locs : List Loc} {cells slots mc ms : Nat} {Q : State → Prop}
variable {cc : ByteArray} {pc : Nat} {ls : Array Slot} {rest st0 : List Value} {D : va_G} {cA : Nat → ClassId} {tz : Nat} {A : Nat → Prop} {own En : String} {I : List (Nat × Nat)} {ad : Nat → Nat → Nat} {σ σ' : xMem} {r k n' g' : Nat}
variable {y : MethodName} {bytes : ByteArray} {maxL d nL n index : Nat} {ret : Option FieldType} {hh : List (Nat × Nat × Nat × Nat)} {av As : List Value} {o : (Nat → Nat → Nat) → Option Value}
theorem xh_of (hy : plainName y.cls = true) (hls : (lg_sl av).length ≤ maxL)
    (h : ∀ (p : Program) (e : Env) (s : State) (m : MethodId) (args : Array Value) (below : List Frame) (meth : Method) (c : Code) (A : Nat → Prop) (ls : Array Slot), xr_C xBIG p c bytes y.cls s m args → meth.sig.returnType = ret → meth.locks = false → c.maxLocals = maxL → c.exceptionTable.toList.map (fun h => (h.startPc, h.endPc, h.handlerPc, h.catchType)) = hh → lv_has ls maxL (lv_args 0 av) → xr_W xCl (xT cA) D I ad (xc cA tz ad σ) A s s.heap [] → xZ tz A s s.heap →
      W p l e (xr_R d mc ms) s m args below meth c s.heap [] 0 0 (MQ below (xr_Q xCl D A (xAB o cA tz I ad σ' n' g')) args s mc ms A) (F0 m 0 ls [])) : xH l y bytes maxL ret hh d mc ms av D cA tz I ad σ o σ' n' g' := by
  intro sz
  refine va_MetW (cc := bytes) (maxL := maxL) (ret := ret) (hh := hh) hy rfl ?_
  intro p e s m args below meth c s₁ B' hml hv
  obtain ⟨rfl, hsz, hP, hD, hK, hZ⟩ := hv
  subst hsz
  have hts := atoms_spec (ws := Cond.codeWith y bytes maxL ret hh :: xBIG) B'.pre
  obtain ⟨m9, meth9, c9, hn9, h1, h2, h3, h4, h5, h6, h7, h8⟩ := Cond.codeWith_spec (hts _ List.mem_cons_self)
  cases B'.named.symm.trans hn9
  cases B'.method.symm.trans h1
  cases (Stand.of_body B').code.symm.trans h2
  rw [lg_entry_eq]
  exact h p e s m _ below meth c (xw_A I ad s.heap.size) _ ⟨B'.exec, B'.bytes, findClass_of_methodNamed B'.named, fun w hw => hts w (List.mem_cons_of_mem _ hw)⟩ B'.returns B'.notSynchronized hml h5 (lv_entry av hls) ⟨hP, xw_DA hD, hK, va_S.rf, fun q hq => Or.inr hq⟩ hZ
theorem xh_call (C : xr_C xBIG p c cc own s m args) (w : xr_W xCl (xT cA) D I ad (xc cA tz ad σ) A s H locs) (hz : xZ tz A s s.heap) (hml : c.maxLocals = nL) (hls : ls.size = nL)
    (k1 : Cond.methodLink own index y ∈ xBIG) (k2 : Cond.static y ∈ xBIG) (k3 : Cond.initialized y.cls ∈ xBIG) (k4 : Cond.codeWith y bytes maxL ret hh ∈ xBIG) (k5 : y.cls ≠ "java/lang/invoke/MethodHandle" ∧ y.cls ≠ "java/lang/invoke/VarHandle" ∧ (parseMethodDescriptor y.desc).map (fun d => d.parameters.length) = some n)
    (hM : xH l y bytes maxL ret hh d mc ms As D cA tz I ad σ o σ' n' g')
    (hn : As.length = n) (hst : st0 = As.reverse ++ rest) (hrest : (rest.map fun v => v.category).sum ≤ 8) (hR : d + 1 ≤ R.frames ∧ 8 + (maxL + 11) + 40 * d ≤ R.locals) (hf : cells + mc ≤ R.cells ∧ slots + ms ≤ R.slots) (hdg : decode cc pc = .ok (.invokestatic index, 3))
    (kk : ∀ (I1 : List (Nat × Nat)) (ad1 : Nat → Nat → Nat) (H1 : Heap) (locs1 : List Loc), xE I ad I1 ad1 → xL I1 n' g' → xr_W xCl (xT cA) D I1 ad1 (xc cA tz ad1 σ') A s H1 locs1 → W p l e R s m args below meth c H1 locs1 (cells + mc) (slots + ms) Q (F0 m (pc + 3) ls ((o ad1).toList ++ rest))) : W p l e R s m args below meth c H locs cells slots Q (F0 m pc ls st0) := by
  obtain ⟨hx, hb, hown, hts⟩ := id C
  have hG : GoodIn xBIG (Cond.codeWith y bytes maxL ret hh :: xBIG) := by
    intro w' hw'
    rcases List.mem_cons.mp hw' with rfl | h
    · exact ⟨k4, good_of_word (xG _ k4)⟩
    · exact ⟨h, good_of_word (xG _ h)⟩
  refine xr_after (B := xAB o cA tz I ad σ' n' g') (mc := mc) (ms := ms) (rest := rest) w (a := As.toArray) ?_ (fun o' I' ad' E' H1 locs1 hB w1 => ?_)
  · have hK : Back l R p e below s args y 3 8 (PreOf R mc ms (va_Pc As (xr_Pre xCl (xT cA) D (xZ tz) I ad (xc cA tz ad σ) H.size))) (PostOf (xr_Q xCl D (xw_A I ad H.size) (xAB o cA tz I ad σ' n' g')) mc ms (xw_A I ad H.size)) :=
      va_backW (hh := hh) (bytes := bytes) (maxL := maxL) (ret := ret) (hM H.size) (xr_blind (xZL tz)) rfl rfl hR.1 hR.2 (pay_in hts hG) List.mem_cons_self (fun a' U hW => word_at hW (Or.inl (by first | rfl | simp [Cond.onTables, Cond.keeps, Cond.steady])) (hts _ k3))
    intro T hT X
    obtain ⟨mk, methM, cM, hnamed, hmethM, -, -, -, -, -, -, hsigM⟩ := Cond.codeWith_spec (hts _ k4)
    have hstatic : methM.isStatic = true := Cond.static_spec hnamed hmethM (hts _ k2)
    obtain ⟨kP, hkP, -⟩ := className_of_methodNamed hnamed
    have hinitP : kP.init = .initialized := Cond.initialized_spec (findClass_of_methodNamed hnamed) hkP (hts _ k3)
    have hlen : As.length = methM.sig.parameters.length := by
      have h2 := k5.2.2
      rw [hsigM] at h2
      exact hn.trans (Option.some.inj h2).symm
    obtain ⟨vm₁, X₁, hstep₁⟩ := X.invokestatic hx hown (hts _ k1) hnamed hmethM hstatic hkP hinitP ⟨k5.1, k5.2.1⟩ (g := F0 m pc ls st0) rfl (argsL := As) (rest := rest) hlen hst (by rw [hb]; exact hdg)
    obtain ⟨v, ⟨U', l2, c2, s2⟩, X', ⟨g1, mk1, t, L, e1, e2, hq, h1, hL, h2, h3⟩, hsteps⟩ := hK m meth c ⟨T.setVm vm₁, locs, cells, slots⟩ (F0 m pc ls rest) (.invokestatic index) mk As.toArray X₁ rfl (hls.trans hml.symm) (by rw [hb]; exact hdg) (lv_room hrest) (X₁.named hnamed) ⟨hf.1, hf.2, rfl, xr_pre (xZL tz) w hz (U := T.setVm vm₁) hT X₁.warmed⟩
    dsimp only [Pt.U, Pt.locs, Pt.cells, Pt.slots] at X' e1 e2 h1 h2 h3 hsteps
    subst h1; subst h2; subst h3
    exact ⟨v, (T.setVm vm₁).calling g1 mk1 As.toArray, t, U', L, hT, X', hL, e1, e2, hq, fun target h => hstep₁ _ fun acts => by rw [doInvoke_state]; exact hsteps.trans h⟩
  · obtain ⟨rfl, rfl, h1, h2⟩ := hB
    exact kk I' ad' H1 locs1 h1 h2 w1
theorem xh_tab {t : Array ExceptionTableEntry} {a b c0 d0 : Nat} {tl : List (Nat × Nat × Nat × Nat)} {L : List ExceptionTableEntry} (h : L.map (fun h => (h.startPc, h.endPc, h.handlerPc, h.catchType)) = (a, b, c0, d0) :: tl) : ∃ x L', L = x :: L' ∧ x.startPc = a ∧ x.endPc = b ∧ x.handlerPc = c0 ∧ x.catchType = d0 ∧ L'.map (fun h => (h.startPc, h.endPc, h.handlerPc, h.catchType)) = tl := by
  cases L with
  | nil => cases h
  | cons x L' =>
    simp only [List.map_cons, List.cons.injEq, Prod.mk.injEq] at h
    exact ⟨x, L', rfl, h.1.1, h.1.2.1, h.1.2.2.1, h.1.2.2.2, h.2⟩
/-- a virtual call that throws what a handler here takes -/
theorem xh_throw (C : xr_C xBIG p c cc own s m args) (w : xr_W xCl (xT cA) D I ad (xc cA tz ad σ) A s H locs) (hz : xZ tz A s s.heap) (hml : c.maxLocals = nL) (hls : ls.size = nL)
    (hK : xr_KV xBIG own index y bytes maxL ret n) (hM : xTh l y bytes maxL ret d (.ref (ad r k) :: As) D cA tz I ad σ En) (hI : (r, k) ∈ I) {ci : Nat} {fs : List Value} (he : xc cA tz ad σ r k = .inr (ci, fs)) {T : u_T} {N : Nat} (hc : xCl[ci]? = some (y.cls, T, N))
    (hn : As.length = n) (hst : st0 = As.reverse ++ .ref (ad r k) :: rest) (hrest : (rest.map fun v => v.category).sum ≤ 8) (hR : d + 1 ≤ R.frames ∧ 8 + (maxL + 11) + 40 * d ≤ R.locals) (hf : cells + 1 ≤ R.cells ∧ slots + 6 ≤ R.slots) (hdg : decode cc pc = .ok (.invokevirtual index, 3))
    (pre : List ExceptionTableEntry) (x : ExceptionTableEntry) (suf : List ExceptionTableEntry) (hsplit : c.exceptionTable.toList = pre ++ x :: suf)
    (hpass : ∀ z ∈ pre, covers z pc = false ∨ (covers z pc = true ∧ z.catchType ≠ 0 ∧ ∃ nm : String, (Cond.classLink own z.catchType nm).before args s = true ∧ va_Nc En nm s)) (hx : covers x pc = true) (h0 : x.catchType ≠ 0)
    (hlink : (Cond.classLink own x.catchType En).before args s = true) (hcast : xs_Ca En En s)
    (kk : ∀ (H1 : Heap) (locs1 : List Loc) (q : Addr), xr_W xCl (xT cA) D I ad (xc cA tz ad σ) A s H1 locs1 → W p l e R s m args below meth c H1 locs1 (cells + 1) (slots + 6) Q (F0 m x.handlerPc ls [.ref q])) : W p l e R s m args below meth c H locs cells slots Q (F0 m pc ls st0) := by
  obtain ⟨k1, k2, k3, k4, k5, k6⟩ := hK
  obtain ⟨hxx, hb, hown, hts⟩ := id C
  obtain ⟨q0, hq0⟩ := xw_at ad (xc cA tz ad σ) hI
  rw [he] at hq0
  refine xt_callV (C := y.cls) (Ts := xBIG) (As := As) (rest := rest) ⟨hxx, hb, hml, hown, hts⟩ (hM H.size) (cwV n hts (fun w' hw' => ?_) rfl rfl rfl ⟨rfl, k6⟩ hR) ⟨xr_blind (xZL tz), va_recv w.2.2.1 w.1 hc hq0, fun U hU hW => ⟨rfl, xr_pre (xZL tz) w hz hU hW⟩⟩ hn hls hst hrest hdg hf (fun q ce st₀ t L hce hv hcl hL h00 hal hq => ?_)
  · have hm : w' ∈ xBIG := by
      simp only [wsV, List.cons_append, List.nil_append, List.mem_cons] at hw'
      rcases hw' with rfl | rfl | rfl | rfl | rfl | h
      · exact k1
      · exact k2
      · exact k3
      · exact k4
      · exact k5
      · exact h
    exact ⟨hm, good_of_word (xG _ hm)⟩
  · refine xt_catch hown pre x suf hsplit hpass hx h0 hlink hcast.use hce hv hcl (kk _ _ q ?_)
    obtain ⟨hP, hD, hK, hS, hA⟩ := w
    obtain ⟨hP1, hz1, hk1⟩ := hq
    rw [h00] at hz1 hk1
    have hF := xw_free (sz := H.size) hD (fun q hq => hA q (Nat.le_trans hS.1 hq))
    exact ⟨hP1, hD, hK, ⟨Nat.le_trans hS.1 hz1, fun q h1 h2 => by rw [hk1 q (Nat.lt_of_lt_of_le h1 hS.1) (fun z => h2 (hF q z))]; exact hS.2.1 q h1 h2, fun q hq => by
      rcases List.mem_append.mp hq with h | h
      · exact hS.2.2 q h
      · exact hF _ (hL q h)⟩, hA⟩
theorem xs_last (C : xr_C xBIG p c cc own s m args) (w : xr_W xCl (xT cA) D I ad (xc cA tz ad σ) A s H locs) (hI : (40, 0) ∈ I) {x : Int32} {v : Int64} (hv : v = x.toInt64) (hdg : decode cc pc = .ok (.lastore, 1))
    (kk : ∀ (H1 : Heap) (locs1 : List Loc), xr_W xCl (xT cA) D I ad (xc cA tz ad (xu3 σ 40 0 0 x)) A s H1 locs1 → W p l e R s m args below meth c H1 locs1 cells slots Q (F0 m (pc + 1) ls rest)) : W p l e R s m args below meth c H locs cells slots Q (F0 m pc ls (.long v :: .int (nI 0) :: .ref (ad 40 0) :: rest)) := by
  obtain ⟨hx, hb, hown, hts⟩ := C
  obtain ⟨hP, hD, hK, hS, hA⟩ := w
  obtain ⟨q, hq⟩ := xw_at ad (xc cA tz ad σ) hI
  refine va_last hx hb hK hP hD hS q 6 hq rfl (i := nI 0) (vp_in_nI (by decide) (by decide)) hdg (fun H1 locs1 hP1 hD1 hS1 => ?_)
  have he : (.inl (cA 6, 1, .inr (.inl (vp_updL (fun i => (σ 40 0 i).toInt64) (nI 0).toNatClampNeg v))) : va_E) = xcell cA tz ad 40 0 (va_up (σ 40 0) 0 x) := by
    show _ = (.inl (cA 6, 1, .inr (.inl (fun i => (va_up (σ 40 0) 0 x i).toInt64))) : va_E)
    congr 5
    funext i
    rw [hv, nI_clamp (by decide)]
    unfold vp_updL va_up
    by_cases hi : i = 0
    · simp [hi]
    · simp [hi]
  rw [he, xw_set hD hI hq, xc_up] at hP1 hD1
  exact kk H1 locs1 ⟨hP1, hD1, hK, hS1, hA⟩
theorem xs_lald (C : xr_C xBIG p c cc own s m args) (w : xr_W xCl (xT cA) D I ad (xc cA tz ad σ) A s H locs) (hI : (40, 0) ∈ I) (hdg : decode cc pc = .ok (.laload, 1))
    (kk : W p l e R s m args below meth c H locs cells slots Q (F0 m (pc + 1) ls (.long (σ 40 0 0).toInt64 :: rest))) : W p l e R s m args below meth c H locs cells slots Q (F0 m pc ls (.int (nI 0) :: .ref (ad 40 0) :: rest)) := by
  obtain ⟨hx, hb, hown, hts⟩ := C
  obtain ⟨hP, hD, hK, hS, hA⟩ := w
  obtain ⟨q, hq⟩ := xw_at ad (xc cA tz ad σ) hI
  refine va_lald hx hb hK hP q 6 hq rfl (i := nI 0) (vp_in_nI (by decide) (by decide)) hdg ?_
  rw [nI_clamp (by decide)]
  exact kk
end
