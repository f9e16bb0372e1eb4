/-! Contracts of methods that throw, over the memory: the memory stays. -/
def xQx (D : va_G) (cA : Nat → ClassId) (tz : Nat) (I : List (Nat × Nat)) (ad : Nat → Nat → Nat) (σ : xMem) (A : Nat → Prop) (st t : State) : Prop := va_P D xCl (xw_l I ad (xc cA tz ad σ)) t.heap ∧ va_F A st t
def xTh (l : Launch) (y : MethodName) (bytes : ByteArray) (maxL : Nat) (ret : Option FieldType) (d : Nat) (av : List Value) (D : va_G) (cA : Nat → ClassId) (tz : Nat) (I : List (Nat × Nat)) (ad : Nat → Nat → Nat) (σ : xMem) (En : String) : Prop :=
  ∀ sz : Nat, xt_M l y (Cond.code y bytes maxL ret :: xBIG) (xr_R d 1 6) (va_Pc av (xr_Pre xCl (xT cA) D (xZ tz) I ad (xc cA tz ad σ) sz)) (xQx D cA tz I ad σ (xw_A I ad sz)) (xw_A I ad sz) En 1 6
section
variable {p : Program} {l : Launch} {e : Env} {R : Room} {s : State} {m : MethodId} {args : Array Value} {below : List Frame} {meth : Method} {c : Code} {H : Heap} {locs : List Loc} {cells slots : Nat} {Q : State → Prop}
variable {cc : ByteArray} {pc : Nat} {ls : Array Slot} {rest st0 : List Value} {D : va_G} {cA : Nat → ClassId} {tz : Nat} {A : Nat → Prop} {own En : String} {I : List (Nat × Nat)} {ad : Nat → Nat → Nat} {σ : xMem} {r k : Nat}
variable {y : MethodName} {bytes : ByteArray} {maxL d nL n index : Nat} {ret : Option FieldType} {av As : List Value}
theorem xth_of (hy : plainName y.cls = true) (hls : (lg_sl av).length ≤ maxL)
    (h : ∀ (p : Program) (e : Env) (s : State) (m : MethodId) (args : Array Value) (below : List Frame) (meth : Method) (c : Code) (A : Nat → Prop) (ls : Array Slot), xr_C xBIG p c bytes y.cls s m args → meth.locks = false → c.maxLocals = maxL → (∀ (x : ExceptionTableEntry) (pc : Nat), x ∈ c.exceptionTable.toList → covers x pc = false) → lv_has ls maxL (lv_args 0 av) → xr_W xCl (xT cA) D I ad (xc cA tz ad σ) A s s.heap [] → xZ tz A s s.heap →
      W p l e (xr_R d 1 6) s m args below meth c s.heap [] 0 0 (xt_MQ below (xQx D cA tz I ad σ A) A En args s 1 6) (F0 m 0 ls [])) : xTh l y bytes maxL ret d av D cA tz I ad σ En := by
  intro sz
  refine xt_of (cc := bytes) (maxL := maxL) (ret := ret) hy rfl ?_
  intro p e s m args below meth c s₁ B' hml hout hv
  obtain ⟨rfl, hsz, hP, hD, hK, hZ⟩ := hv
  subst hsz
  have hts := atoms_spec (ws := Cond.code y bytes maxL ret :: xBIG) B'.pre
  rw [lg_entry_eq]
  exact h p e s m _ below meth c (xw_A I ad s.heap.size) _ ⟨B'.exec, B'.bytes, findClass_of_methodNamed B'.named, fun w hw => hts w (List.mem_cons_of_mem _ hw)⟩ B'.notSynchronized hml hout (lv_entry av hls) ⟨hP, xw_DA hD, hK, va_S.rf, fun q hq => Or.inr hq⟩ hZ
/-- a call that throws, in a method without handlers -/
theorem xth_pass (w : xr_W xCl (xT cA) D I ad (xc cA tz ad σ) A s H locs) (hlk : meth.locks = false) (hout : ∀ (x : ExceptionTableEntry) (pc : Nat), x ∈ c.exceptionTable.toList → covers x pc = false) {q : Addr} {ce : Cell} {st₀ t : State} {L : List Loc} (hce : t.heap[q]? = some ce) (hv : ce.vm = .none) (hcl : s.vm.findClass En = some ce.cls) (hL : ∀ z ∈ L, xw_A I ad H.size z.base) (h0 : st₀.heap = H) (hal : s.vm.Alike t.vm) (hq : xQx D cA tz I ad σ (xw_A I ad H.size) st₀ t) (hc : cells = 0) (hs : slots = 0) :
    xt_W p l e R s m args below meth c t.heap (locs ++ L) (cells + 1) (slots + 6) (xt_MQ below (xQx D cA tz I ad σ A) A En args s 1 6) (F0 m pc ls rest) q := by
  obtain ⟨hP, hD, hK, hS, hA⟩ := w
  obtain ⟨hP1, hz, hk⟩ := hq
  rw [h0] at hz hk
  have hF := xw_free (sz := H.size) hD (fun q hq => hA q (Nat.le_trans hS.1 hq))
  refine xt_out (fun x hx => hout x pc hx) hlk hce hv hcl (fun z hz => ?_) (fun t' ht' hal' => ⟨by rw [ht']; exact hP1, by rw [ht']; exact Nat.le_trans hS.1 hz, fun q h1 h2 => ?_⟩) (by omega) (by omega)
  · rcases List.mem_append.mp hz with h | h
    · exact hS.2.2 z h
    · exact hF _ (hL z h)
  · rw [ht', hk q (Nat.lt_of_lt_of_le h1 hS.1) (fun z => h2 (hF q z))]
    exact hS.2.1 q h1 h2
theorem xth_callS (C : xr_C xBIG p c cc own s m args) (w : xr_W xCl (xT cA) D I ad (xc cA tz ad σ) A s H locs) (hz : xZ tz A s s.heap) (hml : c.maxLocals = nL) (hls : ls.size = nL) (hlk : meth.locks = false) (hout : ∀ (x : ExceptionTableEntry) (pc : Nat), x ∈ c.exceptionTable.toList → covers x pc = false)
    (hK : xr_KS xBIG own index y bytes maxL ret n) (hM : xTh l y bytes maxL ret d As D cA tz I ad σ En)
    (hn : As.length = n) (hst : st0 = As.reverse ++ rest) (hrest : (rest.map fun v => v.category).sum ≤ 8) (hR : d + 1 ≤ R.frames ∧ 8 + (maxL + 11) + 40 * d ≤ R.locals) (hf : 1 ≤ R.cells ∧ 6 ≤ R.slots) (hdg : decode cc pc = .ok (.invokestatic index, 3)) :
    W p l e R s m args below meth c H locs 0 0 (xt_MQ below (xQx D cA tz I ad σ A) A En args s 1 6) (F0 m pc ls st0) := by
  obtain ⟨k1, k2, k3, k4, k5⟩ := hK
  obtain ⟨hx, hb, hown, hts⟩ := id C
  exact xt_callS (Ts := xBIG) (As := As) (rest := rest) ⟨hx, hb, hml, hown, hts⟩ (hM H.size) ⟨callB_of n hts (xr_good xG k4) rfl rfl rfl (hts _ k3) (hts _ k1) k5 hR, hts _ k2⟩ ⟨xr_blind (xZL tz), fun U hU hW => ⟨rfl, xr_pre (xZL tz) w hz hU hW⟩⟩ hn hls hst hrest hdg ⟨by omega, by omega⟩
    (fun q ce st₀ t L h1 h2 h3 h4 h5 h6 h7 => xth_pass w hlk hout h1 h2 h3 h4 h5 h6 h7 rfl rfl)
/-- the words of a throw: those of the tables, and the five that aren't among them -/
theorem xth_words {L : List Cond} (h : ∀ w ∈ L, w ∈ xBIG ∨ w = .isRef (.static Bundle.tN "UNASSIGNED_STACK" Bundle.steD) ∨ w = .isRef (.static Bundle.tN "SUPPRESSED_SENTINEL" Bundle.listD) ∨ w = .laysStatic Bundle.tN "UNASSIGNED_STACK" Bundle.steD ∨ w = .laysStatic Bundle.tN "SUPPRESSED_SENTINEL" Bundle.listD ∨ w = .castable En En ∨ w = .declares (Bundle.init0 "java/lang/RuntimeException") ∨ w = .declares (Bundle.init0 "java/lang/Exception") ∨ w = .declares (Bundle.init0 Bundle.tN))
    (hts : ∀ w ∈ xBIG, w.before args s = true) (hz : xZ tz A s s.heap) (hca : xs_Ca En En s) : ∀ w ∈ L, w.before args s = true := by
  intro w hw
  rcases h w hw with h | rfl | rfl | rfl | rfl | rfl | rfl | rfl | rfl
  · exact hts w h
  · exact hz.2.1.isRef
  · exact hz.2.2.1.isRef
  · exact hz.2.1.lays
  · exact hz.2.2.1.lays
  · exact hca.use
  · exact va_Nw.use rfl hz.1.2.2.2.2.2.1
  · exact va_Nw.use rfl hz.1.2.2.2.2.2.2.1
  · exact va_Nw.use rfl hz.1.2.2.2.2.2.2.2
theorem xth_new (C : xr_C xBIG p c cc own s m args) (w : xr_W xCl (xT cA) D I ad (xc cA tz ad σ) A s s.heap []) (hz : xZ tz A s s.heap) (hml : c.maxLocals = nL) (hls : ls.size = nL) (hlk : meth.locks = false) (hout : ∀ (x : ExceptionTableEntry) (pc : Nat), x ∈ c.exceptionTable.toList → covers x pc = false) (hl : l.stackTraces = false)
    {ik ic : Nat} (hcls : Bundle.fit En = true) (hk : Cond.classLink own ik En ∈ xBIG) (hini : Cond.initialized En ∈ xBIG)
    (ha : ∀ w ∈ Bundle.ownAtoms0 own ic En ["java/lang/RuntimeException", "java/lang/Exception"], w ∈ xBIG ∨ w = .isRef (.static Bundle.tN "UNASSIGNED_STACK" Bundle.steD) ∨ w = .isRef (.static Bundle.tN "SUPPRESSED_SENTINEL" Bundle.listD) ∨ w = .laysStatic Bundle.tN "UNASSIGNED_STACK" Bundle.steD ∨ w = .laysStatic Bundle.tN "SUPPRESSED_SENTINEL" Bundle.listD ∨ w = .castable En En ∨ w = .declares (Bundle.init0 "java/lang/RuntimeException") ∨ w = .declares (Bundle.init0 "java/lang/Exception") ∨ w = .declares (Bundle.init0 Bundle.tN)) (hca : xs_Ca En En s)
    (d0 : decode cc pc = .ok (.new ik, 3)) (d3 : decode cc (pc + 3) = .ok (.dup, 1)) (d4 : decode cc (pc + 4) = .ok (.invokespecial ic, 3)) (d7 : decode cc (pc + 7) = .ok (.athrow, 1)) (hR : 6 ≤ R.frames ∧ 81 ≤ R.locals ∧ 1 ≤ R.cells ∧ 6 ≤ R.slots) :
    W p l e R s m args below meth c s.heap [] 0 0 (xt_MQ below (xQx D cA tz I ad σ A) A En args s 1 6) (F0 m pc ls []) := by
  obtain ⟨hx, hb, hown, hts⟩ := id C
  obtain ⟨hP, hD, hK, hS, hA⟩ := w
  refine xt_new (names := ["java/lang/RuntimeException", "java/lang/Exception"]) hx hb hl hown hcls (by decide +kernel) (hts _ hk) (hts _ hini) (xth_words ha hts hz hca) (hls.trans hml.symm) d0 d3 d4 d7 (fun x hx => hout x _ hx) (by show 2 + 3 < _; omega) (by show 0 + (13 * (2 + 1) + 42) ≤ _; omega) hR.2.2.1 hR.2.2.2 hlk (fun t hal h1 h2 => ⟨hP.kept (fun k q hq => h2 q.1 ((hP k q hq).lt)), h1, fun q h3 _ => h2 q h3⟩)
end
theorem xat_1 : ∀ w ∈ Bundle.ownAtoms0 "SplitFabric" 163 "java/lang/IndexOutOfBoundsException" ["java/lang/RuntimeException", "java/lang/Exception"], w ∈ xBIG ∨ w = .isRef (.static Bundle.tN "UNASSIGNED_STACK" Bundle.steD) ∨ w = .isRef (.static Bundle.tN "SUPPRESSED_SENTINEL" Bundle.listD) ∨ w = .laysStatic Bundle.tN "UNASSIGNED_STACK" Bundle.steD ∨ w = .laysStatic Bundle.tN "SUPPRESSED_SENTINEL" Bundle.listD ∨ w = .castable "java/lang/IndexOutOfBoundsException" "java/lang/IndexOutOfBoundsException" ∨ w = .declares (Bundle.init0 "java/lang/RuntimeException") ∨ w = .declares (Bundle.init0 "java/lang/Exception") ∨ w = .declares (Bundle.init0 Bundle.tN) := by decide +kernel
theorem xat_2 : ∀ w ∈ Bundle.ownAtoms0 "SplitFabric" 166 "java/lang/IllegalArgumentException" ["java/lang/RuntimeException", "java/lang/Exception"], w ∈ xBIG ∨ w = .isRef (.static Bundle.tN "UNASSIGNED_STACK" Bundle.steD) ∨ w = .isRef (.static Bundle.tN "SUPPRESSED_SENTINEL" Bundle.listD) ∨ w = .laysStatic Bundle.tN "UNASSIGNED_STACK" Bundle.steD ∨ w = .laysStatic Bundle.tN "SUPPRESSED_SENTINEL" Bundle.listD ∨ w = .castable "java/lang/IllegalArgumentException" "java/lang/IllegalArgumentException" ∨ w = .declares (Bundle.init0 "java/lang/RuntimeException") ∨ w = .declares (Bundle.init0 "java/lang/Exception") ∨ w = .declares (Bundle.init0 Bundle.tN) := by decide +kernel
theorem xat_3 : ∀ w ∈ Bundle.ownAtoms0 "SplitFabric" 169 "java/lang/IllegalStateException" ["java/lang/RuntimeException", "java/lang/Exception"], w ∈ xBIG ∨ w = .isRef (.static Bundle.tN "UNASSIGNED_STACK" Bundle.steD) ∨ w = .isRef (.static Bundle.tN "SUPPRESSED_SENTINEL" Bundle.listD) ∨ w = .laysStatic Bundle.tN "UNASSIGNED_STACK" Bundle.steD ∨ w = .laysStatic Bundle.tN "SUPPRESSED_SENTINEL" Bundle.listD ∨ w = .castable "java/lang/IllegalStateException" "java/lang/IllegalStateException" ∨ w = .declares (Bundle.init0 "java/lang/RuntimeException") ∨ w = .declares (Bundle.init0 "java/lang/Exception") ∨ w = .declares (Bundle.init0 Bundle.tN) := by decide +kernel
