/-! Contracts of methods that make no cell: from memory σ to memory σ', with the answer o. -/
def xB (o : Option Value) (I : List (Nat × Nat)) (ad : Nat → Nat → Nat) (E : Nat → Nat → va_E) : xr_B := fun o' I' ad' E' => o' = o ∧ I' = I ∧ ad' = ad ∧ E' = E
def xD (l : Launch) (y : MethodName) (bytes : ByteArray) (maxL : Nat) (ret : Option FieldType) (d : Nat) (av : List Value) (D : va_G) (cA : Nat → ClassId) (tz : Nat) (I : List (Nat × Nat)) (ad : Nat → Nat → Nat) (σ : xMem) (o : Option Value) (σ' : xMem) : Prop :=
  xr_M xBIG xCl (xT cA) D (xZ tz) l y bytes maxL ret d 0 0 av I ad (xc cA tz ad σ) (xB o I ad (xc cA tz ad σ'))
section
variable {p : Program} {l : Launch} {e : Env} {R : Room} {s : State} {m : MethodId} {args : Array Value} {below : List Frame} {meth : Method} {c : Code} {H : Heap} {locs : List Loc} {cells slots : Nat} {Q : State → Prop}
variable {cc : ByteArray} {pc : Nat} {ls : Array Slot} {rest st0 : List Value} {D : va_G} {cA : Nat → ClassId} {tz : Nat} {A : Nat → Prop} {own : String} {I : List (Nat × Nat)} {ad : Nat → Nat → Nat} {σ σ' σ'' : xMem} {r k : Nat}
variable {y : MethodName} {bytes : ByteArray} {maxL d nL n index : Nat} {ret : Option FieldType} {av As : List Value} {o : Option Value}
theorem xd_of (hy : plainName y.cls = true) (hls : (lg_sl av).length ≤ maxL)
    (h : ∀ (p : Program) (e : Env) (s : State) (m : MethodId) (args : Array Value) (below : List Frame) (meth : Method) (c : Code) (A : Nat → Prop) (ls : Array Slot), xr_C xBIG p c bytes y.cls s m args → meth.sig.returnType = ret → meth.locks = false → c.maxLocals = maxL → lv_has ls maxL (lv_args 0 av) → xr_W xCl (xT cA) D I ad (xc cA tz ad σ) A s s.heap [] → xZ tz A s s.heap →
      W p l e (xr_R d 0 0) s m args below meth c s.heap [] 0 0 (MQ below (xr_Q xCl D A (xB o I ad (xc cA tz ad σ'))) args s 0 0 A) (F0 m 0 ls [])) : xD l y bytes maxL ret d av D cA tz I ad σ o σ' :=
  xr_of hy hls (fun p e s m args below meth c A ls C hr hlk hml _ hl w hz => h p e s m args below meth c A ls C hr hlk hml hl w hz)
theorem xd_iret (C : xr_C xBIG p c cc own s m args) (w : xr_W xCl (xT cA) D I ad (xc cA tz ad σ') A s H locs) (hr : meth.sig.returnType = some .int) (hlk : meth.locks = false) (hdg : decode cc pc = .ok (.ireturn, 1)) {v v' : Int32} (hv : v = v') (hσ : σ' = σ'') :
    W p l e R s m args below meth c H locs 0 0 (MQ below (xr_Q xCl D A (xB (some (.int v')) I ad (xc cA tz ad σ''))) args s 0 0 A) (F0 m pc ls [.int v]) :=
  xr_iret C w hr hlk ⟨by rw [hv], rfl, rfl, by rw [hσ]⟩ (Nat.le_refl _) (Nat.le_refl _) hdg
theorem xd_zret (C : xr_C xBIG p c cc own s m args) (w : xr_W xCl (xT cA) D I ad (xc cA tz ad σ') A s H locs) (hr : meth.sig.returnType = some .boolean) (hlk : meth.locks = false) (hdg : decode cc pc = .ok (.ireturn, 1)) {v : Int32} {P : Prop} (hv : v = xb P) (hσ : σ' = σ'') :
    W p l e R s m args below meth c H locs 0 0 (MQ below (xr_Q xCl D A (xB (some (.int (xb P))) I ad (xc cA tz ad σ''))) args s 0 0 A) (F0 m pc ls [.int v]) :=
  xr_zret C w hr (by rw [hv]; exact xb_or P) hlk ⟨by rw [hv], rfl, rfl, by rw [hσ]⟩ (Nat.le_refl _) (Nat.le_refl _) hdg
theorem xd_zt (C : xr_C xBIG p c cc own s m args) (w : xr_W xCl (xT cA) D I ad (xc cA tz ad σ') A s H locs) (hr : meth.sig.returnType = some .boolean) (hlk : meth.locks = false) (hdg : decode cc pc = .ok (.ireturn, 1)) {P : Prop} (hP : P) (hσ : σ' = σ'') :
    W p l e R s m args below meth c H locs 0 0 (MQ below (xr_Q xCl D A (xB (some (.int (xb P))) I ad (xc cA tz ad σ''))) args s 0 0 A) (F0 m pc ls [.int (nI 1)]) := xd_zret C w hr hlk hdg (xb_t hP).symm hσ
theorem xd_zf (C : xr_C xBIG p c cc own s m args) (w : xr_W xCl (xT cA) D I ad (xc cA tz ad σ') A s H locs) (hr : meth.sig.returnType = some .boolean) (hlk : meth.locks = false) (hdg : decode cc pc = .ok (.ireturn, 1)) {P : Prop} (hP : ¬ P) (hσ : σ' = σ'') :
    W p l e R s m args below meth c H locs 0 0 (MQ below (xr_Q xCl D A (xB (some (.int (xb P))) I ad (xc cA tz ad σ''))) args s 0 0 A) (F0 m pc ls [.int (nI 0)]) := xd_zret C w hr hlk hdg (xb_f hP).symm hσ
theorem xd_vret (C : xr_C xBIG p c cc own s m args) (w : xr_W xCl (xT cA) D I ad (xc cA tz ad σ') A s H locs) (hr : meth.sig.returnType = none) (hlk : meth.locks = false) (hdg : decode cc pc = .ok (.return_, 1)) (hσ : σ' = σ'') :
    W p l e R s m args below meth c H locs 0 0 (MQ below (xr_Q xCl D A (xB none I ad (xc cA tz ad σ''))) args s 0 0 A) (F0 m pc ls []) :=
  xr_vret C w hr hlk ⟨rfl, rfl, rfl, by rw [hσ]⟩ (Nat.le_refl _) (Nat.le_refl _) hdg
theorem xd_aret (C : xr_C xBIG p c cc own s m args) (w : xr_W xCl (xT cA) D I ad (xc cA tz ad σ') A s H locs) {nm : String} (hr : meth.sig.returnType = some (.object nm)) (hlk : meth.locks = false) (hdg : decode cc pc = .ok (.areturn, 1)) {v v' : Value} (h : v = .null ∨ ∃ a, v = .ref a) (hv : v = v') (hσ : σ' = σ'') :
    W p l e R s m args below meth c H locs 0 0 (MQ below (xr_Q xCl D A (xB (some v') I ad (xc cA tz ad σ''))) args s 0 0 A) (F0 m pc ls [v]) :=
  xr_aret C w hr (Or.inl ⟨nm, rfl⟩) h hlk ⟨by rw [hv], rfl, rfl, by rw [hσ]⟩ (Nat.le_refl _) (Nat.le_refl _) hdg
theorem xd_callV (C : xr_C xBIG p c cc own s m args) (w : xr_W xCl (xT cA) D I ad (xc cA tz ad σ) A s H locs) (hz : xZ tz A s s.heap) (hml : c.maxLocals = nL) (hls : ls.size = nL)
    (hK : xr_KV xBIG own index y bytes maxL ret n) (hM : xD l y bytes maxL ret d (.ref (ad r k) :: As) D cA tz I ad σ o σ') (hI : (r, k) ∈ I) {ci : Nat} {fs : List Value} (he : xc cA tz ad σ r k = .inr (ci, fs)) {T : u_T} {N : Nat} (hc : xCl[ci]? = some (y.cls, T, N))
    (hn : As.length = n) (hst : st0 = As.reverse ++ .ref (ad r k) :: rest) (hrest : (rest.map fun v => v.category).sum ≤ 8) (hR : d + 1 ≤ R.frames ∧ 8 + (maxL + 11) + 40 * d ≤ R.locals) (hf : cells ≤ R.cells ∧ slots ≤ R.slots) (hdg : decode cc pc = .ok (.invokevirtual index, 3))
    (kk : ∀ (H1 : Heap) (locs1 : List Loc), xr_W xCl (xT cA) D I ad (xc cA tz ad σ') A s H1 locs1 → W p l e R s m args below meth c H1 locs1 cells slots Q (F0 m (pc + 3) ls (o.toList ++ rest))) : W p l e R s m args below meth c H locs cells slots Q (F0 m pc ls st0) := by
  refine xr_callV xG (xZL tz) C w hz hml hls hK hM hI he hc hn hst hrest hR hf hdg (fun o' I' ad' E' H1 locs1 hB w1 => ?_)
  obtain ⟨rfl, rfl, rfl, rfl⟩ := hB
  exact kk H1 locs1 w1
theorem xd_callS (C : xr_C xBIG p c cc own s m args) (w : xr_W xCl (xT cA) D I ad (xc cA tz ad σ) A s H locs) (hz : xZ tz A s s.heap) (hml : c.maxLocals = nL) (hls : ls.size = nL)
    (hK : xr_KS xBIG own index y bytes maxL ret n) (hM : xD l y bytes maxL ret d As D cA tz I ad σ o σ')
    (hn : As.length = n) (hst : st0 = As.reverse ++ rest) (hrest : (rest.map fun v => v.category).sum ≤ 8) (hR : d + 1 ≤ R.frames ∧ 8 + (maxL + 11) + 40 * d ≤ R.locals) (hf : cells ≤ R.cells ∧ slots ≤ R.slots) (hdg : decode cc pc = .ok (.invokestatic index, 3))
    (kk : ∀ (H1 : Heap) (locs1 : List Loc), xr_W xCl (xT cA) D I ad (xc cA tz ad σ') A s H1 locs1 → W p l e R s m args below meth c H1 locs1 cells slots Q (F0 m (pc + 3) ls (o.toList ++ rest))) : W p l e R s m args below meth c H locs cells slots Q (F0 m pc ls st0) := by
  refine xr_callS xG (xZL tz) C w hz hml hls hK hM hn hst hrest hR hf hdg (fun o' I' ad' E' H1 locs1 hB w1 => ?_)
  obtain ⟨rfl, rfl, rfl, rfl⟩ := hB
  exact kk H1 locs1 w1
end
