/-! Contracts of methods that make cells of the list. -/
/-- the class object of Object[] is the one at mi -/
def xZm (tz mi : Nat) (A : Nat → Prop) (U : State) (H : Heap) : Prop := xZ tz A U H ∧ va_Mi "[Ljava/lang/Object;" mi U
theorem xZmL (tz mi : Nat) : xr_ZL (xZm tz mi) :=
  ⟨fun A u U H hvm h => ⟨(xZL tz).1 A u U H hvm h.1, h.2.moved hvm⟩, fun A U H H1 hq h => ⟨(xZL tz).2.1 A U H H1 hq h.1, h.2⟩, fun A B U H hAB h => ⟨(xZL tz).2.2 A B U H hAB h.1, h.2⟩⟩
def xAB (o : (Nat → Nat → Nat) → Option Value) (cA : Nat → ClassId) (tz : Nat) (I : List (Nat × Nat)) (ad : Nat → Nat → Nat) (σ' : xMem) (n' g' : Nat) : xr_B := fun o' I' ad' E' => o' = o ad' ∧ E' = xc cA tz ad' σ' ∧ xE I ad I' ad' ∧ xL I' n' g'
def xA (Z : (Nat → Prop) → State → Heap → Prop) (l : Launch) (y : MethodName) (bytes : ByteArray) (maxL : Nat) (ret : Option FieldType) (d mc ms : Nat) (av : List Value) (D : va_G) (cA : Nat → ClassId) (tz : Nat) (I : List (Nat × Nat)) (ad : Nat → Nat → Nat) (σ : xMem) (o : (Nat → Nat → Nat) → Option Value) (σ' : xMem) (n' g' : Nat) : Prop :=
  xr_M xBIG xCl (xT cA) D Z l y bytes maxL ret d mc ms av I ad (xc cA tz ad σ) (xAB o cA tz I ad σ' n' g')
section
variable {p : Program} {l : Launch} {e : Env} {R : Room} {s : State} {m : MethodId} {args : Array Value} {below : List Frame} {meth : Method} {c : Code} {H : Heap} {locs : List Loc} {cells slots mc ms : Nat} {Q : State → Prop}
variable {cc : ByteArray} {pc : Nat} {ls : Array Slot} {rest st0 : List Value} {D : va_G} {cA : Nat → ClassId} {tz : Nat} {A : Nat → Prop} {own : String} {I I0 : List (Nat × Nat)} {ad ad0 : Nat → Nat → Nat} {σ σ' σ'' : xMem} {r k n' g' : Nat}
variable {y : MethodName} {bytes : ByteArray} {maxL d nL n index : Nat} {ret : Option FieldType} {av As : List Value} {o : (Nat → Nat → Nat) → Option Value} {Z : (Nat → Prop) → State → Heap → Prop}
theorem xa_of (hy : plainName y.cls = true) (hls : (lg_sl av).length ≤ maxL)
    (h : ∀ (p : Program) (e : Env) (s : State) (m : MethodId) (args : Array Value) (below : List Frame) (meth : Method) (c : Code) (A : Nat → Prop) (ls : Array Slot), xr_C xBIG p c bytes y.cls s m args → meth.sig.returnType = ret → meth.locks = false → c.maxLocals = maxL → lv_has ls maxL (lv_args 0 av) → xr_W xCl (xT cA) D I ad (xc cA tz ad σ) A s s.heap [] → Z A s s.heap →
      W p l e (xr_R d mc ms) s m args below meth c s.heap [] 0 0 (MQ below (xr_Q xCl D A (xAB o cA tz I ad σ' n' g')) args s mc ms A) (F0 m 0 ls [])) : xA Z l y bytes maxL ret d mc ms av D cA tz I ad σ o σ' n' g' :=
  xr_of hy hls (fun p e s m args below meth c A ls C hr hlk hml _ hl w hz => h p e s m args below meth c A ls C hr hlk hml hl w hz)
theorem xa_iret (C : xr_C xBIG p c cc own s m args) (w : xr_W xCl (xT cA) D I ad (xc cA tz ad σ') A s H locs) (hr : meth.sig.returnType = some .int) (hlk : meth.locks = false) (hdg : decode cc pc = .ok (.ireturn, 1)) {v v' : Int32} (hv : v = v') (hσ : σ' = σ'') (hE : xE I0 ad0 I ad) (hL : xL I n' g') (hc : cells ≤ mc) (hs : slots ≤ ms) :
    W p l e R s m args below meth c H locs cells slots (MQ below (xr_Q xCl D A (xAB (fun _ => some (.int v')) cA tz I0 ad0 σ'' n' g')) args s mc ms A) (F0 m pc ls [.int v]) :=
  xr_iret C w hr hlk ⟨by rw [hv], by rw [hσ], hE, hL⟩ hc hs hdg
theorem xa_zret (C : xr_C xBIG p c cc own s m args) (w : xr_W xCl (xT cA) D I ad (xc cA tz ad σ') A s H locs) (hr : meth.sig.returnType = some .boolean) (hlk : meth.locks = false) (hdg : decode cc pc = .ok (.ireturn, 1)) (hσ : σ' = σ'') (hE : xE I0 ad0 I ad) (hL : xL I n' g') (hc : cells ≤ mc) (hs : slots ≤ ms) :
    W p l e R s m args below meth c H locs cells slots (MQ below (xr_Q xCl D A (xAB (fun _ => some (.int (nI 1))) cA tz I0 ad0 σ'' n' g')) args s mc ms A) (F0 m pc ls [.int (nI 1)]) :=
  xr_zret C w hr (Or.inr rfl) hlk ⟨rfl, by rw [hσ], hE, hL⟩ hc hs hdg
theorem xa_vret (C : xr_C xBIG p c cc own s m args) (w : xr_W xCl (xT cA) D I ad (xc cA tz ad σ') A s H locs) (hr : meth.sig.returnType = none) (hlk : meth.locks = false) (hdg : decode cc pc = .ok (.return_, 1)) (hσ : σ' = σ'') (hE : xE I0 ad0 I ad) (hL : xL I n' g') (hc : cells ≤ mc) (hs : slots ≤ ms) :
    W p l e R s m args below meth c H locs cells slots (MQ below (xr_Q xCl D A (xAB (fun _ => none) cA tz I0 ad0 σ'' n' g')) args s mc ms A) (F0 m pc ls []) :=
  xr_vret C w hr hlk ⟨rfl, by rw [hσ], hE, hL⟩ hc hs hdg
theorem xa_aret (C : xr_C xBIG p c cc own s m args) (w : xr_W xCl (xT cA) D I ad (xc cA tz ad σ') A s H locs) {ty : FieldType} (hr : meth.sig.returnType = some (.array ty)) (hlk : meth.locks = false) (hdg : decode cc pc = .ok (.areturn, 1)) (hσ : σ' = σ'') (hE : xE I0 ad0 I ad) (hL : xL I n' g') (hc : cells ≤ mc) (hs : slots ≤ ms) :
    W p l e R s m args below meth c H locs cells slots (MQ below (xr_Q xCl D A (xAB (fun a => some (.ref (a r k))) cA tz I0 ad0 σ'' n' g')) args s mc ms A) (F0 m pc ls [.ref (ad r k)]) :=
  xr_aret C w hr (Or.inr ⟨ty, rfl⟩) (Or.inr ⟨_, rfl⟩) hlk ⟨rfl, by rw [hσ], hE, hL⟩ hc hs hdg
theorem xa_callV (C : xr_C xBIG p c cc own s m args) (w : xr_W xCl (xT cA) D I ad (xc cA tz ad σ) A s H locs) (hz : Z A s s.heap) (hZL : xr_ZL Z) (hml : c.maxLocals = nL) (hls : ls.size = nL)
    (hK : xr_KV xBIG own index y bytes maxL ret n) (hM : xA Z l y bytes maxL ret d mc ms (.ref (ad r k) :: As) D cA tz I ad σ o σ' n' g') (hI : (r, k) ∈ I) {ci : Nat} {fs : List Value} (he : xc cA tz ad σ r k = .inr (ci, fs)) {T : u_T} {N : Nat} (hc : xCl[ci]? = some (y.cls, T, N))
    (hn : As.length = n) (hst : st0 = As.reverse ++ .ref (ad r k) :: rest) (hrest : (rest.map fun v => v.category).sum ≤ 8) (hR : d + 1 ≤ R.frames ∧ 8 + (maxL + 11) + 40 * d ≤ R.locals) (hf : cells + mc ≤ R.cells ∧ slots + ms ≤ R.slots) (hdg : decode cc pc = .ok (.invokevirtual index, 3))
    (kk : ∀ (I1 : List (Nat × Nat)) (ad1 : Nat → Nat → Nat) (H1 : Heap) (locs1 : List Loc), xE I ad I1 ad1 → xL I1 n' g' → xr_W xCl (xT cA) D I1 ad1 (xc cA tz ad1 σ') A s H1 locs1 → W p l e R s m args below meth c H1 locs1 (cells + mc) (slots + ms) Q (F0 m (pc + 3) ls ((o ad1).toList ++ rest))) : W p l e R s m args below meth c H locs cells slots Q (F0 m pc ls st0) := by
  refine xr_callV xG hZL C w hz hml hls hK hM hI he hc hn hst hrest hR hf hdg (fun o' I' ad' E' H1 locs1 hB w1 => ?_)
  obtain ⟨rfl, rfl, h1, h2⟩ := hB
  exact kk I' ad' H1 locs1 h1 h2 w1
theorem xa_callS (C : xr_C xBIG p c cc own s m args) (w : xr_W xCl (xT cA) D I ad (xc cA tz ad σ) A s H locs) (hz : Z A s s.heap) (hZL : xr_ZL Z) (hml : c.maxLocals = nL) (hls : ls.size = nL)
    (hK : xr_KS xBIG own index y bytes maxL ret n) (hM : xA Z l y bytes maxL ret d mc ms As D cA tz I ad σ o σ' n' g')
    (hn : As.length = n) (hst : st0 = As.reverse ++ rest) (hrest : (rest.map fun v => v.category).sum ≤ 8) (hR : d + 1 ≤ R.frames ∧ 8 + (maxL + 11) + 40 * d ≤ R.locals) (hf : cells + mc ≤ R.cells ∧ slots + ms ≤ R.slots) (hdg : decode cc pc = .ok (.invokestatic index, 3))
    (kk : ∀ (I1 : List (Nat × Nat)) (ad1 : Nat → Nat → Nat) (H1 : Heap) (locs1 : List Loc), xE I ad I1 ad1 → xL I1 n' g' → xr_W xCl (xT cA) D I1 ad1 (xc cA tz ad1 σ') A s H1 locs1 → W p l e R s m args below meth c H1 locs1 (cells + mc) (slots + ms) Q (F0 m (pc + 3) ls ((o ad1).toList ++ rest))) : W p l e R s m args below meth c H locs cells slots Q (F0 m pc ls st0) := by
  refine xr_callS xG hZL C w hz hml hls hK hM hn hst hrest hR hf hdg (fun o' I' ad' E' H1 locs1 hB w1 => ?_)
  obtain ⟨rfl, rfl, h1, h2⟩ := hB
  exact kk I' ad' H1 locs1 h1 h2 w1
/-- a constructor that makes nothing -/
theorem xd_callI (C : xr_C xBIG p c cc own s m args) (w : xr_W xCl (xT cA) D I ad (xc cA tz ad σ) A s H locs) (hz : xZ tz A s s.heap) (hml : c.maxLocals = nL) (hls : ls.size = nL)
    (hK : xr_KI xBIG own index y bytes maxL n) (hM : xD l y bytes maxL none d (.ref (ad r k) :: As) D cA tz I ad σ none σ')
    (hn : As.length = n) (hst : st0 = As.reverse ++ .ref (ad r k) :: rest) (hrest : (rest.map fun v => v.category).sum ≤ 8) (hR : d + 1 ≤ R.frames ∧ 8 + (maxL + 11) + 40 * d ≤ R.locals) (hf : cells ≤ R.cells ∧ slots ≤ R.slots) (hdg : decode cc pc = .ok (.invokespecial index, 3))
    (kk : ∀ (H1 : Heap) (locs1 : List Loc), xr_W xCl (xT cA) D I ad (xc cA tz ad σ') A s H1 locs1 → W p l e R s m args below meth c H1 locs1 cells slots Q (F0 m (pc + 3) ls rest)) : W p l e R s m args below meth c H locs cells slots Q (F0 m pc ls st0) := by
  refine xr_callI xG (xZL tz) C w hz hml hls hK hM hn hst hrest hR hf hdg (fun o' I' ad' E' H1 locs1 hB w1 => ?_)
  obtain ⟨rfl, rfl, rfl, rfl⟩ := hB
  exact kk H1 locs1 w1
end
/-- a loop that counts up, with room that goes -/
theorem xl_upA {Wg : Heap → List Loc → Array Slot → Nat → Nat → Prop} {K : Nat → Heap → List Loc → Array Slot → Nat → Nat → Prop} (e : Nat) (hx : ∀ H locs ls c d, K e H locs ls c d → Wg H locs ls c d) (hs : ∀ i H locs ls c d, i < e → K i H locs ls c d → (∀ H locs ls c d, K (i + 1) H locs ls c d → Wg H locs ls c d) → Wg H locs ls c d) :
    ∀ i H locs ls c d, i ≤ e → K i H locs ls c d → Wg H locs ls c d := by
  have key : ∀ n i H locs ls c d, i + n = e → K i H locs ls c d → Wg H locs ls c d := by
    intro n
    induction n with
    | zero =>
      intro i H locs ls c d hi hk
      have : i = e := by omega
      subst this
      exact hx H locs ls c d hk
    | succ n ih =>
      intro i H locs ls c d hi hk
      exact hs i H locs ls c d (by omega) hk (fun H locs ls c d hk => ih (i + 1) H locs ls c d (by omega) hk)
  intro i H locs ls c d hi hk
  exact key (e - i) i H locs ls c d (by omega) hk
