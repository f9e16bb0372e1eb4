/-! Rows over worlds by names: one instruction each. -/
section
variable {p : Program} {l : Launch} {e : Env} {R : Room} {s : State} {m : MethodId} {args : Array Value} {below : List Frame} {meth : Method} {c : Code} {H : Heap} {locs : List Loc} {cells slots : Nat} {Q : State → Prop}
variable {cc : ByteArray} {pc : Nat} {ls : Array Slot} {rest : List Value} {D : va_G} {cl : List vw_C} {tys : List (ClassId × FieldType)} {A : Nat → Prop} {own : String} {Ts : List Cond} {I : List (Nat × Nat)} {ad : Nat → Nat → Nat} {E : Nat → Nat → va_E} {r k : Nat}
/-- a method's own: the machine, its bytes, its class, the words -/
def xr_C (Ts : List Cond) (p : Program) (c : Code) (cc : ByteArray) (own : String) (s : State) (m : MethodId) (args : Array Value) : Prop := p.tables.exec = Jvm.exec ∧ c.code = cc ∧ s.vm.findClass own = some m.cls ∧ ∀ w ∈ Ts, w.before args s = true
/-- the world inside a method that may change the cells A -/
def xr_W (cl : List vw_C) (tys : List (ClassId × FieldType)) (D : va_G) (I : List (Nat × Nat)) (ad : Nat → Nat → Nat) (E : Nat → Nat → va_E) (A : Nat → Prop) (s : State) (H : Heap) (locs : List Loc) : Prop :=
  va_P D cl (xw_l I ad E) H ∧ va_D A (xw_l I ad E) ∧ va_K D cl tys s ∧ va_S A s.heap H locs ∧ ∀ q, s.heap.size ≤ q → A q
theorem xr_get (C : xr_C Ts p c cc own s m args) (w : xr_W cl tys D I ad E A s H locs) (hI : (r, k) ∈ I) {ci : Nat} {fs : List Value} (he : E r k = .inr (ci, fs)) {Cn : String} {T : u_T} {N : Nat} (hc : cl[ci]? = some (Cn, T, N)) (hin : ∀ w ∈ u_ws Cn T N, w ∈ Ts)
    (i : Nat) (hi : i < N) {index : Nat} (hlink : Cond.fieldLink own index Cn (T i).2.1 (T i).2.2.1 ∈ Ts) (hs : (T i).1 = Cn) {v : Value} (hv : fs[i]? = some v) (hdg : decode cc pc = .ok (.getfield index, 3))
    (kk : W p l e R s m args below meth c H locs cells slots Q (F0 m (pc + 3) ls (v :: rest))) : W p l e R s m args below meth c H locs cells slots Q (F0 m pc ls (.ref (ad r k) :: rest)) := by
  obtain ⟨hx, hb, hown, hts⟩ := C
  obtain ⟨hP, hD, hK, hS, hA⟩ := w
  obtain ⟨q, hq⟩ := xw_at ad E hI
  rw [he] at hq
  exact va_get hx hb hts hin hown hK hP q hq hc i hi (hts _ hlink) (fun x h => by rw [hs] at h; exact h) hv hdg kk
theorem xr_put (C : xr_C Ts p c cc own s m args) (w : xr_W cl tys D I ad E A s H locs) (hI : (r, k) ∈ I) {ci : Nat} {fs : List Value} (he : E r k = .inr (ci, fs)) {Cn : String} {T : u_T} {N : Nat} (hc : cl[ci]? = some (Cn, T, N)) (hin : ∀ w ∈ u_ws Cn T N, w ∈ Ts)
    (ty0 : Nat → FieldType) (hty : ∀ k, k < N → parseFieldDescriptor (T k).2.2.1 = some (ty0 k)) (hnm : ∀ a, a < N → ∀ b, b < N → a ≠ b → (T a).2.1 ≠ (T b).2.1)
    (i : Nat) (hi : i < N) {index : Nat} (hlink : Cond.fieldLink own index Cn (T i).2.1 (T i).2.2.1 ∈ Ts) (hs : (T i).1 = Cn) (hfin : (T i).2.2.2 = false) {v : Value} (hn : narrow (ty0 i) v = v) (hfit : fits (ty0 i) v = true) (hl : i < fs.length) (hdg : decode cc pc = .ok (.putfield index, 3))
    (kk : ∀ (H1 : Heap) (locs1 : List Loc), xr_W cl tys D I ad (xw_u2 E r k (.inr (ci, fs.set i v))) A s H1 locs1 → W p l e R s m args below meth c H1 locs1 cells slots Q (F0 m (pc + 3) ls rest)) : W p l e R s m args below meth c H locs cells slots Q (F0 m pc ls (v :: .ref (ad r k) :: rest)) := by
  obtain ⟨hx, hb, hown, hts⟩ := C
  obtain ⟨hP, hD, hK, hS, hA⟩ := w
  obtain ⟨q, hq⟩ := xw_at ad E hI
  rw [he] at hq
  refine va_put hx hb hts hin ty0 hty hnm hown hK hP hD hS q hq hc i hi (hts _ hlink) (fun x h => by rw [hs] at h; exact h) hfin (hty i hi) hn hfit hl hdg (fun H1 locs1 hP1 hD1 hS1 => ?_)
  rw [xw_set hD hI hq] at hP1 hD1
  exact kk H1 locs1 ⟨hP1, hD1, hK, hS1, hA⟩
theorem xr_putF (C : xr_C Ts p c cc own s m args) (w : xr_W cl tys D I ad E A s H locs) (hI : (r, k) ∈ I) {ci : Nat} {fs : List Value} (he : E r k = .inr (ci, fs)) {Cn : String} {T : u_T} {N : Nat} (hc : cl[ci]? = some (Cn, T, N)) (hin : ∀ w ∈ u_ws Cn T N, w ∈ Ts)
    (ty0 : Nat → FieldType) (hty : ∀ k, k < N → parseFieldDescriptor (T k).2.2.1 = some (ty0 k)) (hnm : ∀ a, a < N → ∀ b, b < N → a ≠ b → (T a).2.1 ≠ (T b).2.1) (hinit : meth.name = "<init>")
    (i : Nat) (hi : i < N) {index : Nat} (hlink : Cond.fieldLink own index Cn (T i).2.1 (T i).2.2.1 ∈ Ts) (hs : (T i).1 = Cn) (ho : Cn = own) (hfin : (T i).2.2.2 = true) {v : Value} (hn : narrow (ty0 i) v = v) (hfit : fits (ty0 i) v = true) (hl : i < fs.length) (hdg : decode cc pc = .ok (.putfield index, 3))
    (kk : ∀ (H1 : Heap) (locs1 : List Loc), xr_W cl tys D I ad (xw_u2 E r k (.inr (ci, fs.set i v))) A s H1 locs1 → W p l e R s m args below meth c H1 locs1 cells slots Q (F0 m (pc + 3) ls rest)) : W p l e R s m args below meth c H locs cells slots Q (F0 m pc ls (v :: .ref (ad r k) :: rest)) := by
  obtain ⟨hx, hb, hown, hts⟩ := C
  obtain ⟨hP, hD, hK, hS, hA⟩ := w
  obtain ⟨q, hq⟩ := xw_at ad E hI
  rw [he] at hq
  refine va_putF hx hb hts hin ty0 hty hnm hown hK hP hD hS q hq hc i hi (hts _ hlink) (fun x h => by rw [hs] at h; exact h) hfin hinit (hs.trans ho) (hty i hi) hn hfit hl hdg (fun H1 locs1 hP1 hD1 hS1 => ?_)
  rw [xw_set hD hI hq] at hP1 hD1
  exact kk H1 locs1 ⟨hP1, hD1, hK, hS1, hA⟩
theorem xr_iald (C : xr_C Ts p c cc own s m args) (w : xr_W cl tys D I ad E A s H locs) (hI : (r, k) ∈ I) {cA : ClassId} {n : Nat} {f : Nat → Int32} (he : E r k = .inl (cA, n, .inl f)) (t0 : Nat) (ht : tys[t0]? = some (cA, .int)) {i : Int32} (j : Nat) (hi : i = nI j) (hj : j < n) (hn : n < 2 ^ 31) (hdg : decode cc pc = .ok (.iaload, 1))
    (kk : W p l e R s m args below meth c H locs cells slots Q (F0 m (pc + 1) ls (.int (f j) :: rest))) : W p l e R s m args below meth c H locs cells slots Q (F0 m pc ls (.int i :: .ref (ad r k) :: rest)) := by
  obtain ⟨hx, hb, hown, hts⟩ := C
  obtain ⟨hP, hD, hK, hS, hA⟩ := w
  obtain ⟨q, hq⟩ := xw_at ad E hI
  rw [he] at hq
  subst hi
  refine va_iald hx hb hK hP q t0 hq ht (vp_in_nI hj hn) hdg ?_
  rw [nI_clamp (n := j) (by omega)]
  exact kk
theorem xr_iast (C : xr_C Ts p c cc own s m args) (w : xr_W cl tys D I ad E A s H locs) (hI : (r, k) ∈ I) {cA : ClassId} {n : Nat} {f : Nat → Int32} (he : E r k = .inl (cA, n, .inl f)) (t0 : Nat) (ht : tys[t0]? = some (cA, .int)) {i x : Int32} (j : Nat) (hi : i = nI j) (hj : j < n) (hn : n < 2 ^ 31) (hdg : decode cc pc = .ok (.iastore, 1))
    (kk : ∀ (H1 : Heap) (locs1 : List Loc), xr_W cl tys D I ad (xw_u2 E r k (.inl (cA, n, .inl (va_up f j x)))) A s H1 locs1 → W p l e R s m args below meth c H1 locs1 cells slots Q (F0 m (pc + 1) ls rest)) : W p l e R s m args below meth c H locs cells slots Q (F0 m pc ls (.int x :: .int i :: .ref (ad r k) :: rest)) := by
  obtain ⟨hx, hb, hown, hts⟩ := C
  obtain ⟨hP, hD, hK, hS, hA⟩ := w
  obtain ⟨q, hq⟩ := xw_at ad E hI
  rw [he] at hq
  subst hi
  refine va_iast hx hb hK hP hD hS q t0 hq ht (vp_in_nI hj hn) hdg (fun H1 locs1 hP1 hD1 hS1 => ?_)
  rw [nI_clamp (n := j) (by omega)] at hP1 hD1
  rw [xw_set hD hI hq] at hP1 hD1
  exact kk H1 locs1 ⟨hP1, hD1, hK, hS1, hA⟩
theorem xr_zald (C : xr_C Ts p c cc own s m args) (w : xr_W cl tys D I ad E A s H locs) (hI : (r, k) ∈ I) {cA : ClassId} {n : Nat} {f : Nat → Int32} (he : E r k = .inl (cA, n, .inl f)) (t0 : Nat) (ht : tys[t0]? = some (cA, .boolean)) {i : Int32} (j : Nat) (hi : i = nI j) (hj : j < n) (hn : n < 2 ^ 31) (hdg : decode cc pc = .ok (.baload, 1))
    (kk : W p l e R s m args below meth c H locs cells slots Q (F0 m (pc + 1) ls (.int (f j) :: rest))) : W p l e R s m args below meth c H locs cells slots Q (F0 m pc ls (.int i :: .ref (ad r k) :: rest)) := by
  obtain ⟨hx, hb, hown, hts⟩ := C
  obtain ⟨hP, hD, hK, hS, hA⟩ := w
  obtain ⟨q, hq⟩ := xw_at ad E hI
  rw [he] at hq
  subst hi
  refine va_zald hx hb hK hP q t0 hq ht (vp_in_nI hj hn) hdg ?_
  rw [nI_clamp (n := j) (by omega)]
  exact kk
theorem xr_zast (C : xr_C Ts p c cc own s m args) (w : xr_W cl tys D I ad E A s H locs) (hI : (r, k) ∈ I) {cA : ClassId} {n : Nat} {f : Nat → Int32} (he : E r k = .inl (cA, n, .inl f)) (t0 : Nat) (ht : tys[t0]? = some (cA, .boolean)) {i x : Int32} (hx2 : vp_nar .boolean x = x) (j : Nat) (hi : i = nI j) (hj : j < n) (hn : n < 2 ^ 31) (hdg : decode cc pc = .ok (.bastore, 1))
    (kk : ∀ (H1 : Heap) (locs1 : List Loc), xr_W cl tys D I ad (xw_u2 E r k (.inl (cA, n, .inl (va_up f j x)))) A s H1 locs1 → W p l e R s m args below meth c H1 locs1 cells slots Q (F0 m (pc + 1) ls rest)) : W p l e R s m args below meth c H locs cells slots Q (F0 m pc ls (.int x :: .int i :: .ref (ad r k) :: rest)) := by
  obtain ⟨hx, hb, hown, hts⟩ := C
  obtain ⟨hP, hD, hK, hS, hA⟩ := w
  obtain ⟨q, hq⟩ := xw_at ad E hI
  rw [he] at hq
  subst hi
  refine va_zast hx hb hK hP hD hS q t0 hq ht (vp_in_nI hj hn) hdg (fun H1 locs1 hP1 hD1 hS1 => ?_)
  rw [nI_clamp (n := j) (by omega), hx2] at hP1 hD1
  rw [xw_set hD hI hq] at hP1 hD1
  exact kk H1 locs1 ⟨hP1, hD1, hK, hS1, hA⟩
theorem xr_aald (C : xr_C Ts p c cc own s m args) (w : xr_W cl tys D I ad E A s H locs) (hI : (r, k) ∈ I) {cA : ClassId} {n a : Nat} {f : Nat → Option Nat} (he : E r k = .inl (cA, n, .inr (.inr (.inr (.inr f))))) (t0 : Nat) {ty : FieldType} (ht : tys[t0]? = some (cA, ty)) (hty : ty.isReference = true) {i : Int32} (j : Nat) (hi : i = nI j) (hj : j < n) (hn : n < 2 ^ 31) (hf : f j = some a) (hdg : decode cc pc = .ok (.aaload, 1))
    (kk : W p l e R s m args below meth c H locs cells slots Q (F0 m (pc + 1) ls (.ref a :: rest))) : W p l e R s m args below meth c H locs cells slots Q (F0 m pc ls (.int i :: .ref (ad r k) :: rest)) := by
  obtain ⟨hx, hb, hown, hts⟩ := C
  obtain ⟨hP, hD, hK, hS, hA⟩ := w
  obtain ⟨q, hq⟩ := xw_at ad E hI
  rw [he] at hq
  subst hi
  have hcl : (nI j).toNatClampNeg = j := nI_clamp (by omega)
  refine W.aald (v := .ref a) (ty := ty) hx hb (hP q _ hq) ((hK.2 t0 _ ht).1 n (fun j => va_rf (f j))) hty (fun q => by cases q) (by show ¬ (_ ∨ (arrV _ _ _).slots.size ≤ _); rw [arrV_size]; exact vp_in_nI hj hn) (by show (arrV _ _ _).slots[_]? = _; rw [hcl, arrV_read _ _ hj, hf]; rfl) rfl rfl hdg kk
theorem xr_aast (C : xr_C Ts p c cc own s m args) (w : xr_W cl tys D I ad E A s H locs) (hI : (r, k) ∈ I) {cA : ClassId} {n r2 k2 ci : Nat} {f : Nat → Option Nat} (he : E r k = .inl (cA, n, .inr (.inr (.inr (.inr f))))) (t0 : Nat) {q9 : vw_C} (ht : tys[t0]? = some (cA, .object q9.1)) (hI2 : (r2, k2) ∈ I) {vs : List Value} (he2 : E r2 k2 = .inr (ci, vs)) (hc : cl[ci]? = some q9) {i : Int32} (j : Nat) (hi : i = nI j) (hj : j < n) (hn : n < 2 ^ 31) (hdg : decode cc pc = .ok (.aastore, 1))
    (kk : ∀ (H1 : Heap) (locs1 : List Loc), xr_W cl tys D I ad (xw_u2 E r k (.inl (cA, n, .inr (.inr (.inr (.inr (va_up f j (some (ad r2 k2))))))))) A s H1 locs1 → W p l e R s m args below meth c H1 locs1 cells slots Q (F0 m (pc + 1) ls rest)) : W p l e R s m args below meth c H locs cells slots Q (F0 m pc ls (.ref (ad r2 k2) :: .int i :: .ref (ad r k) :: rest)) := by
  obtain ⟨hx, hb, hown, hts⟩ := C
  obtain ⟨hP, hD, hK, hS, hA⟩ := w
  obtain ⟨q, hq⟩ := xw_at ad E hI
  obtain ⟨q2, hq2⟩ := xw_at ad E hI2
  rw [he] at hq
  rw [he2] at hq2
  subst hi
  refine va_astq hx hb hK hP hD hS q t0 q2 ci hq ht hq2 hc (vp_in_nI hj hn) hdg (fun H1 locs1 hP1 hD1 hS1 => ?_)
  rw [nI_clamp (n := j) (by omega)] at hP1 hD1
  rw [xw_set hD hI hq] at hP1 hD1
  exact kk H1 locs1 ⟨hP1, hD1, hK, hS1, hA⟩
theorem xr_new (C : xr_C Ts p c cc own s m args) (w : xr_W cl tys D I ad E A s H locs) (hI : (r, k) ∉ I) {Cn : String} {T : u_T} {N ci index : Nat} (hin : ∀ w ∈ u_ws Cn T N, w ∈ Ts) (ty0 : Nat → FieldType) (hty : ∀ k, k < N → parseFieldDescriptor (T k).2.2.1 = some (ty0 k)) (hlink : Cond.classLink own index Cn ∈ Ts) (hinst : Cond.instantiable Cn N ∈ Ts) (hini : Cond.initialized Cn ∈ Ts)
    (hc : cl[ci]? = some (Cn, T, N)) {fs : List Value} (hfs : ∀ j, j < N → defaultValue (ty0 j) = vp_V fs j) (hcells : cells + 1 ≤ R.cells) (hslots : slots + N ≤ R.slots) (hdg : decode cc pc = .ok (.new index, 3))
    (kk : ∀ (q : Nat) (H1 : Heap), xr_W cl tys D (I ++ [(r, k)]) (xw_u2 ad r k q) (xw_u2 E r k (.inr (ci, fs))) A s H1 locs → W p l e R s m args below meth c H1 locs (cells + 1) (slots + N) Q (F0 m (pc + 3) ls (.ref q :: rest))) : W p l e R s m args below meth c H locs cells slots Q (F0 m pc ls rest) := by
  obtain ⟨hx, hb, hown, hts⟩ := C
  obtain ⟨hP, hD, hK, hS, hA⟩ := w
  refine va_new (ci := ci) (fs := fs) hx hb hts hin ty0 hty hown (hts _ hlink) (hts _ hinst) (hts _ hini) hK hP hD hS hA hc hfs hcells hslots hdg (fun q H1 hP1 hD1 hS1 => ?_)
  rw [xw_new hI] at hP1 hD1
  exact kk q H1 ⟨hP1, hD1, hK, hS1, hA⟩
/-- System.arraycopy between int arrays -/
theorem xr_copy (C : xr_C Ts p c cc own s m args) (w : xr_W cl tys D I ad E A s H locs) (hml : c.maxLocals = ls.size) {r2 k2 : Nat} (hI : (r, k) ∈ I) (hI2 : (r2, k2) ∈ I) {c1 c2 : ClassId} {n1 n2 : Nat} {f g : Nat → Int32} (he : E r k = .inl (c1, n1, .inl f)) (he2 : E r2 k2 = .inl (c2, n2, .inl g)) (t1 t2 : Nat) (ht1 : tys[t1]? = some (c1, .int)) (ht2 : tys[t2]? = some (c2, .int))
    {index : Nat} (hlink : Cond.methodLink own index arraycopyName ∈ Ts) (hnat : Cond.native arraycopyName ∈ Ts) (hstat : Cond.static arraycopyName ∈ Ts) (hini : Cond.initialized "java/lang/System" ∈ Ts)
    {x y z : Int32} (a b n : Nat) (hx2 : x = nI a) (hy2 : y = nI b) (hz2 : z = nI n) (h1 : a + n ≤ n1) (h2 : b + n ≤ n2) (hb1 : n1 < 2 ^ 31) (hb2 : n2 < 2 ^ 31)
    (hframes : 1 ≤ R.frames) (hlocals : (rest.map fun v => v.category).sum + (nativeFrameWords "java/lang/System" "arraycopy" 5 + 11) ≤ R.locals) (hdg : decode cc pc = .ok (.invokestatic index, 3))
    (kk : ∀ (H1 : Heap) (locs1 : List Loc), xr_W cl tys D I ad (xw_u2 E r2 k2 (.inl (c2, n2, .inl (va_cpy f g a b n)))) A s H1 locs1 → W p l e R s m args below meth c H1 locs1 cells slots Q (F0 m (pc + 3) ls rest)) : W p l e R s m args below meth c H locs cells slots Q (F0 m pc ls (.int z :: .int y :: .ref (ad r2 k2) :: .int x :: .ref (ad r k) :: rest)) := by
  obtain ⟨hx, hb, hown, hts⟩ := C
  obtain ⟨hP, hD, hK, hS, hA⟩ := w
  obtain ⟨q, hq⟩ := xw_at ad E hI
  obtain ⟨q2, hq2⟩ := xw_at ad E hI2
  rw [he] at hq
  rw [he2] at hq2
  subst hx2
  subst hy2
  subst hz2
  have ea : (nI a).toNatClampNeg = a := nI_clamp (by omega)
  have eb : (nI b).toNatClampNeg = b := nI_clamp (by omega)
  have en : (nI n).toNatClampNeg = n := nI_clamp (by omega)
  refine va_copyi hx hb hml hown (hts _ hlink) (hts _ hnat) (hts _ hstat) (hts _ hini) hK hP hD hS q q2 t1 t2 hq hq2 ht1 ht2 rfl (nI_pos (by omega)) (nI_pos (by omega)) (nI_pos (by omega)) (by rw [ea, en]; exact h1) (by rw [eb, en]; exact h2) (fun _ _ => rfl) hframes hlocals hdg (fun H1 locs1 hP1 hD1 hS1 => ?_)
  rw [ea, eb, en] at hP1 hD1
  rw [xw_set hD hI2 hq2] at hP1 hD1
  exact kk H1 locs1 ⟨hP1, hD1, hK, hS1, hA⟩
end
