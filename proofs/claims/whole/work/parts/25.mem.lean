/-! Which cells there are; stores and loads over the memory. -/
def xI (I : List (Nat × Nat)) : Prop := (∀ k, k < 16 → (0, k) ∈ I) ∧ (∀ k, k < 16 → (1, k) ∈ I) ∧ (∀ k, k < 3 → (2, k) ∈ I) ∧ (∀ k, k < 3 → (3, k) ∈ I) ∧ (∀ k, k < 4 → (4, k) ∈ I) ∧ ∀ k, 5 ≤ k → k < 12 → (k, 0) ∈ I
def xJ (I : List (Nat × Nat)) : Prop := ∀ k, 20 ≤ k → k < 37 → (k, 0) ∈ I
theorem xI0 {I : List (Nat × Nat)} (h : xI I) {k : Nat} (hk : k < 16) : (0, k) ∈ I := h.1 k hk
theorem xI1 {I : List (Nat × Nat)} (h : xI I) {k : Nat} (hk : k < 16) : (1, k) ∈ I := h.2.1 k hk
theorem xI2 {I : List (Nat × Nat)} (h : xI I) {k : Nat} (hk : k < 3) : (2, k) ∈ I := h.2.2.1 k hk
theorem xI3 {I : List (Nat × Nat)} (h : xI I) {k : Nat} (hk : k < 3) : (3, k) ∈ I := h.2.2.2.1 k hk
theorem xI4 {I : List (Nat × Nat)} (h : xI I) {k : Nat} (hk : k < 4) : (4, k) ∈ I := h.2.2.2.2.1 k hk
theorem xI5 {I : List (Nat × Nat)} (h : xI I) : (5, 0) ∈ I := h.2.2.2.2.2 5 (by decide) (by decide)
theorem xI6 {I : List (Nat × Nat)} (h : xI I) : (6, 0) ∈ I := h.2.2.2.2.2 6 (by decide) (by decide)
theorem xI7 {I : List (Nat × Nat)} (h : xI I) : (7, 0) ∈ I := h.2.2.2.2.2 7 (by decide) (by decide)
theorem xI8 {I : List (Nat × Nat)} (h : xI I) : (8, 0) ∈ I := h.2.2.2.2.2 8 (by decide) (by decide)
theorem xI9 {I : List (Nat × Nat)} (h : xI I) : (9, 0) ∈ I := h.2.2.2.2.2 9 (by decide) (by decide)
theorem xI10 {I : List (Nat × Nat)} (h : xI I) : (10, 0) ∈ I := h.2.2.2.2.2 10 (by decide) (by decide)
theorem xI11 {I : List (Nat × Nat)} (h : xI I) : (11, 0) ∈ I := h.2.2.2.2.2 11 (by decide) (by decide)
theorem xJ20 {I : List (Nat × Nat)} (h : xJ I) : (20, 0) ∈ I := h 20 (by decide) (by decide)
theorem xJ21 {I : List (Nat × Nat)} (h : xJ I) : (21, 0) ∈ I := h 21 (by decide) (by decide)
theorem xJ22 {I : List (Nat × Nat)} (h : xJ I) : (22, 0) ∈ I := h 22 (by decide) (by decide)
theorem xJ23 {I : List (Nat × Nat)} (h : xJ I) : (23, 0) ∈ I := h 23 (by decide) (by decide)
theorem xJ24 {I : List (Nat × Nat)} (h : xJ I) : (24, 0) ∈ I := h 24 (by decide) (by decide)
theorem xJ25 {I : List (Nat × Nat)} (h : xJ I) : (25, 0) ∈ I := h 25 (by decide) (by decide)
theorem xJ26 {I : List (Nat × Nat)} (h : xJ I) : (26, 0) ∈ I := h 26 (by decide) (by decide)
theorem xJ27 {I : List (Nat × Nat)} (h : xJ I) : (27, 0) ∈ I := h 27 (by decide) (by decide)
theorem xJ28 {I : List (Nat × Nat)} (h : xJ I) : (28, 0) ∈ I := h 28 (by decide) (by decide)
theorem xJ29 {I : List (Nat × Nat)} (h : xJ I) : (29, 0) ∈ I := h 29 (by decide) (by decide)
theorem xJ30 {I : List (Nat × Nat)} (h : xJ I) : (30, 0) ∈ I := h 30 (by decide) (by decide)
theorem xJ31 {I : List (Nat × Nat)} (h : xJ I) : (31, 0) ∈ I := h 31 (by decide) (by decide)
theorem xJ32 {I : List (Nat × Nat)} (h : xJ I) : (32, 0) ∈ I := h 32 (by decide) (by decide)
theorem xJ33 {I : List (Nat × Nat)} (h : xJ I) : (33, 0) ∈ I := h 33 (by decide) (by decide)
theorem xJ34 {I : List (Nat × Nat)} (h : xJ I) : (34, 0) ∈ I := h 34 (by decide) (by decide)
theorem xJ35 {I : List (Nat × Nat)} (h : xJ I) : (35, 0) ∈ I := h 35 (by decide) (by decide)
theorem xJ36 {I : List (Nat × Nat)} (h : xJ I) : (36, 0) ∈ I := h 36 (by decide) (by decide)
section
variable {p : Program} {l : Launch} {e : Env} {R : Room} {s : State} {m : MethodId} {args : Array Value} {below : List Frame} {meth : Method} {c : Code} {H : Heap} {locs : List Loc} {cells slots : Nat} {Q : State → Prop} {cc : ByteArray} {pc : Nat} {ls : Array Slot} {rest : List Value} {D : va_G} {cA : Nat → ClassId} {tz : Nat} {A : Nat → Prop} {I : List (Nat × Nat)} {ad : Nat → Nat → Nat} {σ : xMem} {own : String} {r k : Nat}
theorem xs_iast (C : xr_C xBIG p c cc own s m args) (w : xr_W xCl (xT cA) D I ad (xc cA tz ad σ) A s H locs) (hI : (r, k) ∈ I) {n : Nat} (hf : ∀ f, xcell cA tz ad r k f = .inl (cA 0, n, .inl f)) {i x : Int32} (j : Nat) (hi : i = nI j) (hj : j < n) (hn : n < 2 ^ 31) (hdg : decode cc pc = .ok (.iastore, 1))
    (kk : ∀ (H1 : Heap) (locs1 : List Loc), xr_W xCl (xT cA) D I ad (xc cA tz ad (xu3 σ r k j x)) A s H1 locs1 → W p l e R s m args below meth c H1 locs1 cells slots Q (F0 m (pc + 1) ls rest)) : W p l e R s m args below meth c H locs cells slots Q (F0 m pc ls (.int x :: .int i :: .ref (ad r k) :: rest)) := by
  refine xr_iast C w hI (hf (σ r k)) 0 rfl j hi hj hn hdg (fun H1 locs1 w1 => kk H1 locs1 ?_)
  rw [← hf, xc_up] at w1
  exact w1
theorem xs_zast (C : xr_C xBIG p c cc own s m args) (w : xr_W xCl (xT cA) D I ad (xc cA tz ad σ) A s H locs) (hI : (r, k) ∈ I) {n : Nat} (hf : ∀ f, xcell cA tz ad r k f = .inl (cA 5, n, .inl f)) {i x : Int32} (hx : x = nI 0 ∨ x = nI 1) (j : Nat) (hi : i = nI j) (hj : j < n) (hn : n < 2 ^ 31) (hdg : decode cc pc = .ok (.bastore, 1))
    (kk : ∀ (H1 : Heap) (locs1 : List Loc), xr_W xCl (xT cA) D I ad (xc cA tz ad (xu3 σ r k j x)) A s H1 locs1 → W p l e R s m args below meth c H1 locs1 cells slots Q (F0 m (pc + 1) ls rest)) : W p l e R s m args below meth c H locs cells slots Q (F0 m pc ls (.int x :: .int i :: .ref (ad r k) :: rest)) := by
  refine xr_zast C w hI (hf (σ r k)) 5 rfl (by rcases hx with h | h <;> subst h <;> decide +kernel) j hi hj hn hdg (fun H1 locs1 w1 => kk H1 locs1 ?_)
  rw [← hf, xc_up] at w1
  exact w1
theorem xs_copy (C : xr_C xBIG p c cc own s m args) (w : xr_W xCl (xT cA) D I ad (xc cA tz ad σ) A s H locs) (hml : c.maxLocals = ls.size) {r2 k2 : Nat} (hI : (r, k) ∈ I) (hI2 : (r2, k2) ∈ I) {n1 n2 : Nat} (hf : ∀ f, xcell cA tz ad r k f = .inl (cA 0, n1, .inl f)) (hf2 : ∀ f, xcell cA tz ad r2 k2 f = .inl (cA 0, n2, .inl f))
    {index : Nat} (hlink : Cond.methodLink own index arraycopyName ∈ xBIG) (hnat : Cond.native arraycopyName ∈ xBIG) (hstat : Cond.static arraycopyName ∈ xBIG) (hini : Cond.initialized "java/lang/System" ∈ xBIG)
    {x y z : Int32} (a b n : Nat) (hx2 : x = nI a) (hy2 : y = nI b) (hz2 : z = nI n) (h1 : a + n ≤ n1) (h2 : b + n ≤ n2) (hb1 : n1 < 2 ^ 31) (hb2 : n2 < 2 ^ 31)
    (hframes : 1 ≤ R.frames) (hlocals : (rest.map fun v => v.category).sum + (nativeFrameWords "java/lang/System" "arraycopy" 5 + 11) ≤ R.locals) (hdg : decode cc pc = .ok (.invokestatic index, 3))
    (kk : ∀ (H1 : Heap) (locs1 : List Loc), xr_W xCl (xT cA) D I ad (xc cA tz ad (xw_u2 σ r2 k2 (va_cpy (σ r k) (σ r2 k2) a b n))) A s H1 locs1 → W p l e R s m args below meth c H1 locs1 cells slots Q (F0 m (pc + 3) ls rest)) : W p l e R s m args below meth c H locs cells slots Q (F0 m pc ls (.int z :: .int y :: .ref (ad r2 k2) :: .int x :: .ref (ad r k) :: rest)) := by
  refine xr_copy C w hml hI hI2 (hf (σ r k)) (hf2 (σ r2 k2)) 0 0 rfl rfl hlink hnat hstat hini a b n hx2 hy2 hz2 h1 h2 hb1 hb2 hframes hlocals hdg (fun H1 locs1 w1 => kk H1 locs1 ?_)
  rw [← hf2, xc_up] at w1
  exact w1
theorem xv_fill_at {n : Nat} {x : Int32} {g : Nat → Nat} {j : Nat} (hx : x = nI n) (hn : n < 2 ^ 31) (hj : j < n) : xv_fill x.toNatClampNeg g j = some (g j) := by
  subst hx
  rw [nI_clamp hn]
  exact if_pos hj
theorem xa_6 (C : xr_C xBIG p c cc own s m args) (w : xr_W xCl (xT cA) D I ad (xc cA tz ad σ) A s H locs) (hI : (6, 0) ∈ I) (h6 : σ 6 0 0 = nI 16) {i : Int32} (j : Nat) (hi : i = nI j) (hj : j < 16) (hdg : decode cc pc = .ok (.aaload, 1))
    (kk : W p l e R s m args below meth c H locs cells slots Q (F0 m (pc + 1) ls (.ref (ad 0 j) :: rest))) : W p l e R s m args below meth c H locs cells slots Q (F0 m pc ls (.int i :: .ref (ad 6 0) :: rest)) :=
  xr_aald C w hI rfl 1 rfl rfl j hi hj (by decide) (xv_fill_at h6 (by decide) hj) hdg kk
theorem xa_7 (C : xr_C xBIG p c cc own s m args) (w : xr_W xCl (xT cA) D I ad (xc cA tz ad σ) A s H locs) (hI : (7, 0) ∈ I) (h7 : σ 7 0 0 = nI 3) {i : Int32} (j : Nat) (hi : i = nI j) (hj : j < 3) (hdg : decode cc pc = .ok (.aaload, 1))
    (kk : W p l e R s m args below meth c H locs cells slots Q (F0 m (pc + 1) ls (.ref (ad 2 j) :: rest))) : W p l e R s m args below meth c H locs cells slots Q (F0 m pc ls (.int i :: .ref (ad 7 0) :: rest)) :=
  xr_aald C w hI rfl 2 rfl rfl j hi hj (by decide) (xv_fill_at h7 (by decide) hj) hdg kk
theorem xa_9 (C : xr_C xBIG p c cc own s m args) (w : xr_W xCl (xT cA) D I ad (xc cA tz ad σ) A s H locs) (hI : (9, 0) ∈ I) {i : Int32} (j : Nat) (hi : i = nI j) (hj : j < 4) (hdg : decode cc pc = .ok (.aaload, 1))
    (kk : W p l e R s m args below meth c H locs cells slots Q (F0 m (pc + 1) ls (.ref (ad 4 j) :: rest))) : W p l e R s m args below meth c H locs cells slots Q (F0 m pc ls (.int i :: .ref (ad 9 0) :: rest)) :=
  xr_aald C w hI rfl 3 rfl rfl j hi hj (by decide) rfl hdg kk
end
/-- a loop that counts up -/
theorem xl_up {Wg : Heap → List Loc → Array Slot → Prop} {K : Nat → Heap → List Loc → Array Slot → Prop} (e : Nat) (hx : ∀ H locs ls, K e H locs ls → Wg H locs ls) (hs : ∀ i H locs ls, i < e → K i H locs ls → (∀ H locs ls, K (i + 1) H locs ls → Wg H locs ls) → Wg H locs ls) :
    ∀ i H locs ls, i ≤ e → K i H locs ls → Wg H locs ls := by
  have key : ∀ n i H locs ls, i + n = e → K i H locs ls → Wg H locs ls := by
    intro n
    induction n with
    | zero =>
      intro i H locs ls hi hk
      have : i = e := by omega
      subst this
      exact hx H locs ls hk
    | succ n ih =>
      intro i H locs ls hi hk
      exact hs i H locs ls (by omega) hk (fun H locs ls hk => ih (i + 1) H locs ls (by omega) hk)
  intro i H locs ls hi hk
  exact key (e - i) i H locs ls (by omega) hk
theorem xl_s {i : Nat} {p : Nat → Prop} (h : ∀ a, a < i → p a) (hi : p i) : ∀ a, a < i + 1 → p a := by
  intro a ha
  by_cases e : a = i
  · rw [e]; exact hi
  · exact h a (by omega)
theorem xl_0 {p : Nat → Prop} : ∀ a, a < 0 → p a := fun a h => absurd h (Nat.not_lt_zero a)
/-- a reference to a tag, or none -/
def xo (ad : Nat → Nat → Nat) (o : Option Nat) : Value := match o with
  | none => .null
  | some k => .ref (ad 0 k)
theorem xk_cpS : Cond.static arraycopyName ∈ xBIG := xmi 185 (by decide +kernel) rfl
theorem xk_cpN : Cond.native arraycopyName ∈ xBIG := xmi 186 (by decide +kernel) rfl
theorem xk_cpI : Cond.initialized "java/lang/System" ∈ xBIG := xmi 14 (by decide +kernel) rfl
theorem xk_cp_TA : Cond.methodLink "SplitFabric$Target" 29 arraycopyName ∈ xBIG := xmi 184 (by decide +kernel) rfl
theorem xk_cp_TG : Cond.methodLink "SplitFabric$Tag" 47 arraycopyName ∈ xBIG := xmi 282 (by decide +kernel) rfl
theorem xk_cp_SF : Cond.methodLink "SplitFabric" 195 arraycopyName ∈ xBIG := xmi 283 (by decide +kernel) rfl
theorem xk_mnL : Cond.methodLink "SplitFabric" 222 Lib.Math.min.name ∈ xBIG := xmi 339 (by decide +kernel) rfl
theorem xk_mnS : Cond.static Lib.Math.min.name ∈ xBIG := xmi 269 (by decide +kernel) rfl
theorem xk_mnI : Cond.initialized "java/lang/Math" ∈ xBIG := xmi 17 (by decide +kernel) rfl
theorem xk_mnC : Cond.code Lib.Math.min.name Lib.Math.min.code 2 (some .int) ∈ xBIG := xmi 270 (by decide +kernel) rfl
