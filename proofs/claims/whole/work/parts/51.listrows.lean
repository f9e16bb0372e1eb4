/-! The list's cells: fields, arrays of references, what is made anew. -/
theorem xin_AL : ∀ w ∈ u_ws "java/util/ArrayList" xF_AL 3, w ∈ xBIG := by decide +kernel
theorem xk_same : Cond.sameField "java/util/ArrayList" "java/util/AbstractList" "modCount" "I" ∈ xBIG := xmi 53 (by decide +kernel) rfl
/-- the world goes on with more names -/
def xE (I : List (Nat × Nat)) (ad : Nat → Nat → Nat) (I' : List (Nat × Nat)) (ad' : Nat → Nat → Nat) : Prop := (∀ j, j ∈ I → j ∈ I') ∧ ∀ r k, (r, k) ∈ I → ad' r k = ad r k
theorem xE.rf (I : List (Nat × Nat)) (ad : Nat → Nat → Nat) : xE I ad I ad := ⟨fun _ h => h, fun _ _ _ => rfl⟩
theorem xE.tr {I I1 I2 : List (Nat × Nat)} {ad ad1 ad2 : Nat → Nat → Nat} (h : xE I ad I1 ad1) (h2 : xE I1 ad1 I2 ad2) : xE I ad I2 ad2 :=
  ⟨fun j hj => h2.1 j (h.1 j hj), fun r k hj => (h2.2 r k (h.1 _ hj)).trans (h.2 r k hj)⟩
theorem xE.new {I : List (Nat × Nat)} {ad : Nat → Nat → Nat} {r k q : Nat} (h : (r, k) ∉ I) : xE I ad (I ++ [(r, k)]) (xw_u2 ad r k q) := by
  refine ⟨fun j hj => List.mem_append_left _ hj, fun a b hj => xw_u2_n _ _ ?_⟩
  rintro ⟨rfl, rfl⟩
  exact h hj
theorem xE.I {I I' : List (Nat × Nat)} {ad ad' : Nat → Nat → Nat} (h : xE I ad I' ad') (hI : xI I) : xI I' :=
  ⟨fun k hk => h.1 _ (hI.1 k hk), fun k hk => h.1 _ (hI.2.1 k hk), fun k hk => h.1 _ (hI.2.2.1 k hk), fun k hk => h.1 _ (hI.2.2.2.1 k hk), fun k hk => h.1 _ (hI.2.2.2.2.1 k hk), fun k h1 h2 => h.1 _ (hI.2.2.2.2.2 k h1 h2)⟩
theorem xE.J {I I' : List (Nat × Nat)} {ad ad' : Nat → Nat → Nat} (h : xE I ad I' ad') (hJ : xJ I) : xJ I' := fun k h1 h2 => h.1 _ (hJ k h1 h2)
/-- how many served ones and how many arrays there are, and one list -/
def xL (I : List (Nat × Nat)) (n g : Nat) : Prop := (∀ j, (13, j) ∈ I ↔ j < n) ∧ (∀ a, (12, a) ∈ I ↔ 1 ≤ a ∧ a ≤ g) ∧ ∀ b, (11, b) ∈ I → b = 0
theorem xL.n13 {I : List (Nat × Nat)} {n g : Nat} (h : xL I n g) : (13, n) ∉ I := fun z => by have := (h.1 n).mp z; omega
theorem xL.n12 {I : List (Nat × Nat)} {n g : Nat} (h : xL I n g) : (12, g + 1) ∉ I := fun z => by have := (h.2.1 (g + 1)).mp z; omega
theorem xL.a13 {I : List (Nat × Nat)} {n g : Nat} (h : xL I n g) : xL (I ++ [(13, n)]) (n + 1) g := by
  refine ⟨fun j => ?_, fun a => ?_, fun b hb => ?_⟩
  · rw [List.mem_append, h.1 j, List.mem_singleton, Prod.mk.injEq]
    omega
  · rw [List.mem_append, h.2.1 a, List.mem_singleton, Prod.mk.injEq]
    omega
  · rw [List.mem_append, List.mem_singleton, Prod.mk.injEq] at hb
    rcases hb with hb | hb
    · exact h.2.2 b hb
    · omega
theorem xL.a12 {I : List (Nat × Nat)} {n g : Nat} (h : xL I n g) : xL (I ++ [(12, g + 1)]) n (g + 1) := by
  refine ⟨fun j => ?_, fun a => ?_, fun b hb => ?_⟩
  · rw [List.mem_append, h.1 j, List.mem_singleton, Prod.mk.injEq]
    omega
  · rw [List.mem_append, h.2.1 a, List.mem_singleton, Prod.mk.injEq]
    omega
  · rw [List.mem_append, List.mem_singleton, Prod.mk.injEq] at hb
    rcases hb with hb | hb
    · exact h.2.2 b hb
    · omega
theorem xv_fill_congr {n : Nat} {g g' : Nat → Nat} (h : ∀ i, i < n → g i = g' i) : xv_fill n g = xv_fill n g' := by
  funext i
  unfold xv_fill
  by_cases hi : i < n
  · rw [if_pos hi, if_pos hi, h i hi]
  · rw [if_neg hi, if_neg hi]
/-- a cell's picture under other addresses -/
theorem xcell_congr {cA : Nat → ClassId} {tz : Nat} {ad ad' : Nat → Nat → Nat} {r k : Nat} {f : Nat → Int32} (h0 : ∀ a b, a ≠ 12 → a ≠ 13 → ad' a b = ad a b) (h11 : r = 11 → f 9 = 0 ∨ ad' 12 (f 9).toNatClampNeg = ad 12 (f 9).toNatClampNeg) (h12 : r = 12 → ∀ i, i < (f 0).toNatClampNeg → ad' 13 i = ad 13 i) :
    xcell cA tz ad' r k f = xcell cA tz ad r k f := by
  have e : ∀ a, a ≠ 12 → a ≠ 13 → ad' a = ad a := fun a x y => funext fun b => h0 a b x y
  have e0 := e 0 (by decide) (by decide)
  have e1 := e 1 (by decide) (by decide)
  have e2 := e 2 (by decide) (by decide)
  have e3 := e 3 (by decide) (by decide)
  have e4 := e 4 (by decide) (by decide)
  have e6 := e 6 (by decide) (by decide)
  have e7 := e 7 (by decide) (by decide)
  have e8 := e 8 (by decide) (by decide)
  have e9 := e 9 (by decide) (by decide)
  have e10 := e 10 (by decide) (by decide)
  have e11 := e 11 (by decide) (by decide)
  have e21 := e 21 (by decide) (by decide)
  have e22 := e 22 (by decide) (by decide)
  have e23 := e 23 (by decide) (by decide)
  have e24 := e 24 (by decide) (by decide)
  have e25 := e 25 (by decide) (by decide)
  have e26 := e 26 (by decide) (by decide)
  have e27 := e 27 (by decide) (by decide)
  have e28 := e 28 (by decide) (by decide)
  have e29 := e 29 (by decide) (by decide)
  have e30 := e 30 (by decide) (by decide)
  have e31 := e 31 (by decide) (by decide)
  have e32 := e 32 (by decide) (by decide)
  have e33 := e 33 (by decide) (by decide)
  have e34 := e 34 (by decide) (by decide)
  have e35 := e 35 (by decide) (by decide)
  have e36 := e 36 (by decide) (by decide)
  unfold xcell
  split
  all_goals try simp only [e0, e1, e2, e3, e4, e6, e7, e8, e9, e10, e11, e21, e22, e23, e24, e25, e26, e27, e28, e29, e30, e31, e32, e33, e34, e35, e36]
  · rcases h11 rfl with h | h
    · rw [if_pos h, if_pos h]
    · rw [h]
  · rw [xv_fill_congr (h12 rfl)]
