/-! Worlds by names: a cell's name is (region, number), its address is ad region number, what it holds is E region number. -/
section
def xw_u2 {α : Type} (f : Nat → Nat → α) (r k : Nat) (v : α) : Nat → Nat → α := va_up f r (va_up (f r) k v)
theorem xw_u2_s {α : Type} (f : Nat → Nat → α) (r k : Nat) (v : α) : xw_u2 f r k v r k = v := by simp [xw_u2, va_up]
theorem xw_u2_n {α : Type} (f : Nat → Nat → α) {r k a b : Nat} (v : α) (h : ¬ (a = r ∧ b = k)) : xw_u2 f r k v a b = f a b := by
  unfold xw_u2 va_up
  by_cases h1 : a = r
  · subst h1
    by_cases h2 : b = k
    · exact absurd ⟨rfl, h2⟩ h
    · simp [h2]
  · simp [h1]
def xw_l (I : List (Nat × Nat)) (ad : Nat → Nat → Nat) (E : Nat → Nat → va_E) : va_W := I.map (fun j => (ad j.1 j.2, E j.1 j.2))
theorem xw_some {I : List (Nat × Nat)} {ad : Nat → Nat → Nat} {E : Nat → Nat → va_E} {i : Nat} {q : Nat × va_E} (h : (xw_l I ad E)[i]? = some q) : ∃ j : Nat × Nat, I[i]? = some j ∧ q = (ad j.1 j.2, E j.1 j.2) := by
  unfold xw_l at h
  rw [List.getElem?_map] at h
  cases hi : I[i]? with
  | none => rw [hi] at h; cases h
  | some j => rw [hi] at h; exact ⟨j, rfl, (Option.some.inj h).symm⟩
theorem xw_of {I : List (Nat × Nat)} {ad : Nat → Nat → Nat} {E : Nat → Nat → va_E} {i : Nat} {j : Nat × Nat} (h : I[i]? = some j) : (xw_l I ad E)[i]? = some (ad j.1 j.2, E j.1 j.2) := by
  unfold xw_l
  rw [List.getElem?_map, h]
  rfl
theorem xw_at {I : List (Nat × Nat)} {r k : Nat} (ad : Nat → Nat → Nat) (E : Nat → Nat → va_E) (h : (r, k) ∈ I) : ∃ q : Nat, (xw_l I ad E)[q]? = some (ad r k, E r k) := by
  obtain ⟨q, hq⟩ := List.getElem?_of_mem h
  exact ⟨q, xw_of hq⟩
theorem xw_D {A : Nat → Prop} {I : List (Nat × Nat)} {ad : Nat → Nat → Nat} {E E' : Nat → Nat → va_E} (h : va_D A (xw_l I ad E)) : va_D A (xw_l I ad E') := by
  refine ⟨fun i j x y hi hj hxy => ?_, fun i x hi => ?_⟩
  · obtain ⟨a, ha, rfl⟩ := xw_some hi
    obtain ⟨b, hb, rfl⟩ := xw_some hj
    exact h.1 i j _ _ (xw_of ha) (xw_of hb) hxy
  · obtain ⟨a, ha, rfl⟩ := xw_some hi
    exact h.2 i (ad a.1 a.2, E a.1 a.2) (xw_of ha)
theorem xw_set {A : Nat → Prop} {I : List (Nat × Nat)} {ad : Nat → Nat → Nat} {E : Nat → Nat → va_E} {r k q : Nat} {x e : va_E} (hD : va_D A (xw_l I ad E)) (h : (r, k) ∈ I) (hq : (xw_l I ad E)[q]? = some (ad r k, x)) : (xw_l I ad E).set q (ad r k, e) = xw_l I ad (xw_u2 E r k e) := by
  obtain ⟨i0, hi0⟩ := List.getElem?_of_mem h
  have h0 := xw_of (ad := ad) (E := E) hi0
  have e0 : i0 = q := hD.1 i0 q _ _ h0 hq rfl
  subst e0
  apply List.ext_getElem?
  intro i
  by_cases hi : i = i0
  · subst hi
    rw [List.getElem?_set_self (List.getElem?_eq_some_iff.mp h0).1, xw_of hi0]
    show some (ad r k, e) = some (ad r k, xw_u2 E r k e r k)
    rw [xw_u2_s]
  · rw [List.getElem?_set_ne (Ne.symm hi)]
    cases hI : I[i]? with
    | none => simp [xw_l, hI]
    | some j =>
      rw [xw_of hI, xw_of hI, xw_u2_n]
      intro hj
      have hjj : j = (r, k) := by
        obtain ⟨a, b⟩ := j
        obtain ⟨h1, h2⟩ := hj
        dsimp only at h1 h2
        subst h1; subst h2; rfl
      subst hjj
      exact hi (hD.1 i i0 _ _ (xw_of hI) h0 rfl)
theorem xw_new {I : List (Nat × Nat)} {ad : Nat → Nat → Nat} {E : Nat → Nat → va_E} {r k q : Nat} {e : va_E} (h : (r, k) ∉ I) : xw_l I ad E ++ [(q, e)] = xw_l (I ++ [(r, k)]) (xw_u2 ad r k q) (xw_u2 E r k e) := by
  unfold xw_l
  rw [List.map_append]
  congr 1
  · apply List.map_congr_left
    intro j hj
    have hn : ¬ (j.1 = r ∧ j.2 = k) := fun z => h (by
      obtain ⟨a, b⟩ := j
      obtain ⟨h1, h2⟩ := z
      dsimp only at h1 h2
      subst h1; subst h2; exact hj)
    rw [xw_u2_n _ _ hn, xw_u2_n _ _ hn]
  · simp [xw_u2_s]
theorem xw_congr {I : List (Nat × Nat)} {ad ad' : Nat → Nat → Nat} {E E' : Nat → Nat → va_E} (h : ∀ j ∈ I, ad j.1 j.2 = ad' j.1 j.2 ∧ E j.1 j.2 = E' j.1 j.2) : xw_l I ad E = xw_l I ad' E' := by
  unfold xw_l
  apply List.map_congr_left
  intro j hj
  rw [(h j hj).1, (h j hj).2]
/-- the cells that a method may change: its world's, and those that it makes -/
def xw_A (I : List (Nat × Nat)) (ad : Nat → Nat → Nat) (sz : Nat) : Nat → Prop := fun q => (∃ j ∈ I, q = ad j.1 j.2) ∨ sz ≤ q
theorem xw_DA {A : Nat → Prop} {I : List (Nat × Nat)} {ad : Nat → Nat → Nat} {E : Nat → Nat → va_E} {sz : Nat} (h : va_D A (xw_l I ad E)) : va_D (xw_A I ad sz) (xw_l I ad E) := by
  refine ⟨h.1, fun i x hi => ?_⟩
  obtain ⟨a, ha, rfl⟩ := xw_some hi
  exact Or.inl ⟨a, List.mem_of_getElem? ha, rfl⟩
theorem xw_free {A : Nat → Prop} {I : List (Nat × Nat)} {ad : Nat → Nat → Nat} {E : Nat → Nat → va_E} {sz : Nat} (h : va_D A (xw_l I ad E)) (hA : ∀ q, sz ≤ q → A q) : ∀ q, xw_A I ad sz q → A q := by
  intro q hq
  rcases hq with ⟨j, hj, rfl⟩ | hq
  · obtain ⟨i, hi⟩ := List.getElem?_of_mem hj
    exact h.2 i _ (xw_of hi)
  · exact hA q hq
end
