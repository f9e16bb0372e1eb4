/-! The start: the two new objects agree. -/
theorem cN_0 {P : Nat → Prop} : ∀ {i : Nat}, (∀ k, ¬ P k) → cN P i = 0 := by
  intro i
  induction i with
  | zero => intro _; rfl
  | succ i ih =>
    intro h
    rw [cN_f (h i)]
    exact ih h
theorem n26 {k : Nat} : xsm 16 3 26 0 k = 0 := rfl
theorem z_ne1 : ¬ (0 : Int32) = nI 1 := by decide
theorem z_ne2 : ¬ (0 : Int32) = nI 2 := by decide
theorem xn_0 : xN (0 : Int32) = 0 := by decide
theorem rel0_n : xf_n (xsm 16 3) = 0 := xn_0
theorem rel0_g : xf_g (xsm 16 3) = 0 := xn_0
theorem rel0_rk {k : Nat} (hk : k < 16) : RK (xsm 16 3) (xsm 16 3) 0 0 0 k 0 0 0 0 0 0 0 0 0 := by
  refine ⟨?_, ?_, ?_, ?_, ?_, ?_, ?_, ?_, ?_, ?_, ?_, ?_, ?_, ?_, ?_, ?_, ?_, ?_, ?_, ?_, ?_, ?_, ?_, ?_, ?_, ?_, ?_, ?_, ?_, ?_⟩
  all_goals first
    | rfl
    | exact nI_0.symm
    | (intro h; exact absurd rfl h)
    | (intro _; exact nI_0.symm)
    | omega
    | (intro h; omega)
    | (intro h; rcases h with h | h <;> omega)
theorem rel0_rt {t : Nat} (ht : t < 3) : RT (xsm 16 3) (xsm 16 3) t 0 := by
  have hq : ∀ k, ¬ mp_inq (xsm 16 3) (nI t) k := fun k h => z_ne2 h.1
  have hg : ∀ k, ¬ mp_gr (xsm 16 3) t k := fun k h => z_ne2 h.1
  have h3 : xsm 16 3 25 0 t = -1 := by
    have : t = 0 ∨ t = 1 ∨ t = 2 := by omega
    rcases this with rfl | rfl | rfl <;> rfl
  refine ⟨rfl, (cN_0 hq).symm, ?_, ?_, h3.symm, Or.inl h3, nI_0, Or.inl nI_0.symm, ?_, ?_, ?_⟩
  · rw [cN_0 hg]
    omega
  · rw [cN_0 hg]
    rfl
  · intro j hj
    omega
  · intro i j k l h1 h2
    omega
  · intro k _ h
    exact absurd h (hq k)
theorem rel0 : Rel (xsm 16 3) (xsm 16 3) 0 0 0 0 := by
  have hu : ∀ k, ¬ mp_uns (xsm 16 3) k := fun k h => by
    rcases h with h | h
    · exact z_ne1 h
    · exact z_ne2 h.1
  refine ⟨fun k hk => ⟨0, 0, 0, 0, 0, 0, 0, 0, 0, rel0_rk hk⟩, fun t ht => ⟨0, rel0_rt ht⟩, ?_⟩
  refine ⟨rfl, rfl, rfl, nI_0.symm, rfl, nI_0.symm, nI_0.symm, by omega, by omega, ⟨3, by decide, rfl, rfl⟩, ⟨15, by decide, rfl, rfl⟩, fun i _ => rfl, fun a j _ _ => rfl, fun a _ => ⟨0, by omega, nI_0.symm, nI_0.symm⟩, ?_, ?_, ?_, ?_, ?_, by omega, by omega⟩
  · rw [rel0_n, rel0_g]
    exact ⟨nI_0.symm, nI_0.symm, fun _ => rfl, fun h => absurd h (Nat.lt_irrefl 0), Nat.le_refl 0, by omega, fun a h1 h2 => by omega⟩
  · rw [rel0_n]
    exact nI_0.symm
  · rw [rel0_n]
    intro j i h
    omega
  · rw [rel0_n, cN_0 hu]
    omega
  · intro k l _ _ _ h
    exact absurd nI_0.symm h
theorem xNm_I {I : List (Nat × Nat)} (h : xNm I 16 3) : xI I := ⟨fun k hk => (h 0 k).mpr (by omega), fun k hk => (h 1 k).mpr (by omega), fun k hk => (h 2 k).mpr (by omega), fun k hk => (h 3 k).mpr (by omega), fun k hk => (h 4 k).mpr (by omega), fun k h1 h2 => (h k 0).mpr (by omega)⟩
