/-! What the class's methods do to the memory. -/
noncomputable def xf_enter (σ : xMem) (k t n : Nat) : xMem :=
  xif (σ 0 k 4 = nI 3) (xu3 (xif (σ 0 k 4 = nI 2) (xu3 (xu3 (xu3 (xu3 σ 2 t 2 (σ 2 t 2 - nI 1)) 3 t n (nI k)) 2 t 1 (nI (n + 1))) 2 t 3 (nI (k / 4))) (xu3 (xu3 (xu3 σ 2 t 2 (σ 2 t 2 - nI 1)) 3 t n (nI k)) 2 t 1 (nI (n + 1)))) 2 t 3 (-1))
    (xif (σ 0 k 4 = nI 2) (xu3 (xu3 (xu3 (xu3 σ 2 t 2 (σ 2 t 2 - nI 1)) 3 t n (nI k)) 2 t 1 (nI (n + 1))) 2 t 3 (nI (k / 4))) (xu3 (xu3 (xu3 σ 2 t 2 (σ 2 t 2 - nI 1)) 3 t n (nI k)) 2 t 1 (nI (n + 1))))
noncomputable def xf_grant (σ : xMem) (k t n : Nat) : xMem :=
  xif (σ 0 k 4 = nI 4) (xu3 (xu3 σ 5 0 8 (nI (k / 4))) 0 k 3 (nI 3)) (xif (xp_unm σ k) (xu3 (xu3 σ 5 0 8 (nI (k / 4))) 0 k 3 (nI 4)) (xf_enter (xu3 (xu3 σ 5 0 8 (nI (k / 4))) 0 k 3 (nI 2)) k t n))
def xf_finish (σ : xMem) (k t : Nat) : xMem := xu3 (xu3 σ 0 k 3 (nI 3)) 2 t 2 (σ 2 t 2 + nI 1)
def xf_age (σ : xMem) (i : Nat) : xMem := fun r k j => if r = 0 ∧ k < i ∧ j = 8 ∧ σ 0 k 3 = nI 1 then σ 0 k 8 + nI 1 else σ r k j
theorem xu3_at (σ : xMem) (r k i : Nat) (v : Int32) (a b j : Nat) : xu3 σ r k i v a b j = if a = r ∧ b = k ∧ j = i then v else σ a b j := by
  unfold xu3 xw_u2 va_up
  by_cases h1 : a = r
  · subst h1
    by_cases h2 : b = k
    · subst h2
      by_cases h3 : j = i
      · simp [h3]
      · simp [h3]
    · simp [h2]
  · simp [h1]
theorem xf_age_st (σ : xMem) (i k j : Nat) (h : j ≠ 8) : xf_age σ i 0 k j = σ 0 k j := by
  unfold xf_age
  rw [if_neg]
  rintro ⟨-, -, h2, -⟩
  exact h h2
theorem xf_age_t {σ : xMem} {i : Nat} (h : xf_age σ i 0 i 3 = nI 1) : xu3 (xf_age σ i) 0 i 8 (xf_age σ i 0 i 8 + nI 1) = xf_age σ (i + 1) := by
  rw [xf_age_st _ _ _ _ (by decide)] at h
  funext a b j
  rw [xu3_at]
  unfold xf_age
  grind
theorem xf_age_f {σ : xMem} {i : Nat} (h : ¬ xf_age σ i 0 i 3 = nI 1) : xf_age σ i = xf_age σ (i + 1) := by
  rw [xf_age_st _ _ _ _ (by decide)] at h
  funext a b j
  unfold xf_age
  grind
theorem xf_age_0 (σ : xMem) : xf_age σ 0 = σ := by
  funext a b j
  unfold xf_age
  grind
noncomputable def xf_fst (P : Nat → Prop) : Nat → Nat → Option Nat
  | _, 0 => none
  | i, n + 1 => xif (P i) (some i) (xf_fst P (i + 1) n)
theorem xf_fst_t {P : Nat → Prop} {i n : Nat} (h : P i) : xf_fst P i (n + 1) = some i := xif_t h _ _
theorem xf_fst_f {P : Nat → Prop} {i n : Nat} (h : ¬ P i) : xf_fst P i (n + 1) = xf_fst P (i + 1) n := xif_f h _ _
theorem xf_fst_none {P : Nat → Prop} : ∀ n i, xf_fst P i n = none → ∀ j, i ≤ j → j < i + n → ¬ P j := by
  intro n
  induction n with
  | zero => intro i _ j h1 h2; omega
  | succ n ih =>
    intro i h j h1 h2
    by_cases hp : P i
    · rw [xf_fst_t hp] at h; cases h
    · rw [xf_fst_f hp] at h
      by_cases e : j = i
      · subst e; exact hp
      · exact ih (i + 1) h j (by omega) (by omega)
theorem xf_fst_some {P : Nat → Prop} : ∀ n i m, xf_fst P i n = some m → i ≤ m ∧ m < i + n ∧ P m ∧ ∀ j, i ≤ j → j < m → ¬ P j := by
  intro n
  induction n with
  | zero => intro i m h; simp [xf_fst] at h
  | succ n ih =>
    intro i m h
    by_cases hp : P i
    · rw [xf_fst_t hp] at h
      cases h
      exact ⟨Nat.le_refl _, by omega, hp, fun j h1 h2 => by omega⟩
    · rw [xf_fst_f hp] at h
      obtain ⟨h1, h2, h3, h4⟩ := ih (i + 1) m h
      refine ⟨by omega, by omega, h3, fun j h5 h6 => ?_⟩
      by_cases e : j = i
      · subst e; exact hp
      · exact h4 j (by omega) h6
def xp_ret (σ : xMem) (g i : Nat) : Prop := σ 0 ((g + i) % 16) 3 = nI 2 ∧ ¬ σ 0 ((g + i) % 16) 9 = 0
/-- one word of tag k comes back -/
noncomputable def xf_back (σ : xMem) (k : Nat) : xMem :=
  xif (σ 0 k 10 + nI 1 = σ 0 k 6) (xf_finish (xu3 (xu3 σ 5 0 9 (nI k)) 0 k 10 (σ 0 k 10 + nI 1)) k (xf_tgt σ k)) (xu3 (xu3 σ 5 0 9 (nI k)) 0 k 10 (σ 0 k 10 + nI 1))
noncomputable def xf_ret (σ : xMem) (g : Nat) (o : Option Nat) : xMem := match o with
  | none => σ
  | some i => xf_back σ ((g + i) % 16)
noncomputable def xf_wts (σ : xMem) (a : Nat) : Nat → Option Nat := xf_it (fun k => σ 0 k 3 = nI 1) (xp_ord σ) (fun i => 4 * a + i)
noncomputable def xf_wait (σ : xMem) (o : Option Nat) : Int32 := match o with
  | none => -1
  | some k => σ 0 k 8
def xf_rst (σ : xMem) (a i : Nat) : xMem := fun r k j => if r = 0 ∧ 4 * a ≤ k ∧ k < 4 * a + i ∧ j = 3 ∧ σ 0 k 3 = nI 1 then nI 0 else σ r k j
def xf_cnt (σ : xMem) (a : Nat) : Nat → Nat
  | 0 => 0
  | i + 1 => if σ 0 (4 * a + i) 3 = nI 1 then xf_cnt σ a i + 1 else xf_cnt σ a i
def xf_rel (σ : xMem) (x : Int32) (i : Nat) : xMem := fun r k j => if r = 2 ∧ k < i ∧ j = 3 ∧ σ 2 k 3 = x then -1 else σ r k j
theorem xf_rst_at (σ : xMem) (a i k : Nat) (h : 4 * a + i ≤ k) (j : Nat) : xf_rst σ a i 0 k j = σ 0 k j := by
  unfold xf_rst
  rw [if_neg]
  omega
theorem xf_rst_0 (σ : xMem) (a : Nat) : xf_rst σ a 0 = σ := by
  funext r b j
  unfold xf_rst
  rw [if_neg]
  omega
theorem xf_rst_t {σ : xMem} {a i : Nat} (h : xf_rst σ a i 0 (4 * a + i) 3 = nI 1) : xu3 (xf_rst σ a i) 0 (4 * a + i) 3 (nI 0) = xf_rst σ a (i + 1) := by
  rw [xf_rst_at _ _ _ _ (by omega)] at h
  funext r b j
  rw [xu3_at]
  unfold xf_rst
  grind
theorem xf_rst_f {σ : xMem} {a i : Nat} (h : ¬ xf_rst σ a i 0 (4 * a + i) 3 = nI 1) : xf_rst σ a i = xf_rst σ a (i + 1) := by
  rw [xf_rst_at _ _ _ _ (by omega)] at h
  funext r b j
  unfold xf_rst
  grind
theorem xf_cnt_t {σ : xMem} {a i : Nat} (h : xf_rst σ a i 0 (4 * a + i) 3 = nI 1) : xf_cnt σ a i + 1 = xf_cnt σ a (i + 1) := by
  rw [xf_rst_at _ _ _ _ (by omega)] at h
  show _ = if _ then _ else _
  rw [if_pos h]
theorem xf_cnt_f {σ : xMem} {a i : Nat} (h : ¬ xf_rst σ a i 0 (4 * a + i) 3 = nI 1) : xf_cnt σ a i = xf_cnt σ a (i + 1) := by
  rw [xf_rst_at _ _ _ _ (by omega)] at h
  show _ = if _ then _ else _
  rw [if_neg h]
theorem xf_rel_0 (σ : xMem) (x : Int32) : xf_rel σ x 0 = σ := by
  funext r b j
  unfold xf_rel
  rw [if_neg]
  omega
theorem xf_rel_at (σ : xMem) (x : Int32) (i j : Nat) : xf_rel σ x i 2 i j = σ 2 i j := by
  unfold xf_rel
  rw [if_neg]
  omega
theorem xf_rel_t {σ : xMem} {x : Int32} {i : Nat} (h : xf_rel σ x i 2 i 3 = x) : xu3 (xf_rel σ x i) 2 i 3 (-1) = xf_rel σ x (i + 1) := by
  rw [xf_rel_at] at h
  funext r b j
  rw [xu3_at]
  unfold xf_rel
  grind
theorem xf_rel_f {σ : xMem} {x : Int32} {i : Nat} (h : ¬ xf_rel σ x i 2 i 3 = x) : xf_rel σ x i = xf_rel σ x (i + 1) := by
  rw [xf_rel_at] at h
  funext r b j
  unfold xf_rel
  grind
