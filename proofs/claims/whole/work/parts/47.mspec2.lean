/-! What the reference's methods do to the memory. -/
theorem xp_in_n {a n : Nat} (h : a < n) (hn : n < 2 ^ 31) : xp_in (nI a) (nI n) := ⟨nI_pos (by omega), nI_ge h hn⟩
theorem xp_in_of {x : Int32} {n : Nat} (hn : n < 2 ^ 31) (h : xp_in x (nI n)) : ∃ a, a < n ∧ x = nI a := by
  rcases pk_ix x hn with h1 | h1 | h1
  · exact absurd h1 h.1
  · exact absurd h1 h.2
  · exact h1
theorem xn_dec16 {i : Nat} (h : i < 16) : nI (16 - i) + Int32.ofInt (-1) = nI (16 - (i + 1)) := by
  rw [show 16 - i = (16 - (i + 1)) + 1 by omega]
  exact xn_dec _
def xN (x : Int32) : Nat := x.toNatClampNeg
theorem xN_of {x : Int32} {n : Nat} (h : x = nI n) (hn : n < 2 ^ 31) : xN x = n := by
  rw [h]
  exact nI_clamp hn
theorem xu2_at (σ : xMem) (r k : Nat) (f : Nat → Int32) (a b j : Nat) : xw_u2 σ r k f a b j = if a = r ∧ b = k then f j else σ a b j := by
  by_cases h : a = r ∧ b = k
  · rw [if_pos h, h.1, h.2, xw_u2_s]
  · rw [if_neg h, xw_u2_n _ _ h]
theorem xcpy_s (τ : xMem) (r k : Nat) (f : Nat → Int32) (g : Nat → Int32) (a b i : Nat) : xu3 (xw_u2 τ r k (va_cpy f g a b i)) r k (b + i) (f (a + i)) = xw_u2 τ r k (va_cpy f g a b (i + 1)) := by
  funext x y j
  rw [xu3_at, xu2_at, xu2_at]
  unfold va_cpy
  grind
theorem xcpy_0 (τ : xMem) (r k : Nat) (f : Nat → Int32) (a b : Nat) : xw_u2 τ r k (va_cpy f (τ r k) a b 0) = τ := by
  funext x y j
  rw [xu2_at]
  unfold va_cpy
  grind
def mp_free (σ : xMem) (a : Nat) : Prop := ¬ σ 25 0 0 = nI a ∧ ¬ σ 25 0 1 = nI a ∧ ¬ σ 25 0 2 = nI a
def mp_allow (σ : xMem) (a : Nat) (x : Int32) (q b : Nat) : Prop := σ 26 0 (4 * a + b) = 0 ∧ ((x = nI 2 ∧ mp_free σ a ∧ ¬ mp_wait σ a 4 (nI 2)) ∨ (¬ x = nI 2 ∧ (¬ x = nI 3 ∨ (q < 48 ∧ σ 25 0 (q / 16) = nI a ∧ ¬ mp_wait σ a 4 (nI 3)))))
noncomputable def mf_begin (σ : xMem) (r : Nat) (x y z : Int32) : xMem :=
  xu3 (xu3 (xu3 (xu3 (xu3 (xu3 (xu3 (xu3 (xu3 σ 20 0 16 (σ 20 0 16 + nI 1)) 26 0 r (nI 1)) 27 0 r x) 28 0 r y) 29 0 r z) 30 0 r (nI 0)) 31 0 r (σ 20 0 16 + nI 1)) 32 0 r (nI 0)) 35 0 r (nI 0)
noncomputable def mf_issue (σ : xMem) (a b : Nat) (x y z : Int32) : xMem :=
  xw_u2 (mf_begin (xu3 σ 20 0 0 (nI 0)) (4 * a + b) x y z) 33 0 (va_cpy (σ 22 0) (σ 33 0) (4 * a) (4 * (4 * a + b)) 4)
/-- one request is served -/
noncomputable def mf_move (σ : xMem) (r q n : Nat) : xMem :=
  xif (σ 27 0 r = nI 1 ∨ σ 27 0 r = nI 3) (xu3 (xw_u2 (xu3 σ 32 0 r (nI 0)) 21 0 (va_cpy (σ 33 0) (σ 21 0) (4 * r) q n)) 26 0 r (nI 3))
    (xu3 (xw_u2 (xu3 σ 32 0 r (nI 0)) 34 0 (va_cpy (σ 21 0) (σ 34 0) q (4 * r) n)) 35 0 r (nI n))
noncomputable def mf_log (σ : xMem) (r q n ns : Nat) : xMem :=
  xu3 (xu3 (xu3 (xu3 (xu3 (xu3 (xu3 σ 36 0 (6 * ns) (nI (r / 4))) 36 0 (6 * ns + 1) (nI (r % 4))) 36 0 (6 * ns + 2) (σ 27 0 r)) 36 0 (6 * ns + 3) (nI q)) 36 0 (6 * ns + 4) (nI n)) 36 0 (6 * ns + 5) (σ 20 0 20 + nI 1)) 20 0 21 (nI (ns + 1))
noncomputable def mf_serve (σ : xMem) (r : Nat) : xMem := mf_log (mf_move σ r (xN (σ 28 0 r)) (xN (σ 29 0 r))) r (xN (σ 28 0 r)) (xN (σ 29 0 r)) (xN (σ 20 0 21))
noncomputable def mf_fb (σ : xMem) (g : Nat) : Nat → Option Nat
  | 0 => none
  | i + 1 => xif (0 < σ 35 0 ((g + (16 - i)) % 16)) (some ((g + (16 - i)) % 16)) (mf_fb σ g i)
theorem mf_fb_lt {σ : xMem} {g : Nat} : ∀ {i b : Nat}, mf_fb σ g i = some b → b < 16 := by
  intro i
  induction i with
  | zero => intro b h; cases h
  | succ i ih =>
    intro b h
    have h : xif (0 < σ 35 0 ((g + (16 - i)) % 16)) (some ((g + (16 - i)) % 16)) (mf_fb σ g i) = some b := h
    by_cases hc : 0 < σ 35 0 ((g + (16 - i)) % 16)
    · rw [xif_t hc] at h
      cases h
      omega
    · rw [xif_f hc] at h
      exact ih h
noncomputable def mf_back (σ : xMem) (b : Nat) : xMem := xu3 (xu3 (xu3 σ 20 0 18 (nI b)) 35 0 b (σ 35 0 b - nI 1)) 26 0 b (xif (σ 35 0 b - nI 1 = 0) (nI 3) (σ 26 0 b))
noncomputable def mf_give (σ : xMem) : xMem := match mf_fb σ (xN (σ 20 0 18)) 16 with
  | none => σ
  | some b => mf_back σ b
noncomputable def mf_gr1 (σ : xMem) (b : Nat) : xMem := xu3 (xu3 σ 20 0 17 (σ 20 0 17 + nI 1)) 20 0 19 (nI (b / 4))
noncomputable def mf_gr2 (σ : xMem) (b : Nat) : xMem := xu3 (xu3 (mf_gr1 σ b) 26 0 b (nI 2)) 32 0 b (σ 20 0 17 + nI 1)
noncomputable def mf_gr3 (σ : xMem) (b : Nat) : xMem := xif (σ 27 0 b = nI 2) (xu3 (mf_gr2 σ b) 25 0 (xN (σ 28 0 b) / 16) (nI (b / 4))) (mf_gr2 σ b)
noncomputable def mf_grant (σ : xMem) (o : Option Nat) : xMem := match o with
  | none => σ
  | some b => xif (mp_map σ b) (xif (σ 27 0 b = nI 3) (xu3 (mf_gr3 σ b) 25 0 (xN (σ 28 0 b) / 16) (-1)) (mf_gr3 σ b))
      (xu3 (mf_gr1 σ b) 26 0 b (xif (σ 27 0 b = nI 4) (nI 3) (nI 4)))
def mf_age (σ : xMem) (i : Nat) : xMem := fun r k j => if r = 30 ∧ k = 0 ∧ j < i ∧ σ 26 0 j = nI 1 then σ 30 0 j + nI 1 else σ r k j
theorem mf_age_0 (σ : xMem) : mf_age σ 0 = σ := by
  funext a b j
  unfold mf_age
  grind
theorem mf_age_st (σ : xMem) (i j : Nat) : mf_age σ i 26 0 j = σ 26 0 j := by
  unfold mf_age
  grind
theorem mf_age_t {σ : xMem} {i : Nat} (h : mf_age σ i 26 0 i = nI 1) : xu3 (mf_age σ i) 30 0 i (mf_age σ i 30 0 i + nI 1) = mf_age σ (i + 1) := by
  rw [mf_age_st] at h
  funext a b j
  rw [xu3_at]
  unfold mf_age
  grind
theorem mf_age_f {σ : xMem} {i : Nat} (h : ¬ mf_age σ i 26 0 i = nI 1) : xu3 (mf_age σ i) 30 0 i (mf_age σ i 30 0 i) = mf_age σ (i + 1) := by
  rw [mf_age_st] at h
  funext a b j
  rw [xu3_at]
  unfold mf_age
  grind
noncomputable def mf_srv1 (σ : xMem) (t : Nat) (o : Option Nat) : xMem := match o with
  | none => σ
  | some r => xif (σ 24 0 t = 0) σ (mf_serve σ r)
noncomputable def mf_srv (σ : xMem) : Nat → xMem
  | 0 => σ
  | i + 1 => mf_srv1 (mf_srv σ i) i (mf_fst (mf_srv σ i) (nI i) 16)
noncomputable def mf_gv (σ : xMem) : xMem := mf_give (mf_srv σ 3)
noncomputable def mf_bst (σ : xMem) : Option Nat := mf_best (mf_gv σ) (xN (mf_gv σ 20 0 19)) 16
noncomputable def mf_one (σ : xMem) : xMem := xu3 (mf_age (mf_grant (mf_gv σ) (mf_bst σ)) 16) 20 0 20 (mf_grant (mf_gv σ) (mf_bst σ) 20 0 20 + nI 1)
/-- what the reference's memory keeps -/
def mv (σ : xMem) : Prop := (∃ g, g < 4 ∧ σ 20 0 19 = nI g) ∧ (∃ g, g < 16 ∧ σ 20 0 18 = nI g) ∧ (∃ n, n < 600 ∧ σ 20 0 21 = nI n) ∧ ∀ r, r < 16 → (¬ σ 27 0 r = nI 4 → ∃ q, q < 64 ∧ σ 28 0 r = nI q) ∧ (σ 26 0 r = nI 2 → ∃ q n, q + n ≤ 48 ∧ n ≤ 4 ∧ σ 28 0 r = nI q ∧ σ 29 0 r = nI n)
def mv1 (σ : xMem) : Prop := (∀ i, i ≤ 3 → mv (mf_srv σ i)) ∧ mv (mf_gv σ)
noncomputable def mf_run (σ : xMem) : Nat → xMem
  | 0 => σ
  | i + 1 => mf_one (mf_run σ i)
noncomputable def mf_many (σ : xMem) : Nat → Nat
  | 0 => 0
  | i + 1 => match mf_bst (mf_run σ i) with
    | none => mf_many σ i
    | some _ => mf_many σ i + 1
def xoi4 (o : Option Nat) : Int32 := match o with
  | none => -1
  | some r => nI (r / 4)
noncomputable def mf_wts (σ : xMem) (a : Nat) : Nat → Option Nat := xf_it (fun r => σ 26 0 r = nI 1) (fun r b => σ 31 0 r < σ 31 0 b) (fun i => 4 * a + i)
theorem mf_wts_s (σ : xMem) (a i : Nat) : mf_wts σ a (i + 1) = xf_step (fun r => σ 26 0 r = nI 1) (fun r b => σ 31 0 r < σ 31 0 b) (mf_wts σ a i) (4 * a + i) := rfl
theorem mf_wts_lt {σ : xMem} {a i b : Nat} (ha : a < 4) (hi : i ≤ 4) (h : mf_wts σ a i = some b) : b < 16 := by
  obtain ⟨j, hj, e⟩ := xf_it_in i b h
  omega
def mf_wait (σ : xMem) (o : Option Nat) : Int32 := match o with
  | none => -1
  | some k => σ 30 0 k
def mf_rst (σ : xMem) (a i : Nat) : xMem := fun r k j => if r = 26 ∧ k = 0 ∧ 4 * a ≤ j ∧ j < 4 * a + i ∧ σ 26 0 j = nI 1 then nI 0 else σ r k j
def mf_cnt (σ : xMem) (a : Nat) : Nat → Nat
  | 0 => 0
  | i + 1 => if σ 26 0 (4 * a + i) = nI 1 then mf_cnt σ a i + 1 else mf_cnt σ a i
def mf_rel (σ : xMem) (x : Int32) (i : Nat) : xMem := fun r k j => if r = 25 ∧ k = 0 ∧ j < i ∧ σ 25 0 j = x then -1 else σ r k j
theorem mf_rst_at (σ : xMem) (a i : Nat) : mf_rst σ a i 26 0 (4 * a + i) = σ 26 0 (4 * a + i) := by
  unfold mf_rst
  rw [if_neg]
  omega
theorem mf_rst_0 (σ : xMem) (a : Nat) : mf_rst σ a 0 = σ := by
  funext r b j
  unfold mf_rst
  rw [if_neg]
  omega
theorem mf_rst_t {σ : xMem} {a i : Nat} (h : mf_rst σ a i 26 0 (4 * a + i) = nI 1) : xu3 (mf_rst σ a i) 26 0 (4 * a + i) (nI 0) = mf_rst σ a (i + 1) := by
  rw [mf_rst_at] at h
  funext r b j
  rw [xu3_at]
  unfold mf_rst
  grind
theorem mf_rst_f {σ : xMem} {a i : Nat} (h : ¬ mf_rst σ a i 26 0 (4 * a + i) = nI 1) : mf_rst σ a i = mf_rst σ a (i + 1) := by
  rw [mf_rst_at] at h
  funext r b j
  unfold mf_rst
  grind
theorem mf_cnt_t {σ : xMem} {a i : Nat} (h : mf_rst σ a i 26 0 (4 * a + i) = nI 1) : mf_cnt σ a i + 1 = mf_cnt σ a (i + 1) := by
  rw [mf_rst_at] at h
  show _ = if _ then _ else _
  rw [if_pos h]
theorem mf_cnt_f {σ : xMem} {a i : Nat} (h : ¬ mf_rst σ a i 26 0 (4 * a + i) = nI 1) : mf_cnt σ a i = mf_cnt σ a (i + 1) := by
  rw [mf_rst_at] at h
  show _ = if _ then _ else _
  rw [if_neg h]
theorem mf_rel_0 (σ : xMem) (x : Int32) : mf_rel σ x 0 = σ := by
  funext r b j
  unfold mf_rel
  rw [if_neg]
  omega
theorem mf_rel_at (σ : xMem) (x : Int32) (i : Nat) : mf_rel σ x i 25 0 i = σ 25 0 i := by
  unfold mf_rel
  rw [if_neg]
  omega
theorem mf_rel_t {σ : xMem} {x : Int32} {i : Nat} (h : mf_rel σ x i 25 0 i = x) : xu3 (mf_rel σ x i) 25 0 i (-1) = mf_rel σ x (i + 1) := by
  rw [mf_rel_at] at h
  funext r b j
  rw [xu3_at]
  unfold mf_rel
  grind
theorem mf_rel_f {σ : xMem} {x : Int32} {i : Nat} (h : ¬ mf_rel σ x i 25 0 i = x) : xu3 (mf_rel σ x i) 25 0 i (mf_rel σ x i 25 0 i) = mf_rel σ x (i + 1) := by
  rw [mf_rel_at] at h ⊢
  funext r b j
  rw [xu3_at]
  unfold mf_rel
  grind
