/-! What the reference's methods ask of the memory, and do to it. -/
def xp_in (x n : Int32) : Prop := ¬ x < 0 ∧ ¬ n ≤ x
def xoi (o : Option Nat) : Int32 := match o with
  | none => -1
  | some r => nI r
theorem x63 (x : Int32) : nI 63 < x ↔ nI 64 ≤ x := by
  rw [Int32.lt_iff_toInt_lt, Int32.le_iff_toInt_le, show (nI 63).toInt = 63 by decide, show (nI 64).toInt = 64 by decide]
  omega
def mp_open (σ : xMem) (r : Nat) : Prop := σ 26 0 r = nI 1 ∨ σ 26 0 r = nI 2
def mp_map (σ : xMem) (r : Nat) : Prop := ¬ σ 27 0 r = nI 4 ∧ ¬ nI 48 ≤ σ 28 0 r
def mp_wait (σ : xMem) (a i : Nat) (x : Int32) : Prop := ∃ j, j < i ∧ σ 26 0 (4 * a + j) = nI 1 ∧ σ 27 0 (4 * a + j) = x
def mp_meet (σ : xMem) (r q : Nat) : Prop := ¬ σ 27 0 r = nI 4 ∧ ¬ σ 27 0 q = nI 4 ∧ σ 28 0 r < σ 28 0 q + σ 29 0 q ∧ σ 28 0 q < σ 28 0 r + σ 29 0 r
def mp_bars (σ : xMem) (r q : Nat) : Prop := mp_open σ q ∧ σ 31 0 q < σ 31 0 r ∧ (σ 27 0 q = nI 4 ∨ σ 27 0 r = nI 4 ∨ (σ 26 0 q = nI 1 ∧ mp_meet σ r q))
def mf_cr (σ : xMem) (x : Int32) : Nat → Int32
  | 0 => nI 4
  | i + 1 => if σ 26 0 i = nI 2 ∧ σ 28 0 i / nI 16 = x then mf_cr σ x i - nI 1 else mf_cr σ x i
theorem mf_cr_t {σ : xMem} {x : Int32} {i : Nat} (h : σ 26 0 i = nI 2) (h2 : σ 28 0 i / nI 16 = x) : mf_cr σ x i - nI 1 = mf_cr σ x (i + 1) := by
  show _ = if _ then _ else _
  rw [if_pos ⟨h, h2⟩]
theorem mf_cr_f {σ : xMem} {x : Int32} {i : Nat} (h : ¬ (σ 26 0 i = nI 2 ∧ σ 28 0 i / nI 16 = x)) : mf_cr σ x i = mf_cr σ x (i + 1) := by
  show _ = if _ then _ else _
  rw [if_neg h]
def mp_inq (σ : xMem) (x : Int32) (r : Nat) : Prop := σ 26 0 r = nI 2 ∧ 0 < σ 32 0 r ∧ σ 28 0 r / nI 16 = x
noncomputable def mf_fst (σ : xMem) (x : Int32) : Nat → Option Nat := xf_it (mp_inq σ x) (fun r b => σ 32 0 r < σ 32 0 b) (fun i => i)
theorem mf_fst_s (σ : xMem) (x : Int32) (i : Nat) : mf_fst σ x (i + 1) = xf_step (mp_inq σ x) (fun r b => σ 32 0 r < σ 32 0 b) (mf_fst σ x i) i := rfl
theorem mf_fst_lt {σ : xMem} {x : Int32} {i b : Nat} (h : mf_fst σ x i = some b) : b < i := by
  obtain ⟨j, hj, e⟩ := xf_it_in i b h
  omega
noncomputable def mf_class (σ : xMem) (r : Nat) : Int32 := if σ 23 0 (r / 4) + σ 30 0 r / nI 16 ≤ nI 2 then σ 23 0 (r / 4) + σ 30 0 r / nI 16 else nI 2
def mp_before (σ : xMem) (g r q : Nat) : Prop := (¬ mf_class σ r = mf_class σ q ∧ mf_class σ q < mf_class σ r) ∨ (mf_class σ r = mf_class σ q ∧ ((¬ (r / 4 + 3 - g) % 4 = (q / 4 + 3 - g) % 4 ∧ (r / 4 + 3 - g) % 4 < (q / 4 + 3 - g) % 4) ∨ ((r / 4 + 3 - g) % 4 = (q / 4 + 3 - g) % 4 ∧ σ 31 0 r < σ 31 0 q)))
def mp_elig (σ : xMem) (r : Nat) : Prop := σ 26 0 r = nI 1 ∧ (∀ t, t < 4 → ¬ mp_bars σ r (4 * (r / 4) + t)) ∧ (¬ mp_map σ r ∨ (0 < mf_cr σ (σ 28 0 r / nI 16) 16 ∧ (σ 25 0 ((σ 28 0 r).toNatClampNeg / 16) = -1 ∨ (σ 27 0 r = nI 3 ∧ σ 25 0 ((σ 28 0 r).toNatClampNeg / 16) = nI (r / 4)))))
noncomputable def mf_best (σ : xMem) (g : Nat) : Nat → Option Nat := xf_it (mp_elig σ) (mp_before σ g) (fun i => i)
theorem mf_best_s (σ : xMem) (g i : Nat) : mf_best σ g (i + 1) = xf_step (mp_elig σ) (mp_before σ g) (mf_best σ g i) i := rfl
theorem mf_best_lt {σ : xMem} {g i b : Nat} (h : mf_best σ g i = some b) : b < i := by
  obtain ⟨j, hj, e⟩ := xf_it_in i b h
  omega
theorem mp_wait_0 (σ : xMem) (a : Nat) (x : Int32) : xb (mp_wait σ a 0 x) = nI 0 := xb_f (by rintro ⟨j, hj, -⟩; omega)
theorem mp_wait_s (σ : xMem) (a i : Nat) (x : Int32) : mp_wait σ a (i + 1) x ↔ mp_wait σ a i x ∨ (σ 26 0 (4 * a + i) = nI 1 ∧ σ 27 0 (4 * a + i) = x) := by
  constructor
  · rintro ⟨j, hj, h⟩
    by_cases e : j = i
    · subst e; exact Or.inr h
    · exact Or.inl ⟨j, by omega, h⟩
  · rintro (⟨j, hj, h⟩ | h)
    · exact ⟨j, by omega, h⟩
    · exact ⟨i, by omega, h⟩
