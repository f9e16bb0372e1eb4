/-! What the class's methods ask of the memory. -/
def xp_open (σ : xMem) (k : Nat) : Prop := σ 0 k 3 = nI 1 ∨ σ 0 k 3 = nI 2
def xp_read (σ : xMem) (k : Nat) : Prop := σ 0 k 4 = nI 0 ∨ σ 0 k 4 = nI 2
def xp_unm (σ : xMem) (k : Nat) : Prop := nI 48 ≤ σ 0 k 5
def xp_ord (σ : xMem) (j k : Nat) : Prop := σ 0 j 7 < σ 0 k 7
def xp_over (σ : xMem) (j k : Nat) : Prop := σ 0 j 5 < σ 0 k 5 + σ 0 k 6 ∧ σ 0 k 5 < σ 0 j 5 + σ 0 j 6
def xp_back (σ : xMem) (j k : Nat) : Prop := ((σ 0 j 4 = nI 4 ∨ σ 0 k 4 = nI 4) ∧ xp_open σ j) ∨ (¬ (σ 0 j 4 = nI 4 ∨ σ 0 k 4 = nI 4) ∧ σ 0 j 3 = nI 1 ∧ xp_over σ j k)
noncomputable def xf_class (σ : xMem) (k : Nat) : Int32 := if nI 2 < σ 10 0 (k / 4) + σ 0 k 8 / nI 16 then nI 2 else σ 10 0 (k / 4) + σ 0 k 8 / nI 16
def xp_goes (σ : xMem) (k b : Nat) : Prop := 0 < xf_class σ k - xf_class σ b ∨ (xf_class σ k - xf_class σ b = 0 ∧ σ 0 k 0 = σ 0 b 0 ∧ xp_ord σ k b)
def xp_adm (σ : xMem) (k t : Nat) : Prop := 0 < σ 2 t 2 ∧ (σ 2 t 3 = -1 ∨ (σ 0 k 4 = nI 3 ∧ σ 2 t 3 = σ 0 k 0))
/-- the target of a tag, by its address -/
def xf_tgt (σ : xMem) (k : Nat) : Nat := (σ 0 k 5).toNatClampNeg / 16
def xp_elig (σ : xMem) (k : Nat) : Prop := σ 0 k 3 = nI 1 ∧ (∀ j, j < 4 → ¬ (xp_ord σ (4 * (k / 4) + j) k ∧ xp_back σ (4 * (k / 4) + j) k)) ∧ (σ 0 k 4 = nI 4 ∨ xp_unm σ k ∨ xp_adm σ k (xf_tgt σ k))
def xp_some (σ : xMem) (x : Int32) : Prop := ∃ t, t < 3 ∧ σ 2 t 3 = x
def xp_wait (σ : xMem) (a : Nat) (x : Int32) : Prop := ∃ j, j < 4 ∧ σ 0 (4 * a + j) 3 = nI 1 ∧ σ 0 (4 * a + j) 4 = x
/-- what all tags keep: whose they are, an address and a length in range -/
def xv_tags (σ : xMem) : Prop := σ 6 0 0 = nI 16 ∧ σ 7 0 0 = nI 3 ∧ ∀ k, k < 16 → σ 0 k 0 = nI (k / 4) ∧ σ 0 k 1 = nI (k % 4) ∧ (∃ q, q < 64 ∧ σ 0 k 5 = nI q) ∧ ∃ n, n ≤ 4 ∧ σ 0 k 6 = nI n
theorem xf_tgt_of {σ : xMem} {k q : Nat} (h : σ 0 k 5 = nI q) (hq : q < 64) : xf_tgt σ k = q / 16 := by
  unfold xf_tgt
  rw [h, nI_clamp (by omega)]
noncomputable def xf_cand (g : Nat) (i : Nat) : Nat := 4 * ((g + (i / 4 + 1)) % 4) + i % 4
noncomputable def xf_best (σ : xMem) (g : Nat) : Nat → Option Nat := xf_it (xp_elig σ) (xp_goes σ) (xf_cand g)
theorem xf_it_in {el : Nat → Prop} {bt : Nat → Nat → Prop} {cand : Nat → Nat} : ∀ i b, xf_it el bt cand i = some b → ∃ j, j < i ∧ cand j = b := by
  intro i
  induction i with
  | zero => intro b h; simp [xf_it] at h
  | succ i ih =>
    intro b h
    have hs : xf_it el bt cand (i + 1) = xf_step el bt (xf_it el bt cand i) (cand i) := rfl
    rw [hs] at h
    unfold xf_step at h
    by_cases hc : el (cand i) ∧ ∀ x, xf_it el bt cand i = some x → bt (cand i) x
    · rw [xif_t hc] at h
      cases h
      exact ⟨i, by omega, rfl⟩
    · rw [xif_f hc] at h
      obtain ⟨j, hj, e⟩ := ih b h
      exact ⟨j, by omega, e⟩
theorem xf_cand_lt (g i : Nat) : xf_cand g i < 16 := by
  unfold xf_cand
  omega
theorem xf_best_lt {σ : xMem} {g i b : Nat} (h : xf_best σ g i = some b) : b < 16 := by
  obtain ⟨j, -, e⟩ := xf_it_in i b h
  rw [← e]
  exact xf_cand_lt g j
