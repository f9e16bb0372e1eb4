theorem xf_best_s (σ : xMem) (g m : Nat) : xf_best σ g (m + 1) = xf_step (xp_elig σ) (xp_goes σ) (xf_best σ g m) (xf_cand g m) := rfl
theorem xf_cand_at {g i j : Nat} (h1 : 1 ≤ i) (hj : j < 4) : xf_cand g (4 * (i - 1) + j) = 4 * ((g + i) % 4) + j := by
  unfold xf_cand
  omega
theorem xf_wts_s (σ : xMem) (a m : Nat) : xf_wts σ a (m + 1) = xf_step (fun k => σ 0 k 3 = nI 1) (xp_ord σ) (xf_wts σ a m) (4 * a + m) := rfl
theorem xf_wts_lt {σ : xMem} {a i b : Nat} (ha : a < 4) (hi : i ≤ 4) (h : xf_wts σ a i = some b) : b < 16 := by
  obtain ⟨j, hj, e⟩ := xf_it_in i b h
  omega
theorem xo_cat (ad : Nat → Nat → Nat) (o : Option Nat) : (xo ad o).category = 1 := by cases o <;> rfl
