/-! issue, side by side. -/
theorem iss_bar {c : xMem} {a b : Nat} : xu3 (xf_begin c (4 * a + b) (nI 4) (nI 0) (nI 0) (c 5 0 7)) 5 0 7 (c 5 0 7 + nI 1) = xf_issue c a b 4 0 0 := by
  unfold xf_issue
  rw [xcpy_0]
theorem iss_c {c : xMem} {a b d q n r k i : Nat} : xf_issue c a b d q n r k i =
    if r = 5 ∧ k = 0 ∧ i = 7 then c 5 0 7 + nI 1
    else if r = 1 ∧ k = 4 * a + b then (if i < n then c 4 a i else c 1 (4 * a + b) i)
    else if r = 0 ∧ k = 4 * a + b then (if i = 3 then nI 1 else if i = 4 then nI d else if i = 5 then nI q else if i = 6 then nI n else if i = 7 then c 5 0 7 else if i = 8 ∨ i = 9 ∨ i = 10 then nI 0 else c r k i)
    else c r k i := by
  unfold xf_issue xf_begin
  simp only [xu3_at, xu2_at]
  unfold va_cpy
  simp only [xu3_at]
  grind
theorem iss_m {m : xMem} {a b : Nat} {x y z : Int32} {r k i : Nat} : mf_issue m a b x y z r k i =
    if k = 0 then (
      if r = 33 then (if 4 * (4 * a + b) ≤ i ∧ i < 4 * (4 * a + b) + 4 then m 22 0 (4 * a + (i - 4 * (4 * a + b))) else m 33 0 i)
      else if r = 35 ∧ i = 4 * a + b then nI 0 else if r = 32 ∧ i = 4 * a + b then nI 0 else if r = 31 ∧ i = 4 * a + b then m 20 0 16 + nI 1 else if r = 30 ∧ i = 4 * a + b then nI 0
      else if r = 29 ∧ i = 4 * a + b then z else if r = 28 ∧ i = 4 * a + b then y else if r = 27 ∧ i = 4 * a + b then x else if r = 26 ∧ i = 4 * a + b then nI 1
      else if r = 20 ∧ i = 16 then m 20 0 16 + nI 1 else if r = 20 ∧ i = 0 then nI 0 else m r k i)
    else m r k i := by
  have e16 : xu3 m 20 0 0 (nI 0) 20 0 16 = m 20 0 16 := rfl
  unfold mf_issue mf_begin
  rw [e16]
  simp only [xu3_at, xu2_at]
  unfold va_cpy
  by_cases hk : k = 0
  · subst hk
    simp only [and_true, true_and, if_true]
  · simp only [hk, false_and, and_false, if_false]
theorem sim_issue {c m : xMem} {I T e G a b d q n : Nat} {y : Int32} (ha : a < 4) (hb : b < 4) (hs : m 26 0 (4 * a + b) = 0) (hd : d ≤ 4) (hq : q < 64) (hn : n ≤ 4) (hw : d = 4 ∨ (1 ≤ n ∧ q + n ≤ 16 * (q / 16) + 16)) (hy : d ≠ 4 → y = nI q) (hI : I < 512) (h : Rel c m I T e G) :
    Rel (xf_issue c a b d q n) (mf_issue m a b (nI d) y (nI n)) (I + 1) T e G := by
  generalize hK : 4 * a + b = K at hs
  have hK16 : K < 16 := by omega
  generalize hc' : xf_issue c a b d q n = c'
  generalize hm' : mf_issue m a b (nI d) y (nI n) = m'
  have ec := fun r k i => @iss_c c a b d q n r k i
  have em := fun r k i => @iss_m m a b (nI d) y (nI n) r k i
  rw [hc', hK] at ec
  rw [hm', hK] at em
  have n01 : ¬ nI 0 = nI 1 := by decide
  have n02 : ¬ nI 0 = nI 2 := by decide
  have n12 : ¬ nI 1 = nI 2 := by decide
  have hs0 : m 26 0 K = nI 0 := hs
  have e26 : ∀ k, k ≠ K → m' 26 0 k = m 26 0 k := fun k hk => by rw [em]; grind
  have e27 : ∀ k, k ≠ K → m' 27 0 k = m 27 0 k := fun k hk => by rw [em]; grind
  have e28 : ∀ k, k ≠ K → m' 28 0 k = m 28 0 k := fun k hk => by rw [em]; grind
  have e29 : ∀ k, k ≠ K → m' 29 0 k = m 29 0 k := fun k hk => by rw [em]; grind
  have e30 : ∀ k, k ≠ K → m' 30 0 k = m 30 0 k := fun k hk => by rw [em]; grind
  have e31 : ∀ k, k ≠ K → m' 31 0 k = m 31 0 k := fun k hk => by rw [em]; grind
  have e32 : ∀ k, k ≠ K → m' 32 0 k = m 32 0 k := fun k hk => by rw [em]; grind
  have e35 : ∀ k, k ≠ K → m' 35 0 k = m 35 0 k := fun k hk => by rw [em]; grind
  have e33 : ∀ k j, k ≠ K → j < 4 → m' 33 0 (4 * k + j) = m 33 0 (4 * k + j) := fun k j hk hj => by rw [em]; grind
  have eo : ∀ r, (r ≤ 25 ∧ r ≠ 20) ∨ r = 34 ∨ r = 36 → ∀ k i, m' r k i = m r k i := fun r hr k i => by
    rw [em, if_neg (show ¬ r = 33 by omega), if_neg (show ¬ (r = 35 ∧ i = K) by omega), if_neg (show ¬ (r = 32 ∧ i = K) by omega), if_neg (show ¬ (r = 31 ∧ i = K) by omega), if_neg (show ¬ (r = 30 ∧ i = K) by omega), if_neg (show ¬ (r = 29 ∧ i = K) by omega), if_neg (show ¬ (r = 28 ∧ i = K) by omega), if_neg (show ¬ (r = 27 ∧ i = K) by omega), if_neg (show ¬ (r = 26 ∧ i = K) by omega), if_neg (show ¬ (r = 20 ∧ i = 16) by omega), if_neg (show ¬ (r = 20 ∧ i = 0) by omega), ite_self]
  have e20 : ∀ i, i ≠ 0 → i ≠ 16 → m' 20 0 i = m 20 0 i := fun i h1 h2 => by rw [em]; grind
  have k26 : m' 26 0 K = nI 1 := by rw [em]; grind
  have k27 : m' 27 0 K = nI d := by rw [em]; grind
  have k28 : m' 28 0 K = y := by rw [em]; grind
  have k29 : m' 29 0 K = nI n := by rw [em]; grind
  have k30 : m' 30 0 K = nI 0 := by rw [em]; grind
  have k31 : m' 31 0 K = nI (I + 1) := by
    rw [show nI (I + 1) = nI I + nI 1 from (nI_add I 1).symm, ← h.rg.im, em]
    grind
  have k32 : m' 32 0 K = nI 0 := by rw [em]; grind
  have k35 : m' 35 0 K = nI 0 := by rw [em]; grind
  have c57 : c' 5 0 7 = c 5 0 7 + nI 1 := by rw [ec]; grind
  have m16 : m' 20 0 16 = m 20 0 16 + nI 1 := by rw [em]; grind
  have cK3 : c' 0 K 3 = nI 1 := by rw [ec]; grind
  have cK4 : c' 0 K 4 = nI d := by rw [ec]; grind
  have cK5 : c' 0 K 5 = nI q := by rw [ec]; grind
  have cK6 : c' 0 K 6 = nI n := by rw [ec]; grind
  have cK7 : c' 0 K 7 = c 5 0 7 := by rw [ec]; grind
  have cK8 : c' 0 K 8 = nI 0 := by rw [ec]; grind
  have cK9 : c' 0 K 9 = nI 0 := by rw [ec]; grind
  have cKr : c' 0 K 10 = nI 0 := by rw [ec]; grind
  have cK0 : c' 0 K 0 = c 0 K 0 := by rw [ec]; grind
  have cK1 : c' 0 K 1 = c 0 K 1 := by rw [ec]; grind
  have cKk : ∀ j, j < n → c' 1 K j = c 4 a j := fun j hj => by rw [ec]; grind
  have mKk : ∀ j, j < 4 → m' 33 0 (4 * K + j) = m 22 0 (4 * a + j) := fun j hj => by
    rw [em, if_pos rfl, if_pos rfl, if_pos (by omega)]
    congr 2
    omega
  have c0 : ∀ k i, k ≠ K → c' 0 k i = c 0 k i := fun k i hk => by rw [ec]; grind
  have c1 : ∀ k i, k ≠ K → c' 1 k i = c 1 k i := fun k i hk => by rw [ec]; grind
  have co : ∀ r, r ≠ 0 → r ≠ 1 → r ≠ 5 → ∀ k i, c' r k i = c r k i := fun r h1 h2 h3 k i => by rw [ec]; grind
  have c5 : ∀ i, i ≠ 7 → c' 5 0 i = c 5 0 i := fun i hi => by rw [ec]; grind
  have c11 : c' 11 = c 11 := by funext k i; exact co 11 (by decide) (by decide) (by decide) k i
  have c12 : c' 12 = c 12 := by funext k i; exact co 12 (by decide) (by decide) (by decide) k i
  have en : xf_n c' = xf_n c := by unfold xf_n; rw [c11]
  have eg : xf_g c' = xf_g c := by unfold xf_g; rw [c11]
  have eN : xf_N c' = xf_N c := by unfold xf_N; rw [eg, c12]
  have hi : ∀ t, ∀ k, k < 16 → (mp_inq m' (nI t) k ↔ mp_inq m (nI t) k) := by
    intro t k hk
    unfold mp_inq
    by_cases e9 : k = K
    · rw [e9, k26, hs0]
      simp only [n12, n02, false_and]
    · rw [e26 k e9, e32 k e9, e28 k e9]
  have hg : ∀ t, ∀ k, k < 16 → (mp_gr m' t k ↔ mp_gr m t k) := by
    intro t k hk
    unfold mp_gr
    by_cases e9 : k = K
    · rw [e9, k26, hs0]
      simp only [n12, n02, false_and]
    · rw [e26 k e9, e28 k e9]
  have hu : cN (mp_uns m') 16 = cN (mp_uns m) 16 + 1 := by
    refine cN_add (k0 := K) ?_ ?_ hK16 (fun k hk hne => ?_)
    · unfold mp_uns
      rw [hs0]
      simp only [n01, n02, false_and, or_false, not_false_eq_true]
    · exact Or.inl k26
    · unfold mp_uns
      rw [e26 k hne, e32 k hne]
  obtain ⟨a1, a2, a3, a4, a5, a6, a7, a8, a8e, a9, a10, a11, a12, a13, a14, a15, a16, a17, a18, a19, a20⟩ := h.rg
  refine ⟨fun k hk => ?_, fun t ht => ?_, ?_⟩
  · obtain ⟨s', d', w', n', q', o', p', b', r', hk'⟩ := h.rk k hk
    by_cases e9 : k = K
    · subst e9
      have f0 := hk'.m0
      have f1 := hk'.m1
      refine ⟨1, d, 0, n, q, I, 0, 0, 0, ?_⟩
      refine ⟨?_, ?_, ?_, k26, by omega, ?_, k27, hd, ?_, k30, by omega, ?_, k29, hn, ?_, hq, fun z => by rw [k28]; exact hy z, ?_, by omega, fun _ => ⟨k31, by omega⟩, k32, by omega, ?_, by omega, ?_, fun _ => k35, by omega, fun _ => ⟨rfl, rfl, hw⟩, ?_, by omega⟩
      · rw [cK0]; exact f0
      · rw [cK1]; exact f1
      · exact cK3
      · exact cK4
      · exact cK8
      · exact cK6
      · exact cK5
      · rw [cK7]; exact a5
      · exact cK9
      · exact cKr
      · intro _ _ j hj
        rw [cKk j hj, mKk j (by omega)]
        exact a12 a j ha (by omega)
    · exact ⟨s', d', w', n', q', o', p', b', r', RK_congr (c := c) (m := m) (fun i => c0 k i e9) (fun j _ => c1 k j e9) (e26 k e9) (e27 k e9) (e28 k e9) (e29 k e9) (e30 k e9) (e31 k e9) (e32 k e9) (e35 k e9) (fun j hj => e33 k j e9 hj) (fun j _ => eo 34 (by omega) _ _) (by omega) (Nat.le_refl _) (Nat.le_refl _) hk'⟩
  · obtain ⟨mt, ht'⟩ := h.rt t ht
    refine ⟨mt, RT_congr (c := c) (m := m) (fun i => co 2 (by decide) (by decide) (by decide) _ _) (fun i => co 3 (by decide) (by decide) (by decide) _ _) (eo 25 (by omega) _ _) (eo 24 (by omega) _ _) (hi t) (hg t) (fun k hk hq => e32 k (fun z => ?_)) ht'⟩
    rw [z] at hq
    exact absurd (hs0.symm.trans hq.1) n02
  · refine ⟨by rw [co 6 (by decide) (by decide) (by decide)]; exact a1, by rw [co 7 (by decide) (by decide) (by decide)]; exact a2, by rw [c5 _ (by decide)]; exact a3, by rw [e20 _ (by decide) (by decide)]; exact a4, ?_, ?_, by rw [e20 _ (by decide) (by decide)]; exact a7, a8, a8e, ?_, ?_, ?_, ?_, ?_, ?_, ?_, ?_, ?_, ?_, by omega, a20⟩
    · rw [c57, a5, nI_add]
    · rw [m16, a6, nI_add]
    · obtain ⟨g, h1, h2, h3⟩ := a9
      exact ⟨g, h1, by rw [c5 _ (by decide)]; exact h2, by rw [e20 _ (by decide) (by decide)]; exact h3⟩
    · obtain ⟨g, h1, h2, h3⟩ := a10
      exact ⟨g, h1, by rw [c5 _ (by decide)]; exact h2, by rw [e20 _ (by decide) (by decide)]; exact h3⟩
    · intro i hi
      rw [co 8 (by decide) (by decide) (by decide), eo 21 (by omega)]
      exact a11 i hi
    · intro b j hb hj
      rw [co 4 (by decide) (by decide) (by decide), eo 22 (by omega)]
      exact a12 b j hb hj
    · intro b hb
      obtain ⟨v, h1, h2, h3⟩ := a13 b hb
      exact ⟨v, h1, by rw [co 10 (by decide) (by decide) (by decide)]; exact h2, by rw [eo 23 (by omega)]; exact h3⟩
    · rw [en, eg, eN]
      exact xS_congr c11 c12 a14
    · rw [e20 _ (by decide) (by decide), en]
      exact a15
    · intro j i hj hi
      rw [en] at hj
      rw [co 13 (by decide) (by decide) (by decide), eo 36 (by omega)]
      exact a16 j i hj hi
    · rw [en, hu]
      omega
    · have key : ∀ l, l < 16 → l ≠ K → ¬ m' 26 0 l = nI 0 → ¬ c' 0 l 7 = c' 0 K 7 := by
        intro l hl hne h2 z
        obtain ⟨s', d', w', n', q', o', p', b', r', hk'⟩ := h.rk l hl
        rw [e26 l hne, hk'.ms] at h2
        have ho := (hk'.mo (fun z => h2 (by rw [z]))).2
        rw [c0 l 7 hne, hk'.co] at z
        have z2 : c' 0 K 7 = nI I := by rw [cK7]; exact a5
        rw [z2] at z
        have := nI_inj (by omega) (by omega) z
        omega
      intro k l hk hl hkl h1 h2
      by_cases x1 : k = K
      · subst x1
        exact fun z => key l hl (Ne.symm hkl) h2 z.symm
      · by_cases x2 : l = K
        · subst x2
          exact key k hk x1 h1
        · rw [c0 k 7 x1, c0 l 7 x2]
          rw [e26 k x1] at h1
          rw [e26 l x2] at h2
          exact a18 k l hk hl hkl h1 h2
