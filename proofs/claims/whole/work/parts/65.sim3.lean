/-! reset and issue, side by side. -/
theorem rst_c {c : xMem} {a r k i : Nat} {x : Int32} : xf_rel (xf_rst c a 4) x 3 r k i = if r = 0 ∧ 4 * a ≤ k ∧ k < 4 * a + 4 ∧ i = 3 ∧ c 0 k 3 = nI 1 then nI 0 else if r = 2 ∧ k < 3 ∧ i = 3 ∧ c 2 k 3 = x then -1 else c r k i := by
  unfold xf_rel xf_rst
  grind
theorem rst_m {m : xMem} {a r k i : Nat} {x : Int32} : mf_rel (mf_rst m a 4) x 3 r k i = if r = 26 ∧ k = 0 ∧ 4 * a ≤ i ∧ i < 4 * a + 4 ∧ m 26 0 i = nI 1 then nI 0 else if r = 25 ∧ k = 0 ∧ i < 3 ∧ m 25 0 i = x then -1 else m r k i := by
  unfold mf_rel mf_rst
  grind
theorem sim_reset {c m : xMem} {I T e G a : Nat} (ha : a < 4) (h : Rel c m I T e G) : Rel (xf_rel (xf_rst c a 4) (nI a) 3) (mf_rel (mf_rst (xu3 m 20 0 0 (nI 0)) a 4) (nI a) 3) I T e G := by
  have h := Rel_fault (nI 0) h
  generalize xu3 m 20 0 0 (nI 0) = m at h ⊢
  have n01 : ¬ nI 0 = nI 1 := by decide
  have n02 : ¬ nI 0 = nI 2 := by decide
  have n12 : ¬ nI 1 = nI 2 := by decide
  generalize hc' : xf_rel (xf_rst c a 4) (nI a) 3 = c'
  generalize hm' : mf_rel (mf_rst m a 4) (nI a) 3 = m'
  have ec : ∀ r k i, c' r k i = if r = 0 ∧ 4 * a ≤ k ∧ k < 4 * a + 4 ∧ i = 3 ∧ c 0 k 3 = nI 1 then nI 0 else if r = 2 ∧ k < 3 ∧ i = 3 ∧ c 2 k 3 = nI a then -1 else c r k i := by
    intro r k i
    rw [← hc', rst_c]
  have em : ∀ r k i, m' r k i = if r = 26 ∧ k = 0 ∧ 4 * a ≤ i ∧ i < 4 * a + 4 ∧ m 26 0 i = nI 1 then nI 0 else if r = 25 ∧ k = 0 ∧ i < 3 ∧ m 25 0 i = nI a then -1 else m r k i := by
    intro r k i
    rw [← hm', rst_m]
  have eo : ∀ r, r ≠ 26 → r ≠ 25 → ∀ k i, m' r k i = m r k i := fun r h1 h2 k i => by rw [em, if_neg (by omega), if_neg (by omega)]
  have e26 : ∀ k, m' 26 0 k = if 4 * a ≤ k ∧ k < 4 * a + 4 ∧ m 26 0 k = nI 1 then nI 0 else m 26 0 k := by
    intro k
    rw [em]
    grind
  have hi : ∀ t, ∀ k, k < 16 → (mp_inq m' (nI t) k ↔ mp_inq m (nI t) k) := by
    intro t k hk
    unfold mp_inq
    rw [eo 32 (by decide) (by decide), eo 28 (by decide) (by decide), e26]
    grind
  have hg : ∀ t, ∀ k, k < 16 → (mp_gr m' t k ↔ mp_gr m t k) := by
    intro t k hk
    unfold mp_gr
    rw [eo 28 (by decide) (by decide), e26]
    grind
  have hu : ∀ k, k < 16 → mp_uns m' k → mp_uns m k := by
    intro k hk
    unfold mp_uns
    rw [eo 32 (by decide) (by decide), e26]
    grind
  have c11 : c' 11 = c 11 := by funext k i; rw [ec, if_neg (by omega), if_neg (by omega)]
  have c12 : c' 12 = c 12 := by funext k i; rw [ec, if_neg (by omega), if_neg (by omega)]
  have en : xf_n c' = xf_n c := by unfold xf_n; rw [c11]
  have eg : xf_g c' = xf_g c := by unfold xf_g; rw [c11]
  have eN : xf_N c' = xf_N c := by unfold xf_N; rw [eg, c12]
  have co : ∀ r, r ≠ 0 → r ≠ 2 → ∀ k i, c' r k i = c r k i := fun r h1 h2 k i => by rw [ec, if_neg (by omega), if_neg (by omega)]
  refine ⟨fun k hk => ?_, fun t ht => ?_, ?_⟩
  · obtain ⟨s, d, w, n, q, o, p, b, r, hk'⟩ := h.rk k hk
    have z4 := hk'.s4
    by_cases e9 : 4 * a ≤ k ∧ k < 4 * a + 4 ∧ s = 1
    · obtain ⟨e1, e2, e3⟩ := e9
      have ic : c 0 k 3 = nI 1 := by rw [hk'.cs, e3]
      have im : m 26 0 k = nI 1 := by rw [hk'.ms, e3]
      refine ⟨0, d, w, n, q, o, p, b, r, ?_⟩
      have le := hk'.le (by omega)
      obtain ⟨a1, a2, a3, a4, a5, a6, a7, a8, a9, a10, a11, a12, a13, a14, a15, a16, a17, a18, a19, a20, a21, a22, a23, a24, a25, a26, a27, a28, a29, a30⟩ := hk'
      have f0 : ∀ i, i ≠ 3 → c' 0 k i = c 0 k i := fun i hi => by rw [ec, if_neg (by omega), if_neg (by omega)]
      refine ⟨by rw [f0 _ (by decide)]; exact a1, by rw [f0 _ (by decide)]; exact a2, by rw [ec, if_pos ⟨rfl, e1, e2, rfl, ic⟩], by rw [e26, if_pos ⟨e1, e2, im⟩], by omega, by rw [f0 _ (by decide)]; exact a6, by rw [eo _ (by decide) (by decide)]; exact a7, a8, by rw [f0 _ (by decide)]; exact a9, by rw [eo _ (by decide) (by decide)]; exact a10, a11, by rw [f0 _ (by decide)]; exact a12, by rw [eo _ (by decide) (by decide)]; exact a13, a14, by rw [f0 _ (by decide)]; exact a15, a16, by rw [eo _ (by decide) (by decide)]; exact a17, by rw [f0 _ (by decide)]; exact a18, a19, by omega, by rw [eo _ (by decide) (by decide)]; exact a21, a22, by rw [f0 _ (by decide)]; exact a23, a24, by rw [f0 _ (by decide)]; exact a25, fun _ => by rw [eo _ (by decide) (by decide)]; exact le, by omega, by omega, by omega, by omega⟩
    · have nc : ¬ (4 * a ≤ k ∧ k < 4 * a + 4 ∧ c 0 k 3 = nI 1) := fun z => e9 ⟨z.1, z.2.1, nI_inj (by omega) (by omega) (hk'.cs.symm.trans z.2.2)⟩
      have nm : ¬ (4 * a ≤ k ∧ k < 4 * a + 4 ∧ m 26 0 k = nI 1) := fun z => e9 ⟨z.1, z.2.1, nI_inj (by omega) (by omega) (hk'.ms.symm.trans z.2.2)⟩
      refine ⟨s, d, w, n, q, o, p, b, r, RK_congr (c := c) (m := m) (fun i => ?_) (fun j _ => co 1 (by decide) (by decide) _ _) ?_ (eo _ (by decide) (by decide) _ _) (eo _ (by decide) (by decide) _ _) (eo _ (by decide) (by decide) _ _) (eo _ (by decide) (by decide) _ _) (eo _ (by decide) (by decide) _ _) (eo _ (by decide) (by decide) _ _) (eo _ (by decide) (by decide) _ _) (fun _ _ => eo _ (by decide) (by decide) _ _) (fun _ _ => eo _ (by decide) (by decide) _ _) (Nat.le_refl _) (Nat.le_refl _) (Nat.le_refl _) hk'⟩
      · rw [ec, if_neg (fun z => nc ⟨z.2.1, z.2.2.1, z.2.2.2.2⟩), if_neg (by omega)]
      · rw [e26, if_neg nm]
  · obtain ⟨mt, ht'⟩ := h.rt t ht
    refine ⟨mt, ?_⟩
    have ei := cN_congr (hi t)
    have eg := cN_congr (hg t)
    have f2 : ∀ i, i ≠ 3 → c' 2 t i = c 2 t i := fun i hi => by rw [ec, if_neg (by omega), if_neg (by omega)]
    have f3 : c' 2 t 3 = if c 2 t 3 = nI a then -1 else c 2 t 3 := by rw [ec]; grind
    have g3 : m' 25 0 t = if m 25 0 t = nI a then -1 else m 25 0 t := by rw [em]; grind
    have q3 : ∀ i, c' 3 t i = c 3 t i := fun i => co 3 (by decide) (by decide) _ _
    obtain ⟨a1, a2, a3, a4, a5, a6, a7, a8, a9, a10, a11⟩ := ht'
    refine ⟨by rw [f2 _ (by decide)]; exact a1, by rw [ei]; exact a2, by rw [eg]; exact a3, by rw [f2 _ (by decide), eg]; exact a4, by rw [f3, g3, a5], ?_, by rw [f2 _ (by decide), eo _ (by decide) (by decide)]; exact a7, by rw [eo _ (by decide) (by decide)]; exact a8, ?_, ?_, ?_⟩
    · rw [g3]
      by_cases z : m 25 0 t = nI a
      · rw [if_pos z]; exact Or.inl rfl
      · rw [if_neg z]; exact a6
    · intro j hj
      obtain ⟨k, hk, e1, hq⟩ := a9 j hj
      exact ⟨k, hk, by rw [q3]; exact e1, (hi t k hk).mpr hq⟩
    · intro i j k l
      rw [q3, q3, eo 32 (by decide) (by decide), eo 32 (by decide) (by decide)]
      exact a10 i j k l
    · intro k hk hq
      obtain ⟨j, hj, e1⟩ := a11 k hk ((hi t k hk).mp hq)
      exact ⟨j, hj, by rw [q3]; exact e1⟩
  · obtain ⟨a1, a2, a3, a4, a5, a6, a7, a8, a8e, a9, a10, a11, a12, a13, a14, a15, a16, a17, a18, a19, a20⟩ := h.rg
    have mu := cN_mono hu
    refine ⟨by rw [co 6 (by decide) (by decide)]; exact a1, by rw [co 7 (by decide) (by decide)]; exact a2, by rw [co 5 (by decide) (by decide)]; exact a3, by rw [eo _ (by decide) (by decide)]; exact a4, by rw [co 5 (by decide) (by decide)]; exact a5, by rw [eo _ (by decide) (by decide)]; exact a6, by rw [eo _ (by decide) (by decide)]; exact a7, a8, a8e, ?_, ?_, ?_, ?_, ?_, ?_, ?_, ?_, ?_, ?_, a19, a20⟩
    · obtain ⟨g, h1, h2, h3⟩ := a9
      exact ⟨g, h1, by rw [co 5 (by decide) (by decide)]; exact h2, by rw [eo _ (by decide) (by decide)]; exact h3⟩
    · obtain ⟨g, h1, h2, h3⟩ := a10
      exact ⟨g, h1, by rw [co 5 (by decide) (by decide)]; exact h2, by rw [eo _ (by decide) (by decide)]; exact h3⟩
    · intro i hi
      rw [co 8 (by decide) (by decide), eo _ (by decide) (by decide)]
      exact a11 i hi
    · intro b j hb hj
      rw [co 4 (by decide) (by decide), eo _ (by decide) (by decide)]
      exact a12 b j hb hj
    · intro b hb
      obtain ⟨v, h1, h2, h3⟩ := a13 b hb
      exact ⟨v, h1, by rw [co 10 (by decide) (by decide)]; exact h2, by rw [eo _ (by decide) (by decide)]; exact h3⟩
    · rw [en, eg, eN]
      exact xS_congr c11 c12 a14
    · rw [eo _ (by decide) (by decide), en]
      exact a15
    · intro j i hj hi
      rw [en] at hj
      rw [co 13 (by decide) (by decide), eo _ (by decide) (by decide)]
      exact a16 j i hj hi
    · rw [en]
      omega
    · intro k l hk hl hkl h1 h2
      rw [e26] at h1 h2
      rw [ec 0 k 7, ec 0 l 7, if_neg (by omega), if_neg (by omega), if_neg (by omega), if_neg (by omega)]
      refine a18 k l hk hl hkl ?_ ?_
      · intro z; apply h1; grind
      · intro z; apply h2; grind
theorem cnt_eq {c m : xMem} {I T e G a : Nat} (ha : a < 4) (h : Rel c m I T e G) : ∀ i, i ≤ 4 → xf_cnt c a i = mf_cnt m a i := by
  intro i
  induction i with
  | zero => intro _; rfl
  | succ i ih =>
    intro hi
    obtain ⟨s, d, w, n, q, o, p, b, r, hk'⟩ := h.rk (4 * a + i) (by omega)
    show (if _ then _ else _) = if _ then _ else _
    rw [ih (by omega), hk'.cs, hk'.ms]
