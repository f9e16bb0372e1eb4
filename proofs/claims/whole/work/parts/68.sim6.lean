/-! A grant, side by side. -/
theorem sim_end {c m : xMem} {I T G b v : Nat} (hb : b < 16) (hv : v = 3 ∨ v = 4) (hs : m 26 0 b = nI 1) (hd : v = 3 → m 27 0 b = nI 4) (hGT : G ≤ T) (h : Rel c m I T 1 G) :
    Rel (xu3 (xu3 c 5 0 8 (nI (b / 4))) 0 b 3 (nI v)) (xu3 (mf_gr1 m b) 26 0 b (nI v)) I T 1 (G + 1) := by
  generalize hc' : xu3 (xu3 c 5 0 8 (nI (b / 4))) 0 b 3 (nI v) = c'
  generalize hm' : xu3 (mf_gr1 m b) 26 0 b (nI v) = m'
  have ec : ∀ r k i, c' r k i = if r = 0 ∧ k = b ∧ i = 3 then nI v else if r = 5 ∧ k = 0 ∧ i = 8 then nI (b / 4) else c r k i := fun r k i => by rw [← hc', xu3_at, xu3_at]
  have em : ∀ r k i, m' r k i = if r = 26 ∧ k = 0 ∧ i = b then nI v else if r = 20 ∧ k = 0 ∧ i = 19 then nI (b / 4) else if r = 20 ∧ k = 0 ∧ i = 17 then m 20 0 17 + nI 1 else m r k i := fun r k i => by rw [← hm']; unfold mf_gr1; rw [xu3_at, xu3_at, xu3_at]
  have nv2 : ¬ nI v = nI 2 := by rcases hv with rfl | rfl <;> decide
  have nv1 : ¬ nI v = nI 1 := by rcases hv with rfl | rfl <;> decide
  have nv0 : ¬ nI v = nI 0 := by rcases hv with rfl | rfl <;> decide
  have n12 : ¬ nI 1 = nI 2 := by decide
  have n10 : ¬ nI 1 = nI 0 := by decide
  have eo : ∀ r, r ≠ 20 → r ≠ 26 → ∀ k i, m' r k i = m r k i := fun r h1 h2 k i => by rw [em, if_neg (by omega), if_neg (by omega), if_neg (by omega)]
  have e26 : ∀ l, l ≠ b → m' 26 0 l = m 26 0 l := fun l hl => by rw [em, if_neg (by omega), if_neg (by omega), if_neg (by omega)]
  have b26 : m' 26 0 b = nI v := by rw [em, if_pos ⟨rfl, rfl, rfl⟩]
  have e20 : ∀ i, i ≠ 17 → i ≠ 19 → m' 20 0 i = m 20 0 i := fun i h1 h2 => by rw [em, if_neg (by omega), if_neg (by omega), if_neg (by omega)]
  have c0 : ∀ l i, l ≠ b ∨ i ≠ 3 → c' 0 l i = c 0 l i := fun l i hl => by rw [ec, if_neg (by omega), if_neg (by omega)]
  have b3 : c' 0 b 3 = nI v := by rw [ec, if_pos ⟨rfl, rfl, rfl⟩]
  have co : ∀ r, r ≠ 0 → r ≠ 5 → ∀ k i, c' r k i = c r k i := fun r h1 h2 k i => by rw [ec, if_neg (by omega), if_neg (by omega)]
  have c5 : ∀ i, i ≠ 8 → c' 5 0 i = c 5 0 i := fun i hi => by rw [ec, if_neg (by omega), if_neg (by omega)]
  have c11 : c' 11 = c 11 := by funext k i; exact co 11 (by decide) (by decide) k i
  have c12 : c' 12 = c 12 := by funext k i; exact co 12 (by decide) (by decide) k i
  have en : xf_n c' = xf_n c := by unfold xf_n; rw [c11]
  have eg : xf_g c' = xf_g c := by unfold xf_g; rw [c11]
  have eN : xf_N c' = xf_N c := by unfold xf_N; rw [eg, c12]
  have hi : ∀ t, ∀ l, l < 16 → (mp_inq m' (nI t) l ↔ mp_inq m (nI t) l) := by
    intro t l hl
    unfold mp_inq
    rw [eo 32 (by decide) (by decide), eo 28 (by decide) (by decide)]
    by_cases e9 : l = b
    · rw [e9, b26, hs]
      simp only [nv2, n12, false_and]
    · rw [e26 l e9]
  have hg : ∀ t, ∀ l, l < 16 → (mp_gr m' t l ↔ mp_gr m t l) := by
    intro t l hl
    unfold mp_gr
    rw [eo 28 (by decide) (by decide)]
    by_cases e9 : l = b
    · rw [e9, b26, hs]
      simp only [nv2, n12, false_and]
    · rw [e26 l e9]
  have hu : ∀ l, l < 16 → mp_uns m' l → mp_uns m l := by
    intro l hl
    unfold mp_uns
    rw [eo 32 (by decide) (by decide)]
    by_cases e9 : l = b
    · rw [e9, b26, hs]
      simp only [nv2, nv1, false_and, or_false, false_implies]
    · rw [e26 l e9]
      exact id
  refine ⟨fun l hl => ?_, fun t ht => ?_, ?_⟩
  · obtain ⟨s, d, w, n, q, o, p, a, r, hk⟩ := h.rk l hl
    by_cases e9 : l = b
    · subst e9
      have hs1 : s = 1 := nI_inj (by have := hk.s4; omega) (by omega) (hk.ms.symm.trans hs)
      have hd4 : v = 3 → d = 4 := fun z => nI_inj (by have := hk.d4; omega) (by omega) (hk.md.symm.trans (hd z))
      subst hs1
      obtain ⟨a1, a2, a3, a4, a5, a6, a7, a8, a9, a10, a11, a12, a13, a14, a15, a16, a17, a18, a19, a20, a21, a22, a23, a24, a25, a26, a27, a28, a29, a30⟩ := hk
      refine ⟨v, d, w, n, q, o, p, a, r, ?_⟩
      refine ⟨by rw [c0 _ _ (by omega)]; exact a1, by rw [c0 _ _ (by omega)]; exact a2, b3, b26, by omega, by rw [c0 _ _ (by omega)]; exact a6, by rw [eo _ (by decide) (by decide)]; exact a7, a8, by rw [c0 _ _ (by omega)]; exact a9, by rw [eo _ (by decide) (by decide)]; exact a10, a11, by rw [c0 _ _ (by omega)]; exact a12, by rw [eo _ (by decide) (by decide)]; exact a13, a14, by rw [c0 _ _ (by omega)]; exact a15, a16, by rw [eo _ (by decide) (by decide)]; exact a17, by rw [c0 _ _ (by omega)]; exact a18, a19, fun _ => by rw [eo _ (by decide) (by decide)]; exact a20 (by decide), by rw [eo _ (by decide) (by decide)]; exact a21, by omega, by rw [c0 _ _ (by omega)]; exact a23, a24, by rw [c0 _ _ (by omega)]; exact a25, fun _ => by rw [eo _ (by decide) (by decide)]; exact a26 (by decide), by omega, by omega, by omega, ?_⟩
      intro z1 z2
      rcases z1 with z1 | z1
      · have := hd4 z1
        omega
      · omega
    · exact ⟨s, d, w, n, q, o, p, a, r, RK_congr (c := c) (m := m) (fun i => c0 l i (by omega)) (fun j _ => co 1 (by decide) (by decide) _ _) (e26 l e9) (eo _ (by decide) (by decide) _ _) (eo _ (by decide) (by decide) _ _) (eo _ (by decide) (by decide) _ _) (eo _ (by decide) (by decide) _ _) (eo _ (by decide) (by decide) _ _) (eo _ (by decide) (by decide) _ _) (eo _ (by decide) (by decide) _ _) (fun _ _ => eo _ (by decide) (by decide) _ _) (fun _ _ => eo _ (by decide) (by decide) _ _) (Nat.le_refl _) (Nat.le_refl _) (by omega) hk⟩
  · obtain ⟨mt, ht'⟩ := h.rt t ht
    exact ⟨mt, RT_congr (c := c) (m := m) (fun i => co 2 (by decide) (by decide) _ _) (fun i => co 3 (by decide) (by decide) _ _) (eo _ (by decide) (by decide) _ _) (eo _ (by decide) (by decide) _ _) (hi t) (hg t) (fun l _ _ => eo _ (by decide) (by decide) _ _) ht'⟩
  · obtain ⟨a1, a2, a3, a4, a5, a6, a7, a8, a8e, a9, a10, a11, a12, a13, a14, a15, a16, a17, a18, a19, a20⟩ := h.rg
    have mu := cN_mono hu
    refine ⟨by rw [co 6 (by decide) (by decide)]; exact a1, by rw [co 7 (by decide) (by decide)]; exact a2, by rw [c5 _ (by decide)]; exact a3, by rw [e20 _ (by decide) (by decide)]; exact a4, by rw [c5 _ (by decide)]; exact a5, by rw [e20 _ (by decide) (by decide)]; exact a6, by rw [em, if_neg (by omega), if_neg (by omega), if_pos (by decide), a7, nI_add], by omega, a8e, ⟨b / 4, by omega, by rw [ec, if_neg (by omega), if_pos (by decide)], by rw [em, if_neg (by omega), if_pos (by decide)]⟩, ?_, ?_, ?_, ?_, ?_, ?_, ?_, ?_, ?_, a19, a20⟩
    · obtain ⟨g, h1, h2, h3⟩ := a10
      exact ⟨g, h1, by rw [c5 _ (by decide)]; exact h2, by rw [e20 _ (by decide) (by decide)]; exact h3⟩
    · intro i hi
      rw [co 8 (by decide) (by decide), eo _ (by decide) (by decide)]
      exact a11 i hi
    · intro b j hb hj
      rw [co 4 (by decide) (by decide), eo _ (by decide) (by decide)]
      exact a12 b j hb hj
    · intro b hb
      obtain ⟨v, h1, h2, h3⟩ := a13 b hb
      exact ⟨v, h1, by rw [co 10 (by decide) (by decide)]; exact h2, by rw [eo _ (by decide) (by decide)]; exact h3⟩
    · rw [en, eg, eN]
      exact xS_congr c11 c12 a14
    · rw [e20 _ (by decide) (by decide), en]
      exact a15
    · intro j i hj hi
      rw [en] at hj
      rw [co 13 (by decide) (by decide), eo _ (by decide) (by decide)]
      exact a16 j i hj hi
    · rw [en]
      omega
    · have hst : ∀ l, ¬ m' 26 0 l = nI 0 → ¬ m 26 0 l = nI 0 := by
        intro l hl
        by_cases e9 : l = b
        · rw [e9, hs]; exact n10
        · rw [e26 l e9] at hl; exact hl
      intro k1 l hk1 hl hkl h1 h2
      rw [c0 _ _ (by omega), c0 _ _ (by omega)]
      exact a18 k1 l hk1 hl hkl (hst k1 h1) (hst l h2)
theorem enter_c {c : xMem} {b t n r k i : Nat} (h23 : ¬ (c 0 b 4 = nI 2 ∧ c 0 b 4 = nI 3)) : xf_enter c b t n r k i = if r = 2 ∧ k = t ∧ i = 3 then (if c 0 b 4 = nI 3 then -1 else if c 0 b 4 = nI 2 then nI (b / 4) else c 2 t 3) else if r = 2 ∧ k = t ∧ i = 1 then nI (n + 1) else if r = 2 ∧ k = t ∧ i = 2 then c 2 t 2 - nI 1 else if r = 3 ∧ k = t ∧ i = n then nI b else c r k i := by
  unfold xf_enter
  by_cases h2 : c 0 b 4 = nI 2
  · have h3 : ¬ c 0 b 4 = nI 3 := fun z => h23 ⟨h2, z⟩
    rw [xif_t h2, xif_f h3]
    simp only [xu3_at, h2, if_true]
    grind
  · rw [xif_f h2]
    by_cases h3 : c 0 b 4 = nI 3
    · rw [xif_t h3]
      simp only [xu3_at, h3, if_true]
      grind
    · rw [xif_f h3]
      simp only [xu3_at, h2, h3, if_false]
      grind
theorem gr3_m {m : xMem} {b t r k i : Nat} (h23 : ¬ (m 27 0 b = nI 2 ∧ m 27 0 b = nI 3)) (ht : xN (m 28 0 b) / 16 = t) : xif (m 27 0 b = nI 3) (xu3 (mf_gr3 m b) 25 0 (xN (m 28 0 b) / 16) (-1)) (mf_gr3 m b) r k i = if r = 25 ∧ k = 0 ∧ i = t then (if m 27 0 b = nI 3 then -1 else if m 27 0 b = nI 2 then nI (b / 4) else m 25 0 t) else if r = 32 ∧ k = 0 ∧ i = b then m 20 0 17 + nI 1 else if r = 26 ∧ k = 0 ∧ i = b then nI 2 else if r = 20 ∧ k = 0 ∧ i = 19 then nI (b / 4) else if r = 20 ∧ k = 0 ∧ i = 17 then m 20 0 17 + nI 1 else m r k i := by
  unfold mf_gr3 mf_gr2 mf_gr1
  rw [ht]
  by_cases h2 : m 27 0 b = nI 2
  · have h3 : ¬ m 27 0 b = nI 3 := fun z => h23 ⟨h2, z⟩
    rw [xif_t h2, xif_f h3]
    simp only [xu3_at, h2, if_true]
    grind
  · rw [xif_f h2]
    by_cases h3 : m 27 0 b = nI 3
    · rw [xif_t h3]
      simp only [xu3_at, h3, if_true]
    · rw [xif_f h3]
      simp only [xu3_at, h2, h3, if_false]
      grind
/-- a request goes to its target -/
theorem sim_enter {c m : xMem} {I T G b t mt s d w n q o p a r : Nat} (hb : b < 16) (hk : RK c m I T G b s d w n q o p a r) (hs : s = 1) (hd : d < 4) (hq : q < 48) (ht : t = q / 16) (htt : RT c m t mt) (hcr : cN (mp_gr m t) 16 < 4) (hGT : G ≤ T) (h : Rel c m I T 1 G) :
    Rel (xf_enter (xu3 (xu3 c 5 0 8 (nI (b / 4))) 0 b 3 (nI 2)) b t mt) (xif (m 27 0 b = nI 3) (xu3 (mf_gr3 m b) 25 0 (xN (m 28 0 b) / 16) (-1)) (mf_gr3 m b)) I T 1 (G + 1) := by
  subst hs
  have hm28 : m 28 0 b = nI q := hk.mq (by omega)
  have hdv : m 28 0 b / nI 16 = nI t := by rw [hm28, ht]; exact pk_div (by omega) (by decide) (by decide)
  have hxt : xN (m 28 0 b) / 16 = t := by rw [xN_of hm28 (by omega), ht]
  have ht3 : t < 3 := by omega
  have n12 : ¬ nI 1 = nI 2 := by decide
  have n10 : ¬ nI 1 = nI 0 := by decide
  have n21 : ¬ nI 2 = nI 1 := by decide
  have hT5 := h.rg.T5
  have h23c : ¬ (xu3 (xu3 c 5 0 8 (nI (b / 4))) 0 b 3 (nI 2) 0 b 4 = nI 2 ∧ xu3 (xu3 c 5 0 8 (nI (b / 4))) 0 b 3 (nI 2) 0 b 4 = nI 3) := by
    rintro ⟨z1, z2⟩
    exact absurd (z1.symm.trans z2) (by decide)
  have h23m : ¬ (m 27 0 b = nI 2 ∧ m 27 0 b = nI 3) := by
    rintro ⟨z1, z2⟩
    exact absurd (z1.symm.trans z2) (by decide)
  generalize hc' : xf_enter (xu3 (xu3 c 5 0 8 (nI (b / 4))) 0 b 3 (nI 2)) b t mt = c'
  generalize hm' : xif (m 27 0 b = nI 3) (xu3 (mf_gr3 m b) 25 0 (xN (m 28 0 b) / 16) (-1)) (mf_gr3 m b) = m'
  have ec : ∀ r k i, c' r k i = if r = 2 ∧ k = t ∧ i = 3 then (if c 0 b 4 = nI 3 then -1 else if c 0 b 4 = nI 2 then nI (b / 4) else c 2 t 3) else if r = 2 ∧ k = t ∧ i = 1 then nI (mt + 1) else if r = 2 ∧ k = t ∧ i = 2 then c 2 t 2 - nI 1 else if r = 3 ∧ k = t ∧ i = mt then nI b else if r = 0 ∧ k = b ∧ i = 3 then nI 2 else if r = 5 ∧ k = 0 ∧ i = 8 then nI (b / 4) else c r k i := by
    intro r k i
    rw [← hc', enter_c h23c]
    have f4 : xu3 (xu3 c 5 0 8 (nI (b / 4))) 0 b 3 (nI 2) 0 b 4 = c 0 b 4 := by rw [xu3_at, xu3_at, if_neg (by omega), if_neg (by omega)]
    have f3 : xu3 (xu3 c 5 0 8 (nI (b / 4))) 0 b 3 (nI 2) 2 t 3 = c 2 t 3 := by rw [xu3_at, xu3_at, if_neg (by omega), if_neg (by omega)]
    have f2 : xu3 (xu3 c 5 0 8 (nI (b / 4))) 0 b 3 (nI 2) 2 t 2 = c 2 t 2 := by rw [xu3_at, xu3_at, if_neg (by omega), if_neg (by omega)]
    rw [f4, f3, f2, xu3_at, xu3_at]
  have em : ∀ r k i, m' r k i = if r = 25 ∧ k = 0 ∧ i = t then (if m 27 0 b = nI 3 then -1 else if m 27 0 b = nI 2 then nI (b / 4) else m 25 0 t) else if r = 32 ∧ k = 0 ∧ i = b then m 20 0 17 + nI 1 else if r = 26 ∧ k = 0 ∧ i = b then nI 2 else if r = 20 ∧ k = 0 ∧ i = 19 then nI (b / 4) else if r = 20 ∧ k = 0 ∧ i = 17 then m 20 0 17 + nI 1 else m r k i := fun r k i => by rw [← hm']; exact gr3_m h23m hxt
  have eo : ∀ r, r ≠ 20 → r ≠ 25 → r ≠ 26 → r ≠ 32 → ∀ k i, m' r k i = m r k i := fun r h1 h2 h3 h4 k i => by rw [em, if_neg (by omega), if_neg (by omega), if_neg (by omega), if_neg (by omega), if_neg (by omega)]
  have e26 : ∀ l, l ≠ b → m' 26 0 l = m 26 0 l := fun l hl => by rw [em, if_neg (by omega), if_neg (by omega), if_neg (by omega), if_neg (by omega), if_neg (by omega)]
  have e32 : ∀ l, l ≠ b → m' 32 0 l = m 32 0 l := fun l hl => by rw [em, if_neg (by omega), if_neg (by omega), if_neg (by omega), if_neg (by omega), if_neg (by omega)]
  have e25 : ∀ u, u ≠ t → m' 25 0 u = m 25 0 u := fun l hl => by rw [em, if_neg (by omega), if_neg (by omega), if_neg (by omega), if_neg (by omega), if_neg (by omega)]
  have t25 : m' 25 0 t = if m 27 0 b = nI 3 then -1 else if m 27 0 b = nI 2 then nI (b / 4) else m 25 0 t := by rw [em, if_pos ⟨rfl, rfl, rfl⟩]
  have b26 : m' 26 0 b = nI 2 := by rw [em, if_neg (by omega), if_neg (by omega), if_pos ⟨rfl, rfl, rfl⟩]
  have b32 : m' 32 0 b = nI (G + 1) := by rw [em, if_neg (by omega), if_pos ⟨rfl, rfl, rfl⟩, h.rg.gm, nI_add]
  have e20 : ∀ i, i ≠ 17 → i ≠ 19 → m' 20 0 i = m 20 0 i := fun i h1 h2 => by rw [em, if_neg (by omega), if_neg (by omega), if_neg (by omega), if_neg (by omega), if_neg (by omega)]
  have m17 : m' 20 0 17 = nI (G + 1) := by rw [em, if_neg (by omega), if_neg (by omega), if_neg (by omega), if_neg (by omega), if_pos (by decide), h.rg.gm, nI_add]
  have m19 : m' 20 0 19 = nI (b / 4) := by rw [em, if_neg (by omega), if_neg (by omega), if_neg (by omega), if_pos (by decide)]
  have c0 : ∀ l i, l ≠ b ∨ i ≠ 3 → c' 0 l i = c 0 l i := fun l i hl => by rw [ec, if_neg (by omega), if_neg (by omega), if_neg (by omega), if_neg (by omega), if_neg (by omega), if_neg (by omega)]
  have b3 : c' 0 b 3 = nI 2 := by rw [ec, if_neg (by omega), if_neg (by omega), if_neg (by omega), if_neg (by omega), if_pos ⟨rfl, rfl, rfl⟩]
  have co : ∀ r, r ≠ 0 → r ≠ 2 → r ≠ 3 → r ≠ 5 → ∀ k i, c' r k i = c r k i := fun r h1 h2 h3 h4 k i => by rw [ec, if_neg (by omega), if_neg (by omega), if_neg (by omega), if_neg (by omega), if_neg (by omega), if_neg (by omega)]
  have c5 : ∀ i, i ≠ 8 → c' 5 0 i = c 5 0 i := fun i hi => by rw [ec, if_neg (by omega), if_neg (by omega), if_neg (by omega), if_neg (by omega), if_neg (by omega), if_neg (by omega)]
  have c58 : c' 5 0 8 = nI (b / 4) := by rw [ec, if_neg (by omega), if_neg (by omega), if_neg (by omega), if_neg (by omega), if_neg (by omega), if_pos (by decide)]
  have c2u : ∀ u i, u ≠ t → c' 2 u i = c 2 u i := fun u i hu => by rw [ec, if_neg (by omega), if_neg (by omega), if_neg (by omega), if_neg (by omega), if_neg (by omega), if_neg (by omega)]
  have c3u : ∀ u i, u ≠ t ∨ i ≠ mt → c' 3 u i = c 3 u i := fun u i hu => by rw [ec, if_neg (by omega), if_neg (by omega), if_neg (by omega), if_neg (by omega), if_neg (by omega), if_neg (by omega)]
  have c3t : c' 3 t mt = nI b := by rw [ec, if_neg (by omega), if_neg (by omega), if_neg (by omega), if_pos ⟨rfl, rfl, rfl⟩]
  have c2t1 : c' 2 t 1 = nI (mt + 1) := by rw [ec, if_neg (by omega), if_pos ⟨rfl, rfl, rfl⟩]
  have c2t2 : c' 2 t 2 = c 2 t 2 - nI 1 := by rw [ec, if_neg (by omega), if_neg (by omega), if_pos ⟨rfl, rfl, rfl⟩]
  have c2t3 : c' 2 t 3 = if c 0 b 4 = nI 3 then -1 else if c 0 b 4 = nI 2 then nI (b / 4) else c 2 t 3 := by rw [ec, if_pos ⟨rfl, rfl, rfl⟩]
  have c2t4 : c' 2 t 4 = c 2 t 4 := by rw [ec, if_neg (by omega), if_neg (by omega), if_neg (by omega), if_neg (by omega), if_neg (by omega), if_neg (by omega)]
  have c11 : c' 11 = c 11 := by funext k i; exact co 11 (by decide) (by decide) (by decide) (by decide) k i
  have c12 : c' 12 = c 12 := by funext k i; exact co 12 (by decide) (by decide) (by decide) (by decide) k i
  have en : xf_n c' = xf_n c := by unfold xf_n; rw [c11]
  have eg : xf_g c' = xf_g c := by unfold xf_g; rw [c11]
  have eN : xf_N c' = xf_N c := by unfold xf_N; rw [eg, c12]
  have hbq : ¬ mp_inq m (nI t) b := by
    rintro ⟨z, -⟩
    exact n12 (hk.ms.symm.trans z)
  have hbq' : mp_inq m' (nI t) b := ⟨b26, by rw [b32]; exact nI_lt (a := 0) (by omega) (by omega), by rw [eo 28 (by decide) (by decide) (by decide) (by decide)]; exact hdv⟩
  have hio : ∀ u l, l ≠ b → (mp_inq m' (nI u) l ↔ mp_inq m (nI u) l) := by
    intro u l hl
    unfold mp_inq
    rw [e26 l hl, e32 l hl, eo 28 (by decide) (by decide) (by decide) (by decide)]
  have hgo : ∀ u l, l ≠ b → (mp_gr m' u l ↔ mp_gr m u l) := by
    intro u l hl
    unfold mp_gr
    rw [e26 l hl, eo 28 (by decide) (by decide) (by decide) (by decide)]
  have hcq : cN (mp_inq m' (nI t)) 16 = cN (mp_inq m (nI t)) 16 + 1 := cN_add hbq hbq' hb (fun l _ hne => hio t l hne)
  have hcg : cN (mp_gr m' t) 16 = cN (mp_gr m t) 16 + 1 := cN_add (k0 := b) (fun z => n12 (hk.ms.symm.trans z.1)) ⟨b26, by rw [eo 28 (by decide) (by decide) (by decide) (by decide)]; exact hdv⟩ hb (fun l _ hne => hgo t l hne)
  have hu : ∀ l, l < 16 → (mp_uns m' l ↔ mp_uns m l) := by
    intro l hl
    unfold mp_uns
    by_cases e9 : l = b
    · rw [e9, b26, b32, hk.ms]
      constructor
      · intro _; exact Or.inl rfl
      · intro _; exact Or.inr ⟨rfl, nI_lt (a := 0) (by omega) (by omega)⟩
    · rw [e26 l e9, e32 l e9]
  refine ⟨fun l hl => ?_, fun u hu3 => ?_, ?_⟩
  · by_cases e9 : l = b
    · subst e9
      obtain ⟨a1, a2, a3, a4, a5, a6, a7, a8, a9, a10, a11, a12, a13, a14, a15, a16, a17, a18, a19, a20, a21, a22, a23, a24, a25, a26, a27, a28, a29, a30⟩ := hk
      obtain ⟨x1, x2, x3⟩ := a28 rfl
      refine ⟨2, d, w, n, q, o, G + 1, a, r, ?_⟩
      refine ⟨by rw [c0 _ _ (by omega)]; exact a1, by rw [c0 _ _ (by omega)]; exact a2, b3, b26, by omega, by rw [c0 _ _ (by omega)]; exact a6, by rw [eo _ (by decide) (by decide) (by decide) (by decide)]; exact a7, a8, by rw [c0 _ _ (by omega)]; exact a9, by rw [eo _ (by decide) (by decide) (by decide) (by decide)]; exact a10, a11, by rw [c0 _ _ (by omega)]; exact a12, by rw [eo _ (by decide) (by decide) (by decide) (by decide)]; exact a13, a14, by rw [c0 _ _ (by omega)]; exact a15, a16, by rw [eo _ (by decide) (by decide) (by decide) (by decide)]; exact a17, by rw [c0 _ _ (by omega)]; exact a18, a19, fun _ => by rw [eo _ (by decide) (by decide) (by decide) (by decide)]; exact a20 (by decide), b32, Nat.le_refl _, by rw [c0 _ _ (by omega)]; exact a23, a24, by rw [c0 _ _ (by omega)]; exact a25, by omega, ?_, by omega, ?_, by omega⟩
      · intro _
        refine ⟨hd, by omega, hq, by omega, Or.inl ⟨x1, by omega, x2, ?_⟩⟩
        rw [eo _ (by decide) (by decide) (by decide) (by decide)]
        exact a26 (by decide)
      · intro _ z2 j hj
        rw [co 1 (by decide) (by decide) (by decide) (by decide), eo 33 (by decide) (by decide) (by decide) (by decide)]
        exact a29 (Or.inl rfl) z2 j hj
    · obtain ⟨s1, d1, w1, n1, q1, o1, p1, b1, r1, hk'⟩ := h.rk l hl
      exact ⟨s1, d1, w1, n1, q1, o1, p1, b1, r1, RK_congr (c := c) (m := m) (fun i => c0 l i (by omega)) (fun j _ => co 1 (by decide) (by decide) (by decide) (by decide) _ _) (e26 l e9) (eo _ (by decide) (by decide) (by decide) (by decide) _ _) (eo _ (by decide) (by decide) (by decide) (by decide) _ _) (eo _ (by decide) (by decide) (by decide) (by decide) _ _) (eo _ (by decide) (by decide) (by decide) (by decide) _ _) (eo _ (by decide) (by decide) (by decide) (by decide) _ _) (e32 l e9) (eo _ (by decide) (by decide) (by decide) (by decide) _ _) (fun _ _ => eo _ (by decide) (by decide) (by decide) (by decide) _ _) (fun _ _ => eo _ (by decide) (by decide) (by decide) (by decide) _ _) (Nat.le_refl _) (Nat.le_refl _) (by omega) hk'⟩
  · by_cases hut : u = t
    · subst hut
      obtain ⟨a1, a2, a3, a4, a5, a6, a7, a8, a9, a10, a11⟩ := htt
      have hne : ∀ j, j < mt → ∀ l, l < 16 → c 3 u j = nI l → l ≠ b := by
        intro j hj l hl e1 z
        obtain ⟨l', hl', e', hq'⟩ := a9 j hj
        have := nI_inj (by omega) (by omega) (e1.symm.trans e')
        subst this
        rw [z] at hq'
        exact hbq hq'
      refine ⟨mt + 1, c2t1, by omega, by omega, ?_, ?_, ?_, by rw [c2t4, eo _ (by decide) (by decide) (by decide) (by decide)]; exact a7, by rw [eo _ (by decide) (by decide) (by decide) (by decide)]; exact a8, ?_, ?_, ?_⟩
      · rw [c2t2, a4, pk_sub (by omega), hcg]
        congr 1
      · rw [c2t3, t25, hk.cd, hk.md, a5]
      · rw [t25]
        by_cases z3 : m 27 0 b = nI 3
        · rw [if_pos z3]; exact Or.inl rfl
        · rw [if_neg z3]
          by_cases z2 : m 27 0 b = nI 2
          · rw [if_pos z2]; exact Or.inr ⟨b / 4, by omega, rfl⟩
          · rw [if_neg z2]; exact a6
      · intro j hj
        by_cases hjm : j = mt
        · rw [hjm]
          exact ⟨b, hb, c3t, hbq'⟩
        · obtain ⟨l, hl, e1, hq'⟩ := a9 j (by omega)
          have hlb := hne j (by omega) l hl e1
          exact ⟨l, hl, by rw [c3u _ _ (by omega)]; exact e1, (hio u l hlb).mpr hq'⟩
      · intro i j k1 l hij hj hk1 hl e1 e2
        rw [c3u _ _ (by omega)] at e1
        have hkb := hne i (by omega) k1 hk1 e1
        rw [e32 k1 hkb]
        by_cases hjm : j = mt
        · subst hjm
          rw [c3t] at e2
          have := nI_inj (by omega) (by omega) e2
          subst this
          rw [b32]
          obtain ⟨s1, d1, w1, n1, q1, o1, p1, b1, r1, hk'⟩ := h.rk k1 hk1
          rw [hk'.mp]
          have := hk'.pG
          exact nI_lt (by omega) (by omega)
        · rw [c3u _ _ (by omega)] at e2
          have hlb := hne j (by omega) l hl e2
          rw [e32 l hlb]
          exact a10 i j k1 l hij (by omega) hk1 hl e1 e2
      · intro l hl hq'
        by_cases hlb : l = b
        · rw [hlb]
          exact ⟨mt, by omega, c3t⟩
        · obtain ⟨j, hj, e1⟩ := a11 l hl ((hio u l hlb).mp hq')
          exact ⟨j, by omega, by rw [c3u _ _ (by omega)]; exact e1⟩
    · obtain ⟨mu, hu'⟩ := h.rt u hu3
      have hbu : ∀ m1 : xMem, m1 28 0 b = m 28 0 b → ¬ m1 28 0 b / nI 16 = nI u := by
        intro m1 e1
        rw [e1, hdv, nI_eq (by omega) (by omega)]
        omega
      have f28 : m' 28 0 b = m 28 0 b := eo 28 (by decide) (by decide) (by decide) (by decide) _ _
      refine ⟨mu, RT_congr (c := c) (m := m) (fun i => c2u u i hut) (fun i => c3u u i (by omega)) (e25 u hut) (eo _ (by decide) (by decide) (by decide) (by decide) _ _) (fun l hl => ?_) (fun l hl => ?_) (fun l hl hq' => e32 l (fun z => ?_)) hu'⟩
      · by_cases hlb : l = b
        · rw [hlb]
          exact ⟨fun z => absurd z.2.2 (hbu m' f28), fun z => absurd z.2.2 (hbu m rfl)⟩
        · exact hio u l hlb
      · by_cases hlb : l = b
        · rw [hlb]
          exact ⟨fun z => absurd z.2 (hbu m' f28), fun z => absurd z.2 (hbu m rfl)⟩
        · exact hgo u l hlb
      · rw [z] at hq'
        exact hbu m rfl hq'.2.2
  · obtain ⟨a1, a2, a3, a4, a5, a6, a7, a8, a8e, a9, a10, a11, a12, a13, a14, a15, a16, a17, a18, a19, a20⟩ := h.rg
    refine ⟨by rw [co 6 (by decide) (by decide) (by decide) (by decide)]; exact a1, by rw [co 7 (by decide) (by decide) (by decide) (by decide)]; exact a2, by rw [c5 _ (by decide)]; exact a3, by rw [e20 _ (by decide) (by decide)]; exact a4, by rw [c5 _ (by decide)]; exact a5, by rw [e20 _ (by decide) (by decide)]; exact a6, m17, by omega, a8e, ⟨b / 4, by omega, c58, m19⟩, ?_, ?_, ?_, ?_, ?_, ?_, ?_, ?_, ?_, a19, a20⟩
    · obtain ⟨g, h1, h2, h3⟩ := a10
      exact ⟨g, h1, by rw [c5 _ (by decide)]; exact h2, by rw [e20 _ (by decide) (by decide)]; exact h3⟩
    · intro i hi
      rw [co 8 (by decide) (by decide) (by decide) (by decide), eo _ (by decide) (by decide) (by decide) (by decide)]
      exact a11 i hi
    · intro b j hb hj
      rw [co 4 (by decide) (by decide) (by decide) (by decide), eo _ (by decide) (by decide) (by decide) (by decide)]
      exact a12 b j hb hj
    · intro b hb
      obtain ⟨v, h1, h2, h3⟩ := a13 b hb
      exact ⟨v, h1, by rw [co 10 (by decide) (by decide) (by decide) (by decide)]; exact h2, by rw [eo _ (by decide) (by decide) (by decide) (by decide)]; exact h3⟩
    · rw [en, eg, eN]
      exact xS_congr c11 c12 a14
    · rw [e20 _ (by decide) (by decide), en]
      exact a15
    · intro j i hj hi
      rw [en] at hj
      rw [co 13 (by decide) (by decide) (by decide) (by decide), eo _ (by decide) (by decide) (by decide) (by decide)]
      exact a16 j i hj hi
    · rw [en, cN_congr hu]
      exact a17
    · have hst : ∀ l, ¬ m' 26 0 l = nI 0 → ¬ m 26 0 l = nI 0 := by
        intro l hl
        by_cases e9 : l = b
        · rw [e9, hk.ms]; exact n10
        · rw [e26 l e9] at hl; exact hl
      intro k1 l hk1 hl hkl h1 h2
      rw [c0 _ _ (by omega), c0 _ _ (by omega)]
      exact a18 k1 l hk1 hl hkl (hst k1 h1) (hst l h2)
