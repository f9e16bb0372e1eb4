/-! The end of a cycle, and the word that comes back. -/
theorem sim_age {c m : xMem} {I T G : Nat} (hT : T + 1 ≤ 51200) (h : Rel c m I T 1 G) : Rel (xf_age c 16) (xu3 (mf_age m 16) 20 0 20 (m 20 0 20 + nI 1)) I (T + 1) 0 G := by
  generalize hc' : xf_age c 16 = c'
  generalize hm' : xu3 (mf_age m 16) 20 0 20 (m 20 0 20 + nI 1) = m'
  have ec : ∀ r k i, c' r k i = if r = 0 ∧ k < 16 ∧ i = 8 ∧ c 0 k 3 = nI 1 then c 0 k 8 + nI 1 else c r k i := fun r k i => by rw [← hc']; rfl
  have em : ∀ r k i, m' r k i = if r = 20 ∧ k = 0 ∧ i = 20 then m 20 0 20 + nI 1 else if r = 30 ∧ k = 0 ∧ i < 16 ∧ m 26 0 i = nI 1 then m 30 0 i + nI 1 else m r k i := fun r k i => by rw [← hm', xu3_at]; rfl
  have eo : ∀ r, r ≠ 20 → r ≠ 30 → ∀ k i, m' r k i = m r k i := fun r h1 h2 k i => by rw [em, if_neg (by omega), if_neg (by omega)]
  have e20 : ∀ i, i ≠ 20 → m' 20 0 i = m 20 0 i := fun i hi => by rw [em, if_neg (by omega), if_neg (by omega)]
  have co : ∀ r, r ≠ 0 → ∀ k i, c' r k i = c r k i := fun r h1 k i => by rw [ec, if_neg (by omega)]
  have c0 : ∀ k i, i ≠ 8 → c' 0 k i = c 0 k i := fun k i hi => by rw [ec, if_neg (by omega)]
  have c11 : c' 11 = c 11 := by funext k i; exact co 11 (by decide) k i
  have c12 : c' 12 = c 12 := by funext k i; exact co 12 (by decide) k i
  have en : xf_n c' = xf_n c := by unfold xf_n; rw [c11]
  have eg : xf_g c' = xf_g c := by unfold xf_g; rw [c11]
  have eN : xf_N c' = xf_N c := by unfold xf_N; rw [eg, c12]
  have ei : ∀ t, mp_inq m' (nI t) = mp_inq m (nI t) := by
    intro t; funext k; unfold mp_inq
    rw [eo 26 (by decide) (by decide), eo 28 (by decide) (by decide), eo 32 (by decide) (by decide)]
  have er : ∀ t, mp_gr m' t = mp_gr m t := by
    intro t; funext k; unfold mp_gr
    rw [eo 26 (by decide) (by decide), eo 28 (by decide) (by decide)]
  have eu : mp_uns m' = mp_uns m := by
    funext k; unfold mp_uns
    rw [eo 26 (by decide) (by decide), eo 32 (by decide) (by decide)]
  refine ⟨fun k hk => ?_, fun t ht => ?_, ?_⟩
  · obtain ⟨s, d, w, n, q, o, p, b, r, hk'⟩ := h.rk k hk
    have z4 := hk'.s4
    obtain ⟨a1, a2, a3, a4, a5, a6, a7, a8, a9, a10, a11, a12, a13, a14, a15, a16, a17, a18, a19, a20, a21, a22, a23, a24, a25, a26, a27, a28, a29, a30⟩ := hk'
    by_cases e9 : s = 1
    · subst e9
      refine ⟨1, d, w + 1, n, q, o, p, b, r, ?_⟩
      refine ⟨by rw [c0 _ _ (by decide)]; exact a1, by rw [c0 _ _ (by decide)]; exact a2, by rw [c0 _ _ (by decide)]; exact a3, by rw [eo _ (by decide) (by decide)]; exact a4, a5, by rw [c0 _ _ (by decide)]; exact a6, by rw [eo _ (by decide) (by decide)]; exact a7, a8, by rw [ec, if_pos ⟨rfl, hk, rfl, a3⟩, a9, nI_add], by rw [em, if_neg (by omega), if_pos ⟨rfl, rfl, hk, a4⟩, a10, nI_add], by omega, by rw [c0 _ _ (by decide)]; exact a12, by rw [eo _ (by decide) (by decide)]; exact a13, a14, by rw [c0 _ _ (by decide)]; exact a15, a16, by rw [eo _ (by decide) (by decide)]; exact a17, by rw [c0 _ _ (by decide)]; exact a18, a19, by rw [eo _ (by decide) (by decide)]; exact a20, by rw [eo _ (by decide) (by decide)]; exact a21, a22, by rw [c0 _ _ (by decide)]; exact a23, a24, by rw [c0 _ _ (by decide)]; exact a25, by rw [eo _ (by decide) (by decide)]; exact a26, by rw [eo _ (by decide) (by decide)]; exact a27, a28, ?_, ?_⟩
      · intro z1 z2 j hj
        rw [co 1 (by decide), eo 33 (by decide) (by decide)]
        exact a29 z1 z2 j hj
      · intro z1 z2 j hj
        rw [co 1 (by decide), eo 34 (by decide) (by decide)]
        exact a30 z1 z2 j hj
    · have n1 : ¬ c 0 k 3 = nI 1 := fun z => e9 (nI_inj (by omega) (by omega) (a3.symm.trans z))
      have n2 : ¬ m 26 0 k = nI 1 := fun z => e9 (nI_inj (by omega) (by omega) (a4.symm.trans z))
      refine ⟨s, d, w, n, q, o, p, b, r, RK_congr (c := c) (m := m) (fun i => ?_) (fun j _ => co 1 (by decide) _ _) (eo _ (by decide) (by decide) _ _) (eo _ (by decide) (by decide) _ _) (eo _ (by decide) (by decide) _ _) (eo _ (by decide) (by decide) _ _) ?_ (eo _ (by decide) (by decide) _ _) (eo _ (by decide) (by decide) _ _) (eo _ (by decide) (by decide) _ _) (fun _ _ => eo _ (by decide) (by decide) _ _) (fun _ _ => eo _ (by decide) (by decide) _ _) (Nat.le_refl _) (by omega) (Nat.le_refl _) ⟨a1, a2, a3, a4, a5, a6, a7, a8, a9, a10, a11, a12, a13, a14, a15, a16, a17, a18, a19, a20, a21, a22, a23, a24, a25, a26, a27, a28, a29, a30⟩⟩
      · rw [ec, if_neg (fun z => n1 z.2.2.2)]
      · rw [em, if_neg (by omega), if_neg (fun z => n2 z.2.2.2)]
  · obtain ⟨mt, ht'⟩ := h.rt t ht
    exact ⟨mt, RT_congr (c := c) (m := m) (fun i => co 2 (by decide) _ _) (fun i => co 3 (by decide) _ _) (eo _ (by decide) (by decide) _ _) (eo _ (by decide) (by decide) _ _) (fun k _ => by rw [ei]) (fun k _ => by rw [er]) (fun k _ _ => eo _ (by decide) (by decide) _ _) ht'⟩
  · obtain ⟨a1, a2, a3, a4, a5, a6, a7, a8, a8e, a9, a10, a11, a12, a13, a14, a15, a16, a17, a18, a19, a20⟩ := h.rg
    refine ⟨by rw [co 6 (by decide)]; exact a1, by rw [co 7 (by decide)]; exact a2, by rw [co 5 (by decide)]; exact a3, by rw [em, if_pos (by decide), a4, nI_add], by rw [co 5 (by decide)]; exact a5, by rw [e20 _ (by decide)]; exact a6, by rw [e20 _ (by decide)]; exact a7, by omega, by omega, ?_, ?_, ?_, ?_, ?_, ?_, ?_, ?_, ?_, ?_, a19, hT⟩
    · obtain ⟨g, h1, h2, h3⟩ := a9
      exact ⟨g, h1, by rw [co 5 (by decide)]; exact h2, by rw [e20 _ (by decide)]; exact h3⟩
    · obtain ⟨g, h1, h2, h3⟩ := a10
      exact ⟨g, h1, by rw [co 5 (by decide)]; exact h2, by rw [e20 _ (by decide)]; exact h3⟩
    · intro i hi
      rw [co 8 (by decide), eo _ (by decide) (by decide)]
      exact a11 i hi
    · intro b j hb hj
      rw [co 4 (by decide), eo _ (by decide) (by decide)]
      exact a12 b j hb hj
    · intro b hb
      obtain ⟨v, h1, h2, h3⟩ := a13 b hb
      exact ⟨v, h1, by rw [co 10 (by decide)]; exact h2, by rw [eo _ (by decide) (by decide)]; exact h3⟩
    · rw [en, eg, eN]
      exact xS_congr c11 c12 a14
    · rw [e20 _ (by decide), en]
      exact a15
    · intro j i hj hi
      rw [en] at hj
      rw [co 13 (by decide), eo _ (by decide) (by decide)]
      exact a16 j i hj hi
    · rw [en, eu]
      exact a17
    · intro k l hk hl hkl
      rw [eo 26 (by decide) (by decide), eo 26 (by decide) (by decide), c0 _ _ (by decide), c0 _ _ (by decide)]
      exact a18 k l hk hl hkl
/-- whose word comes back -/
theorem ret_iff {c m : xMem} {I T e G g i : Nat} (h : Rel c m I T e G) : xp_ret c g i ↔ 0 < m 35 0 ((g + i) % 16) := by
  obtain ⟨s, d, w, n, q, o, p, a, r, hk⟩ := h.rk ((g + i) % 16) (by omega)
  unfold xp_ret
  rw [hk.cs, hk.ca]
  have z4 := hk.s4
  have z1 := hk.a1
  have zn := hk.n4
  by_cases e9 : s = 2
  · obtain ⟨-, -, -, h1, h2⟩ := hk.gr e9
    rcases h2 with ⟨h2, h3, h4, h5⟩ | ⟨h2, h3, h4, h5, h6⟩
    · rw [h5, h2]
      simp [nI_0]
    · rw [h6, h2, e9]
      constructor
      · intro _
        exact nI_lt (a := 0) (by omega) (by omega)
      · intro _
        exact ⟨rfl, by decide⟩
  · rw [hk.le e9]
    constructor
    · rintro ⟨z, -⟩
      exact absurd (nI_inj (by omega) (by omega) z) e9
    · intro z
      exact absurd z (by decide)
theorem fb_eq {m : xMem} {g : Nat} {P : Nat → Prop} (hP : ∀ i, P i ↔ 0 < m 35 0 ((g + i) % 16)) : ∀ n, n ≤ 16 → mf_fb m g n = (xf_fst P (17 - n) n).map (fun i => (g + i) % 16) := by
  intro n
  induction n with
  | zero => intro _; rfl
  | succ n ih =>
    intro hn
    show xif _ _ _ = _
    rw [show 17 - (n + 1) = 16 - n by omega]
    by_cases hp : P (16 - n)
    · rw [xf_fst_t hp, xif_t ((hP _).mp hp)]
      rfl
    · rw [xf_fst_f hp, xif_f (fun z => hp ((hP _).mpr z)), ih (by omega), show 16 - n + 1 = 17 - n by omega]
theorem back_c {c : xMem} {k r b i : Nat} : xf_back c k r b i = if c 0 k 10 + nI 1 = c 0 k 6 ∧ r = 2 ∧ b = xf_tgt c k ∧ i = 2 then c 2 (xf_tgt c k) 2 + nI 1 else if c 0 k 10 + nI 1 = c 0 k 6 ∧ r = 0 ∧ b = k ∧ i = 3 then nI 3 else if r = 0 ∧ b = k ∧ i = 10 then c 0 k 10 + nI 1 else if r = 5 ∧ b = 0 ∧ i = 9 then nI k else c r b i := by
  unfold xf_back xf_finish
  by_cases h : c 0 k 10 + nI 1 = c 0 k 6
  · rw [xif_t h]
    simp only [xu3_at, h, true_and]
    grind
  · rw [xif_f h]
    simp only [xu3_at, h, false_and, if_false]
theorem back_m {m : xMem} {k r b i : Nat} : mf_back m k r b i = if r = 26 ∧ b = 0 ∧ i = k then xif (m 35 0 k - nI 1 = 0) (nI 3) (m 26 0 k) else if r = 35 ∧ b = 0 ∧ i = k then m 35 0 k - nI 1 else if r = 20 ∧ b = 0 ∧ i = 18 then nI k else m r b i := by
  unfold mf_back
  simp only [xu3_at]
theorem sim_back {c m : xMem} {I T e G k : Nat} (hk16 : k < 16) (hl : 0 < m 35 0 k) (h : Rel c m I T e G) : Rel (xf_back c k) (mf_back m k) I T e G := by
  obtain ⟨s, d, w, n, q, o, p, a, r, hk⟩ := h.rk k hk16
  have hs : s = 2 := Classical.byContradiction fun z => by rw [hk.le z] at hl; exact absurd hl (by decide)
  subst hs
  obtain ⟨gd, gq, gq48, gn, g2⟩ := hk.gr rfl
  have g2 : a = 1 ∧ p = 0 ∧ (d = 0 ∨ d = 2) ∧ r < n ∧ m 35 0 k = nI (n - r) := by
    rcases g2 with ⟨-, -, -, g5⟩ | g2
    · rw [g5] at hl; exact absurd hl (by decide)
    · exact g2
  obtain ⟨ga, gp, gdd, grn, gl⟩ := g2
  subst ga
  subst gp
  have zn := hk.n4
  have htg : xf_tgt c k = q / 16 := xf_tgt_of hk.cq hk.q64
  have hfin : (c 0 k 10 + nI 1 = c 0 k 6) ↔ r + 1 = n := by rw [hk.cr, hk.cn, nI_add, nI_eq (by omega) (by omega)]
  have hfin2 : (m 35 0 k - nI 1 = 0) ↔ r + 1 = n := by
    rw [gl, pk_sub (by omega)]
    rw [show (0 : Int32) = nI 0 from nI_0.symm, nI_eq (by omega) (by omega)]
    omega
  have n32 : ¬ nI 3 = nI 2 := by decide
  have n31 : ¬ nI 3 = nI 1 := by decide
  have n21 : ¬ nI 2 = nI 1 := by decide
  generalize hc' : xf_back c k = c'
  generalize hm' : mf_back m k = m'
  have ec := fun r' b i => @back_c c k r' b i
  have em := fun r' b i => @back_m m k r' b i
  rw [hc', htg] at ec
  rw [hm'] at em
  simp only [hfin] at ec
  have eo : ∀ r', r' ≠ 20 → r' ≠ 26 → r' ≠ 35 → ∀ b i, m' r' b i = m r' b i := fun r' h1 h2 h3 b i => by rw [em, if_neg (by omega), if_neg (by omega), if_neg (by omega)]
  have e26 : ∀ l, l ≠ k → m' 26 0 l = m 26 0 l := fun l hl => by rw [em, if_neg (by omega), if_neg (by omega), if_neg (by omega)]
  have e35 : ∀ l, l ≠ k → m' 35 0 l = m 35 0 l := fun l hl => by rw [em, if_neg (by omega), if_neg (by omega), if_neg (by omega)]
  have e20 : ∀ i, i ≠ 18 → m' 20 0 i = m 20 0 i := fun i hi => by rw [em, if_neg (by omega), if_neg (by omega), if_neg (by omega)]
  have m18 : m' 20 0 18 = nI k := by rw [em, if_neg (by omega), if_neg (by omega), if_pos (by decide)]
  have k35 : m' 35 0 k = nI (n - (r + 1)) := by
    rw [em, if_neg (by omega), if_pos ⟨rfl, rfl, rfl⟩, gl, pk_sub (by omega)]
    congr 1
  have c0 : ∀ l i, l ≠ k → c' 0 l i = c 0 l i := fun l i hl => by rw [ec, if_neg (by omega), if_neg (by omega), if_neg (by omega), if_neg (by omega)]
  have ck : ∀ i, i ≠ 3 → i ≠ 10 → c' 0 k i = c 0 k i := fun i h1 h2 => by rw [ec, if_neg (by omega), if_neg (by omega), if_neg (by omega), if_neg (by omega)]
  have ckr : c' 0 k 10 = nI (r + 1) := by rw [ec, if_neg (by omega), if_neg (by omega), if_pos (by omega), hk.cr, nI_add]
  have co : ∀ r', r' ≠ 0 → r' ≠ 2 → r' ≠ 5 → ∀ b i, c' r' b i = c r' b i := fun r' h1 h2 h3 b i => by rw [ec, if_neg (by omega), if_neg (by omega), if_neg (by omega), if_neg (by omega)]
  have c5 : ∀ i, i ≠ 9 → c' 5 0 i = c 5 0 i := fun i hi => by rw [ec, if_neg (by omega), if_neg (by omega), if_neg (by omega), if_neg (by omega)]
  have c59 : c' 5 0 9 = nI k := by rw [ec, if_neg (by omega), if_neg (by omega), if_neg (by omega), if_pos (by decide)]
  have c2 : ∀ t i, i ≠ 2 → c' 2 t i = c 2 t i := fun t i hi => by rw [ec, if_neg (by omega), if_neg (by omega), if_neg (by omega), if_neg (by omega)]
  have c11 : c' 11 = c 11 := by funext b i; exact co 11 (by decide) (by decide) (by decide) b i
  have c12 : c' 12 = c 12 := by funext b i; exact co 12 (by decide) (by decide) (by decide) b i
  have en : xf_n c' = xf_n c := by unfold xf_n; rw [c11]
  have eg : xf_g c' = xf_g c := by unfold xf_g; rw [c11]
  have eN : xf_N c' = xf_N c := by unfold xf_N; rw [eg, c12]
  -- the state of k afterwards
  have kst : ∃ s', (s' = if r + 1 = n then 3 else 2) ∧ c' 0 k 3 = nI s' ∧ m' 26 0 k = nI s' := by
    by_cases hf : r + 1 = n
    · refine ⟨3, by rw [if_pos hf], ?_, ?_⟩
      · rw [ec, if_neg (by omega), if_pos ⟨hf, rfl, rfl, rfl⟩]
      · rw [em, if_pos ⟨rfl, rfl, rfl⟩, xif_t (hfin2.mpr hf)]
    · refine ⟨2, by rw [if_neg hf], ?_, ?_⟩
      · rw [ec, if_neg (by omega), if_neg (fun z => hf z.1), if_neg (by omega), if_neg (by omega)]; exact hk.cs
      · rw [em, if_pos ⟨rfl, rfl, rfl⟩, xif_f (fun z => hf (hfin2.mp z))]; exact hk.ms
  obtain ⟨s', es', cs', ms'⟩ := kst
  have hp0 : ¬ 0 < m 32 0 k := by rw [hk.mp]; decide
  have hi : ∀ t, ∀ l, l < 16 → (mp_inq m' (nI t) l ↔ mp_inq m (nI t) l) := by
    intro t l hl
    unfold mp_inq
    rw [eo 32 (by decide) (by decide) (by decide), eo 28 (by decide) (by decide) (by decide)]
    by_cases e9 : l = k
    · rw [e9]
      simp only [hp0, false_and, and_false]
    · rw [e26 l e9]
  have hu : ∀ l, l < 16 → (mp_uns m' l ↔ mp_uns m l) := by
    intro l hl
    unfold mp_uns
    rw [eo 32 (by decide) (by decide) (by decide)]
    by_cases e9 : l = k
    · rw [e9, ms', hk.ms]
      simp only [hp0, and_false, or_false, n21, iff_false]
      intro z
      have := nI_inj (by split at es' <;> omega) (by omega) z
      split at es' <;> omega
    · rw [e26 l e9]
  refine ⟨fun l hl => ?_, fun t ht => ?_, ?_⟩
  · by_cases e9 : l = k
    · subst e9
      obtain ⟨a1, a2, a3, a4, a5, a6, a7, a8, a9, a10, a11, a12, a13, a14, a15, a16, a17, a18, a19, a20, a21, a22, a23, a24, a25, a26, a27, a28, a29, a30⟩ := hk
      refine ⟨s', d, w, n, q, o, 0, 1, r + 1, ?_⟩
      refine ⟨by rw [ck _ (by decide) (by decide)]; exact a1, by rw [ck _ (by decide) (by decide)]; exact a2, cs', ms', by split at es' <;> omega, by rw [ck _ (by decide) (by decide)]; exact a6, by rw [eo _ (by decide) (by decide) (by decide)]; exact a7, a8, by rw [ck _ (by decide) (by decide)]; exact a9, by rw [eo _ (by decide) (by decide) (by decide)]; exact a10, a11, by rw [ck _ (by decide) (by decide)]; exact a12, by rw [eo _ (by decide) (by decide) (by decide)]; exact a13, a14, by rw [ck _ (by decide) (by decide)]; exact a15, a16, by rw [eo _ (by decide) (by decide) (by decide)]; exact a17, by rw [ck _ (by decide) (by decide)]; exact a18, a19, fun _ => by rw [eo _ (by decide) (by decide) (by decide)]; exact a20 (by decide), by rw [eo _ (by decide) (by decide) (by decide)]; exact a21, a22, by rw [ck _ (by decide) (by decide)]; exact a23, a24, ckr, ?_, ?_, by split at es' <;> omega, by split at es' <;> omega, ?_⟩
      · intro z
        rw [k35]
        congr 1
        split at es' <;> omega
      · intro z
        refine ⟨gd, gq, gq48, gn, Or.inr ⟨rfl, rfl, gdd, ?_, k35⟩⟩
        split at es' <;> omega
      · intro _ z2 j hj
        rw [co 1 (by decide) (by decide) (by decide), eo 34 (by decide) (by decide) (by decide)]
        exact a30 (Or.inr ⟨rfl, rfl⟩) z2 j hj
    · obtain ⟨s1, d1, w1, n1, q1, o1, p1, b1, r1, hk'⟩ := h.rk l hl
      exact ⟨s1, d1, w1, n1, q1, o1, p1, b1, r1, RK_congr (c := c) (m := m) (fun i => c0 l i e9) (fun j _ => co 1 (by decide) (by decide) (by decide) _ _) (e26 l e9) (eo _ (by decide) (by decide) (by decide) _ _) (eo _ (by decide) (by decide) (by decide) _ _) (eo _ (by decide) (by decide) (by decide) _ _) (eo _ (by decide) (by decide) (by decide) _ _) (eo _ (by decide) (by decide) (by decide) _ _) (eo _ (by decide) (by decide) (by decide) _ _) (e35 l e9) (fun _ _ => eo _ (by decide) (by decide) (by decide) _ _) (fun _ _ => eo _ (by decide) (by decide) (by decide) _ _) (Nat.le_refl _) (Nat.le_refl _) (Nat.le_refl _) hk'⟩
  · obtain ⟨mt, ht'⟩ := h.rt t ht
    by_cases hx : r + 1 = n ∧ t = q / 16
    · obtain ⟨hf, rfl⟩ := hx
      have hm28 : m 28 0 k / nI 16 = nI (q / 16) := by rw [hk.mq (by omega)]; exact pk_div (by omega) (by decide) (by decide)
      have hgr : cN (mp_gr m (q / 16)) 16 = cN (mp_gr m' (q / 16)) 16 + 1 := by
        refine cN_add (k0 := k) ?_ ⟨hk.ms, hm28⟩ hk16 (fun l hl hne => ?_)
        · rintro ⟨z, -⟩
          rw [ms', es', if_pos hf] at z
          exact n32 z
        · unfold mp_gr
          rw [e26 l hne, eo 28 (by decide) (by decide) (by decide)]
      have ei := cN_congr (hi (q / 16))
      obtain ⟨a1, a2, a3, a4, a5, a6, a7, a8, a9, a10, a11⟩ := ht'
      refine ⟨mt, by rw [c2 _ _ (by decide)]; exact a1, by rw [ei]; exact a2, by omega, ?_, by rw [c2 _ _ (by decide), eo _ (by decide) (by decide) (by decide)]; exact a5, by rw [eo _ (by decide) (by decide) (by decide)]; exact a6, by rw [c2 _ _ (by decide), eo _ (by decide) (by decide) (by decide)]; exact a7, by rw [eo _ (by decide) (by decide) (by decide)]; exact a8, ?_, ?_, ?_⟩
      · rw [ec, if_pos ⟨hf, rfl, rfl, rfl⟩, a4, nI_add]
        congr 1
        omega
      · intro j hj
        obtain ⟨l, hl, e1, hq⟩ := a9 j hj
        exact ⟨l, hl, by rw [co 3 (by decide) (by decide) (by decide)]; exact e1, (hi _ l hl).mpr hq⟩
      · intro i j k1 l
        rw [co 3 (by decide) (by decide) (by decide), co 3 (by decide) (by decide) (by decide), eo 32 (by decide) (by decide) (by decide), eo 32 (by decide) (by decide) (by decide)]
        exact a10 i j k1 l
      · intro l hl hq
        obtain ⟨j, hj, e1⟩ := a11 l hl ((hi _ l hl).mp hq)
        exact ⟨j, hj, by rw [co 3 (by decide) (by decide) (by decide)]; exact e1⟩
    · have hg : ∀ l, l < 16 → (mp_gr m' t l ↔ mp_gr m t l) := by
        intro l hl
        unfold mp_gr
        rw [eo 28 (by decide) (by decide) (by decide)]
        by_cases e9 : l = k
        · rw [e9, ms', hk.ms]
          by_cases hf : r + 1 = n
          · have hm28 : ¬ m 28 0 k / nI 16 = nI t := by
              rw [hk.mq (by omega), pk_div (by omega) (by decide) (by decide), nI_eq (by omega) (by omega)]
              omega
            simp only [hm28, and_false]
          · rw [es', if_neg hf]
        · rw [e26 l e9]
      refine ⟨mt, RT_congr (c := c) (m := m) (fun i => ?_) (fun i => co 3 (by decide) (by decide) (by decide) _ _) (eo _ (by decide) (by decide) (by decide) _ _) (eo _ (by decide) (by decide) (by decide) _ _) (hi t) hg (fun l _ _ => eo _ (by decide) (by decide) (by decide) _ _) ht'⟩
      rw [ec, if_neg (fun z => hx ⟨z.1, z.2.2.1⟩), if_neg (by omega), if_neg (by omega), if_neg (by omega)]
  · obtain ⟨a1, a2, a3, a4, a5, a6, a7, a8, a8e, a9, a10, a11, a12, a13, a14, a15, a16, a17, a18, a19, a20⟩ := h.rg
    refine ⟨by rw [co 6 (by decide) (by decide) (by decide)]; exact a1, by rw [co 7 (by decide) (by decide) (by decide)]; exact a2, by rw [c5 _ (by decide)]; exact a3, by rw [e20 _ (by decide)]; exact a4, by rw [c5 _ (by decide)]; exact a5, by rw [e20 _ (by decide)]; exact a6, by rw [e20 _ (by decide)]; exact a7, a8, a8e, ?_, ⟨k, hk16, c59, m18⟩, ?_, ?_, ?_, ?_, ?_, ?_, ?_, ?_, a19, a20⟩
    · obtain ⟨g, h1, h2, h3⟩ := a9
      exact ⟨g, h1, by rw [c5 _ (by decide)]; exact h2, by rw [e20 _ (by decide)]; exact h3⟩
    · intro i hi
      rw [co 8 (by decide) (by decide) (by decide), eo _ (by decide) (by decide) (by decide)]
      exact a11 i hi
    · intro b j hb hj
      rw [co 4 (by decide) (by decide) (by decide), eo _ (by decide) (by decide) (by decide)]
      exact a12 b j hb hj
    · intro b hb
      obtain ⟨v, h1, h2, h3⟩ := a13 b hb
      exact ⟨v, h1, by rw [co 10 (by decide) (by decide) (by decide)]; exact h2, by rw [eo _ (by decide) (by decide) (by decide)]; exact h3⟩
    · rw [en, eg, eN]
      exact xS_congr c11 c12 a14
    · rw [e20 _ (by decide), en]
      exact a15
    · intro j i hj hi
      rw [en] at hj
      rw [co 13 (by decide) (by decide) (by decide), eo _ (by decide) (by decide) (by decide)]
      exact a16 j i hj hi
    · rw [en, cN_congr hu]
      exact a17
    · have hst : ∀ l, ¬ m' 26 0 l = nI 0 → ¬ m 26 0 l = nI 0 := by
        intro l hl
        by_cases e9 : l = k
        · rw [e9, hk.ms]; decide
        · rw [e26 l e9] at hl; exact hl
      have hod : ∀ l, c' 0 l 7 = c 0 l 7 := by
        intro l
        by_cases e9 : l = k
        · rw [e9]; exact ck 7 (by decide) (by decide)
        · exact c0 l 7 e9
      intro k1 l hk1 hl hkl h1 h2
      rw [hod, hod]
      exact a18 k1 l hk1 hl hkl (hst k1 h1) (hst l h2)
theorem sim_give {c m : xMem} {I T e G : Nat} (h : Rel c m I T e G) : Rel (xf_ret c (xN (c 5 0 9)) (xf_fst (xp_ret c (xN (c 5 0 9))) 1 16)) (mf_give m) I T e G := by
  obtain ⟨g, hg, hc, hm⟩ := h.rg.lr
  unfold mf_give
  rw [xN_of hc (by omega), xN_of hm (by omega), fb_eq (P := xp_ret c g) (fun i => ret_iff h) 16 (Nat.le_refl _)]
  cases hx : xf_fst (xp_ret c g) 1 16 with
  | none => exact h
  | some i =>
    obtain ⟨-, -, hp, -⟩ := xf_fst_some _ _ _ hx
    exact sim_back (by omega) ((ret_iff h).mp hp) h
