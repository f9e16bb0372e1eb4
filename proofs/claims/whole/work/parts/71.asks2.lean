/-! What the calls ask of both sides. -/
theorem xu3_r {σ : xMem} {r0 k i r : Nat} {v : Int32} (h : r ≠ r0) : xu3 σ r0 k i v r = σ r := by
  funext b j
  rw [xu3_at, if_neg (by omega)]
theorem xu2_r {σ : xMem} {r0 k r : Nat} {f : Nat → Int32} (h : r ≠ r0) : xw_u2 σ r0 k f r = σ r := by
  funext b j
  rw [xu2_at, if_neg (by omega)]
/-- a step of the class and then one of the reference, in one memory -/
theorem Rel_two {σ σ1 σ2 : xMem} {I T e G I' T' e' G' : Nat} (h1 : ∀ r, 20 ≤ r → r < 40 → σ1 r = σ r) (h2 : ∀ r, r < 20 → σ2 r = σ1 r) (hs : Rel σ σ1 I T e G → Rel σ1 σ2 I' T' e' G') (hR : Rel σ σ I T e G) : Rel σ2 σ2 I' T' e' G' :=
  Rel_congr h2 (fun _ _ _ => rfl) (hs (Rel_congr (fun _ _ => rfl) h1 hR))
theorem some_iff {c m : xMem} {I T e G : Nat} (h : Rel c m I T e G) (a : Nat) : xp_some c (nI a) ↔ ¬ mp_free m a := by
  obtain ⟨m0, h0⟩ := h.rt 0 (by decide)
  obtain ⟨m1, h1⟩ := h.rt 1 (by decide)
  obtain ⟨m2, h2⟩ := h.rt 2 (by decide)
  unfold xp_some mp_free
  rw [← h0.ho, ← h1.ho, ← h2.ho]
  constructor
  · rintro ⟨t, ht, z⟩ ⟨z0, z1, z2⟩
    rcases (show t = 0 ∨ t = 1 ∨ t = 2 by omega) with rfl | rfl | rfl
    · exact z0 z
    · exact z1 z
    · exact z2 z
  · intro z
    by_cases z0 : c 2 0 3 = nI a
    · exact ⟨0, by decide, z0⟩
    · by_cases z1 : c 2 1 3 = nI a
      · exact ⟨1, by decide, z1⟩
      · by_cases z2 : c 2 2 3 = nI a
        · exact ⟨2, by decide, z2⟩
        · exact absurd ⟨z0, z1, z2⟩ z
theorem wait_iff {c m : xMem} {I T e G a : Nat} (h : Rel c m I T e G) (ha : a < 4) (x : Int32) : xp_wait c a x ↔ mp_wait m a 4 x := by
  unfold xp_wait mp_wait
  have key : ∀ j, j < 4 → ((c 0 (4 * a + j) 3 = nI 1 ∧ c 0 (4 * a + j) 4 = x) ↔ (m 26 0 (4 * a + j) = nI 1 ∧ m 27 0 (4 * a + j) = x)) := by
    intro j hj
    obtain ⟨s, d, w, n, q, o, p, b, r, hk⟩ := h.rk (4 * a + j) (by omega)
    rw [hk.cs, hk.cd, hk.ms, hk.md]
  constructor
  · rintro ⟨j, hj, z⟩
    exact ⟨j, hj, (key j hj).mp z⟩
  · rintro ⟨j, hj, z⟩
    exact ⟨j, hj, (key j hj).mpr z⟩
theorem free_iff {c m : xMem} {I T e G k : Nat} (h : Rel c m I T e G) (hk16 : k < 16) : c 0 k 3 = m 26 0 k := by
  obtain ⟨s, d, w, n, q, o, p, b, r, hk⟩ := h.rk k hk16
  rw [hk.cs, hk.ms]
/-- what issue allows -/
theorem allow_iff {c m : xMem} {I T e G a b d q : Nat} (h : Rel c m I T e G) (ha : a < 4) (hb : b < 4) (hd : d < 4) (hq : q < 64) :
    mp_allow m a (nI d) q b ↔ (c 0 (4 * a + b) 3 = 0 ∧ (d = 2 → ¬ xp_some c (nI a) ∧ ¬ xp_wait c a (nI 2)) ∧ (d = 3 → (q < 48 ∧ c 2 (q / 16) 3 = nI a) ∧ ¬ xp_wait c a (nI 3))) := by
  unfold mp_allow
  rw [free_iff h (by omega), some_iff h, wait_iff h ha, wait_iff h ha, nI_eq (by omega) (by decide), nI_eq (by omega) (by decide), Classical.not_not]
  by_cases h48 : q < 48
  · obtain ⟨mt, htt⟩ := h.rt (q / 16) (by omega)
    rw [htt.ho]
    by_cases d2 : d = 2
    · subst d2
      simp
    · by_cases d3 : d = 3
      · subst d3
        simp [h48]
      · simp [d2, d3]
  · by_cases d2 : d = 2
    · subst d2
      simp
    · by_cases d3 : d = 3
      · subst d3
        simp [h48]
      · simp [d2, d3]
/-- a request that is well formed, as numbers -/
theorem sound_of {x y z : Int32} (h : xp_sound x y z) : x = nI 4 ∨ ∃ d q n, d < 4 ∧ q < 64 ∧ 1 ≤ n ∧ n ≤ 4 ∧ (d = 2 ∨ d = 3 → n ≤ 1) ∧ q / 16 = (q + n - 1) / 16 ∧ x = nI d ∧ y = nI q ∧ z = nI n := by
  obtain ⟨⟨h1, h2⟩, h3⟩ := h
  by_cases e4 : x = nI 4
  · exact Or.inl e4
  · right
    have h3 := h3.resolve_left e4
    obtain ⟨⟨h4, h5⟩, ⟨h6, h7⟩, h8⟩ := h3
    obtain ⟨d, hd, rfl⟩ := nI_of h1
    obtain ⟨q, hq, rfl⟩ := nI_of h4
    have hz : ¬ z < 0 := fun w => h6 (Int32.lt_trans w (by decide))
    obtain ⟨n, hn, rfl⟩ := nI_of hz
    have d4 : d < 4 := by
      rw [nI_ltI (by omega) (by omega)] at h2
      have : d ≠ 4 := fun w => e4 (by rw [w])
      omega
    have q6 : q < 64 := by
      rw [nI_leI (by omega) (by omega)] at h5
      omega
    have n1 : 1 ≤ n := by
      rw [nI_ltI (by omega) (by omega)] at h6
      omega
    have n4 : n ≤ 4 ∧ (d = 2 ∨ d = 3 → n ≤ 1) := by
      by_cases hd2 : nI d = nI 2 ∨ nI d = nI 3
      · rw [if_pos hd2, nI_ltI (by omega) (by omega)] at h7
        exact ⟨by omega, fun _ => by omega⟩
      · rw [if_neg hd2, nI_ltI (by omega) (by omega)] at h7
        refine ⟨by omega, fun w => absurd ?_ hd2⟩
        rcases w with rfl | rfl
        · exact Or.inl rfl
        · exact Or.inr rfl
    refine ⟨d, q, n, d4, q6, n1, n4.1, n4.2, ?_, rfl, rfl, rfl⟩
    rw [nI_add, pk_sub (by omega), pk_div (by omega) (by decide) (by decide), pk_div (by omega) (by decide) (by decide), nI_eq (by omega) (by omega)] at h8
    exact h8
theorem ord_iff {c m : xMem} {I T e G k x : Nat} (h : Rel c m I T e G) (hk16 : k < 16) (hx16 : x < 16) (h1 : m 26 0 k = nI 1) (hex : m 26 0 x = nI 1) : xp_ord c k x ↔ m 31 0 k < m 31 0 x := by
  obtain ⟨s, d, w, n, q, o, p, b, r, hk⟩ := h.rk k hk16
  obtain ⟨s', d', w', n', q', o', p', b', r', hl⟩ := h.rk x hx16
  have hI5 := h.rg.I5
  have s1 : s = 1 := nI_inj (by have := hk.s4; omega) (by omega) (hk.ms.symm.trans h1)
  have s1' : s' = 1 := nI_inj (by have := hl.s4; omega) (by omega) (hl.ms.symm.trans hex)
  unfold xp_ord
  have ok := hk.oI
  have ol := hl.oI
  rw [hk.co, hl.co, (hk.mo (by omega)).1, (hl.mo (by omega)).1, nI_ltI (by omega) (by omega), nI_ltI (by omega) (by omega)]
  omega
theorem wts_cond {c m : xMem} {I T e G k : Nat} {o : Option Nat} (h : Rel c m I T e G) (hk : k < 16) (ho : ∀ x, o = some x → x < 16 ∧ m 26 0 x = nI 1) :
    xf_step (fun k => c 0 k 3 = nI 1) (xp_ord c) o k = xf_step (fun r => m 26 0 r = nI 1) (fun r b => m 31 0 r < m 31 0 b) o k := by
  show xif (c 0 k 3 = nI 1 ∧ ∀ x, o = some x → xp_ord c k x) (some k) o = xif (m 26 0 k = nI 1 ∧ ∀ x, o = some x → m 31 0 k < m 31 0 x) (some k) o
  by_cases h1 : m 26 0 k = nI 1
  · have h1' : c 0 k 3 = nI 1 := (free_iff h hk).trans h1
    by_cases h2 : ∀ x, o = some x → m 31 0 k < m 31 0 x
    · rw [xif_t ⟨h1', fun x hx => (ord_iff h hk (ho x hx).1 h1 (ho x hx).2).mpr (h2 x hx)⟩, xif_t ⟨h1, h2⟩]
    · rw [xif_f (fun z => h2 (fun x hx => (ord_iff h hk (ho x hx).1 h1 (ho x hx).2).mp (z.2 x hx))), xif_f (fun z => h2 z.2)]
  · rw [xif_f (fun z => h1 ((free_iff h hk).symm.trans z.1)), xif_f (fun z => h1 z.1)]
theorem wts_c0 (c : xMem) (a : Nat) : xf_wts c a 0 = none := rfl
theorem wts_m0 (m : xMem) (a : Nat) : mf_wts m a 0 = none := rfl
theorem wts_zero {c m : xMem} {a : Nat} : xf_wts c a 0 = mf_wts m a 0 := (wts_c0 c a).trans (wts_m0 m a).symm
theorem wts_none {m : xMem} {a x : Nat} : mf_wts m a 0 ≠ some x := by
  unfold mf_wts xf_it
  exact fun z => by cases z
theorem wts_st1 {c m : xMem} {I T e G a i : Nat} (h : Rel c m I T e G) (hi : 4 * a + i < 16) (e1 : xf_wts c a i = mf_wts m a i) (e2 : ∀ x, mf_wts m a i = some x → x < 16 ∧ m 26 0 x = nI 1) : xf_wts c a (i + 1) = mf_wts m a (i + 1) := by
  have e3 := wts_cond h hi e2
  rw [xf_wts_s, e1, mf_wts_s]
  exact e3
theorem wts_st2 {m : xMem} {a i : Nat} (hi : 4 * a + i < 16) (e2 : ∀ x, mf_wts m a i = some x → x < 16 ∧ m 26 0 x = nI 1) : ∀ x, mf_wts m a (i + 1) = some x → x < 16 ∧ m 26 0 x = nI 1 := by
  intro x hx
  rw [mf_wts_s] at hx
  have hx : xif (m 26 0 (4 * a + i) = nI 1 ∧ ∀ x, mf_wts m a i = some x → m 31 0 (4 * a + i) < m 31 0 x) (some (4 * a + i)) (mf_wts m a i) = some x := hx
  by_cases hc : m 26 0 (4 * a + i) = nI 1 ∧ ∀ x, mf_wts m a i = some x → m 31 0 (4 * a + i) < m 31 0 x
  · rw [xif_t hc] at hx
    have hx := Option.some.inj hx
    rw [← hx]
    exact ⟨hi, hc.1⟩
  · rw [xif_f hc] at hx
    exact e2 x hx
/-- whose wait is asked for -/
theorem wts_eq {c m : xMem} {I T e G a : Nat} (h : Rel c m I T e G) (ha : a < 4) : xf_wts c a 4 = mf_wts m a 4 := by
  have z0 : ∀ x, mf_wts m a 0 = some x → x < 16 ∧ m 26 0 x = nI 1 := fun x hx => absurd hx wts_none
  have z1 := wts_st2 (by omega) z0
  have z2 := wts_st2 (by omega) z1
  have z3 := wts_st2 (by omega) z2
  exact wts_st1 h (by omega) (wts_st1 h (by omega) (wts_st1 h (by omega) (wts_st1 h (by omega) wts_zero z0) z1) z2) z3
theorem wait_eq {c m : xMem} {I T e G a : Nat} (h : Rel c m I T e G) (ha : a < 4) : xf_wait c (xf_wts c a 4) = mf_wait m (mf_wts m a 4) := by
  rw [wts_eq h ha]
  cases hx : mf_wts m a 4 with
  | none => rfl
  | some k =>
    obtain ⟨s, d, w, n, q, o, p, b, r, hk⟩ := h.rk k (mf_wts_lt ha (by omega) hx)
    show c 0 k 8 = m 30 0 k
    rw [hk.cw, hk.mw]
theorem has_iff {c m : xMem} {I T e G k i : Nat} (h : Rel c m I T e G) (hk16 : k < 16) (hi : i < 4) : (c 0 k 3 = nI 3 ∧ xp_read c k ∧ nI i < c 0 k 6) ↔ (m 26 0 k = nI 3 ∧ (m 27 0 k = 0 ∨ m 27 0 k = nI 2) ∧ nI i < m 29 0 k) := by
  obtain ⟨s, d, w, n, q, o, p, b, r, hk⟩ := h.rk k hk16
  unfold xp_read
  rw [hk.cs, hk.ms, hk.cd, hk.md, hk.cn, hk.mn, show (0 : Int32) = nI 0 from nI_0.symm]
theorem word_eq {c m : xMem} {I T e G k i : Nat} (h : Rel c m I T e G) (hk16 : k < 16) (hi : i < 4) (hh : m 26 0 k = nI 3 ∧ (m 27 0 k = 0 ∨ m 27 0 k = nI 2) ∧ nI i < m 29 0 k) : c 1 k i = m 34 0 (4 * k + i) := by
  obtain ⟨s, d, w, n, q, o, p, b, r, hk⟩ := h.rk k hk16
  have d4 := hk.d4
  have n4 := hk.n4
  obtain ⟨h1, h2, h3⟩ := hh
  rw [hk.ms] at h1
  rw [hk.md, show (0 : Int32) = nI 0 from nI_0.symm] at h2
  rw [hk.mn, nI_ltI (by omega) (by omega)] at h3
  have s3 : s = 3 := nI_inj (by have := hk.s4; omega) (by omega) h1
  refine hk.kr (Or.inl s3) ?_ i h3
  rcases h2 with z | z
  · exact Or.inl (nI_inj (by omega) (by omega) z)
  · exact Or.inr (nI_inj (by omega) (by omega) z)
