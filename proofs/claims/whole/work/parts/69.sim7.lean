/-! A target serves, side by side. -/
theorem i32_irr (x : Int32) : ¬ x < x := fun h => Int32.lt_irrefl h
theorem fst_eq {c m : xMem} {I T e G t mt : Nat} (h : Rel c m I T e G) (ht : RT c m t mt) : (mt = 0 ∧ mf_fst m (nI t) 16 = none) ∨ (0 < mt ∧ ∃ k, k < 16 ∧ c 3 t 0 = nI k ∧ mp_inq m (nI t) k ∧ mf_fst m (nI t) 16 = some k) := by
  let lt : Nat → Nat → Prop := fun r b => m 32 0 r < m 32 0 b
  have tr : ∀ a b c', (a < 16 ∧ mp_inq m (nI t) a) → (b < 16 ∧ mp_inq m (nI t) b) → (c' < 16 ∧ mp_inq m (nI t) c') → lt a b → lt b c' → lt a c' := fun _ _ _ _ _ _ h1 h2 => Int32.lt_trans h1 h2
  have tot : ∀ a b, (a < 16 ∧ mp_inq m (nI t) a) → (b < 16 ∧ mp_inq m (nI t) b) → a = b ∨ lt a b ∨ lt b a := by
    intro x y hx hy
    obtain ⟨i, hi, e1⟩ := ht.q3 x hx.1 hx.2
    obtain ⟨j, hj, e2⟩ := ht.q3 y hy.1 hy.2
    rcases Nat.lt_trichotomy i j with hij | hij | hij
    · exact Or.inr (Or.inl (ht.q2 i j x y hij hj hx.1 hy.1 e1 e2))
    · subst hij
      have := hx.1
      have := hy.1
      exact Or.inl (nI_inj (by omega) (by omega) (e1.symm.trans e2))
    · exact Or.inr (Or.inr (ht.q2 j i y x hij hi hy.1 hx.1 e2 e1))
  have A := xf_it_min (el := fun k => k < 16 ∧ mp_inq m (nI t) k) (bt := fun r b => m 32 0 r < m 32 0 b) (lt := lt) (cand := fun i => i) (n := 16) (fun i j _ _ _ _ => Iff.rfl) tr tot 16 (Nat.le_refl _)
  have em : ∀ n, n ≤ 16 → mf_fst m (nI t) n = xf_it (fun k => k < 16 ∧ mp_inq m (nI t) k) (fun r b => m 32 0 r < m 32 0 b) (fun i => i) n := by
    intro n
    induction n with
    | zero => intro _; rfl
    | succ n ih =>
      intro hn
      rw [mf_fst_s, ih (by omega)]
      show xf_step _ _ _ _ = xf_step _ _ _ _
      unfold xf_step
      have e9 : (mp_inq m (nI t) n) = (n < 16 ∧ mp_inq m (nI t) n) := propext ⟨fun z => ⟨by omega, z⟩, fun z => z.2⟩
      show xif (mp_inq m (nI t) n ∧ _) _ _ = xif ((n < 16 ∧ mp_inq m (nI t) n) ∧ _) _ _
      rw [← e9]
  rw [em 16 (Nat.le_refl _)]
  by_cases h0 : mt = 0
  · refine Or.inl ⟨h0, ?_⟩
    cases hA : xf_it (fun k => k < 16 ∧ mp_inq m (nI t) k) (fun r b => m 32 0 r < m 32 0 b) (fun i => i) 16 with
    | none => rfl
    | some b =>
      obtain ⟨-, he, -⟩ := A.2 b hA
      obtain ⟨j, hj, -⟩ := ht.q3 b he.1 he.2
      omega
  · refine Or.inr ⟨by omega, ?_⟩
    obtain ⟨k, hk, ek, hq⟩ := ht.q1 0 (by omega)
    refine ⟨k, hk, ek, hq, ?_⟩
    cases hA : xf_it (fun k => k < 16 ∧ mp_inq m (nI t) k) (fun r b => m 32 0 r < m 32 0 b) (fun i => i) 16 with
    | none => exact absurd ⟨hk, hq⟩ (A.1 hA k hk)
    | some b =>
      obtain ⟨-, he, hmin⟩ := A.2 b hA
      rcases hmin k hk ⟨hk, hq⟩ with z | z
      · rw [show k = b from z]
      · exfalso
        obtain ⟨j, hj, ej⟩ := ht.q3 b he.1 he.2
        by_cases hj0 : j = 0
        · subst hj0
          have := he.1
          have := nI_inj (by omega) (by omega) (ek.symm.trans ej)
          subst this
          exact absurd z (i32_irr _)
        · have := ht.q2 0 j k b (by omega) hj hk he.1 ek ej
          exact absurd (Int32.lt_trans z this) (i32_irr _)
theorem leave_c {c : xMem} {t m r k i : Nat} : xf_leave c t m r k i = if r = 3 ∧ k = t then (if i < m - 1 then c 3 t (1 + i) else c 3 t i) else if r = 2 ∧ k = t ∧ i = 1 then nI (m - 1) else c r k i := by
  unfold xf_leave
  rw [xu2_at, xu3_at]
  unfold va_cpy
  simp only [Nat.zero_le, true_and, Nat.zero_add, Nat.sub_zero]
theorem sv_c {c : xMem} {n k r b i : Nat} (h : r = 13) (hi : i < 6) : xf_sv c n k r b i = if b = n then (if i = 0 then c 0 k 0 else if i = 1 then c 0 k 1 else if i = 2 then c 0 k 4 else if i = 3 then c 0 k 5 else if i = 4 then c 0 k 6 else c 5 0 6) else c 13 b i := by
  subst h
  unfold xf_sv
  simp only [xu3_at, xu2_at]
  by_cases hb : b = n
  · simp only [hb, true_and, if_true]
    grind
  · simp only [hb, false_and, and_false, if_false]
theorem move_c {c : xMem} {k q ln r b i : Nat} [Decidable (xp_read c k)] : xf_move c k q ln r b i = if xp_read c k then (if r = 0 ∧ b = k ∧ i = 9 then nI 1 else if r = 1 ∧ b = k then (if i < ln then c 8 0 (q + i) else c 1 k i) else c r b i) else (if r = 2 ∧ b = q / 16 ∧ i = 2 then c 2 (q / 16) 2 + nI 1 else if r = 0 ∧ b = k ∧ i = 3 then nI 3 else if r = 8 ∧ b = 0 then (if q ≤ i ∧ i < q + ln then c 1 k (0 + (i - q)) else c 8 0 i) else c r b i) := by
  unfold xf_move
  by_cases h : xp_read c k
  · rw [xif_t h, if_pos h, xu3_at, xu2_at]
    unfold va_cpy
    simp only [Nat.zero_le, true_and, Nat.zero_add, Nat.sub_zero]
  · rw [xif_f h, if_neg h]
    unfold xf_finish
    have e2 : xw_u2 c 8 0 (va_cpy (c 1 k) (c 8 0) 0 q ln) 2 (q / 16) 2 = c 2 (q / 16) 2 := rfl
    rw [e2, xu3_at, xu3_at, xu2_at]
    rfl
theorem move_m {m : xMem} {k q n r b i : Nat} : mf_move m k q n r b i = if m 27 0 k = nI 1 ∨ m 27 0 k = nI 3 then (if r = 26 ∧ b = 0 ∧ i = k then nI 3 else if r = 21 ∧ b = 0 then (if q ≤ i ∧ i < q + n then m 33 0 (4 * k + (i - q)) else m 21 0 i) else if r = 32 ∧ b = 0 ∧ i = k then nI 0 else m r b i) else (if r = 35 ∧ b = 0 ∧ i = k then nI n else if r = 34 ∧ b = 0 then (if 4 * k ≤ i ∧ i < 4 * k + n then m 21 0 (q + (i - 4 * k)) else m 34 0 i) else if r = 32 ∧ b = 0 ∧ i = k then nI 0 else m r b i) := by
  unfold mf_move
  by_cases h : m 27 0 k = nI 1 ∨ m 27 0 k = nI 3
  · rw [xif_t h, if_pos h, xu3_at, xu2_at, xu3_at]
    rfl
  · rw [xif_f h, if_neg h, xu3_at, xu2_at, xu3_at]
    rfl
theorem log_m {m : xMem} {k q n ns r b i : Nat} (hr : r ≠ 36) (h : ¬ (r = 20 ∧ b = 0 ∧ i = 21)) : mf_log m k q n ns r b i = m r b i := by
  unfold mf_log
  simp only [xu3_at]
  rw [if_neg h, if_neg (by omega), if_neg (by omega), if_neg (by omega), if_neg (by omega), if_neg (by omega), if_neg (by omega)]
theorem log_m21 {m : xMem} {k q n ns : Nat} : mf_log m k q n ns 20 0 21 = nI (ns + 1) := by
  unfold mf_log
  rw [xu3_at, if_pos (by decide)]
theorem log_m36 {m : xMem} {k q n ns j : Nat} (hj : j < 6 * ns) : mf_log m k q n ns 36 0 j = m 36 0 j := by
  unfold mf_log
  simp only [xu3_at]
  rw [if_neg (by omega), if_neg (by omega), if_neg (by omega), if_neg (by omega), if_neg (by omega), if_neg (by omega), if_neg (by omega)]
theorem log_m36n {m : xMem} {k q n ns i : Nat} (hi : i < 6) : mf_log m k q n ns 36 0 (6 * ns + i) = if i = 0 then nI (k / 4) else if i = 1 then nI (k % 4) else if i = 2 then m 27 0 k else if i = 3 then nI q else if i = 4 then nI n else m 20 0 20 + nI 1 := by
  unfold mf_log
  simp only [xu3_at]
  grind
theorem xS_self {σ : xMem} {n g N : Nat} (h : xS σ n g N) (hg : 0 < g) : xS σ (xf_n σ) (xf_g σ) (xf_N σ) := by
  obtain ⟨e1, e2⟩ := xS_ng h
  have e3 : xf_N σ = N := by
    unfold xf_N
    rw [e2]
    obtain ⟨-, -, -, hz, -, -, -⟩ := h
    obtain ⟨-, z1, -, -, z4⟩ := hz hg
    exact xN_of z1 (by omega)
  rw [e1, e2, e3]
  exact h
theorem xg_pos (n g N : Nat) : 0 < xg_add n g N := by
  unfold xg_add
  split
  · omega
  · split <;> omega
theorem sim_serve {c m : xMem} {I T G t mt k s d w n q o p a r : Nat} (ht3 : t < 3) (htt : RT c m t mt) (hmt : 0 < mt) (hk16 : k < 16) (h30 : c 3 t 0 = nI k) (hin : mp_inq m (nI t) k) (hk : RK c m I T G k s d w n q o p a r) (h : Rel c m I T 1 G) :
    Rel (xf_move (xf_log (xf_leave c t mt) k (xf_n c) (xf_g c) (xf_N c)) k q n) (mf_log (mf_move m k q n) k q n (xf_n c)) I T 1 G := by
  have hs : s = 2 := nI_inj (by have := hk.s4; omega) (by omega) (hk.ms.symm.trans hin.1)
  subst hs
  obtain ⟨gd, gq, gq48, gn, g2⟩ := hk.gr rfl
  have hGT := h.rg.gT
  have hT5 := h.rg.T5
  have g2 : a = 0 ∧ 1 ≤ p ∧ r = 0 ∧ m 35 0 k = nI 0 := by
    rcases g2 with g2 | ⟨-, g4, -⟩
    · exact g2
    · have := hin.2.1
      rw [hk.mp, g4] at this
      exact absurd this (by decide)
  obtain ⟨rfl, gp, rfl, gl⟩ := g2
  have zn := hk.n4
  have zd := hk.d4
  have hpG := hk.pG
  have hm28 : m 28 0 k = nI q := hk.mq (by omega)
  have htq : q / 16 = t := by
    have := hin.2.2
    rw [hm28, pk_div (by omega) (by decide) (by decide)] at this
    exact nI_inj (by omega) (by omega) this
  have n20 : ¬ nI 2 = nI 0 := by decide
  have n21 : ¬ nI 2 = nI 1 := by decide
  have n31 : ¬ nI 3 = nI 1 := by decide
  have n32 : ¬ nI 3 = nI 2 := by decide
  have n00 : ¬ (0 : Int32) < nI 0 := by decide
  -- the log
  have hxS := h.rg.xs
  have hun := h.rg.un
  have hI5 := h.rg.I5
  have hup := cN_pos (P := mp_uns m) (k0 := k) (Or.inr ⟨hin.1, hin.2.1⟩) hk16
  have hn5 : xf_n c < 512 := by omega
  have hsv := h.rg.sv
  generalize hτ : xf_log (xf_leave c t mt) k (xf_n c) (xf_g c) (xf_N c) = τ
  have xSτ : xS τ (xf_n c + 1) (xg_add (xf_n c) (xf_g c) (xf_N c)) (xN_add (xf_n c) (xf_g c) (xf_N c)) := by rw [← hτ]; exact xS_log (xS_leave hxS) hn5
  have τo : ∀ r, r ≠ 2 → r ≠ 3 → r ≠ 11 → r ≠ 12 → r ≠ 13 → ∀ b i, τ r b i = c r b i := fun r h1 h2 h3 h4 h5 b i => by rw [← hτ, xf_log_at h3 h4 h5]; exact xf_leave_at h1 h2
  have τ2 : ∀ b i, τ 2 b i = if b = t ∧ i = 1 then nI (mt - 1) else c 2 b i := fun b i => by rw [← hτ, xf_log_at (by decide) (by decide) (by decide), leave_c, if_neg (by omega)]; simp only [true_and]
  have τ3 : ∀ b i, τ 3 b i = if b = t then (if i < mt - 1 then c 3 t (1 + i) else c 3 t i) else c 3 b i := fun b i => by rw [← hτ, xf_log_at (by decide) (by decide) (by decide), leave_c]; simp only [true_and]; split; rfl; simp
  have τ13 : ∀ b i, i < 6 → τ 13 b i = if b = xf_n c then (if i = 0 then c 0 k 0 else if i = 1 then c 0 k 1 else if i = 2 then c 0 k 4 else if i = 3 then c 0 k 5 else if i = 4 then c 0 k 6 else c 5 0 6) else c 13 b i := fun b i hi => by
    rw [← hτ]
    unfold xf_log
    rw [xf_add_at (by decide) (by decide), sv_c rfl hi]
    simp only [xf_leave_at (show (0 : Nat) ≠ 2 by decide) (show (0 : Nat) ≠ 3 by decide), xf_leave_at (show (5 : Nat) ≠ 2 by decide) (show (5 : Nat) ≠ 3 by decide), xf_leave_at (show (13 : Nat) ≠ 2 by decide) (show (13 : Nat) ≠ 3 by decide)]
  have hrd : xp_read τ k ↔ (d = 0 ∨ d = 2) := by
    unfold xp_read
    rw [τo 0 (by decide) (by decide) (by decide) (by decide) (by decide), hk.cd, nI_eq (by omega) (by omega), nI_eq (by omega) (by omega)]
  have hwr : (m 27 0 k = nI 1 ∨ m 27 0 k = nI 3) ↔ ¬ (d = 0 ∨ d = 2) := by
    rw [hk.md, nI_eq (by omega) (by omega), nI_eq (by omega) (by omega)]
    omega
  generalize hc' : xf_move τ k q n = c'
  generalize hm' : mf_log (mf_move m k q n) k q n (xf_n c) = m'
  haveI : Decidable (xp_read τ k) := Classical.propDecidable _
  have ec := fun r b i => move_c (c := τ) (k := k) (q := q) (ln := n) (r := r) (b := b) (i := i)
  rw [hc'] at ec
  have xSc : xS c' (xf_n c + 1) (xg_add (xf_n c) (xf_g c) (xf_N c)) (xN_add (xf_n c) (xf_g c) (xf_N c)) := by rw [← hc']; exact xS_mv xSτ
  have en : xf_n c' = xf_n c + 1 := (xS_ng xSc).1
  have xSs := xS_self xSc (xg_pos _ _ _)
  have em := fun r b i (h1 : r ≠ 36) (h2 : ¬ (r = 20 ∧ b = 0 ∧ i = 21)) => (log_m (m := mf_move m k q n) (k := k) (q := q) (n := n) (ns := xf_n c) h1 h2).trans (@move_m m k q n r b i)
  rw [hm'] at em
  have m21 : m' 20 0 21 = nI (xf_n c + 1) := by rw [← hm']; exact log_m21
  have mo36 : ∀ j, j < 6 * xf_n c → m' 36 0 j = m 36 0 j := fun j hj => by
    rw [← hm', log_m36 hj, move_m]
    split <;> rw [if_neg (by omega), if_neg (by omega), if_neg (by omega)]
  have mn36 : ∀ i, i < 6 → m' 36 0 (6 * xf_n c + i) = if i = 0 then nI (k / 4) else if i = 1 then nI (k % 4) else if i = 2 then m 27 0 k else if i = 3 then nI q else if i = 4 then nI n else m 20 0 20 + nI 1 := fun i hi => by
    rw [← hm', log_m36n hi, mf_move_at (by decide) (by decide) (by decide) (by decide) (by decide), mf_move_at (by decide) (by decide) (by decide) (by decide) (by decide)]
  have eo : ∀ r, r ≠ 20 → r ≠ 21 → r ≠ 26 → r ≠ 32 → r ≠ 34 → r ≠ 35 → r ≠ 36 → ∀ b i, m' r b i = m r b i := fun r h1 h2 h3 h4 h5 h6 h7 b i => by
    rw [em r b i h7 (by omega)]
    split <;> rw [if_neg (by omega), if_neg (by omega), if_neg (by omega)]
  have e20 : ∀ i, i ≠ 21 → m' 20 0 i = m 20 0 i := fun i hi => by
    rw [em 20 0 i (by decide) (by omega)]
    split <;> rw [if_neg (by omega), if_neg (by omega), if_neg (by omega)]
  have e26 : ∀ l, l ≠ k → m' 26 0 l = m 26 0 l := fun l hl => by
    rw [em 26 0 l (by decide) (by omega)]
    split <;> rw [if_neg (by omega), if_neg (by omega), if_neg (by omega)]
  have e32 : ∀ l, l ≠ k → m' 32 0 l = m 32 0 l := fun l hl => by
    rw [em 32 0 l (by decide) (by omega)]
    split <;> rw [if_neg (by omega), if_neg (by omega), if_neg (by omega)]
  have k32 : m' 32 0 k = nI 0 := by
    rw [em 32 0 k (by decide) (by omega)]
    split <;> rw [if_neg (by omega), if_neg (by omega), if_pos ⟨rfl, rfl, rfl⟩]
  have e35 : ∀ l, l ≠ k → m' 35 0 l = m 35 0 l := fun l hl => by
    rw [em 35 0 l (by decide) (by omega)]
    split <;> rw [if_neg (by omega), if_neg (by omega), if_neg (by omega)]
  have e34 : ∀ l j, l ≠ k → j < 4 → m' 34 0 (4 * l + j) = m 34 0 (4 * l + j) := fun l j hl hj => by
    rw [em 34 0 _ (by decide) (by omega)]
    split
    · rw [if_neg (by omega), if_neg (by omega), if_neg (by omega)]
    · rw [if_neg (by omega), if_pos (by decide), if_neg (by omega)]
  have c0o : ∀ l i, l ≠ k → c' 0 l i = c 0 l i := fun l i hl => by
    rw [ec]
    split
    · rw [if_neg (by omega), if_neg (by omega), τo 0 (by decide) (by decide) (by decide) (by decide) (by decide)]
    · rw [if_neg (by omega), if_neg (by omega), if_neg (by omega), τo 0 (by decide) (by decide) (by decide) (by decide) (by decide)]
  have c0k : ∀ i, i ≠ 3 → i ≠ 9 → c' 0 k i = c 0 k i := fun i h1 h2 => by
    rw [ec]
    split
    · rw [if_neg (by omega), if_neg (by omega), τo 0 (by decide) (by decide) (by decide) (by decide) (by decide)]
    · rw [if_neg (by omega), if_neg (by omega), if_neg (by omega), τo 0 (by decide) (by decide) (by decide) (by decide) (by decide)]
  have c1o : ∀ l i, l ≠ k → c' 1 l i = c 1 l i := fun l i hl => by
    rw [ec]
    split
    · rw [if_neg (by omega), if_neg (by omega), τo 1 (by decide) (by decide) (by decide) (by decide) (by decide)]
    · rw [if_neg (by omega), if_neg (by omega), if_neg (by omega), τo 1 (by decide) (by decide) (by decide) (by decide) (by decide)]
  have co : ∀ r, r ≠ 0 → r ≠ 1 → r ≠ 2 → r ≠ 3 → r ≠ 8 → r ≠ 11 → r ≠ 12 → r ≠ 13 → ∀ b i, c' r b i = c r b i := fun r h1 h2 h3 h4 h5 h6 h7 h8 b i => by
    rw [ec]
    split
    · rw [if_neg (by omega), if_neg (by omega), τo r h3 h4 h6 h7 h8]
    · rw [if_neg (by omega), if_neg (by omega), if_neg (by omega), τo r h3 h4 h6 h7 h8]
  have c3 : ∀ b i, c' 3 b i = if b = t then (if i < mt - 1 then c 3 t (1 + i) else c 3 t i) else c 3 b i := fun b i => by
    rw [ec]
    split
    · rw [if_neg (by omega), if_neg (by omega), τ3]
    · rw [if_neg (by omega), if_neg (by omega), if_neg (by omega), τ3]
  have c13 : ∀ b i, c' 13 b i = τ 13 b i := fun b i => by
    rw [ec]
    split
    · rw [if_neg (by omega), if_neg (by omega)]
    · rw [if_neg (by omega), if_neg (by omega), if_neg (by omega)]
  have c2 : ∀ b i, ¬ (b = t ∧ (i = 1 ∨ i = 2)) → c' 2 b i = c 2 b i := fun b i hb => by
    rw [ec]
    split
    · rw [if_neg (by omega), if_neg (by omega), τ2, if_neg (by omega)]
    · rw [if_neg (by omega), if_neg (by omega), if_neg (by omega), τ2, if_neg (by omega)]
  have c2t1 : c' 2 t 1 = nI (mt - 1) := by
    rw [ec]
    split
    · rw [if_neg (by omega), if_neg (by omega), τ2, if_pos ⟨rfl, rfl⟩]
    · rw [if_neg (by omega), if_neg (by omega), if_neg (by omega), τ2, if_pos ⟨rfl, rfl⟩]
  have hinq : ∀ u l, l ≠ k → (mp_inq m' (nI u) l ↔ mp_inq m (nI u) l) := fun u l hl => by
    unfold mp_inq
    rw [e26 l hl, e32 l hl, eo 28 (by decide) (by decide) (by decide) (by decide) (by decide) (by decide) (by decide)]
  have hkin : ∀ u, ¬ mp_inq m' (nI u) k := fun u z => by
    have := z.2.1
    rw [k32] at this
    exact n00 this
  have hcq : cN (mp_inq m (nI t)) 16 = cN (mp_inq m' (nI t)) 16 + 1 := cN_add (hkin t) hin hk16 (fun l _ hne => (hinq t l hne).symm)
  have hgo : ∀ u l, l ≠ k → (mp_gr m' u l ↔ mp_gr m u l) := fun u l hl => by
    unfold mp_gr
    rw [e26 l hl, eo 28 (by decide) (by decide) (by decide) (by decide) (by decide) (by decide) (by decide)]
  have hcu : cN (mp_uns m) 16 = cN (mp_uns m') 16 + 1 := by
    refine cN_add (k0 := k) ?_ (Or.inr ⟨hin.1, hin.2.1⟩) hk16 (fun l _ hne => ?_)
    · rintro (z | ⟨-, z⟩)
      · rw [em 26 0 k (by decide) (by omega)] at z
        split at z
        · rw [if_pos ⟨rfl, rfl, rfl⟩] at z
          exact n31 z
        · rw [if_neg (by omega), if_neg (by omega), if_neg (by omega), hk.ms] at z
          exact n21 z
      · rw [k32] at z
        exact n00 z
    · unfold mp_uns
      rw [e26 l hne, e32 l hne]
  -- the queue without its first
  have q1' : ∀ j, j < mt - 1 → ∃ l, l < 16 ∧ c' 3 t j = nI l ∧ mp_inq m' (nI t) l := by
    intro j hj
    obtain ⟨l, hl, e1, hq'⟩ := htt.q1 (1 + j) (by omega)
    have hlk : l ≠ k := by
      intro z
      have := htt.q2 0 (1 + j) k l (by omega) (by omega) hk16 hl h30 e1
      rw [z] at this
      exact absurd this (i32_irr _)
    exact ⟨l, hl, by rw [c3, if_pos rfl, if_pos hj]; exact e1, (hinq t l hlk).mpr hq'⟩
  have q2' : ∀ i j k1 l, i < j → j < mt - 1 → k1 < 16 → l < 16 → c' 3 t i = nI k1 → c' 3 t j = nI l → m' 32 0 k1 < m' 32 0 l := by
    intro i j k1 l hij hj hk1 hl e1 e2
    rw [c3, if_pos rfl, if_pos (by omega)] at e1 e2
    have x1 := htt.q2 0 (1 + i) k k1 (by omega) (by omega) hk16 hk1 h30 e1
    have x2 := htt.q2 0 (1 + j) k l (by omega) (by omega) hk16 hl h30 e2
    have y1 : k1 ≠ k := fun z => by rw [z] at x1; exact absurd x1 (i32_irr _)
    have y2 : l ≠ k := fun z => by rw [z] at x2; exact absurd x2 (i32_irr _)
    rw [e32 k1 y1, e32 l y2]
    exact htt.q2 (1 + i) (1 + j) k1 l (by omega) (by omega) hk1 hl e1 e2
  have q3' : ∀ l, l < 16 → mp_inq m' (nI t) l → ∃ j, j < mt - 1 ∧ c' 3 t j = nI l := by
    intro l hl hq'
    have hlk : l ≠ k := fun z => by rw [z] at hq'; exact hkin t hq'
    obtain ⟨j, hj, e1⟩ := htt.q3 l hl ((hinq t l hlk).mp hq')
    have hj0 : j ≠ 0 := by
      intro z
      subst z
      exact hlk (nI_inj (by omega) (by omega) (e1.symm.trans h30))
    exact ⟨j - 1, by omega, by rw [c3, if_pos rfl, if_pos (by omega), show 1 + (j - 1) = j by omega]; exact e1⟩
  have tmt := htt.tm
  obtain ⟨a1, a2, a3, a4, a5, a6, a7, a8, a8e, a9, a10, a11, a12, a13, a14, a15, a16, a17, a18, a19, a20⟩ := h.rg
  have hod : ∀ l, c' 0 l 7 = c 0 l 7 := by
    intro l
    by_cases e9 : l = k
    · rw [e9]; exact c0k 7 (by decide) (by decide)
    · exact c0o l 7 e9
  have hst : ∀ l, ¬ m' 26 0 l = nI 0 → ¬ m 26 0 l = nI 0 := by
    intro l hl
    by_cases e9 : l = k
    · rw [e9, hk.ms]; exact n20
    · rw [e26 l e9] at hl; exact hl
  have RGpart : (∀ i, i < 48 → c' 8 0 i = m' 21 0 i) → RG c' m' I T 1 G := by
    intro hwd
    refine ⟨by rw [co 6 (by decide) (by decide) (by decide) (by decide) (by decide) (by decide) (by decide) (by decide)]; exact a1, by rw [co 7 (by decide) (by decide) (by decide) (by decide) (by decide) (by decide) (by decide) (by decide)]; exact a2, by rw [co 5 (by decide) (by decide) (by decide) (by decide) (by decide) (by decide) (by decide) (by decide)]; exact a3, by rw [e20 _ (by decide)]; exact a4, by rw [co 5 (by decide) (by decide) (by decide) (by decide) (by decide) (by decide) (by decide) (by decide)]; exact a5, by rw [e20 _ (by decide)]; exact a6, by rw [e20 _ (by decide)]; exact a7, a8, a8e, ?_, ?_, hwd, ?_, ?_, xSs, by rw [m21, en], ?_, by rw [en]; omega, ?_, a19, a20⟩
    · obtain ⟨g, h1, h2, h3⟩ := a9
      exact ⟨g, h1, by rw [co 5 (by decide) (by decide) (by decide) (by decide) (by decide) (by decide) (by decide) (by decide)]; exact h2, by rw [e20 _ (by decide)]; exact h3⟩
    · obtain ⟨g, h1, h2, h3⟩ := a10
      exact ⟨g, h1, by rw [co 5 (by decide) (by decide) (by decide) (by decide) (by decide) (by decide) (by decide) (by decide)]; exact h2, by rw [e20 _ (by decide)]; exact h3⟩
    · intro b j hb hj
      rw [co 4 (by decide) (by decide) (by decide) (by decide) (by decide) (by decide) (by decide) (by decide), eo 22 (by decide) (by decide) (by decide) (by decide) (by decide) (by decide) (by decide)]
      exact a12 b j hb hj
    · intro b hb
      obtain ⟨v, h1, h2, h3⟩ := a13 b hb
      exact ⟨v, h1, by rw [co 10 (by decide) (by decide) (by decide) (by decide) (by decide) (by decide) (by decide) (by decide)]; exact h2, by rw [eo 23 (by decide) (by decide) (by decide) (by decide) (by decide) (by decide) (by decide)]; exact h3⟩
    · intro j i hj hi
      rw [en] at hj
      rw [c13, τ13 j i hi]
      by_cases hjn : j = xf_n c
      · rw [if_pos hjn, hjn, mn36 i hi, hk.m0, hk.m1, hk.cd, hk.md, hk.cq, hk.cn, a3, a4, nI_add]
      · rw [if_neg hjn, mo36 _ (by omega)]
        exact a16 j i (by omega) hi
    · intro k1 l hk1 hl hkl h1 h2
      rw [hod, hod]
      exact a18 k1 l hk1 hl hkl (hst k1 h1) (hst l h2)
  have RKo : ∀ l, l < 16 → l ≠ k → ∃ s d w n q o p a r, RK c' m' I T G l s d w n q o p a r := by
    intro l hl e9
    obtain ⟨s1, d1, w1, n1, q1, o1, p1, b1, r1, hk'⟩ := h.rk l hl
    exact ⟨s1, d1, w1, n1, q1, o1, p1, b1, r1, RK_congr (c := c) (m := m) (fun i => c0o l i e9) (fun j _ => c1o l j e9) (e26 l e9) (eo 27 (by decide) (by decide) (by decide) (by decide) (by decide) (by decide) (by decide) _ _) (eo 28 (by decide) (by decide) (by decide) (by decide) (by decide) (by decide) (by decide) _ _) (eo 29 (by decide) (by decide) (by decide) (by decide) (by decide) (by decide) (by decide) _ _) (eo 30 (by decide) (by decide) (by decide) (by decide) (by decide) (by decide) (by decide) _ _) (eo 31 (by decide) (by decide) (by decide) (by decide) (by decide) (by decide) (by decide) _ _) (e32 l e9) (e35 l e9) (fun _ _ => eo 33 (by decide) (by decide) (by decide) (by decide) (by decide) (by decide) (by decide) _ _) (fun j hj => e34 l j e9 hj) (Nat.le_refl _) (Nat.le_refl _) (Nat.le_refl _) hk'⟩
  have RTo : ∀ u, u < 3 → u ≠ t → ∃ mt, RT c' m' u mt := by
    intro u hu hut
    obtain ⟨mu, hu'⟩ := h.rt u hu
    have hbu : ¬ m 28 0 k / nI 16 = nI u := by
      rw [hin.2.2, nI_eq (by omega) (by omega)]
      omega
    have f28 : m' 28 0 k = m 28 0 k := eo 28 (by decide) (by decide) (by decide) (by decide) (by decide) (by decide) (by decide) _ _
    refine ⟨mu, RT_congr (c := c) (m := m) (fun i => c2 u i (by omega)) (fun i => by rw [c3, if_neg hut]) (eo 25 (by decide) (by decide) (by decide) (by decide) (by decide) (by decide) (by decide) _ _) (eo 24 (by decide) (by decide) (by decide) (by decide) (by decide) (by decide) (by decide) _ _) (fun l hl => ?_) (fun l hl => ?_) (fun l hl hq' => e32 l (fun z => ?_)) hu'⟩
    · by_cases hlb : l = k
      · rw [hlb]
        exact ⟨fun z => absurd z (hkin u), fun z => absurd z.2.2 hbu⟩
      · exact hinq u l hlb
    · by_cases hlb : l = k
      · rw [hlb]
        exact ⟨fun z => absurd (f28 ▸ z.2) hbu, fun z => absurd z.2 hbu⟩
      · exact hgo u l hlb
    · rw [z] at hq'
      exact hbu hq'.2.2
  obtain ⟨b1, b2, b3, b4, b5, b6, b7, b8, b9, b10, b11, b12, b13, b14, b15, b16, b17, b18, b19, b20, b21, b22, b23, b24, b25, b26, b27, b28, b29, b30⟩ := hk
  have hT2 := htt.ho
  have hT3 := htt.hv
  have hT4 := htt.rd
  have hT5' := htt.rv
  by_cases hread : d = 0 ∨ d = 2
  · have ecr : ∀ r b i, c' r b i = if r = 0 ∧ b = k ∧ i = 9 then nI 1 else if r = 1 ∧ b = k then (if i < n then τ 8 0 (q + i) else τ 1 k i) else τ r b i := fun r b i => by rw [ec, if_pos (hrd.mpr hread)]
    have emr : ∀ r b i, r ≠ 36 → ¬ (r = 20 ∧ b = 0 ∧ i = 21) → m' r b i = if r = 35 ∧ b = 0 ∧ i = k then nI n else if r = 34 ∧ b = 0 then (if 4 * k ≤ i ∧ i < 4 * k + n then m 21 0 (q + (i - 4 * k)) else m 34 0 i) else if r = 32 ∧ b = 0 ∧ i = k then nI 0 else m r b i := fun r b i h1 h2 => by rw [em r b i h1 h2, if_neg (fun z => hwr.mp z hread)]
    have k26 : m' 26 0 k = nI 2 := by rw [emr 26 0 k (by decide) (by omega), if_neg (by omega), if_neg (by omega), if_neg (by omega)]; exact b4
    have k35 : m' 35 0 k = nI n := by rw [emr 35 0 k (by decide) (by omega), if_pos ⟨rfl, rfl, rfl⟩]
    have ck3 : c' 0 k 3 = nI 2 := by rw [ecr, if_neg (by omega), if_neg (by omega), τo 0 (by decide) (by decide) (by decide) (by decide) (by decide)]; exact b3
    have ck9 : c' 0 k 9 = nI 1 := by rw [ecr, if_pos ⟨rfl, rfl, rfl⟩]
    refine ⟨fun l hl => ?_, fun u hu => ?_, RGpart (fun i hi => ?_)⟩
    · by_cases e9 : l = k
      · subst e9
        refine ⟨2, d, w, n, q, o, 0, 1, 0, ?_⟩
        refine ⟨by rw [c0k _ (by decide) (by decide)]; exact b1, by rw [c0k _ (by decide) (by decide)]; exact b2, ck3, k26, by omega, by rw [c0k _ (by decide) (by decide)]; exact b6, by rw [eo 27 (by decide) (by decide) (by decide) (by decide) (by decide) (by decide) (by decide)]; exact b7, b8, by rw [c0k _ (by decide) (by decide)]; exact b9, by rw [eo 30 (by decide) (by decide) (by decide) (by decide) (by decide) (by decide) (by decide)]; exact b10, b11, by rw [c0k _ (by decide) (by decide)]; exact b12, by rw [eo 29 (by decide) (by decide) (by decide) (by decide) (by decide) (by decide) (by decide)]; exact b13, b14, by rw [c0k _ (by decide) (by decide)]; exact b15, b16, by rw [eo 28 (by decide) (by decide) (by decide) (by decide) (by decide) (by decide) (by decide)]; exact b17, by rw [c0k _ (by decide) (by decide)]; exact b18, b19, fun _ => by rw [eo 31 (by decide) (by decide) (by decide) (by decide) (by decide) (by decide) (by decide)]; exact b20 (by decide), k32, by omega, ck9, by omega, by rw [c0k _ (by decide) (by decide)]; exact b25, by omega, ?_, by omega, by omega, ?_⟩
        · intro _
          exact ⟨gd, gq, gq48, gn, Or.inr ⟨rfl, rfl, hread, by omega, k35⟩⟩
        · intro _ _ j hj
          rw [ecr, if_neg (by omega), if_pos ⟨rfl, rfl⟩, if_pos hj, τo 8 (by decide) (by decide) (by decide) (by decide) (by decide), emr 34 0 _ (by decide) (by omega), if_neg (by omega), if_pos (by decide), if_pos (by omega), a11 (q + j) (by omega)]
          congr 2
          omega
      · exact RKo l hl e9
    · by_cases hut : u = t
      · subst hut
        have hg : ∀ l, l < 16 → (mp_gr m' u l ↔ mp_gr m u l) := by
          intro l hl
          by_cases e9 : l = k
          · rw [e9]
            unfold mp_gr
            rw [k26, b4, eo 28 (by decide) (by decide) (by decide) (by decide) (by decide) (by decide) (by decide)]
          · exact hgo u l e9
        have ecg := cN_congr hg
        refine ⟨mt - 1, c2t1, by omega, by rw [ecg]; exact htt.tc, ?_, by rw [c2 _ _ (by omega), eo 25 (by decide) (by decide) (by decide) (by decide) (by decide) (by decide) (by decide)]; exact hT2, by rw [eo 25 (by decide) (by decide) (by decide) (by decide) (by decide) (by decide) (by decide)]; exact hT3, by rw [c2 _ _ (by omega), eo 24 (by decide) (by decide) (by decide) (by decide) (by decide) (by decide) (by decide)]; exact hT4, by rw [eo 24 (by decide) (by decide) (by decide) (by decide) (by decide) (by decide) (by decide)]; exact hT5', q1', q2', q3'⟩
        rw [ecr, if_neg (by omega), if_neg (by omega), τ2, if_neg (by omega), ecg]
        exact htt.cr
      · exact RTo u hu hut
    · rw [ecr, if_neg (by omega), if_neg (by omega), τo 8 (by decide) (by decide) (by decide) (by decide) (by decide), emr 21 0 i (by decide) (by omega), if_neg (by omega), if_neg (by omega), if_neg (by omega)]
      exact a11 i hi
  · have ecr : ∀ r b i, c' r b i = if r = 2 ∧ b = q / 16 ∧ i = 2 then τ 2 (q / 16) 2 + nI 1 else if r = 0 ∧ b = k ∧ i = 3 then nI 3 else if r = 8 ∧ b = 0 then (if q ≤ i ∧ i < q + n then τ 1 k (0 + (i - q)) else τ 8 0 i) else τ r b i := fun r b i => by rw [ec, if_neg (fun z => hread (hrd.mp z))]
    have emr : ∀ r b i, r ≠ 36 → ¬ (r = 20 ∧ b = 0 ∧ i = 21) → m' r b i = if r = 26 ∧ b = 0 ∧ i = k then nI 3 else if r = 21 ∧ b = 0 then (if q ≤ i ∧ i < q + n then m 33 0 (4 * k + (i - q)) else m 21 0 i) else if r = 32 ∧ b = 0 ∧ i = k then nI 0 else m r b i := fun r b i h1 h2 => by rw [em r b i h1 h2, if_pos (hwr.mpr hread)]
    have k26 : m' 26 0 k = nI 3 := by rw [emr 26 0 k (by decide) (by omega), if_pos ⟨rfl, rfl, rfl⟩]
    have k35 : m' 35 0 k = nI 0 := by rw [emr 35 0 k (by decide) (by omega), if_neg (by omega), if_neg (by omega), if_neg (by omega)]; exact gl
    have ck3 : c' 0 k 3 = nI 3 := by rw [ecr, if_neg (by omega), if_pos ⟨rfl, rfl, rfl⟩]
    have ck9 : c' 0 k 9 = nI 0 := by rw [ecr, if_neg (by omega), if_neg (by omega), if_neg (by omega), τo 0 (by decide) (by decide) (by decide) (by decide) (by decide)]; exact b23
    refine ⟨fun l hl => ?_, fun u hu => ?_, RGpart (fun i hi => ?_)⟩
    · by_cases e9 : l = k
      · subst e9
        refine ⟨3, d, w, n, q, o, 0, 0, 0, ?_⟩
        refine ⟨by rw [c0k _ (by decide) (by decide)]; exact b1, by rw [c0k _ (by decide) (by decide)]; exact b2, ck3, k26, by omega, by rw [c0k _ (by decide) (by decide)]; exact b6, by rw [eo 27 (by decide) (by decide) (by decide) (by decide) (by decide) (by decide) (by decide)]; exact b7, b8, by rw [c0k _ (by decide) (by decide)]; exact b9, by rw [eo 30 (by decide) (by decide) (by decide) (by decide) (by decide) (by decide) (by decide)]; exact b10, b11, by rw [c0k _ (by decide) (by decide)]; exact b12, by rw [eo 29 (by decide) (by decide) (by decide) (by decide) (by decide) (by decide) (by decide)]; exact b13, b14, by rw [c0k _ (by decide) (by decide)]; exact b15, b16, by rw [eo 28 (by decide) (by decide) (by decide) (by decide) (by decide) (by decide) (by decide)]; exact b17, by rw [c0k _ (by decide) (by decide)]; exact b18, b19, fun _ => by rw [eo 31 (by decide) (by decide) (by decide) (by decide) (by decide) (by decide) (by decide)]; exact b20 (by decide), k32, by omega, ck9, by omega, by rw [c0k _ (by decide) (by decide)]; exact b25, fun _ => k35, by omega, by omega, by omega, fun _ z => absurd z hread⟩
      · exact RKo l hl e9
    · by_cases hut : u = t
      · subst hut
        have hcg : cN (mp_gr m u) 16 = cN (mp_gr m' u) 16 + 1 := by
          refine cN_add (k0 := k) ?_ ⟨b4, hin.2.2⟩ hk16 (fun l _ hne => (hgo u l hne).symm)
          rintro ⟨z, -⟩
          rw [k26] at z
          exact n32 z
        have htc := htt.tc
        refine ⟨mt - 1, c2t1, by omega, by omega, ?_, by rw [c2 _ _ (by omega), eo 25 (by decide) (by decide) (by decide) (by decide) (by decide) (by decide) (by decide)]; exact hT2, by rw [eo 25 (by decide) (by decide) (by decide) (by decide) (by decide) (by decide) (by decide)]; exact hT3, by rw [c2 _ _ (by omega), eo 24 (by decide) (by decide) (by decide) (by decide) (by decide) (by decide) (by decide)]; exact hT4, by rw [eo 24 (by decide) (by decide) (by decide) (by decide) (by decide) (by decide) (by decide)]; exact hT5', q1', q2', q3'⟩
        rw [ecr, if_pos ⟨rfl, htq.symm, rfl⟩, htq, τ2, if_neg (by omega), htt.cr, nI_add]
        congr 1
        omega
      · exact RTo u hu hut
    · have eL : c' 8 0 i = if q ≤ i ∧ i < q + n then τ 1 k (0 + (i - q)) else τ 8 0 i := by rw [ecr, if_neg (by omega), if_neg (by omega), if_pos ⟨rfl, rfl⟩]
      have eR : m' 21 0 i = if q ≤ i ∧ i < q + n then m 33 0 (4 * k + (i - q)) else m 21 0 i := by rw [emr 21 0 i (by decide) (by omega), if_neg (by omega), if_pos ⟨rfl, rfl⟩]
      rw [eL, eR]
      by_cases hx : q ≤ i ∧ i < q + n
      · rw [if_pos hx, if_pos hx, τo 1 (by decide) (by decide) (by decide) (by decide) (by decide), Nat.zero_add]
        exact b29 (Or.inr ⟨rfl, rfl⟩) (by omega) (i - q) (by omega)
      · rw [if_neg hx, if_neg hx, τo 8 (by decide) (by decide) (by decide) (by decide) (by decide)]
        exact a11 i hi
