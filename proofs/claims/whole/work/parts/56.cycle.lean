/-! A cycle of the class. -/
def xf_n (σ : xMem) : Nat := xN (σ 11 0 2)
def xf_g (σ : xMem) : Nat := xN (σ 11 0 9)
def xf_N (σ : xMem) : Nat := xN (σ 12 (xf_g σ) 1)
def xf_leave (σ : xMem) (t m : Nat) : xMem := xw_u2 (xu3 σ 2 t 1 (nI (m - 1))) 3 t (va_cpy (σ 3 t) (σ 3 t) 1 0 (m - 1))
noncomputable def xf_pick (σ : xMem) (t : Nat) : xMem :=
  xf_move (xf_log (xf_leave σ t (xN (σ 2 t 1))) (xN (σ 3 t 0)) (xf_n σ) (xf_g σ) (xf_N σ)) (xN (σ 3 t 0)) (xN (σ 0 (xN (σ 3 t 0)) 5)) (xN (σ 0 (xN (σ 3 t 0)) 6))
noncomputable def xf_srv1 (σ : xMem) (t : Nat) : xMem := xif (¬ σ 2 t 4 = 0 ∧ ¬ σ 2 t 1 ≤ 0) (xf_pick σ t) σ
noncomputable def xf_srv (σ : xMem) : Nat → xMem
  | 0 => σ
  | i + 1 => xf_srv1 (xf_srv σ i) i
/-- what the class's memory keeps while it serves -/
def cv (σ : xMem) : Prop := σ 7 0 0 = nI 3 ∧ σ 6 0 0 = nI 16 ∧ (∀ t, t < 3 → ∃ m, m ≤ 4 ∧ σ 2 t 1 = nI m ∧ (0 < m → ∃ k q ln, k < 16 ∧ σ 3 t 0 = nI k ∧ σ 0 k 5 = nI q ∧ σ 0 k 6 = nI ln ∧ q + ln ≤ 48 ∧ q < 48 ∧ ln ≤ 4 ∧ xf_n σ < 512)) ∧ xS σ (xf_n σ) (xf_g σ) (xf_N σ)
theorem xf_srv1_t {σ : xMem} {t : Nat} (h1 : ¬ σ 2 t 4 = 0) (h2 : ¬ σ 2 t 1 ≤ 0) : xf_srv1 σ t = xf_pick σ t := xif_t ⟨h1, h2⟩ _ _
theorem xf_srv1_f {σ : xMem} {t : Nat} (h : ¬ (¬ σ 2 t 4 = 0 ∧ ¬ σ 2 t 1 ≤ 0)) : xf_srv1 σ t = σ := xif_f h _ _
theorem xf_pick_eq {σ : xMem} {t m k q ln : Nat} (hm : σ 2 t 1 = nI m) (m4 : m < 2 ^ 31) (hk : σ 3 t 0 = nI k) (k4 : k < 2 ^ 31) (hq : σ 0 k 5 = nI q) (q4 : q < 2 ^ 31) (hl : σ 0 k 6 = nI ln) (l4 : ln < 2 ^ 31) :
    xf_pick σ t = xf_move (xf_log (xf_leave σ t m) k (xf_n σ) (xf_g σ) (xf_N σ)) k q ln := by
  unfold xf_pick
  rw [xN_of hm m4, xN_of hk k4, xN_of hq q4, xN_of hl l4]
theorem xS_congr {σ τ : xMem} {n g N : Nat} (h11 : τ 11 = σ 11) (h12 : τ 12 = σ 12) (h : xS σ n g N) : xS τ n g N := by
  unfold xS at h ⊢
  rw [h11, h12]
  exact h
theorem xf_leave_at {σ : xMem} {t m r k i : Nat} (h2 : r ≠ 2) (h3 : r ≠ 3) : xf_leave σ t m r k i = σ r k i := by
  unfold xf_leave
  simp only [xu3_at, xu2_at]
  grind
theorem xS_leave {σ : xMem} {t m n g N : Nat} (h : xS σ n g N) : xS (xf_leave σ t m) n g N :=
  xS_congr (by funext k i; exact xf_leave_at (by decide) (by decide)) (by funext k i; exact xf_leave_at (by decide) (by decide)) h
theorem xS_log {σ : xMem} {k n g N : Nat} (h : xS σ n g N) (hn : n < 512) : xS (xf_log σ k n g N) (n + 1) (xg_add n g N) (xN_add n g N) := xS_add h hn
theorem xf_move_at {σ : xMem} {k q ln r b i : Nat} (h0 : r ≠ 0) (h1 : r ≠ 1) (h2 : r ≠ 2) (h8 : r ≠ 8) : xf_move σ k q ln r b i = σ r b i := by
  unfold xf_move xf_finish
  by_cases h : xp_read σ k
  · rw [xif_t h]
    simp only [xu3_at, xu2_at]
    grind
  · rw [xif_f h]
    simp only [xu3_at, xu2_at]
    grind
theorem xS_ng {σ : xMem} {n g N : Nat} (h : xS σ n g N) : xf_n σ = n ∧ xf_g σ = g := by
  obtain ⟨h2, h9, -, -, h3, h4, -⟩ := h
  exact ⟨xN_of h2 (by omega), xN_of h9 (by omega)⟩
theorem xS_mv {σ : xMem} {k q ln n g N : Nat} (h : xS σ n g N) : xS (xf_move σ k q ln) n g N :=
  xS_congr (by funext b i; exact xf_move_at (by decide) (by decide) (by decide) (by decide)) (by funext b i; exact xf_move_at (by decide) (by decide) (by decide) (by decide)) h
theorem xS_move {σ : xMem} {k q ln n g N : Nat} (h : xS σ n g N) : xf_n (xf_move σ k q ln) = n ∧ xf_g (xf_move σ k q ln) = g := xS_ng (xS_mv h)
theorem xf_srv1_n {σ : xMem} {t : Nat} (ht : t < 3) (h : cv σ) : xf_n σ ≤ xf_n (xf_srv1 σ t) := by
  obtain ⟨-, -, h3, hS⟩ := h
  by_cases hc : ¬ σ 2 t 4 = 0 ∧ ¬ σ 2 t 1 ≤ 0
  · obtain ⟨m, hm4, hm, hs⟩ := h3 t ht
    have h0 : 0 < m := Nat.pos_of_ne_zero (fun z => hc.2 (by rw [hm, z]; decide))
    obtain ⟨k, q, ln, hk, h30, hq, hln, hqn, hq48, hl4, hn5⟩ := hs h0
    rw [xf_srv1_t hc.1 hc.2, xf_pick_eq hm (by omega) h30 (by omega) hq (by omega) hln (by omega), (xS_move (xS_log (xS_leave hS) hn5)).1]
    omega
  · rw [xf_srv1_f hc]
    exact Nat.le_refl _
theorem xf_srv_mono {σ : xMem} (h : ∀ i, i ≤ 3 → cv (xf_srv σ i)) : ∀ i j, i ≤ j → j ≤ 3 → xf_n (xf_srv σ i) ≤ xf_n (xf_srv σ j) := by
  intro i j hij
  obtain ⟨d, rfl⟩ := Nat.exists_eq_add_of_le hij
  induction d with
  | zero => intro _; exact Nat.le_refl _
  | succ d ih =>
    intro hj
    refine Nat.le_trans (ih (by omega) (by omega)) ?_
    exact xf_srv1_n (t := i + d) (by omega) (h (i + d) (by omega))
noncomputable def xf_s3 (σ : xMem) : xMem := xf_srv (xu3 σ 5 0 6 (σ 5 0 6 + nI 1)) 3
noncomputable def xf_gv (σ : xMem) : xMem := xf_ret (xf_s3 σ) (xN (xf_s3 σ 5 0 9)) (xf_fst (xp_ret (xf_s3 σ) (xN (xf_s3 σ 5 0 9))) 1 16)
noncomputable def xf_bst (σ : xMem) : Option Nat := xf_best (xf_gv σ) (xN (xf_gv σ 5 0 8)) 16
noncomputable def xf_gr (σ : xMem) (o : Option Nat) : xMem := match o with
  | none => xf_gv σ
  | some b => xf_grant (xf_gv σ) b (xN (xf_gv σ 0 b 5) / 16) (xN (xf_gv σ 2 (xN (xf_gv σ 0 b 5) / 16) 1))
noncomputable def xf_cyc (σ : xMem) : xMem := xf_age (xf_gr σ (xf_bst σ)) 16
def cvq (τ : xMem) : Prop := ∀ k, k < 16 → xp_elig τ k → ¬ τ 0 k 4 = nI 4 → ∀ q, q < 48 → τ 0 k 5 = nI q → ∃ n, n < 4 ∧ τ 2 (q / 16) 1 = nI n
def cv1 (σ : xMem) : Prop := (∀ i, i ≤ 3 → cv (xf_srv (xu3 σ 5 0 6 (σ 5 0 6 + nI 1)) i)) ∧ (∃ g, g < 16 ∧ xf_s3 σ 5 0 9 = nI g) ∧ xf_s3 σ 6 0 0 = nI 16 ∧ xf_s3 σ 7 0 0 = nI 3 ∧ (∀ k, k < 16 → xf_s3 σ 0 k 3 = nI 2 → ∃ q, q < 48 ∧ xf_s3 σ 0 k 5 = nI q) ∧
  (∃ g, g < 4 ∧ xf_gv σ 5 0 8 = nI g) ∧ xv_tags (xf_gv σ) ∧ cvq (xf_gv σ)
theorem xf_gr_some {σ : xMem} {b q : Nat} (h : cvq (xf_gv σ)) (hb : b < 16) (hel : xp_elig (xf_gv σ) b) (hq : xf_gv σ 0 b 5 = nI q) (h64 : q < 64) : ∃ n, (¬ xf_gv σ 0 b 4 = nI 4 → q < 48 → xf_gv σ 2 (q / 16) 1 = nI n ∧ n < 4) ∧ xf_gr σ (some b) = xf_grant (xf_gv σ) b (q / 16) n := by
  refine ⟨xN (xf_gv σ 2 (q / 16) 1), fun h4 h48 => ?_, ?_⟩
  · obtain ⟨n, hn, e⟩ := h b hb hel h4 q h48 hq
    rw [xN_of e (by omega)]
    exact ⟨e, hn⟩
  · show xf_grant _ _ _ _ = _
    rw [xN_of hq (by omega)]
theorem xf_enter_at {σ : xMem} {k t n r b i : Nat} (h2 : r ≠ 2) (h3 : r ≠ 3) : xf_enter σ k t n r b i = σ r b i := by
  unfold xf_enter
  by_cases h' : σ 0 k 4 = nI 2
  · rw [xif_t h']
    by_cases h : σ 0 k 4 = nI 3
    · rw [xif_t h]
      simp only [xu3_at]
      grind
    · rw [xif_f h]
      simp only [xu3_at]
      grind
  · rw [xif_f h']
    by_cases h : σ 0 k 4 = nI 3
    · rw [xif_t h]
      simp only [xu3_at]
      grind
    · rw [xif_f h]
      simp only [xu3_at]
      grind
theorem xf_grant_at {σ : xMem} {k t n r b i : Nat} (h0 : r = 0 → ¬ i = 3) (h2 : r ≠ 2) (h3 : r ≠ 3) (h5 : r ≠ 5) : xf_grant σ k t n r b i = σ r b i := by
  unfold xf_grant
  by_cases h : σ 0 k 4 = nI 4
  · rw [xif_t h]
    simp only [xu3_at]
    grind
  · rw [xif_f h]
    by_cases h' : xp_unm σ k
    · rw [xif_t h']
      simp only [xu3_at]
      grind
    · rw [xif_f h', xf_enter_at h2 h3]
      simp only [xu3_at]
      grind
theorem xf_gr_at {σ : xMem} {o : Option Nat} {r b i : Nat} (h0 : r = 0 → ¬ i = 3) (h2 : r ≠ 2) (h3 : r ≠ 3) (h5 : r ≠ 5) : xf_gr σ o r b i = xf_gv σ r b i := by
  cases o with
  | none => rfl
  | some k => exact xf_grant_at h0 h2 h3 h5
theorem xf_ret_at {σ : xMem} {g : Nat} {o : Option Nat} {r b i : Nat} (h0 : r ≠ 0) (h2 : r ≠ 2) (h5 : r ≠ 5) : xf_ret σ g o r b i = σ r b i := by
  cases o with
  | none => rfl
  | some k =>
    show xf_back σ _ r b i = _
    unfold xf_back xf_finish
    by_cases h : σ 0 ((g + k) % 16) 10 + nI 1 = σ 0 ((g + k) % 16) 6
    · rw [xif_t h]
      simp only [xu3_at]
      grind
    · rw [xif_f h]
      simp only [xu3_at]
      grind
theorem xf_age_at {σ : xMem} {n r b i : Nat} (h : r = 0 → ¬ i = 8) : xf_age σ n r b i = σ r b i := by
  unfold xf_age
  grind
theorem xf_cyc_ng {σ : xMem} (hv : cv1 σ) : xf_n (xf_cyc σ) = xf_n (xf_s3 σ) ∧ xf_g (xf_cyc σ) = xf_g (xf_s3 σ) := by
  have e : ∀ i, xf_cyc σ 11 0 i = xf_s3 σ 11 0 i := by
    intro i
    unfold xf_cyc
    rw [xf_age_at (fun z => by omega), xf_gr_at (fun z => by omega) (by decide) (by decide) (by decide)]
    unfold xf_gv
    rw [xf_ret_at (by decide) (by decide) (by decide)]
  unfold xf_n xf_g
  rw [e, e]
  exact ⟨rfl, rfl⟩
theorem xf_gr_6 {σ : xMem} (hv : cv1 σ) : xf_gr σ (xf_bst σ) 6 0 0 = nI 16 := by
  rw [xf_gr_at (by decide) (by decide) (by decide) (by decide)]
  exact hv.2.2.2.2.2.2.1.1
theorem xf_cyc_0 {σ : xMem} (hv : cv1 σ) {b : Nat} (hb : b < 16) : xf_cyc σ 0 b 0 = nI (b / 4) := by
  unfold xf_cyc
  rw [xf_age_at (by decide), xf_gr_at (by decide) (by decide) (by decide) (by decide)]
  exact (hv.2.2.2.2.2.2.1.2.2 b hb).1
noncomputable def xf_run (σ : xMem) : Nat → xMem
  | 0 => σ
  | i + 1 => xf_cyc (xf_run σ i)
noncomputable def xf_many (σ : xMem) : Nat → Nat
  | 0 => 0
  | i + 1 => match xf_bst (xf_run σ i) with
    | none => xf_many σ i
    | some _ => xf_many σ i + 1
theorem xf_many_n {σ : xMem} {i : Nat} (h : xf_bst (xf_run σ i) = none) : xf_many σ i = xf_many σ (i + 1) := by
  show _ = match xf_bst (xf_run σ i) with
    | none => xf_many σ i
    | some _ => xf_many σ i + 1
  rw [h]
theorem xf_many_s {σ : xMem} {i b : Nat} (h : xf_bst (xf_run σ i) = some b) : xf_many σ i + 1 = xf_many σ (i + 1) := by
  show _ = match xf_bst (xf_run σ i) with
    | none => xf_many σ i
    | some _ => xf_many σ i + 1
  rw [h]
theorem xf_cyc_n {σ : xMem} (hv : cv1 σ) : xf_n σ ≤ xf_n (xf_cyc σ) := by
  rw [(xf_cyc_ng hv).1]
  exact xf_srv_mono hv.1 0 3 (by omega) (by omega)
theorem xf_run_mono {σ : xMem} {n : Nat} (h : ∀ k, k < n → cv1 (xf_run σ k)) : ∀ i j, i ≤ j → j ≤ n → xf_n (xf_run σ i) ≤ xf_n (xf_run σ j) := by
  intro i j hij
  obtain ⟨d, rfl⟩ := Nat.exists_eq_add_of_le hij
  induction d with
  | zero => intro _; exact Nat.le_refl _
  | succ d ih =>
    intro hj
    refine Nat.le_trans (ih (by omega) (by omega)) ?_
    exact xf_cyc_n (h (i + d) (by omega))
theorem nI_nem1 {n : Nat} (h : n < 2 ^ 31) : ¬ nI n = -1 := fun z => absurd (show nI n < 0 by rw [z]; decide) (nI_pos h)
set_option maxRecDepth 100000 in
set_option maxHeartbeats 4000000 in
theorem cSF_serveTargets (l : Launch) (D : va_G) (cA : Nat → ClassId) (tz : Nat) (I : List (Nat × Nat)) (ad : Nat → Nat → Nat) (σ : xMem) (hI : xI I) (hL : xL I (xf_n σ) (xf_g σ)) (hv : ∀ i, i ≤ 3 → cv (xf_srv σ i)) : xA (xZ tz) l ySF_serveTargets bSF_serveTargets 2 none 8 (2 * (xf_n (xf_srv σ 3) - xf_n σ)) (772 * (xf_n (xf_srv σ 3) - xf_n σ)) [.ref (ad 5 0)] D cA tz I ad σ (fun _ => none) (xf_srv σ 3) (xf_n (xf_srv σ 3)) (xf_g (xf_srv σ 3)) := by
  refine xa_of (by decide) (by simp [lg_sl, Value.category]) ?_
  intro p e s m args below meth c A ls C hr hlk hml hl w hz
  obtain ⟨hx, hb, hown, hts⟩ := id C
  have hl : lv_has ls 2 [(0, .ref (ad 5 0))] := hl
  have hE0 := xE.rf I ad
  have h70 : (xf_srv σ 0) 7 0 0 = nI 3 := (hv 0 (by omega)).1
  refine lv_iconst (v := nI 0) hx hb dSF_serveTargets_0 xk_i0 ?_
  refine lv_istore_n (lv' := [(1, .int (nI 0)), (0, .ref (ad 5 0))]) hx hb dSF_serveTargets_1 rfl hl (by decide) rfl (fun ls hl => ?_)
  refine xl_upA (Wg := fun H locs ls cells slots => W p l e _ s m args below meth c H locs cells slots _ (F0 m 2 ls [])) (K := fun i H locs ls cells slots => ∃ (I1 : List (Nat × Nat)) (ad1 : Nat → Nat → Nat), xE I ad I1 ad1 ∧ xL I1 (xf_n (xf_srv σ i)) (xf_g (xf_srv σ i)) ∧ xr_W xCl (xT cA) D I1 ad1 (xc cA tz ad1 (xf_srv σ i)) A s H locs ∧ lv_has ls 2 [(0, .ref (ad1 5 0)), (1, .int (nI i))] ∧ cells ≤ 2 * (xf_n (xf_srv σ i) - xf_n σ) ∧ slots ≤ 772 * (xf_n (xf_srv σ i) - xf_n σ)) 3 ?_ ?_ 0 _ _ _ _ _ (by omega) ⟨I, ad, hE0, hL, w, lv_sub hl [1, 0] rfl, by omega, by omega⟩
  · skip
    intro H locs ls cells slots ⟨I, ad, hE0, hL, w, hl, hcc, hss⟩
    have hI := hE0.I hI
    have hm := xf_srv_mono hv
    refine lv_iload_n hx hb dSF_serveTargets_2 rfl (lv_at hl 1 rfl) ?_
    refine lv_iconst (v := nI 3) hx hb dSF_serveTargets_3 xk_i3 ?_
    refine lv_icmp_ge hx hb dSF_serveTargets_4 rfl (fun _ => ?_) (fun hq => absurd (nI_le (by omega) (by omega)) hq)
    exact xa_vret C w hr hlk dSF_serveTargets_55 rfl hE0 hL (by omega) (by omega)
  · skip
    intro i H locs ls cells slots hii ⟨I, ad, hE0, hL, w, hl, hcc, hss⟩ ihi
    have hI := hE0.I hI
    have hm := xf_srv_mono hv
    obtain ⟨h7, h6, hq3, hxS⟩ := id (hv i (by omega))
    obtain ⟨mm, hm4, hmm, hser⟩ := hq3 i (by omega)
    have m1 := hm (i + 1) 3 (by omega) (by omega)
    have m2 : xf_n σ ≤ xf_n (xf_srv σ i) := hm 0 i (by omega) (by omega)
    refine lv_iload_n hx hb dSF_serveTargets_2 rfl (lv_at hl 1 rfl) ?_
    refine lv_iconst (v := nI 3) hx hb dSF_serveTargets_3 xk_i3 ?_
    refine lv_icmp_ge hx hb dSF_serveTargets_4 rfl (fun hq => absurd hq (nI_ge (by omega) (by omega))) (fun _ => ?_)
    refine lv_aload_n hx hb dSF_serveTargets_7 rfl (lv_at hl 0 rfl) ?_
    refine xg_SF_17 C w (xI5 hI) dSF_serveTargets_8 ?_
    refine lv_iload_n hx hb dSF_serveTargets_11 rfl (lv_at hl 1 rfl) ?_
    refine xa_7 C w (xI7 hI) h7 i rfl (by omega) dSF_serveTargets_12 ?_
    refine xg_SF_94 C w (xI2 hI (by omega)) dSF_serveTargets_13 ?_
    refine lv_if_eq hx hb dSF_serveTargets_16 rfl (fun hh1 => ?_) (fun hh1 => ?_)
    · skip
      refine lv_iinc (lv' := [(1, .int (nI (i + 1))), (0, .ref (ad 5 0))]) hx hb dSF_serveTargets_49 hl (k := 1) rfl (xn_inc _) (by decide) rfl (fun ls hl => ?_)
      refine lv_goto hx hb dSF_serveTargets_52 rfl ?_
      have hsv : xf_srv1 (xf_srv σ i) i = xf_srv σ i := xf_srv1_f (by grind)
      have hnx : xf_n (xf_srv σ (i + 1)) = xf_n (xf_srv σ i) ∧ xf_g (xf_srv σ (i + 1)) = xf_g (xf_srv σ i) := by show xf_n (xf_srv1 _ i) = _ ∧ xf_g (xf_srv1 _ i) = _; rw [hsv]; exact ⟨rfl, rfl⟩
      exact ihi _ _ _ _ _ ⟨I, ad, hE0, by rw [hnx.1, hnx.2]; exact hL, (show xf_srv σ (i + 1) = _ from hsv) ▸ w, lv_sub hl [1, 0] rfl, by omega, by omega⟩
    · skip
      refine lv_aload_n hx hb dSF_serveTargets_19 rfl (lv_at hl 0 rfl) ?_
      refine xg_SF_17 C w (xI5 hI) dSF_serveTargets_20 ?_
      refine lv_iload_n hx hb dSF_serveTargets_23 rfl (lv_at hl 1 rfl) ?_
      refine xa_7 C w (xI7 hI) h7 i rfl (by omega) dSF_serveTargets_24 ?_
      refine xg_SF_176 C w (xI2 hI (by omega)) dSF_serveTargets_25 ?_
      refine lv_if_le hx hb dSF_serveTargets_28 rfl (fun hh2 => ?_) (fun hh2 => ?_)
      · skip
        refine lv_iinc (lv' := [(1, .int (nI (i + 1))), (0, .ref (ad 5 0))]) hx hb dSF_serveTargets_49 hl (k := 1) rfl (xn_inc _) (by decide) rfl (fun ls hl => ?_)
        refine lv_goto hx hb dSF_serveTargets_52 rfl ?_
        have hsv : xf_srv1 (xf_srv σ i) i = xf_srv σ i := xf_srv1_f (by grind)
        have hnx : xf_n (xf_srv σ (i + 1)) = xf_n (xf_srv σ i) ∧ xf_g (xf_srv σ (i + 1)) = xf_g (xf_srv σ i) := by show xf_n (xf_srv1 _ i) = _ ∧ xf_g (xf_srv1 _ i) = _; rw [hsv]; exact ⟨rfl, rfl⟩
        exact ihi _ _ _ _ _ ⟨I, ad, hE0, by rw [hnx.1, hnx.2]; exact hL, (show xf_srv σ (i + 1) = _ from hsv) ▸ w, lv_sub hl [1, 0] rfl, by omega, by omega⟩
      · skip
        have hmp : 0 < mm := Nat.pos_of_ne_zero (fun z => hh2 (by rw [hmm, z]; decide))
        obtain ⟨k, q, ln, hk, h30, hq, hln, hqn, hq48, hl4, hn5⟩ := hser hmp
        clear hser
        obtain ⟨m0, rfl⟩ : ∃ m0, mm = m0 + 1 := ⟨mm - 1, by omega⟩
        have hsv : xf_srv1 (xf_srv σ i) i = xf_move (xf_log (xf_leave (xf_srv σ i) i (m0 + 1)) k (xf_n (xf_srv σ i)) (xf_g (xf_srv σ i)) (xf_N (xf_srv σ i))) k q ln := by rw [xf_srv1_t hh1 hh2, xf_pick_eq hmm (by omega) h30 (by omega) hq (by omega) hln (by omega)]
        have hxl : xS (xf_leave (xf_srv σ i) i (m0 + 1)) (xf_n (xf_srv σ i)) (xf_g (xf_srv σ i)) (xf_N (xf_srv σ i)) := xS_leave hxS
        have hnx : xf_n (xf_srv σ (i + 1)) = xf_n (xf_srv σ i) + 1 ∧ xf_g (xf_srv σ (i + 1)) = xg_add (xf_n (xf_srv σ i)) (xf_g (xf_srv σ i)) (xf_N (xf_srv σ i)) := by show xf_n (xf_srv1 _ i) = _ ∧ xf_g (xf_srv1 _ i) = _; rw [hsv]; exact xS_move (xS_log hxl hn5)
        refine lv_aload_n hx hb dSF_serveTargets_31 rfl (lv_at hl 0 rfl) ?_
        refine lv_aload_n hx hb dSF_serveTargets_32 rfl (lv_at hl 0 rfl) ?_
        refine xg_SF_11 C w (xI5 hI) dSF_serveTargets_33 ?_
        refine lv_aload_n hx hb dSF_serveTargets_36 rfl (lv_at hl 0 rfl) ?_
        refine xg_SF_17 C w (xI5 hI) dSF_serveTargets_37 ?_
        refine lv_iload_n hx hb dSF_serveTargets_40 rfl (lv_at hl 1 rfl) ?_
        refine xa_7 C w (xI7 hI) h7 i rfl (by omega) dSF_serveTargets_41 ?_
        refine xd_callV C w hz hml hl.1 xk_SF_179 (cTA_leave l D cA tz I ad (xf_srv σ i) i m0 hI (by omega) hmm (by omega)) (xI2 hI (by omega)) rfl rfl rfl rfl (Nat.le_of_ble_eq_true rfl) (by simp only [xr_R]; omega) (by simp only [xr_R]; omega) dSF_serveTargets_42 (fun H locs w => ?_)
        refine W.eq (g2 := F0 m 45 ls [.int ((xf_srv σ i) 3 i 0), .ref (ad 6 0), .ref (ad 5 0)]) rfl ?_
        refine xn_eq (y := nI k) h30 ?_
        refine xa_6 C w (xI6 hI) h6 k rfl (by omega) dSF_serveTargets_45 ?_
        refine xa_callV C w hz (xZL tz) hml hl.1 xk_SF_182 (cSF_serve l D cA tz I ad (xf_leave (xf_srv σ i) i (m0 + 1)) k (xf_n (xf_srv σ i)) (xf_g (xf_srv σ i)) (xf_N (xf_srv σ i)) q ln hI hL hxl hn5 hk (show _ = nI 3 from h7) (show _ = nI q from hq) (show _ = nI ln from hln) hqn hq48 hl4) (xI5 hI) rfl rfl rfl rfl (Nat.le_of_ble_eq_true rfl) (by simp only [xr_R]; omega) (by simp only [xr_R]; omega) dSF_serveTargets_46 (fun I ad H locs hE hL w => ?_)
        have e0 := hE.2 5 0 (xI5 hI)
        have hE0 := hE0.tr hE
        have hl : lv_has ls 2 [(0, .ref (ad 5 0)), (1, .int (nI i))] := by rw [e0]; exact hl
        refine W.eq (g2 := F0 m 49 ls []) (by rfl) ?_
        have hI := hE.I hI
        refine lv_iinc (lv' := [(1, .int (nI (i + 1))), (0, .ref (ad 5 0))]) hx hb dSF_serveTargets_49 hl (k := 1) rfl (xn_inc _) (by decide) rfl (fun ls hl => ?_)
        refine lv_goto hx hb dSF_serveTargets_52 rfl ?_
        exact ihi _ _ _ _ _ ⟨I, ad, hE0, by rw [hnx.1, hnx.2]; exact hL, (show xf_srv σ (i + 1) = _ from hsv) ▸ w, lv_sub hl [1, 0] rfl, by omega, by omega⟩
set_option maxRecDepth 100000 in
set_option maxHeartbeats 4000000 in
theorem cSF_cycle (l : Launch) (D : va_G) (cA : Nat → ClassId) (tz : Nat) (I : List (Nat × Nat)) (ad : Nat → Nat → Nat) (σ : xMem) (hI : xI I) (hL : xL I (xf_n σ) (xf_g σ)) (hv : cv1 σ) : xA (xZ tz) l ySF_cycle bSF_cycle 2 (some .int) 9 (2 * (xf_n (xf_cyc σ) - xf_n σ)) (772 * (xf_n (xf_cyc σ) - xf_n σ)) [.ref (ad 5 0)] D cA tz I ad σ (fun _ => some (.int (xoi4 (xf_bst σ)))) (xf_cyc σ) (xf_n (xf_cyc σ)) (xf_g (xf_cyc σ)) := by
  refine xa_of (by decide) (by simp [lg_sl, Value.category]) ?_
  intro p e s m args below meth c A ls C hr hlk hml hl w hz
  obtain ⟨hx, hb, hown, hts⟩ := id C
  have hl : lv_has ls 2 [(0, .ref (ad 5 0))] := hl
  have hE0 := xE.rf I ad
  obtain ⟨hvs, ⟨g9, hg9, hgg9⟩, h6r, h7r, hgrt, ⟨g8, hg8, hgg8⟩, hvt, hvq⟩ := id hv
  have hng := xf_cyc_ng hv
  have e9 : xf_gv σ = xf_ret (xf_s3 σ) g9 (xf_fst (xp_ret (xf_s3 σ) g9) 1 16) := by unfold xf_gv; rw [xN_of hgg9 (by omega)]
  have e8 : xf_bst σ = xf_best (xf_gv σ) g8 16 := by unfold xf_bst; rw [xN_of hgg8 (by omega)]
  refine lv_aload_n hx hb dSF_cycle_0 rfl (lv_at hl 0 rfl) ?_
  refine lv_dup hx hb dSF_cycle_1 rfl ?_
  refine xg_SF_40 C w (xI5 hI) dSF_cycle_2 ?_
  refine lv_iconst (v := nI 1) hx hb dSF_cycle_5 xk_i1 ?_
  refine lv_iadd hx hb dSF_cycle_6 ?_
  refine xp_SF_40 C w (xI5 hI) dSF_cycle_7 (fun H locs w => ?_)
  refine lv_aload_n hx hb dSF_cycle_10 rfl (lv_at hl 0 rfl) ?_
  refine xa_callV C w hz (xZL tz) hml hl.1 xk_SF_98 ((show xA (xZ tz) l ySF_serveTargets bSF_serveTargets 2 none 8 (2 * (xf_n (xf_s3 σ) - xf_n σ)) (772 * (xf_n (xf_s3 σ) - xf_n σ)) [.ref (ad 5 0)] D cA tz I ad (xu3 σ 5 0 6 ((σ 5 0 6) + (nI 1))) (fun _ => none) (xf_s3 σ) (xf_n (xf_s3 σ)) (xf_g (xf_s3 σ)) from cSF_serveTargets l D cA tz I ad (xu3 σ 5 0 6 ((σ 5 0 6) + (nI 1))) hI hL hvs)) (xI5 hI) rfl rfl rfl rfl (Nat.le_of_ble_eq_true rfl) (by simp only [xr_R]; omega) (by simp only [xr_R]; omega) dSF_cycle_11 (fun I ad H locs hE hL w => ?_)
  have e0 := hE.2 5 0 (xI5 hI)
  have hE0 := hE0.tr hE
  have hl : lv_has ls 2 [(0, .ref (ad 5 0))] := by rw [e0]; exact hl
  refine W.eq (g2 := F0 m 14 ls []) (by rfl) ?_
  have hI := hE.I hI
  refine lv_aload_n hx hb dSF_cycle_14 rfl (lv_at hl 0 rfl) ?_
  refine xd_callV C w hz hml hl.1 xk_SF_101 ((show xD l ySF_returnNextWord bSF_returnNextWord 4 none 3 [.ref (ad 5 0)] D cA tz I ad (xf_s3 σ) none (xf_gv σ) from e9 ▸ cSF_returnNextWord l D cA tz I ad (xf_s3 σ) g9 hI h6r h7r hgg9 hg9 hgrt)) (xI5 hI) rfl rfl rfl rfl (Nat.le_of_ble_eq_true rfl) (by simp only [xr_R]; omega) (by simp only [xr_R]; omega) dSF_cycle_15 (fun H locs w => ?_)
  refine W.eq (g2 := F0 m 18 ls []) rfl ?_
  refine lv_aload_n hx hb dSF_cycle_18 rfl (lv_at hl 0 rfl) ?_
  refine xd_callV C w hz hml hl.1 xk_SF_104 ((show xD l ySF_chooseGrant bSF_chooseGrant 6 (some (.object "SplitFabric$Tag")) 4 [.ref (ad 5 0)] D cA tz I ad (xf_gv σ) (some (xo ad (xf_bst σ))) (xf_gv σ) from e8 ▸ cSF_chooseGrant l D cA tz I ad (xf_gv σ) g8 hI hvt hgg8 hg8)) (xI5 hI) rfl rfl rfl rfl (Nat.le_of_ble_eq_true rfl) (by simp only [xr_R]; omega) (by simp only [xr_R]; omega) dSF_cycle_19 (fun H locs w => ?_)
  refine W.eq (g2 := F0 m 22 ls [xo ad (xf_bst σ)]) rfl ?_
  rcases hbe : xf_bst σ with _ | b
  · skip
    refine W.eq (g2 := F0 m 22 ls [.null]) rfl ?_
    have hgr : xf_gr σ none = xf_gv σ := rfl
    refine lv_astore_nN (lv' := [(1, .null), (0, .ref (ad 5 0))]) hx hb dSF_cycle_22 rfl hl (by decide) rfl (fun ls hl => ?_)
    refine lv_aload_nN hx hb dSF_cycle_23 rfl (lv_at hl 0 rfl) ?_
    refine lv_ifnullN hx hb dSF_cycle_24 rfl ?_
    have w : xr_W xCl (xT cA) D I ad (xc cA tz ad (xf_gr σ (xf_bst σ))) A s H locs := by rw [hbe, hgr]; exact w
    refine lv_aload_n hx hb dSF_cycle_32 rfl (lv_at hl 1 rfl) ?_
    refine xd_callV C w hz hml hl.1 xk_SF_112 (cSF_ageWaiting l D cA tz I ad (xf_gr σ (xf_bst σ)) hI (xf_gr_6 hv)) (xI5 hI) rfl rfl rfl rfl (Nat.le_of_ble_eq_true rfl) (by simp only [xr_R]; omega) (by simp only [xr_R]; omega) dSF_cycle_33 (fun H locs w => ?_)
    refine W.eq (g2 := F0 m 36 ls []) rfl ?_
    refine lv_aload_nN hx hb dSF_cycle_36 rfl (lv_at hl 0 rfl) ?_
    refine lv_ifnonnullN hx hb dSF_cycle_37 ?_
    refine lv_iconst (v := -1) hx hb dSF_cycle_40 xk_im1 ?_
    refine lv_goto hx hb dSF_cycle_41 rfl ?_
    exact xa_iret C w hr hlk dSF_cycle_48 (rfl) (rfl) hE0 (by rw [hng.1, hng.2]; exact hL) (by omega) (by omega)
  · skip
    refine W.eq (g2 := F0 m 22 ls [.ref (ad 0 b)]) rfl ?_
    have hb16 : b < 16 := xf_best_lt hbe
    have hel : xp_elig (xf_gv σ) b := xf_it_el _ _ hbe
    obtain ⟨h0b, h1b, ⟨q, h64, hq⟩, -⟩ := hvt.2.2 b hb16
    have hgq : ∃ n, (¬ xf_gv σ 0 b 4 = nI 4 → q < 48 → xf_gv σ 2 (q / 16) 1 = nI n ∧ n < 4) ∧ xf_gr σ (some b) = xf_grant (xf_gv σ) b (q / 16) n := xf_gr_some hvq hb16 hel hq h64
    obtain ⟨n4, hn4, hgr⟩ := hgq
    refine lv_astore_n (lv' := [(1, .ref (ad 0 b)), (0, .ref (ad 5 0))]) hx hb dSF_cycle_22 rfl hl (by decide) rfl (fun ls hl => ?_)
    refine lv_aload_n hx hb dSF_cycle_23 rfl (lv_at hl 0 rfl) ?_
    refine lv_ifnull hx hb dSF_cycle_24 ?_
    refine lv_aload_n hx hb dSF_cycle_27 rfl (lv_at hl 1 rfl) ?_
    refine lv_aload_n hx hb dSF_cycle_28 rfl (lv_at hl 0 rfl) ?_
    refine xd_callV C w hz hml hl.1 xk_SF_108 (cSF_grant l D cA tz I ad (xf_gv σ) b q n4 hI hvt.2.1 hb16 h0b h1b hq h64 hn4) (xI5 hI) rfl rfl rfl rfl (Nat.le_of_ble_eq_true rfl) (by simp only [xr_R]; omega) (by simp only [xr_R]; omega) dSF_cycle_29 (fun H locs w => ?_)
    refine W.eq (g2 := F0 m 32 ls []) rfl ?_
    have w : xr_W xCl (xT cA) D I ad (xc cA tz ad (xf_gr σ (xf_bst σ))) A s H locs := by rw [hbe, hgr]; exact w
    refine lv_aload_n hx hb dSF_cycle_32 rfl (lv_at hl 1 rfl) ?_
    refine xd_callV C w hz hml hl.1 xk_SF_112 (cSF_ageWaiting l D cA tz I ad (xf_gr σ (xf_bst σ)) hI (xf_gr_6 hv)) (xI5 hI) rfl rfl rfl rfl (Nat.le_of_ble_eq_true rfl) (by simp only [xr_R]; omega) (by simp only [xr_R]; omega) dSF_cycle_33 (fun H locs w => ?_)
    refine W.eq (g2 := F0 m 36 ls []) rfl ?_
    refine lv_aload_n hx hb dSF_cycle_36 rfl (lv_at hl 0 rfl) ?_
    refine lv_ifnonnull hx hb dSF_cycle_37 rfl ?_
    refine lv_aload_n hx hb dSF_cycle_44 rfl (lv_at hl 0 rfl) ?_
    refine xg_SF_115 C w (xI0 hI (by omega)) dSF_cycle_45 ?_
    exact xa_iret C w hr hlk dSF_cycle_48 ((show xf_cyc σ 0 b 0 = nI (b / 4) from xf_cyc_0 hv hb16)) (rfl) hE0 (by rw [hng.1, hng.2]; exact hL) (by omega) (by omega)
set_option maxRecDepth 100000 in
set_option maxHeartbeats 4000000 in
theorem cSF_cycles_ok (l : Launch) (D : va_G) (cA : Nat → ClassId) (tz : Nat) (I : List (Nat × Nat)) (ad : Nat → Nat → Nat) (σ : xMem) (n : Nat) (hI : xI I) (hL : xL I (xf_n σ) (xf_g σ)) (h1n : 1 ≤ n) (hn100 : n ≤ 100) (hv : ∀ k, k < n → cv1 (xf_run σ k)) : xA (xZ tz) l ySF_cycles bSF_cycles 4 (some .int) 10 (2 * (xf_n (xf_run σ n) - xf_n σ)) (772 * (xf_n (xf_run σ n) - xf_n σ)) [.ref (ad 5 0), .int (nI n)] D cA tz I ad σ (fun _ => some (.int (nI (xf_many σ n)))) (xf_run σ n) (xf_n (xf_run σ n)) (xf_g (xf_run σ n)) := by
  refine xa_of (by decide) (by simp [lg_sl, Value.category]) ?_
  intro p e s m args below meth c A ls C hr hlk hml hl w hz
  obtain ⟨hx, hb, hown, hts⟩ := id C
  have hl : lv_has ls 4 [(0, .ref (ad 5 0)), (1, .int (nI n))] := hl
  have hE0 := xE.rf I ad
  refine lv_iload_n hx hb dSF_cycles_0 rfl (lv_at hl 1 rfl) ?_
  refine lv_iconst (v := nI 1) hx hb dSF_cycles_1 xk_i1 ?_
  refine lv_icmp_lt hx hb dSF_cycles_2 rfl (fun hh1 => absurd hh1 (nI_nlt (by omega) (by omega))) (fun hh1 => ?_)
  refine lv_iload_n hx hb dSF_cycles_5 rfl (lv_at hl 1 rfl) ?_
  refine lv_bipush (v := nI 100) hx hb dSF_cycles_6 xk_b100 ?_
  refine lv_icmp_gt hx hb dSF_cycles_8 rfl (fun hh2 => absurd hh2 (nI_nlt (by omega) (by omega))) (fun hh2 => ?_)
  refine lv_iconst (v := nI 1) hx hb dSF_cycles_11 xk_i1 ?_
  refine lv_goto hx hb dSF_cycles_12 rfl ?_
  refine xd_callS C w hz hml hl.1 xk_SF_118 (cSF_checkArgument_ok l D cA tz I ad σ) rfl rfl (Nat.le_of_ble_eq_true rfl) (by simp only [xr_R]; omega) (by simp only [xr_R]; omega) dSF_cycles_16 (fun H locs w => ?_)
  refine W.eq (g2 := F0 m 19 ls []) rfl ?_
  refine lv_iconst (v := nI 0) hx hb dSF_cycles_19 xk_i0 ?_
  refine lv_istore_n (lv' := [(2, .int (nI 0)), (0, .ref (ad 5 0)), (1, .int (nI n))]) hx hb dSF_cycles_20 rfl hl (by decide) rfl (fun ls hl => ?_)
  have hl : lv_has ls 4 [(2, .int (nI (xf_many σ 0))), (0, .ref (ad 5 0)), (1, .int (nI n))] := hl
  refine lv_iconst (v := nI 0) hx hb dSF_cycles_21 xk_i0 ?_
  refine lv_istore_n (lv' := [(3, .int (nI 0)), (2, .int (nI (xf_many σ 0))), (0, .ref (ad 5 0)), (1, .int (nI n))]) hx hb dSF_cycles_22 rfl hl (by decide) rfl (fun ls hl => ?_)
  refine xl_upA (Wg := fun H locs ls cells slots => W p l e _ s m args below meth c H locs cells slots _ (F0 m 23 ls [])) (K := fun i H locs ls cells slots => ∃ (I1 : List (Nat × Nat)) (ad1 : Nat → Nat → Nat), xE I ad I1 ad1 ∧ xL I1 (xf_n (xf_run σ i)) (xf_g (xf_run σ i)) ∧ xr_W xCl (xT cA) D I1 ad1 (xc cA tz ad1 (xf_run σ i)) A s H locs ∧ lv_has ls 4 [(0, .ref (ad1 5 0)), (1, .int (nI n)), (2, .int (nI (xf_many σ i))), (3, .int (nI i))] ∧ cells ≤ 2 * (xf_n (xf_run σ i) - xf_n σ) ∧ slots ≤ 772 * (xf_n (xf_run σ i) - xf_n σ)) n ?_ ?_ 0 _ _ _ _ _ (by omega) ⟨I, ad, hE0, hL, w, lv_sub hl [2, 3, 1, 0] rfl, by omega, by omega⟩
  · skip
    intro H locs ls cells slots ⟨I, ad, hE0, hL, w, hl, hcc, hss⟩
    have hI := hE0.I hI
    have hm := xf_run_mono hv
    refine lv_iload_n hx hb dSF_cycles_23 rfl (lv_at hl 3 rfl) ?_
    refine lv_iload_n hx hb dSF_cycles_24 rfl (lv_at hl 1 rfl) ?_
    refine lv_icmp_ge hx hb dSF_cycles_25 rfl (fun _ => ?_) (fun hq => absurd (nI_le (by omega) (by omega)) hq)
    refine lv_iload_n hx hb dSF_cycles_45 rfl (lv_at hl 2 rfl) ?_
    exact xa_iret C w hr hlk dSF_cycles_46 (rfl) rfl hE0 hL (by omega) (by omega)
  · skip
    intro i H locs ls cells slots hii ⟨I, ad, hE0, hL, w, hl, hcc, hss⟩ ihi
    have hI := hE0.I hI
    have hm := xf_run_mono hv
    have m1 := hm (i + 1) n (by omega) (by omega)
    have m2 : xf_n σ ≤ xf_n (xf_run σ i) := hm 0 i (by omega) (by omega)
    have m3 : xf_n (xf_run σ i) ≤ xf_n (xf_run σ (i + 1)) := hm i (i + 1) (by omega) (by omega)
    refine lv_iload_n hx hb dSF_cycles_23 rfl (lv_at hl 3 rfl) ?_
    refine lv_iload_n hx hb dSF_cycles_24 rfl (lv_at hl 1 rfl) ?_
    refine lv_icmp_ge hx hb dSF_cycles_25 rfl (fun hq => absurd hq (nI_ge (by omega) (by omega))) (fun _ => ?_)
    refine lv_aload_n hx hb dSF_cycles_28 rfl (lv_at hl 0 rfl) ?_
    refine xa_callV C w hz (xZL tz) hml hl.1 xk_SF_121 ((show xA (xZ tz) l ySF_cycle bSF_cycle 2 (some .int) 9 (2 * (xf_n (xf_run σ (i + 1)) - xf_n (xf_run σ i))) (772 * (xf_n (xf_run σ (i + 1)) - xf_n (xf_run σ i))) [.ref (ad 5 0)] D cA tz I ad (xf_run σ i) (fun _ => some (.int (xoi4 (xf_bst (xf_run σ i))))) (xf_run σ (i + 1)) (xf_n (xf_run σ (i + 1))) (xf_g (xf_run σ (i + 1))) from cSF_cycle l D cA tz I ad (xf_run σ i) hI hL (hv i hii))) (xI5 hI) rfl rfl rfl rfl (Nat.le_of_ble_eq_true rfl) (by simp only [xr_R]; omega) (by simp only [xr_R]; omega) dSF_cycles_29 (fun I ad H locs hE hL w => ?_)
    have e0 := hE.2 5 0 (xI5 hI)
    have hE0 := hE0.tr hE
    have hl : lv_has ls 4 [(0, .ref (ad 5 0)), (1, .int (nI n)), (2, .int (nI (xf_many σ i))), (3, .int (nI i))] := by rw [e0]; exact hl
    refine W.eq (g2 := F0 m 32 ls [.int (xoi4 (xf_bst (xf_run σ i)))]) (by rfl) ?_
    have hI := hE.I hI
    rcases hbe : xf_bst (xf_run σ i) with _ | b
    · skip
      refine lv_iconst (v := -1) hx hb dSF_cycles_32 xk_im1 ?_
      refine lv_icmp_eq hx hb dSF_cycles_33 rfl (fun _ => ?_) (fun hq => absurd rfl hq)
      have hl : lv_has ls 4 [(0, .ref (ad 5 0)), (1, .int (nI n)), (2, .int (nI (xf_many σ (i + 1)))), (3, .int (nI i))] := by rw [← xf_many_n hbe]; exact hl
      refine lv_iinc (lv' := [(3, .int (nI (i + 1))), (0, .ref (ad 5 0)), (1, .int (nI n)), (2, .int (nI (xf_many σ (i + 1))))]) hx hb dSF_cycles_39 hl (k := 3) rfl (xn_inc _) (by decide) rfl (fun ls hl => ?_)
      refine lv_goto hx hb dSF_cycles_42 rfl ?_
      exact ihi _ _ _ _ _ ⟨I, ad, hE0, hL, w, lv_sub hl [1, 2, 3, 0] rfl, by omega, by omega⟩
    · skip
      have hb16 : b < 16 := xf_best_lt hbe
      refine lv_iconst (v := -1) hx hb dSF_cycles_32 xk_im1 ?_
      refine lv_icmp_eq hx hb dSF_cycles_33 rfl (fun hq => absurd hq (nI_nem1 (by omega))) (fun _ => ?_)
      refine lv_iinc (lv' := [(2, .int (nI (xf_many σ i + 1))), (0, .ref (ad 5 0)), (1, .int (nI n)), (3, .int (nI i))]) hx hb dSF_cycles_36 hl (k := 2) rfl (xn_inc _) (by decide) rfl (fun ls hl => ?_)
      have hl : lv_has ls 4 [(2, .int (nI (xf_many σ (i + 1)))), (0, .ref (ad 5 0)), (1, .int (nI n)), (3, .int (nI i))] := by rw [← xf_many_s hbe]; exact hl
      refine lv_iinc (lv' := [(3, .int (nI (i + 1))), (2, .int (nI (xf_many σ (i + 1)))), (0, .ref (ad 5 0)), (1, .int (nI n))]) hx hb dSF_cycles_39 hl (k := 3) rfl (xn_inc _) (by decide) rfl (fun ls hl => ?_)
      refine lv_goto hx hb dSF_cycles_42 rfl ?_
      exact ihi _ _ _ _ _ ⟨I, ad, hE0, hL, w, lv_sub hl [2, 3, 1, 0] rfl, by omega, by omega⟩
