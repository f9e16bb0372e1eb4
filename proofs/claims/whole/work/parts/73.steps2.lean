/-! issue, cycle and cycles: what helper and reference answer. -/
theorem iss_r {σ : xMem} {a b d q n r : Nat} (h : 20 ≤ r) : xf_issue σ a b d q n r = σ r := by
  funext k i
  rw [iss_c, if_neg (by omega), if_neg (by omega), if_neg (by omega)]
theorem iss_r2 {σ : xMem} {a b r : Nat} {x y z : Int32} (h : r < 20 ∨ 40 ≤ r) : mf_issue σ a b x y z r = σ r := by
  funext k i
  rw [iss_m, if_neg (show ¬ r = 33 by omega), if_neg (show ¬ (r = 35 ∧ i = 4 * a + b) by omega), if_neg (show ¬ (r = 32 ∧ i = 4 * a + b) by omega), if_neg (show ¬ (r = 31 ∧ i = 4 * a + b) by omega), if_neg (show ¬ (r = 30 ∧ i = 4 * a + b) by omega), if_neg (show ¬ (r = 29 ∧ i = 4 * a + b) by omega), if_neg (show ¬ (r = 28 ∧ i = 4 * a + b) by omega), if_neg (show ¬ (r = 27 ∧ i = 4 * a + b) by omega), if_neg (show ¬ (r = 26 ∧ i = 4 * a + b) by omega), if_neg (show ¬ (r = 20 ∧ i = 16) by omega), if_neg (show ¬ (r = 20 ∧ i = 0) by omega), ite_self]
theorem iss_n {σ : xMem} {a b d q n : Nat} : xf_n (xf_issue σ a b d q n) = xf_n σ ∧ xf_g (xf_issue σ a b d q n) = xf_g σ := by
  unfold xf_n xf_g
  rw [iss_c, iss_c, if_neg (by omega), if_neg (by omega), if_neg (by omega), if_neg (by omega), if_neg (by omega), if_neg (by omega)]
  exact ⟨rfl, rfl⟩
theorem iss_f {σ : xMem} {a b : Nat} {x y z : Int32} : mf_issue σ a b x y z 20 0 0 = nI 0 := by
  rw [iss_m]
  simp
theorem iss_rel {σ : xMem} {I0 T G a b d q n : Nat} {y : Int32} (ha : a < 4) (hb : b < 4) (hs : σ 26 0 (4 * a + b) = 0) (hd : d ≤ 4) (hq : q < 64) (hn : n ≤ 4) (hw : d = 4 ∨ (1 ≤ n ∧ q + n ≤ 16 * (q / 16) + 16)) (hy : d ≠ 4 → y = nI q) (hI : I0 < 512) (hR : Rel σ σ I0 T 0 G) :
    Rel (mf_issue (xf_issue σ a b d q n) a b (nI d) y (nI n)) (mf_issue (xf_issue σ a b d q n) a b (nI d) y (nI n)) (I0 + 1) T 0 G := by
  refine Rel_two (fun r h1 h2 => iss_r h1) (fun r hr => iss_r2 (Or.inl hr)) (fun h => ?_) hR
  refine sim_issue ha hb ?_ hd hq hn hw hy hI h
  rw [iss_r (by decide)]
  exact hs
/-- regions that a cycle of the class leaves alone -/
theorem xr_srv1 {σ : xMem} {t r : Nat} (h : 20 ≤ r) : xf_srv1 σ t r = σ r := by
  unfold xf_srv1
  by_cases hc : ¬ σ 2 t 4 = 0 ∧ ¬ σ 2 t 1 ≤ 0
  · rw [xif_t hc]
    unfold xf_pick
    funext k i
    rw [xf_move_at (by omega) (by omega) (by omega) (by omega), xf_log_at (by omega) (by omega) (by omega), xf_leave_at (by omega) (by omega)]
  · rw [xif_f hc]
theorem xr_srv {σ : xMem} {r : Nat} (h : 20 ≤ r) : ∀ i, xf_srv σ i r = σ r := by
  intro i
  induction i with
  | zero => rfl
  | succ i ih => exact (xr_srv1 h).trans ih
theorem xr_cyc {σ : xMem} {r : Nat} (h : 20 ≤ r) : xf_cyc σ r = σ r := by
  have e1 : xf_s3 σ r = σ r := by
    unfold xf_s3
    rw [xr_srv h, xu3_r (by omega)]
  have e2 : xf_gv σ r = σ r := by
    rw [← e1]
    funext k i
    unfold xf_gv
    exact xf_ret_at (by omega) (by omega) (by omega)
  rw [← e2]
  funext k i
  unfold xf_cyc
  rw [xf_age_at (fun z => by omega), xf_gr_at (fun z => by omega) (by omega) (by omega) (by omega)]
theorem xr_run {σ : xMem} {r : Nat} (h : 20 ≤ r) : ∀ i, xf_run σ i r = σ r := by
  intro i
  induction i with
  | zero => rfl
  | succ i ih => exact (xr_cyc h).trans ih
/-- regions that a cycle of the reference leaves alone -/
theorem mr_srv {σ : xMem} {r : Nat} (h : r < 20 ∨ 40 ≤ r) : ∀ i, mf_srv σ i r = σ r := by
  intro i
  induction i with
  | zero => rfl
  | succ i ih =>
    rw [← ih]
    show mf_srv1 (mf_srv σ i) i (mf_fst (mf_srv σ i) (nI i) 16) r = _
    cases mf_fst (mf_srv σ i) (nI i) 16 with
    | none => rfl
    | some k =>
      show (xif _ _ _ : xMem) r = _
      by_cases hc : mf_srv σ i 24 0 i = 0
      · rw [xif_t hc]
      · rw [xif_f hc]
        unfold mf_serve
        funext b j
        rw [log_m (by omega) (by omega), mf_move_at (by omega) (by omega) (by omega) (by omega) (by omega)]
theorem mr_give {σ : xMem} {r : Nat} (h : r < 20 ∨ 40 ≤ r) : mf_give σ r = σ r := by
  unfold mf_give
  cases mf_fb σ (xN (σ 20 0 18)) 16 with
  | none => rfl
  | some k =>
    show mf_back σ k r = _
    funext b j
    rw [back_m, if_neg (by omega), if_neg (by omega), if_neg (by omega)]
theorem mr_grant {σ : xMem} {o : Option Nat} {r : Nat} (h : r < 20 ∨ 40 ≤ r) : mf_grant σ o r = σ r := by
  cases o with
  | none => rfl
  | some k =>
    have e1 : mf_gr1 σ k r = σ r := by unfold mf_gr1; rw [xu3_r (by omega), xu3_r (by omega)]
    have e2 : mf_gr2 σ k r = σ r := by unfold mf_gr2; rw [xu3_r (by omega), xu3_r (by omega), e1]
    have e3 : mf_gr3 σ k r = σ r := by
      unfold mf_gr3
      by_cases hc : σ 27 0 k = nI 2
      · rw [xif_t hc, xu3_r (by omega), e2]
      · rw [xif_f hc, e2]
    show (xif _ _ _ : xMem) r = _
    by_cases hm : mp_map σ k
    · rw [xif_t hm]
      by_cases hc : σ 27 0 k = nI 3
      · rw [xif_t hc, xu3_r (by omega), e3]
      · rw [xif_f hc, e3]
    · rw [xif_f hm, xu3_r (by omega), e1]
theorem mr_one {σ : xMem} {r : Nat} (h : r < 20 ∨ 40 ≤ r) : mf_one σ r = σ r := by
  unfold mf_one
  rw [xu3_r (by omega)]
  have e1 : mf_gv σ r = σ r := by unfold mf_gv; rw [mr_give h, mr_srv h]
  rw [← e1, ← mr_grant (σ := mf_gv σ) (o := mf_bst σ) h]
  funext k i
  unfold mf_age
  rw [if_neg (by omega)]
theorem mr_run {σ : xMem} {r : Nat} (h : r < 20 ∨ 40 ≤ r) : ∀ i, mf_run σ i r = σ r := by
  intro i
  induction i with
  | zero => rfl
  | succ i ih => exact (mr_one h).trans ih
/-- the fault's cell stays through a cycle -/
theorem mf_one_0 {σ : xMem} : mf_one σ 20 0 0 = σ 20 0 0 := by
  have e1 : ∀ i, mf_srv σ i 20 0 0 = σ 20 0 0 := by
    intro i
    induction i with
    | zero => rfl
    | succ i ih =>
      rw [← ih]
      show mf_srv1 (mf_srv σ i) i (mf_fst (mf_srv σ i) (nI i) 16) 20 0 0 = _
      cases mf_fst (mf_srv σ i) (nI i) 16 with
      | none => rfl
      | some k =>
        show (xif _ _ _ : xMem) 20 0 0 = _
        by_cases hc : mf_srv σ i 24 0 i = 0
        · rw [xif_t hc]
        · rw [xif_f hc]
          unfold mf_serve
          rw [log_m (by omega) (by omega), mf_move_at (by omega) (by omega) (by omega) (by omega) (by omega)]
  have e2 : mf_gv σ 20 0 0 = σ 20 0 0 := by
    rw [← e1 3]
    unfold mf_gv mf_give
    cases mf_fb (mf_srv σ 3) (xN (mf_srv σ 3 20 0 18)) 16 with
    | none => rfl
    | some k =>
      show mf_back _ k 20 0 0 = _
      rw [back_m, if_neg (by omega), if_neg (by omega), if_neg (by omega)]
  have e3 : mf_grant (mf_gv σ) (mf_bst σ) 20 0 0 = σ 20 0 0 := by
    rw [← e2]
    cases mf_bst σ with
    | none => rfl
    | some k =>
      have f1 : mf_gr1 (mf_gv σ) k 20 0 0 = mf_gv σ 20 0 0 := by unfold mf_gr1; rw [xu3_at, xu3_at, if_neg (by omega), if_neg (by omega)]
      have f2 : mf_gr2 (mf_gv σ) k 20 0 0 = mf_gv σ 20 0 0 := by unfold mf_gr2; rw [xu3_r (by omega), xu3_r (by omega), f1]
      have f3 : mf_gr3 (mf_gv σ) k 20 0 0 = mf_gv σ 20 0 0 := by
        unfold mf_gr3
        by_cases hc : mf_gv σ 27 0 k = nI 2
        · rw [xif_t hc, xu3_r (by omega), f2]
        · rw [xif_f hc, f2]
      show (xif _ _ _ : xMem) 20 0 0 = _
      by_cases hm : mp_map (mf_gv σ) k
      · rw [xif_t hm]
        by_cases hc : mf_gv σ 27 0 k = nI 3
        · rw [xif_t hc, xu3_r (by omega), f3]
        · rw [xif_f hc, f3]
      · rw [xif_f hm, xu3_r (by omega), f1]
  rw [← e3]
  unfold mf_one
  rw [xu3_at, if_neg (by omega)]
  unfold mf_age
  rw [if_neg (by omega)]
theorem mf_run_0 {σ : xMem} : ∀ i, mf_run σ i 20 0 0 = σ 20 0 0 := by
  intro i
  induction i with
  | zero => rfl
  | succ i ih => exact mf_one_0.trans ih
theorem mr_n {σ τ : xMem} (h : σ 11 = τ 11) : xf_n σ = xf_n τ ∧ xf_g σ = xf_g τ := by
  unfold xf_n xf_g
  rw [h]
  exact ⟨rfl, rfl⟩
theorem st_issue (l : Launch) (htr : l.stackTraces = false) (D : va_G) (cA : Nat → ClassId) (tz : Nat) (I : List (Nat × Nat)) (ad : Nat → Nat → Nat) (σ : xMem) {I0 T G : Nat} (hI : xI I) (h40 : (40, 0) ∈ I) (hL : xL I (xf_n σ) (xf_g σ)) (hR : Rel σ σ I0 T 0 G) (x0 x1 x2 x3 x4 : Int32) (hI0 : I0 < 512) : ∃ (k : Nat) (σ1 σ2 : xMem) (I1 G1 : Nat), xH l yLW_issue bLW_issue 7 (some .int) [(0, 11, 14, 13), (0, 11, 18, 19), (0, 11, 22, 21)] 11 1 6 [.ref (ad 5 0), .int x0, .int x1, .int x2, .int x3, .int x4] D cA tz I ad σ (fun _ => some (.int (nI k))) σ1 (xf_n σ) (xf_g σ) ∧ (∀ (I2 : List (Nat × Nat)) (ad1 : Nat → Nat → Nat), xJ I2 → xD l yMD_issue bMD_issue 10 none 3 [.ref (ad1 20 0), .int x0, .int x1, .int x2, .int x3, .int x4] D cA tz I2 ad1 σ1 none σ2) ∧ k ≤ 3 ∧ σ2 20 0 0 = nI k ∧ Rel σ2 σ2 I1 T 0 G1 ∧ I1 ≤ I0 + 1 ∧ xf_n σ2 = xf_n σ ∧ xf_g σ2 = xf_g σ := by
  by_cases hx : xp_in x0 (nI 4) ∧ xp_in x4 (nI 4)
  · skip
    obtain ⟨a, ha, rfl⟩ := xp_in_of (by decide) hx.1
    obtain ⟨b, hb, rfl⟩ := xp_in_of (by decide) hx.2
    have hK : 4 * a + b < 16 := by omega
    have hf := free_iff hR hK
    by_cases hs : xp_sound x1 x2 x3
    · skip
      rcases sound_of hs with rfl | ⟨d, q, n, hd, hq, h1n, hn4, hn1, hdv, rfl, rfl, rfl⟩
      · skip
        have n42 : ¬ nI 4 = nI 2 := by decide
        have n43 : ¬ nI 4 = nI 3 := by decide
        by_cases hz : σ 26 0 (4 * a + b) = 0
        · skip
          have hM : xD l ySF_issue bSF_issue 7 none 3 [.ref (ad 5 0), .int (nI a), .int (nI 4), .int x2, .int x3, .int (nI b)] D cA tz I ad σ none (xf_issue σ a b 4 0 0) := iss_bar ▸ cSF_issue_bar l D cA tz I ad σ a b x2 x3 hI hR.rg.h6 ha hb (hf.trans hz)
          have hal : mp_allow (xf_issue σ a b 4 0 0) a (nI 4) (xN x2) b := ⟨by rw [iss_r (by decide)]; exact hz, Or.inr ⟨n42, Or.inl n43⟩⟩
          have hD : ∀ (I2 : List (Nat × Nat)) (ad1 : Nat → Nat → Nat), xJ I2 → _ := fun I2 ad1 hJ => cMD_issue_ok l D cA tz I2 ad1 (xf_issue σ a b 4 0 0) a b (nI 4) x2 x3 hJ ha hb hs (fun z => absurd z (by decide)) hal
          rw [xif_t rfl] at hD
          refine ⟨0, xf_issue σ a b 4 0 0, mf_issue (xf_issue σ a b 4 0 0) a b (nI 4) x2 (nI 0), I0 + 1, G, cLW_issue_ok l D cA tz I ad σ 3 _ _ _ _ _ _ _ _ (xI5 hI) hL (by decide) hM, hD, by omega, iss_f, iss_rel ha hb hz (by omega) (by omega) (by omega) (Or.inl rfl) (fun z => absurd rfl z) hI0 hR, by omega, ?_, ?_⟩
          · exact (mr_n (iss_r2 (Or.inl (by decide)))).1.trans iss_n.1
          · exact (mr_n (iss_r2 (Or.inl (by decide)))).2.trans iss_n.2
        · skip
          refine ⟨3, σ, xu3 σ 20 0 0 (nI 3), I0, G, cLW_issue_t3 l D cA tz I ad σ 7 _ _ _ _ _ _ _ (xI5 hI) hL (by decide) (t3SF_issue_bar l htr D cA tz I ad σ a b x2 x3 hI hR.rg.h6 ha hb (fun z => hz (hf.symm.trans z))), fun I2 ad1 hJ => cMD_issue_no3 l D cA tz I2 ad1 (σ) a b (nI 4) x2 x3 hJ ha hb hs (fun z => absurd z (by decide)) (fun z => hz z.1), by omega, rfl, Rel_f2 hR, by omega, rfl, rfl⟩
      · skip
        have hxq : xN (nI q) = q := xN_of rfl (by omega)
        have hyq : nI d = nI 3 → ∃ q1, q1 < 64 ∧ nI q = nI q1 := fun _ => ⟨q, hq, rfl⟩
        have nd4 : ¬ nI d = nI 4 := fun z => by have := nI_inj (by omega) (by omega) z; omega
        by_cases hal : mp_allow σ a (nI d) q b
        · skip
          obtain ⟨g1, g2, g3⟩ := (allow_iff hR ha hb hd hq).mp hal
          have hM := cSF_issue_ok l D cA tz I ad σ a b d q n hI hR.rg.h6 hR.rg.h7 ha hb hd hq h1n hn4 hn1 hdv g1 g2 g3
          have hal2 : mp_allow (xf_issue σ a b d q n) a (nI d) (xN (nI q)) b := by rw [hxq]; exact hal
          have hD : ∀ (I2 : List (Nat × Nat)) (ad1 : Nat → Nat → Nat), xJ I2 → _ := fun I2 ad1 hJ => cMD_issue_ok l D cA tz I2 ad1 (xf_issue σ a b d q n) a b (nI d) (nI q) (nI n) hJ ha hb hs hyq hal2
          rw [xif_f nd4] at hD
          refine ⟨0, xf_issue σ a b d q n, mf_issue (xf_issue σ a b d q n) a b (nI d) (nI q) (nI n), I0 + 1, G, cLW_issue_ok l D cA tz I ad σ 3 _ _ _ _ _ _ _ _ (xI5 hI) hL (by decide) hM, hD, by omega, iss_f, iss_rel ha hb hal.1 (by omega) hq hn4 (Or.inr ⟨h1n, by omega⟩) (fun _ => rfl) hI0 hR, by omega, ?_, ?_⟩
          · exact (mr_n (iss_r2 (Or.inl (by decide)))).1.trans iss_n.1
          · exact (mr_n (iss_r2 (Or.inl (by decide)))).2.trans iss_n.2
        · skip
          refine ⟨3, σ, xu3 σ 20 0 0 (nI 3), I0, G, cLW_issue_t3 l D cA tz I ad σ 7 _ _ _ _ _ _ _ (xI5 hI) hL (by decide) (t3SF_issue l htr D cA tz I ad σ a b d q n hI hR.rg.h6 hR.rg.h7 ha hb hd hq h1n hn4 hn1 hdv (fun z => hal ((allow_iff hR ha hb hd hq).mpr z))), fun I2 ad1 hJ => cMD_issue_no3 l D cA tz I2 ad1 (σ) a b (nI d) (nI q) (nI n) hJ ha hb hs hyq (by rw [hxq]; exact hal), by omega, rfl, Rel_f2 hR, by omega, rfl, rfl⟩
    · skip
      refine ⟨2, σ, xu3 σ 20 0 0 (nI 2), I0, G, cLW_issue_t2 l D cA tz I ad σ 8 _ _ _ _ _ _ _ (xI5 hI) hL (by decide) (t2SF_issue l htr D cA tz I ad σ a b x1 x2 x3 ha hb hs), fun I2 ad1 hJ => cMD_issue_no2 l D cA tz I2 ad1 (σ) a b x1 x2 x3 hJ ha hb hs, by omega, rfl, Rel_f2 hR, by omega, rfl, rfl⟩
  · skip
    refine ⟨1, σ, xu3 σ 20 0 0 (nI 1), I0, G, cLW_issue_t1 l D cA tz I ad σ 7 _ _ _ _ _ _ _ (xI5 hI) hL (by decide) (t1SF_issue l htr D cA tz I ad σ x0 x1 x2 x3 x4 (by rcases Classical.not_and_iff_not_or_not.mp hx with z | z; exact Or.inl (out_of z); exact Or.inr (out_of z))), fun I2 ad1 hJ => cMD_issue_no1 l D cA tz I2 ad1 (σ) x1 x2 x3 x4 x0 hJ hx, by omega, rfl, Rel_f2 hR, by omega, rfl, rfl⟩
theorem st_cycle (l : Launch) (D : va_G) (cA : Nat → ClassId) (tz : Nat) (I : List (Nat × Nat)) (ad : Nat → Nat → Nat) (σ : xMem) {I0 T G : Nat} (hI : xI I) (hL : xL I (xf_n σ) (xf_g σ)) (hR : Rel σ σ I0 T 0 G) (hT : T + 1 ≤ 51200) :
    ∃ (σ1 σ2 : xMem) (G1 : Nat) (w : Int32), xA (xZ tz) l ySF_cycle bSF_cycle 2 (some .int) 9 (2 * (xf_n σ1 - xf_n σ)) (772 * (xf_n σ1 - xf_n σ)) [.ref (ad 5 0)] D cA tz I ad σ (fun _ => some (.int w)) σ1 (xf_n σ1) (xf_g σ1) ∧ (∀ (I2 : List (Nat × Nat)) (ad1 : Nat → Nat → Nat), xJ I2 → xD l yMD_cycle bMD_cycle 1 (some .int) 6 [.ref (ad1 20 0)] D cA tz I2 ad1 σ1 (some (.int w)) σ2) ∧ Rel σ2 σ2 I0 (T + 1) 0 G1 ∧ xf_n σ2 = xf_n σ1 ∧ xf_g σ2 = xf_g σ1 ∧ xf_n σ ≤ xf_n σ1 := by
  have h0 : Rel σ (xu3 (xf_cyc σ) 20 0 0 (nI 0)) I0 T 0 G := Rel_fault _ (Rel_congr (fun _ _ => rfl) (fun r h1 _ => xr_cyc h1) hR)
  obtain ⟨hcv, hmv, hb, G', hR'⟩ := sim_cycle hT h0
  refine ⟨xf_cyc σ, mf_one (xu3 (xf_cyc σ) 20 0 0 (nI 0)), G', xoi4 (xf_bst σ), cSF_cycle l D cA tz I ad σ hI hL hcv, fun I2 ad1 hJ => hb ▸ cMD_cycle l D cA tz I2 ad1 (xf_cyc σ) hJ hmv, ?_, ?_, ?_, xf_cyc_n hcv⟩
  · refine Rel_congr (fun r hr => ?_) (fun _ _ _ => rfl) hR'
    rw [mr_one (Or.inl hr), xu3_r (by omega)]
  · exact (mr_n ((mr_one (Or.inl (by decide))).trans (xu3_r (by decide)))).1
  · exact (mr_n ((mr_one (Or.inl (by decide))).trans (xu3_r (by decide)))).2
theorem hund_of {x : Int32} (h1 : ¬ x < nI 1) (h2 : ¬ nI 100 < x) : ∃ n, 1 ≤ n ∧ n ≤ 100 ∧ x = nI n := by
  obtain ⟨n, hn, rfl⟩ := nI_of (fun z : x < 0 => h1 (Int32.lt_trans z (by decide)))
  rw [nI_ltI (by omega) (by omega)] at h1 h2
  exact ⟨n, by omega, by omega, rfl⟩
theorem st_cycles (l : Launch) (htr : l.stackTraces = false) (D : va_G) (cA : Nat → ClassId) (tz : Nat) (I : List (Nat × Nat)) (ad : Nat → Nat → Nat) (σ : xMem) {I0 T G : Nat} (hI : xI I) (h40 : (40, 0) ∈ I) (hL : xL I (xf_n σ) (xf_g σ)) (hR : Rel σ σ I0 T 0 G) (x0 : Int32) (hT : T + 100 ≤ 51200) :
    ∃ (k : Nat) (σ1 σ2 : xMem) (T1 G1 mc ms : Nat) (w : Int32), xH l yLW_cycles bLW_cycles 4 (some .int) [(0, 9, 12, 19)] 11 mc ms [.ref (ad 5 0), .int x0, .ref (ad 40 0)] D cA tz I ad σ (fun _ => some (.int (nI k))) σ1 (xf_n σ1) (xf_g σ1) ∧ (∀ (I2 : List (Nat × Nat)) (ad1 : Nat → Nat → Nat), xJ I2 → xD l yMD_cycles bMD_cycles 4 (some .int) 6 [.ref (ad1 20 0), .int x0] D cA tz I2 ad1 σ1 (some (.int w)) σ2) ∧ k ≤ 3 ∧ σ2 20 0 0 = nI k ∧ (k = 0 → σ2 40 0 0 = w) ∧ Rel σ2 σ2 I0 T1 0 G1 ∧ T1 ≤ T + 100 ∧ xf_n σ2 = xf_n σ1 ∧ xf_g σ2 = xf_g σ1 ∧ xf_n σ ≤ xf_n σ1 ∧ mc ≤ 2 * (xf_n σ1 - xf_n σ) + 1 ∧ ms ≤ 772 * (xf_n σ1 - xf_n σ) + 6 := by
  by_cases hx : ¬ x0 < nI 1 ∧ ¬ nI 100 < x0
  · obtain ⟨n, h1n, h100, rfl⟩ := hund_of hx.1 hx.2
    have h0 : Rel σ (xu3 (xu3 (xf_run σ n) 40 0 0 (nI (xf_many σ n))) 20 0 0 (nI 0)) I0 T 0 G := Rel_fault _ (Rel_congr (fun _ _ => rfl) (fun r h1 h2 => (xu3_r (by omega)).trans (xr_run h1 n)) hR)
    obtain ⟨em, G', hR'⟩ := sim_cycles (n := n) (by omega) h0 n (Nat.le_refl _)
    obtain ⟨hcv, hmv⟩ := sim_valid (n := n) (by omega) h0
    have hmono := xf_run_mono hcv 0 n (by omega) (by omega)
    have e11 : mf_run (xu3 (xu3 (xf_run σ n) 40 0 0 (nI (xf_many σ n))) 20 0 0 (nI 0)) n 11 = xf_run σ n 11 := (mr_run (Or.inl (by decide)) n).trans ((xu3_r (by decide)).trans (xu3_r (by decide)))
    refine ⟨0, xu3 (xf_run σ n) 40 0 0 (nI (xf_many σ n)), mf_run (xu3 (xu3 (xf_run σ n) 40 0 0 (nI (xf_many σ n))) 20 0 0 (nI 0)) n, T + n, G', 2 * (xf_n (xf_run σ n) - xf_n σ), 772 * (xf_n (xf_run σ n) - xf_n σ), nI (mf_many (xu3 (xu3 (xf_run σ n) 40 0 0 (nI (xf_many σ n))) 20 0 0 (nI 0)) n),
      cLW_cycles_ok l D cA tz I ad σ (2 * (xf_n (xf_run σ n) - xf_n σ)) (772 * (xf_n (xf_run σ n) - xf_n σ)) (xf_n (xf_run σ n)) (xf_g (xf_run σ n)) 10 _ _ (nI n) _ _ (xI5 hI) h40 hL (by decide) (cSF_cycles_ok l D cA tz I ad σ n hI hL h1n h100 hcv), fun I2 ad1 hJ => cMD_cycles_ok l D cA tz I2 ad1 _ n hJ h1n h100 hmv, by omega, ?_, fun _ => ?_, ?_, by omega, ?_, ?_, hmono, ?_, ?_⟩
    · rw [mf_run_0]
      rfl
    · rw [mr_run (Or.inr (by decide)), ← em]
      rfl
    · refine Rel_congr (fun r hr => ?_) (fun _ _ _ => rfl) hR'
      rw [mr_run (Or.inl hr), xu3_r (by omega), xu3_r (by omega)]
    · exact (mr_n e11).1
    · exact (mr_n e11).2
    · show _ ≤ 2 * (xf_n (xf_run σ n) - xf_n σ) + 1
      omega
    · show _ ≤ 772 * (xf_n (xf_run σ n) - xf_n σ) + 6
      omega
  · refine ⟨1, σ, xu3 σ 20 0 0 (nI 1), T, G, 1, 6, nI 0, cLW_cycles_t1 l D cA tz I ad σ 7 _ _ x0 (xI5 hI) h40 hL (by decide) (t1SF_cycles l htr D cA tz I ad σ x0 hx), fun I2 ad1 hJ => cMD_cycles_no l D cA tz I2 ad1 σ x0 hJ ?_, by omega, rfl, fun z => by omega, Rel_f2 hR, by omega, rfl, rfl, Nat.le_refl _, by omega, by omega⟩
    by_cases h1 : x0 < nI 1
    · exact Or.inl h1
    · exact Or.inr (Classical.byContradiction fun z => hx ⟨h1, z⟩)
