/-! The calls, one by one: what the helper answers, what the reference answers. -/
theorem Rel_f2 {σ : xMem} {x : Int32} {I T e G : Nat} (h : Rel σ σ I T e G) : Rel (xu3 σ 20 0 0 x) (xu3 σ 20 0 0 x) I T e G := Rel_congr (fun r hr => xu3_r (by omega)) (fun _ _ _ => rfl) (Rel_fault x h)
theorem Rel_f3 {σ : xMem} {x v : Int32} {I T e G : Nat} (h : Rel σ σ I T e G) : Rel (xu3 (xu3 σ 40 0 0 v) 20 0 0 x) (xu3 (xu3 σ 40 0 0 v) 20 0 0 x) I T e G := Rel_f2 (Rel_congr (fun r hr => xu3_r (by omega)) (fun r _ hr => xu3_r (by omega)) h)
theorem out_of {x : Int32} {n : Nat} (h : ¬ xp_in x (nI n)) : x < 0 ∨ nI n ≤ x := by
  by_cases h0 : x < 0
  · exact Or.inl h0
  · exact Or.inr (Classical.byContradiction fun z => h ⟨h0, z⟩)
theorem st_data (l : Launch) (htr : l.stackTraces = false) (D : va_G) (cA : Nat → ClassId) (tz : Nat) (I : List (Nat × Nat)) (ad : Nat → Nat → Nat) (σ : xMem) {I0 T G : Nat} (hI : xI I) (h40 : (40, 0) ∈ I) (hL : xL I (xf_n σ) (xf_g σ)) (hR : Rel σ σ I0 T 0 G) (x0 x1 x2 : Int32) : ∃ (k : Nat) (σ1 σ2 : xMem) (I1 G1 : Nat), xH l yLW_data bLW_data 5 (some .int) [(0, 7, 10, 13)] 11 1 6 [.ref (ad 5 0), .int x0, .int x1, .int x2] D cA tz I ad σ (fun _ => some (.int (nI k))) σ1 (xf_n σ) (xf_g σ) ∧ (∀ (I2 : List (Nat × Nat)) (ad1 : Nat → Nat → Nat), xJ I2 → xD l yMD_data bMD_data 4 none 2 [.ref (ad1 20 0), .int x0, .int x1, .int x2] D cA tz I2 ad1 σ1 none σ2) ∧ k ≤ 3 ∧ σ2 20 0 0 = nI k ∧ Rel σ2 σ2 I1 T 0 G1 ∧ I1 ≤ I0 + 1 ∧ xf_n σ2 = xf_n σ ∧ xf_g σ2 = xf_g σ := by
  by_cases hx : xp_in x0 (nI 4) ∧ xp_in x1 (nI 4)
  · skip
    obtain ⟨a, ha, rfl⟩ := xp_in_of (by decide) hx.1
    obtain ⟨b, hb, rfl⟩ := xp_in_of (by decide) hx.2
    refine ⟨0, (xu3 σ 4 a b x2), (xu3 (xu3 (xu3 σ 4 a b x2) 20 0 0 (nI 0)) 22 0 (4 * a + b) x2), I0, G, cLW_data_ok l D cA tz I ad σ 2 _ _ _ _ _ _ (xI5 hI) hL (by decide) (cSF_data_ok l D cA tz I ad σ a b x2 hI ha hb), fun I2 ad1 hJ => cMD_data_ok l D cA tz I2 ad1 (xu3 σ 4 a b x2) a b x2 hJ ha hb, by omega, rfl, Rel_two (fun r h1 h2 => xu3_r (by omega)) (fun r hr => (xu3_r (by omega)).trans (xu3_r (by omega))) (sim_data x2 ha hb) hR, by omega, rfl, rfl⟩
  · skip
    refine ⟨1, σ, xu3 σ 20 0 0 (nI 1), I0, G, cLW_data_t1 l D cA tz I ad σ 7 _ _ _ _ _ (xI5 hI) hL (by decide) (t1SF_data l htr D cA tz I ad σ x0 x1 x2 (by rcases Classical.not_and_iff_not_or_not.mp hx with z | z; exact Or.inl (out_of z); exact Or.inr (out_of z))), fun I2 ad1 hJ => cMD_data_no l D cA tz I2 ad1 (σ) x0 x1 x2 hJ hx, by omega, rfl, Rel_f2 hR, by omega, rfl, rfl⟩
theorem st_ready (l : Launch) (htr : l.stackTraces = false) (D : va_G) (cA : Nat → ClassId) (tz : Nat) (I : List (Nat × Nat)) (ad : Nat → Nat → Nat) (σ : xMem) {I0 T G : Nat} (hI : xI I) (h40 : (40, 0) ∈ I) (hL : xL I (xf_n σ) (xf_g σ)) (hR : Rel σ σ I0 T 0 G) (x0 x1 : Int32) (hx1 : x1 = nI 0 ∨ x1 = nI 1) : ∃ (k : Nat) (σ1 σ2 : xMem) (I1 G1 : Nat), xH l yLW_ready bLW_ready 4 (some .int) [(0, 6, 9, 13)] 11 1 6 [.ref (ad 5 0), .int x0, .int x1] D cA tz I ad σ (fun _ => some (.int (nI k))) σ1 (xf_n σ) (xf_g σ) ∧ (∀ (I2 : List (Nat × Nat)) (ad1 : Nat → Nat → Nat), xJ I2 → xD l yMD_ready bMD_ready 3 none 2 [.ref (ad1 20 0), .int x0, .int x1] D cA tz I2 ad1 σ1 none σ2) ∧ k ≤ 3 ∧ σ2 20 0 0 = nI k ∧ Rel σ2 σ2 I1 T 0 G1 ∧ I1 ≤ I0 + 1 ∧ xf_n σ2 = xf_n σ ∧ xf_g σ2 = xf_g σ := by
  by_cases hx : xp_in x0 (nI 3)
  · skip
    obtain ⟨a, ha, rfl⟩ := xp_in_of (by decide) hx
    refine ⟨0, (xu3 σ 2 a 4 x1), (xu3 (xu3 (xu3 σ 2 a 4 x1) 20 0 0 (nI 0)) 24 0 a x1), I0, G, cLW_ready_ok l D cA tz I ad σ 2 _ _ _ _ _ (xI5 hI) hL (by decide) (cSF_ready_ok l D cA tz I ad σ a x1 hI hR.rg.h7 ha hx1), fun I2 ad1 hJ => cMD_ready_ok l D cA tz I2 ad1 (xu3 σ 2 a 4 x1) a x1 hJ ha hx1, by omega, rfl, Rel_two (fun r h1 h2 => xu3_r (by omega)) (fun r hr => (xu3_r (by omega)).trans (xu3_r (by omega))) (sim_ready hx1 ha) hR, by omega, rfl, rfl⟩
  · skip
    refine ⟨1, σ, xu3 σ 20 0 0 (nI 1), I0, G, cLW_ready_t1 l D cA tz I ad σ 7 _ _ _ _ (xI5 hI) hL (by decide) (t1SF_ready l htr D cA tz I ad σ x0 x1 (out_of hx)), fun I2 ad1 hJ => cMD_ready_no l D cA tz I2 ad1 (σ) x0 x1 hJ hx, by omega, rfl, Rel_f2 hR, by omega, rfl, rfl⟩
theorem st_state (l : Launch) (htr : l.stackTraces = false) (D : va_G) (cA : Nat → ClassId) (tz : Nat) (I : List (Nat × Nat)) (ad : Nat → Nat → Nat) (σ : xMem) {I0 T G : Nat} (hI : xI I) (h40 : (40, 0) ∈ I) (hL : xL I (xf_n σ) (xf_g σ)) (hR : Rel σ σ I0 T 0 G) (x0 x1 : Int32) : ∃ (k : Nat) (σ1 σ2 : xMem) (I1 G1 : Nat) (w : Int32), xH l yLW_state bLW_state 5 (some .int) [(0, 10, 13, 13)] 11 1 6 [.ref (ad 5 0), .int x0, .int x1, .ref (ad 40 0)] D cA tz I ad σ (fun _ => some (.int (nI k))) σ1 (xf_n σ) (xf_g σ) ∧ (∀ (I2 : List (Nat × Nat)) (ad1 : Nat → Nat → Nat), xJ I2 → xD l yMD_state bMD_state 3 (some .int) 2 [.ref (ad1 20 0), .int x0, .int x1] D cA tz I2 ad1 σ1 (some (.int w)) σ2) ∧ k ≤ 3 ∧ σ2 20 0 0 = nI k ∧ (k = 0 → σ2 40 0 0 = w) ∧ Rel σ2 σ2 I1 T 0 G1 ∧ I1 ≤ I0 + 1 ∧ xf_n σ2 = xf_n σ ∧ xf_g σ2 = xf_g σ := by
  by_cases hx : xp_in x0 (nI 4) ∧ xp_in x1 (nI 4)
  · skip
    obtain ⟨a, ha, rfl⟩ := xp_in_of (by decide) hx.1
    obtain ⟨b, hb, rfl⟩ := xp_in_of (by decide) hx.2
    refine ⟨0, (xu3 (σ) 40 0 0 (σ 0 (4 * a + b) 3)), (xu3 (xu3 σ 40 0 0 (σ 0 (4 * a + b) 3)) 20 0 0 (nI 0)), I0, G, (σ 26 0 (4 * a + b)), cLW_state_ok l D cA tz I ad σ 2 _ _ _ _ _ _ (xI5 hI) h40 hL (by decide) (cSF_state_ok l D cA tz I ad σ a b hI hR.rg.h6 ha hb), fun I2 ad1 hJ => cMD_state_ok l D cA tz I2 ad1 (xu3 σ 40 0 0 (σ 0 (4 * a + b) 3)) a b hJ ha hb, by omega, rfl, (fun _ => free_iff hR (by omega)), Rel_f3 hR, by omega, rfl, rfl⟩
  · skip
    refine ⟨1, σ, xu3 σ 20 0 0 (nI 1), I0, G, (nI 0), cLW_state_t1 l D cA tz I ad σ 7 _ _ _ _ (xI5 hI) h40 hL (by decide) (t1SF_state l htr D cA tz I ad σ x0 x1 (by rcases Classical.not_and_iff_not_or_not.mp hx with z | z; exact Or.inl (out_of z); exact Or.inr (out_of z))), fun I2 ad1 hJ => cMD_state_no l D cA tz I2 ad1 (σ) x0 x1 hJ hx, by omega, rfl, (fun z => by omega), Rel_f2 hR, by omega, rfl, rfl⟩
theorem st_holder (l : Launch) (htr : l.stackTraces = false) (D : va_G) (cA : Nat → ClassId) (tz : Nat) (I : List (Nat × Nat)) (ad : Nat → Nat → Nat) (σ : xMem) {I0 T G : Nat} (hI : xI I) (h40 : (40, 0) ∈ I) (hL : xL I (xf_n σ) (xf_g σ)) (hR : Rel σ σ I0 T 0 G) (x0 : Int32) : ∃ (k : Nat) (σ1 σ2 : xMem) (I1 G1 : Nat) (w : Int32), xH l yLW_holder bLW_holder 4 (some .int) [(0, 9, 12, 13)] 11 1 6 [.ref (ad 5 0), .int x0, .ref (ad 40 0)] D cA tz I ad σ (fun _ => some (.int (nI k))) σ1 (xf_n σ) (xf_g σ) ∧ (∀ (I2 : List (Nat × Nat)) (ad1 : Nat → Nat → Nat), xJ I2 → xD l yMD_holder bMD_holder 2 (some .int) 3 [.ref (ad1 20 0), .int x0] D cA tz I2 ad1 σ1 (some (.int w)) σ2) ∧ k ≤ 3 ∧ σ2 20 0 0 = nI k ∧ (k = 0 → σ2 40 0 0 = w) ∧ Rel σ2 σ2 I1 T 0 G1 ∧ I1 ≤ I0 + 1 ∧ xf_n σ2 = xf_n σ ∧ xf_g σ2 = xf_g σ := by
  by_cases hx : xp_in x0 (nI 3)
  · skip
    obtain ⟨a, ha, rfl⟩ := xp_in_of (by decide) hx
    refine ⟨0, (xu3 (σ) 40 0 0 (σ 2 a 3)), (xu3 (xu3 σ 40 0 0 (σ 2 a 3)) 20 0 0 (nI 0)), I0, G, (σ 25 0 a), cLW_holder_ok l D cA tz I ad σ 2 _ _ _ _ _ (xI5 hI) h40 hL (by decide) (cSF_holder_ok l D cA tz I ad σ a hI hR.rg.h7 ha), fun I2 ad1 hJ => cMD_holder_ok l D cA tz I2 ad1 (xu3 σ 40 0 0 (σ 2 a 3)) a hJ ha, by omega, rfl, (fun _ => (hR.rt a ha).elim (fun mt h => h.ho)), Rel_f3 hR, by omega, rfl, rfl⟩
  · skip
    refine ⟨1, σ, xu3 σ 20 0 0 (nI 1), I0, G, (nI 0), cLW_holder_t1 l D cA tz I ad σ 7 _ _ _ (xI5 hI) h40 hL (by decide) (t1SF_holder l htr D cA tz I ad σ x0 (out_of hx)), fun I2 ad1 hJ => cMD_holder_no l D cA tz I2 ad1 (σ) x0 hJ hx, by omega, rfl, (fun z => by omega), Rel_f2 hR, by omega, rfl, rfl⟩
theorem st_credits (l : Launch) (htr : l.stackTraces = false) (D : va_G) (cA : Nat → ClassId) (tz : Nat) (I : List (Nat × Nat)) (ad : Nat → Nat → Nat) (σ : xMem) {I0 T G : Nat} (hI : xI I) (h40 : (40, 0) ∈ I) (hL : xL I (xf_n σ) (xf_g σ)) (hR : Rel σ σ I0 T 0 G) (x0 : Int32) : ∃ (k : Nat) (σ1 σ2 : xMem) (I1 G1 : Nat) (w : Int32), xH l yLW_credits bLW_credits 4 (some .int) [(0, 9, 12, 13)] 11 1 6 [.ref (ad 5 0), .int x0, .ref (ad 40 0)] D cA tz I ad σ (fun _ => some (.int (nI k))) σ1 (xf_n σ) (xf_g σ) ∧ (∀ (I2 : List (Nat × Nat)) (ad1 : Nat → Nat → Nat), xJ I2 → xD l yMD_credits bMD_credits 2 (some .int) 3 [.ref (ad1 20 0), .int x0] D cA tz I2 ad1 σ1 (some (.int w)) σ2) ∧ k ≤ 3 ∧ σ2 20 0 0 = nI k ∧ (k = 0 → σ2 40 0 0 = w) ∧ Rel σ2 σ2 I1 T 0 G1 ∧ I1 ≤ I0 + 1 ∧ xf_n σ2 = xf_n σ ∧ xf_g σ2 = xf_g σ := by
  by_cases hx : xp_in x0 (nI 3)
  · skip
    obtain ⟨a, ha, rfl⟩ := xp_in_of (by decide) hx
    refine ⟨0, (xu3 (σ) 40 0 0 (σ 2 a 2)), (xu3 (xu3 σ 40 0 0 (σ 2 a 2)) 20 0 0 (nI 0)), I0, G, (mf_cr σ (nI a) 16), cLW_credits_ok l D cA tz I ad σ 2 _ _ _ _ _ (xI5 hI) h40 hL (by decide) (cSF_credits_ok l D cA tz I ad σ a hI hR.rg.h7 ha), fun I2 ad1 hJ => cMD_credits_ok l D cA tz I2 ad1 (xu3 σ 40 0 0 (σ 2 a 2)) a hJ ha, by omega, rfl, (fun _ => (hR.rt a ha).elim (fun mt h => h.cr.trans (mf_cr_cN σ a 16 h.tc).symm)), Rel_f3 hR, by omega, rfl, rfl⟩
  · skip
    refine ⟨1, σ, xu3 σ 20 0 0 (nI 1), I0, G, (nI 0), cLW_credits_t1 l D cA tz I ad σ 7 _ _ _ (xI5 hI) h40 hL (by decide) (t1SF_credits l htr D cA tz I ad σ x0 (out_of hx)), fun I2 ad1 hJ => cMD_credits_no l D cA tz I2 ad1 (σ) x0 hJ hx, by omega, rfl, (fun z => by omega), Rel_f2 hR, by omega, rfl, rfl⟩
theorem st_memory (l : Launch) (htr : l.stackTraces = false) (D : va_G) (cA : Nat → ClassId) (tz : Nat) (I : List (Nat × Nat)) (ad : Nat → Nat → Nat) (σ : xMem) {I0 T G : Nat} (hI : xI I) (h40 : (40, 0) ∈ I) (hL : xL I (xf_n σ) (xf_g σ)) (hR : Rel σ σ I0 T 0 G) (x0 : Int32) : ∃ (k : Nat) (σ1 σ2 : xMem) (I1 G1 : Nat) (w : Int32), xH l yLW_memory bLW_memory 4 (some .int) [(0, 9, 12, 13)] 11 1 6 [.ref (ad 5 0), .int x0, .ref (ad 40 0)] D cA tz I ad σ (fun _ => some (.int (nI k))) σ1 (xf_n σ) (xf_g σ) ∧ (∀ (I2 : List (Nat × Nat)) (ad1 : Nat → Nat → Nat), xJ I2 → xD l yMD_memory bMD_memory 2 (some .int) 3 [.ref (ad1 20 0), .int x0] D cA tz I2 ad1 σ1 (some (.int w)) σ2) ∧ k ≤ 3 ∧ σ2 20 0 0 = nI k ∧ (k = 0 → σ2 40 0 0 = w) ∧ Rel σ2 σ2 I1 T 0 G1 ∧ I1 ≤ I0 + 1 ∧ xf_n σ2 = xf_n σ ∧ xf_g σ2 = xf_g σ := by
  by_cases hx : xp_in x0 (nI 48)
  · skip
    obtain ⟨a, ha, rfl⟩ := xp_in_of (by decide) hx
    refine ⟨0, (xu3 (σ) 40 0 0 (σ 8 0 a)), (xu3 (xu3 σ 40 0 0 (σ 8 0 a)) 20 0 0 (nI 0)), I0, G, (σ 21 0 a), cLW_memory_ok l D cA tz I ad σ 2 _ _ _ _ _ (xI5 hI) h40 hL (by decide) (cSF_memory_ok l D cA tz I ad σ a hI ha), fun I2 ad1 hJ => cMD_memory_ok l D cA tz I2 ad1 (xu3 σ 40 0 0 (σ 8 0 a)) a hJ ha, by omega, rfl, (fun _ => hR.rg.wd a ha), Rel_f3 hR, by omega, rfl, rfl⟩
  · skip
    refine ⟨1, σ, xu3 σ 20 0 0 (nI 1), I0, G, (nI 0), cLW_memory_t1 l D cA tz I ad σ 7 _ _ _ (xI5 hI) h40 hL (by decide) (t1SF_memory l htr D cA tz I ad σ x0 (out_of hx)), fun I2 ad1 hJ => cMD_memory_no l D cA tz I2 ad1 (σ) x0 hJ hx, by omega, rfl, (fun z => by omega), Rel_f2 hR, by omega, rfl, rfl⟩
theorem st_waits (l : Launch) (htr : l.stackTraces = false) (D : va_G) (cA : Nat → ClassId) (tz : Nat) (I : List (Nat × Nat)) (ad : Nat → Nat → Nat) (σ : xMem) {I0 T G : Nat} (hI : xI I) (h40 : (40, 0) ∈ I) (hL : xL I (xf_n σ) (xf_g σ)) (hR : Rel σ σ I0 T 0 G) (x0 : Int32) : ∃ (k : Nat) (σ1 σ2 : xMem) (I1 G1 : Nat) (w : Int32), xH l yLW_waits bLW_waits 4 (some .int) [(0, 9, 12, 13)] 11 1 6 [.ref (ad 5 0), .int x0, .ref (ad 40 0)] D cA tz I ad σ (fun _ => some (.int (nI k))) σ1 (xf_n σ) (xf_g σ) ∧ (∀ (I2 : List (Nat × Nat)) (ad1 : Nat → Nat → Nat), xJ I2 → xD l yMD_waits bMD_waits 5 (some .int) 2 [.ref (ad1 20 0), .int x0] D cA tz I2 ad1 σ1 (some (.int w)) σ2) ∧ k ≤ 3 ∧ σ2 20 0 0 = nI k ∧ (k = 0 → σ2 40 0 0 = w) ∧ Rel σ2 σ2 I1 T 0 G1 ∧ I1 ≤ I0 + 1 ∧ xf_n σ2 = xf_n σ ∧ xf_g σ2 = xf_g σ := by
  by_cases hx : xp_in x0 (nI 4)
  · skip
    obtain ⟨a, ha, rfl⟩ := xp_in_of (by decide) hx
    refine ⟨0, (xu3 (σ) 40 0 0 (xf_wait σ (xf_wts σ a 4))), (xu3 (xu3 σ 40 0 0 (xf_wait σ (xf_wts σ a 4))) 20 0 0 (nI 0)), I0, G, (mf_wait σ (mf_wts σ a 4)), cLW_waits_ok l D cA tz I ad σ 2 _ _ _ _ _ (xI5 hI) h40 hL (by decide) (cSF_waits_ok l D cA tz I ad σ a hI hR.rg.h6 ha), fun I2 ad1 hJ => cMD_waits_ok l D cA tz I2 ad1 (xu3 σ 40 0 0 (xf_wait σ (xf_wts σ a 4))) a hJ ha, by omega, rfl, (fun _ => wait_eq hR ha), Rel_f3 hR, by omega, rfl, rfl⟩
  · skip
    refine ⟨1, σ, xu3 σ 20 0 0 (nI 1), I0, G, (nI 0), cLW_waits_t1 l D cA tz I ad σ 7 _ _ _ (xI5 hI) h40 hL (by decide) (t1SF_waits l htr D cA tz I ad σ x0 (out_of hx)), fun I2 ad1 hJ => cMD_waits_no l D cA tz I2 ad1 (σ) x0 hJ hx, by omega, rfl, (fun z => by omega), Rel_f2 hR, by omega, rfl, rfl⟩
theorem x23 (x : Int32) : nI 2 < x ↔ nI 3 ≤ x := by
  rw [Int32.lt_iff_toInt_lt, Int32.le_iff_toInt_le, show (nI 2).toInt = 2 by decide, show (nI 3).toInt = 3 by decide]
  omega
theorem rst_r {σ : xMem} {a r : Nat} {x : Int32} (h : 20 ≤ r) : xf_rel (xf_rst σ a 4) x 3 r = σ r := by
  funext k i
  rw [rst_c, if_neg (by omega), if_neg (by omega)]
theorem rst_r2 {σ : xMem} {a r : Nat} {x : Int32} (h : r ≠ 25) (h2 : r ≠ 26) : mf_rel (mf_rst σ a 4) x 3 r = σ r := by
  funext k i
  rw [rst_m, if_neg (by omega), if_neg (by omega)]
theorem st_reset (l : Launch) (htr : l.stackTraces = false) (D : va_G) (cA : Nat → ClassId) (tz : Nat) (I : List (Nat × Nat)) (ad : Nat → Nat → Nat) (σ : xMem) {I0 T G : Nat} (hI : xI I) (h40 : (40, 0) ∈ I) (hL : xL I (xf_n σ) (xf_g σ)) (hR : Rel σ σ I0 T 0 G) (x0 : Int32) : ∃ (k : Nat) (σ1 σ2 : xMem) (I1 G1 : Nat) (w : Int32), xH l yLW_reset bLW_reset 4 (some .int) [(0, 9, 12, 13)] 11 1 6 [.ref (ad 5 0), .int x0, .ref (ad 40 0)] D cA tz I ad σ (fun _ => some (.int (nI k))) σ1 (xf_n σ) (xf_g σ) ∧ (∀ (I2 : List (Nat × Nat)) (ad1 : Nat → Nat → Nat), xJ I2 → xD l yMD_reset bMD_reset 5 (some .int) 2 [.ref (ad1 20 0), .int x0] D cA tz I2 ad1 σ1 (some (.int w)) σ2) ∧ k ≤ 3 ∧ σ2 20 0 0 = nI k ∧ (k = 0 → σ2 40 0 0 = w) ∧ Rel σ2 σ2 I1 T 0 G1 ∧ I1 ≤ I0 + 1 ∧ xf_n σ2 = xf_n σ ∧ xf_g σ2 = xf_g σ := by
  by_cases hx : xp_in x0 (nI 4)
  · skip
    obtain ⟨a, ha, rfl⟩ := xp_in_of (by decide) hx
    have hr1 : ∀ r, 20 ≤ r → r < 40 → (xu3 (xf_rel (xf_rst σ a 4) (nI a) 3) 40 0 0 (nI (xf_cnt σ a 4))) r = σ r := fun r h1 h2 => (xu3_r (by omega)).trans (rst_r h1)
    have hR1 : Rel σ (xu3 (xf_rel (xf_rst σ a 4) (nI a) 3) 40 0 0 (nI (xf_cnt σ a 4))) I0 T 0 G := Rel_congr (fun _ _ => rfl) hr1 hR
    refine ⟨0, xu3 (xf_rel (xf_rst σ a 4) (nI a) 3) 40 0 0 (nI (xf_cnt σ a 4)), mf_rel (mf_rst (xu3 (xu3 (xf_rel (xf_rst σ a 4) (nI a) 3) 40 0 0 (nI (xf_cnt σ a 4))) 20 0 0 (nI 0)) a 4) (nI a) 3, I0, G, nI (mf_cnt (xu3 (xf_rel (xf_rst σ a 4) (nI a) 3) 40 0 0 (nI (xf_cnt σ a 4))) a 4), cLW_reset_ok l D cA tz I ad σ 2 _ _ _ _ _ (xI5 hI) h40 hL (by decide) (cSF_reset_ok l D cA tz I ad σ a hI hR.rg.h6 hR.rg.h7 ha), fun I2 ad1 hJ => cMD_reset_ok l D cA tz I2 ad1 (xu3 (xf_rel (xf_rst σ a 4) (nI a) 3) 40 0 0 (nI (xf_cnt σ a 4))) a hJ ha, by omega, ?_, fun _ => ?_, ?_, by omega, ?_, ?_⟩
    · rw [rst_r2 (by decide) (by decide)]; rfl
    · rw [rst_r2 (by decide) (by decide), ← cnt_eq ha hR1 4 (Nat.le_refl _)]; rfl
    · refine Rel_congr (fun r hr => ?_) (fun _ _ _ => rfl) (sim_reset ha hR1)
      rw [rst_r2 (by omega) (by omega), xu3_r (by omega), xu3_r (by omega)]
    · unfold xf_n; rw [rst_r2 (by decide) (by decide), xu3_r (by decide), xu3_r (by decide)]; show xN ((xf_rel (xf_rst σ a 4) (nI a) 3) 11 0 2) = _; rw [rst_c, if_neg (by omega), if_neg (by omega)]
    · unfold xf_g; rw [rst_r2 (by decide) (by decide), xu3_r (by decide), xu3_r (by decide)]; show xN ((xf_rel (xf_rst σ a 4) (nI a) 3) 11 0 9) = _; rw [rst_c, if_neg (by omega), if_neg (by omega)]
  · skip
    refine ⟨1, σ, xu3 σ 20 0 0 (nI 1), I0, G, (nI 0), cLW_reset_t1 l D cA tz I ad σ 7 _ _ _ (xI5 hI) h40 hL (by decide) (t1SF_reset l htr D cA tz I ad σ x0 (out_of hx)), fun I2 ad1 hJ => cMD_reset_no l D cA tz I2 ad1 (σ) x0 hJ hx, by omega, rfl, (fun z => by omega), Rel_f2 hR, by omega, rfl, rfl⟩
theorem st_base (l : Launch) (htr : l.stackTraces = false) (D : va_G) (cA : Nat → ClassId) (tz : Nat) (I : List (Nat × Nat)) (ad : Nat → Nat → Nat) (σ : xMem) {I0 T G : Nat} (hI : xI I) (h40 : (40, 0) ∈ I) (hL : xL I (xf_n σ) (xf_g σ)) (hR : Rel σ σ I0 T 0 G) (x0 x1 : Int32) : ∃ (k : Nat) (σ1 σ2 : xMem) (I1 G1 : Nat), xH l yLW_base bLW_base 4 (some .int) [(0, 6, 9, 13), (0, 6, 12, 19)] 11 1 6 [.ref (ad 5 0), .int x0, .int x1] D cA tz I ad σ (fun _ => some (.int (nI k))) σ1 (xf_n σ) (xf_g σ) ∧ (∀ (I2 : List (Nat × Nat)) (ad1 : Nat → Nat → Nat), xJ I2 → xD l yMD_base bMD_base 3 none 2 [.ref (ad1 20 0), .int x0, .int x1] D cA tz I2 ad1 σ1 none σ2) ∧ k ≤ 3 ∧ σ2 20 0 0 = nI k ∧ Rel σ2 σ2 I1 T 0 G1 ∧ I1 ≤ I0 + 1 ∧ xf_n σ2 = xf_n σ ∧ xf_g σ2 = xf_g σ := by
  by_cases hx : xp_in x0 (nI 4)
  · skip
    obtain ⟨a, ha, rfl⟩ := xp_in_of (by decide) hx
    by_cases hy : xp_in x1 (nI 3)
    · skip
      obtain ⟨b, hb, rfl⟩ := xp_in_of (by decide) hy
      refine ⟨0, (xu3 σ 10 0 a (nI b)), (xu3 (xu3 (xu3 σ 10 0 a (nI b)) 20 0 0 (nI 0)) 23 0 a (nI b)), I0, G, cLW_base_ok l D cA tz I ad σ 2 _ _ _ _ _ (xI5 hI) hL (by decide) (cSF_base_ok l D cA tz I ad σ a b hI ha (by omega)), fun I2 ad1 hJ => cMD_base_ok l D cA tz I2 ad1 (xu3 σ 10 0 a (nI b)) a b hJ ha hb, by omega, rfl, Rel_two (fun r h1 h2 => xu3_r (by omega)) (fun r hr => (xu3_r (by omega)).trans (xu3_r (by omega))) (sim_base ha (by omega)) hR, by omega, rfl, rfl⟩
    · skip
      refine ⟨2, σ, xu3 σ 20 0 0 (nI 2), I0, G, cLW_base_t2 l D cA tz I ad σ 7 _ _ _ _ (xI5 hI) hL (by decide) (t2SF_base l htr D cA tz I ad σ a x1 ha (fun z => hy ⟨z.1, fun w => z.2 ((x23 x1).mpr w)⟩)), fun I2 ad1 hJ => cMD_base_no2 l D cA tz I2 ad1 (σ) a x1 hJ ha hy, by omega, rfl, Rel_f2 hR, by omega, rfl, rfl⟩
  · skip
    refine ⟨1, σ, xu3 σ 20 0 0 (nI 1), I0, G, cLW_base_t1 l D cA tz I ad σ 7 _ _ _ _ (xI5 hI) hL (by decide) (t1SF_base l htr D cA tz I ad σ x0 x1 (out_of hx)), fun I2 ad1 hJ => cMD_base_no l D cA tz I2 ad1 (σ) x0 x1 hJ hx, by omega, rfl, Rel_f2 hR, by omega, rfl, rfl⟩
theorem st_take (l : Launch) (htr : l.stackTraces = false) (D : va_G) (cA : Nat → ClassId) (tz : Nat) (I : List (Nat × Nat)) (ad : Nat → Nat → Nat) (σ : xMem) {I0 T G : Nat} (hI : xI I) (h40 : (40, 0) ∈ I) (hL : xL I (xf_n σ) (xf_g σ)) (hR : Rel σ σ I0 T 0 G) (x0 x1 : Int32) : ∃ (k : Nat) (σ1 σ2 : xMem) (I1 G1 : Nat) (w : Int32), xH l yLW_take bLW_take 5 (some .int) [(0, 17, 20, 13), (0, 17, 24, 21)] 11 1 6 [.ref (ad 5 0), .int x0, .int x1, .ref (ad 40 0)] D cA tz I ad σ (fun _ => some (.int (nI k))) σ1 (xf_n σ) (xf_g σ) ∧ (∀ (I2 : List (Nat × Nat)) (ad1 : Nat → Nat → Nat), xJ I2 → xD l yMD_take bMD_take 6 (some .boolean) 2 [.ref (ad1 20 0), .int x0, .int x1] D cA tz I2 ad1 σ1 (some (.int w)) σ2) ∧ k ≤ 3 ∧ σ2 20 0 0 = nI k ∧ (k = 0 → σ2 40 0 0 = w) ∧ (w = nI 0 ∨ w = nI 1) ∧ Rel σ2 σ2 I1 T 0 G1 ∧ I1 ≤ I0 + 1 ∧ xf_n σ2 = xf_n σ ∧ xf_g σ2 = xf_g σ := by
  by_cases hx : xp_in x0 (nI 4) ∧ xp_in x1 (nI 4)
  · skip
    obtain ⟨a, ha, rfl⟩ := xp_in_of (by decide) hx.1
    obtain ⟨b, hb, rfl⟩ := xp_in_of (by decide) hx.2
    have hK : 4 * a + b < 16 := by omega
    have hf := free_iff hR hK
    by_cases hs : σ 26 0 (4 * a + b) = nI 3 ∨ σ 26 0 (4 * a + b) = nI 4
    · skip
      refine ⟨0, xu3 (xu3 σ 0 (4 * a + b) 3 (nI 0)) 40 0 0 (xb (σ 0 (4 * a + b) 3 = nI 3)), xu3 (xu3 (xu3 (xu3 σ 0 (4 * a + b) 3 (nI 0)) 40 0 0 (xb (σ 0 (4 * a + b) 3 = nI 3))) 20 0 0 (nI 0)) 26 0 (4 * a + b) (nI 0), I0, G, xb (σ 26 0 (4 * a + b) = nI 3), cLW_take_ok l D cA tz I ad σ 2 _ _ _ _ _ _ (xI5 hI) h40 hL (by decide) (cSF_take_ok l D cA tz I ad σ a b hI hR.rg.h6 ha hb (by rw [hf]; exact hs)), fun I2 ad1 hJ => cMD_take_ok l D cA tz I2 ad1 (xu3 (xu3 σ 0 (4 * a + b) 3 (nI 0)) 40 0 0 (xb (σ 0 (4 * a + b) 3 = nI 3))) a b hJ ha hb hs, by omega, rfl, fun _ => ?_, xb_or _, ?_, by omega, rfl, rfl⟩
      · show xb (σ 0 (4 * a + b) 3 = nI 3) = _; rw [hf]
      · refine Rel_two (σ1 := xu3 (xu3 σ 0 (4 * a + b) 3 (nI 0)) 40 0 0 (xb (σ 0 (4 * a + b) 3 = nI 3))) (fun r h1 h2 => (xu3_r (by omega)).trans (xu3_r (by omega))) (fun r hr => (xu3_r (by omega)).trans (xu3_r (by omega))) (fun h => Rel_congr (fun r hr => xu3_r (by omega)) (fun _ _ _ => rfl) (sim_free hK ?_ (Rel_fault (nI 0) h))) hR
        exact hs
    · skip
      refine ⟨2, σ, xu3 σ 20 0 0 (nI 2), I0, G, (xb False), cLW_take_t2 l D cA tz I ad σ 7 _ _ _ _ (xI5 hI) h40 hL (by decide) (t2SF_take l htr D cA tz I ad σ a b hI hR.rg.h6 ha hb (by rw [hf]; exact hs)), fun I2 ad1 hJ => cMD_take_no2 l D cA tz I2 ad1 (σ) a b hJ ha hb hs, by omega, rfl, (fun z => by omega), xb_or _, Rel_f2 hR, by omega, rfl, rfl⟩
  · skip
    refine ⟨1, σ, xu3 σ 20 0 0 (nI 1), I0, G, (xb False), cLW_take_t1 l D cA tz I ad σ 7 _ _ _ _ (xI5 hI) h40 hL (by decide) (t1SF_take l htr D cA tz I ad σ x0 x1 (by rcases Classical.not_and_iff_not_or_not.mp hx with z | z; exact Or.inl (out_of z); exact Or.inr (out_of z))), fun I2 ad1 hJ => cMD_take_no l D cA tz I2 ad1 (σ) x0 x1 hJ hx, by omega, rfl, (fun z => by omega), xb_or _, Rel_f2 hR, by omega, rfl, rfl⟩
theorem st_word (l : Launch) (htr : l.stackTraces = false) (D : va_G) (cA : Nat → ClassId) (tz : Nat) (I : List (Nat × Nat)) (ad : Nat → Nat → Nat) (σ : xMem) {I0 T G : Nat} (hI : xI I) (h40 : (40, 0) ∈ I) (hL : xL I (xf_n σ) (xf_g σ)) (hR : Rel σ σ I0 T 0 G) (x0 x1 x2 : Int32) : ∃ (k : Nat) (σ1 σ2 : xMem) (I1 G1 : Nat) (w : Int32), xH l yLW_word bLW_word 6 (some .int) [(0, 12, 15, 13), (0, 12, 19, 21)] 11 1 6 [.ref (ad 5 0), .int x0, .int x1, .int x2, .ref (ad 40 0)] D cA tz I ad σ (fun _ => some (.int (nI k))) σ1 (xf_n σ) (xf_g σ) ∧ (∀ (I2 : List (Nat × Nat)) (ad1 : Nat → Nat → Nat), xJ I2 → xD l yMD_word bMD_word 7 (some .int) 2 [.ref (ad1 20 0), .int x0, .int x1, .int x2] D cA tz I2 ad1 σ1 (some (.int w)) σ2) ∧ k ≤ 3 ∧ σ2 20 0 0 = nI k ∧ (k = 0 → σ2 40 0 0 = w) ∧ Rel σ2 σ2 I1 T 0 G1 ∧ I1 ≤ I0 + 1 ∧ xf_n σ2 = xf_n σ ∧ xf_g σ2 = xf_g σ := by
  by_cases hx : xp_in x0 (nI 4) ∧ xp_in x1 (nI 4) ∧ xp_in x2 (nI 4)
  · skip
    obtain ⟨a, ha, rfl⟩ := xp_in_of (by decide) hx.1
    obtain ⟨b, hb, rfl⟩ := xp_in_of (by decide) hx.2.1
    obtain ⟨i, hi, rfl⟩ := xp_in_of (by decide) hx.2.2
    have hK : 4 * a + b < 16 := by omega
    by_cases hs : σ 26 0 (4 * a + b) = nI 3 ∧ (σ 27 0 (4 * a + b) = 0 ∨ σ 27 0 (4 * a + b) = nI 2) ∧ nI i < σ 29 0 (4 * a + b)
    · skip
      have hc := (has_iff hR hK hi).mpr hs
      refine ⟨0, (xu3 (σ) 40 0 0 (σ 1 (4 * a + b) i)), (xu3 (xu3 σ 40 0 0 (σ 1 (4 * a + b) i)) 20 0 0 (nI 0)), I0, G, (σ 34 0 (4 * (4 * a + b) + i)), cLW_word_ok l D cA tz I ad σ 2 _ _ _ _ _ _ _ (xI5 hI) h40 hL (by decide) (cSF_word_ok l D cA tz I ad σ a b i hI hR.rg.h6 ha hb hi hc.1 hc.2.1 hc.2.2), fun I2 ad1 hJ => cMD_word_ok l D cA tz I2 ad1 (xu3 σ 40 0 0 (σ 1 (4 * a + b) i)) a b i hJ ha hb hi hs, by omega, rfl, (fun _ => word_eq hR hK hi hs), Rel_f3 hR, by omega, rfl, rfl⟩
    · skip
      refine ⟨2, σ, xu3 σ 20 0 0 (nI 2), I0, G, (nI 0), cLW_word_t2 l D cA tz I ad σ 7 _ _ _ _ _ (xI5 hI) h40 hL (by decide) (t2SF_word l htr D cA tz I ad σ a b i hI hR.rg.h6 ha hb hi (fun z => hs ((has_iff hR hK hi).mp z))), fun I2 ad1 hJ => cMD_word_no2 l D cA tz I2 ad1 (σ) a b i hJ ha hb hi hs, by omega, rfl, (fun z => by omega), Rel_f2 hR, by omega, rfl, rfl⟩
  · skip
    refine ⟨1, σ, xu3 σ 20 0 0 (nI 1), I0, G, (nI 0), cLW_word_t1 l D cA tz I ad σ 7 _ _ _ _ _ (xI5 hI) h40 hL (by decide) (t1SF_word l htr D cA tz I ad σ x0 x1 x2 (by rcases Classical.not_and_iff_not_or_not.mp hx with z | z; exact Or.inl (out_of z); rcases Classical.not_and_iff_not_or_not.mp z with z | z; exact Or.inr (Or.inl (out_of z)); exact Or.inr (Or.inr (out_of z)))), fun I2 ad1 hJ => cMD_word_no l D cA tz I2 ad1 (σ) x0 x1 x2 hJ hx, by omega, rfl, (fun z => by omega), Rel_f2 hR, by omega, rfl, rfl⟩
theorem st_service (l : Launch) (htr : l.stackTraces = false) (D : va_G) (cA : Nat → ClassId) (tz : Nat) (I : List (Nat × Nat)) (ad : Nat → Nat → Nat) (σ : xMem) {I0 T G : Nat} (hI : xI I) (h40 : (40, 0) ∈ I) (hL : xL I (xf_n σ) (xf_g σ)) (hR : Rel σ σ I0 T 0 G) (x0 x1 : Int32) : ∃ (k : Nat) (σ1 σ2 : xMem) (I1 G1 : Nat) (w : Int32), xH l yLW_service bLW_service 5 (some .int) [(0, 10, 13, 13), (0, 10, 17, 19)] 11 1 6 [.ref (ad 5 0), .int x0, .int x1, .ref (ad 40 0)] D cA tz I ad σ (fun _ => some (.int (nI k))) σ1 (xf_n σ) (xf_g σ) ∧ (∀ (I2 : List (Nat × Nat)) (ad1 : Nat → Nat → Nat), xJ I2 → xD l yMD_service bMD_service 3 (some .int) 2 [.ref (ad1 20 0), .int x0, .int x1] D cA tz I2 ad1 σ1 (some (.int w)) σ2) ∧ k ≤ 3 ∧ σ2 20 0 0 = nI k ∧ (k = 0 → σ2 40 0 0 = w) ∧ Rel σ2 σ2 I1 T 0 G1 ∧ I1 ≤ I0 + 1 ∧ xf_n σ2 = xf_n σ ∧ xf_g σ2 = xf_g σ := by
  have hn5 : xf_n σ ≤ 512 := by have := hR.rg.un; have := hR.rg.I5; omega
  by_cases hx : xp_in x0 (nI (xf_n σ))
  · skip
    obtain ⟨a, ha, rfl⟩ := xp_in_of (by omega) hx
    by_cases hy : xp_in x1 (nI 6)
    · skip
      obtain ⟨b, hb, rfl⟩ := xp_in_of (by decide) hy
      refine ⟨0, (xu3 (σ) 40 0 0 (σ 13 a b)), (xu3 (xu3 σ 40 0 0 (σ 13 a b)) 20 0 0 (nI 0)), I0, G, (σ 36 0 (6 * a + b)), cLW_service_ok l D cA tz I ad σ 4 _ _ _ _ _ _ (xI5 hI) h40 hL (by decide) (cSF_service_ok l D cA tz I ad σ (xf_n σ) (xf_g σ) (xf_N σ) a b hI hL hR.rg.xs ha hb), fun I2 ad1 hJ => cMD_service_ok l D cA tz I2 ad1 (xu3 σ 40 0 0 (σ 13 a b)) (xf_n σ) a b hJ hR.rg.sv (by omega) ha hb, by omega, rfl, (fun _ => hR.rg.lo a b ha hb), Rel_f3 hR, by omega, rfl, rfl⟩
    · skip
      refine ⟨2, σ, xu3 σ 20 0 0 (nI 2), I0, G, (nI 0), cLW_service_t2 l D cA tz I ad σ 7 _ _ _ _ (xI5 hI) h40 hL (by decide) (t2SF_service l htr D cA tz I ad σ (xf_n σ) a x1 hI hR.rg.xs.1 (by omega) ha (fun z => hy z)), fun I2 ad1 hJ => cMD_service_no2 l D cA tz I2 ad1 (σ) (xf_n σ) a x1 hJ hR.rg.sv (by omega) ha hy, by omega, rfl, (fun z => by omega), Rel_f2 hR, by omega, rfl, rfl⟩
  · skip
    refine ⟨1, σ, xu3 σ 20 0 0 (nI 1), I0, G, (nI 0), cLW_service_t1 l D cA tz I ad σ 7 _ _ _ _ (xI5 hI) h40 hL (by decide) (t1SF_service l htr D cA tz I ad σ (xf_n σ) x0 x1 hI hR.rg.xs.1 (out_of hx)), fun I2 ad1 hJ => cMD_service_no l D cA tz I2 ad1 (σ) (xf_n σ) x0 x1 hJ hR.rg.sv (by omega) hx, by omega, rfl, (fun z => by omega), Rel_f2 hR, by omega, rfl, rfl⟩
