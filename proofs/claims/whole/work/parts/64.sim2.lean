/-! Steps that touch little. -/
theorem RK_congr {c m c' m' : xMem} {I T G I' T' G' k s d w n q o p a r : Nat} (h0 : ∀ i, c' 0 k i = c 0 k i) (h1 : ∀ j, j < 4 → c' 1 k j = c 1 k j) (h26 : m' 26 0 k = m 26 0 k) (h27 : m' 27 0 k = m 27 0 k) (h28 : m' 28 0 k = m 28 0 k) (h29 : m' 29 0 k = m 29 0 k) (h30 : m' 30 0 k = m 30 0 k) (h31 : m' 31 0 k = m 31 0 k) (h32 : m' 32 0 k = m 32 0 k) (h35 : m' 35 0 k = m 35 0 k)
    (h33 : ∀ j, j < 4 → m' 33 0 (4 * k + j) = m 33 0 (4 * k + j)) (h34 : ∀ j, j < 4 → m' 34 0 (4 * k + j) = m 34 0 (4 * k + j)) (hI : I ≤ I') (hT : T ≤ T') (hG : G ≤ G') (h : RK c m I T G k s d w n q o p a r) : RK c' m' I' T' G' k s d w n q o p a r := by
  have z1 := h.wT
  have z2 := h.pG
  have z3 := h.oI
  have z4 := h.n4
  refine ⟨?_, ?_, ?_, ?_, ?_, ?_, ?_, ?_, ?_, ?_, ?_, ?_, ?_, ?_, ?_, ?_, ?_, ?_, ?_, ?_, ?_, ?_, ?_, ?_, ?_, ?_, ?_, ?_, ?_, ?_⟩
  · rw [h0]; exact h.m0
  · rw [h0]; exact h.m1
  · rw [h0]; exact h.cs
  · rw [h26]; exact h.ms
  · exact h.s4
  · rw [h0]; exact h.cd
  · rw [h27]; exact h.md
  · exact h.d4
  · rw [h0]; exact h.cw
  · rw [h30]; exact h.mw
  · omega
  · rw [h0]; exact h.cn
  · rw [h29]; exact h.mn
  · exact h.n4
  · rw [h0]; exact h.cq
  · exact h.q64
  · rw [h28]; exact h.mq
  · rw [h0]; exact h.co
  · omega
  · intro z
    have := h.mo z
    rw [h31]
    exact ⟨this.1, by omega⟩
  · rw [h32]; exact h.mp
  · omega
  · rw [h0]; exact h.ca
  · exact h.a1
  · rw [h0]; exact h.cr
  · rw [h35]; exact h.le
  · rw [h35]; exact h.gr
  · exact h.wa
  · intro z1 z2 j hj
    rw [h1 j (by omega), h33 j (by omega)]
    exact h.kw z1 z2 j hj
  · intro z1 z2 j hj
    rw [h1 j (by omega), h34 j (by omega)]
    exact h.kr z1 z2 j hj
theorem inq_congr {m m' : xMem} {x : Int32} (h26 : ∀ k, k < 16 → m' 26 0 k = m 26 0 k) (h28 : ∀ k, k < 16 → m' 28 0 k = m 28 0 k) (h32 : ∀ k, k < 16 → m' 32 0 k = m 32 0 k) : ∀ k, k < 16 → (mp_inq m' x k ↔ mp_inq m x k) := by
  intro k hk
  unfold mp_inq
  rw [h26 k hk, h28 k hk, h32 k hk]
theorem RT_congr {c m c' m' : xMem} {t mt : Nat} (h2 : ∀ i, c' 2 t i = c 2 t i) (h3 : ∀ i, c' 3 t i = c 3 t i) (h25 : m' 25 0 t = m 25 0 t) (h24 : m' 24 0 t = m 24 0 t) (hi : ∀ k, k < 16 → (mp_inq m' (nI t) k ↔ mp_inq m (nI t) k)) (hg : ∀ k, k < 16 → (mp_gr m' t k ↔ mp_gr m t k)) (h32 : ∀ k, k < 16 → mp_inq m (nI t) k → m' 32 0 k = m 32 0 k) (h : RT c m t mt) : RT c' m' t mt := by
  have ei := cN_congr hi
  have eg := cN_congr hg
  refine ⟨?_, ?_, ?_, ?_, ?_, ?_, ?_, ?_, ?_, ?_, ?_⟩
  · rw [h2]; exact h.tn
  · rw [ei]; exact h.tm
  · rw [eg]; exact h.tc
  · rw [h2, eg]; exact h.cr
  · rw [h2, h25]; exact h.ho
  · rw [h25]; exact h.hv
  · rw [h2, h24]; exact h.rd
  · rw [h24]; exact h.rv
  · intro j hj
    obtain ⟨k, hk, e, hq⟩ := h.q1 j hj
    exact ⟨k, hk, by rw [h3]; exact e, (hi k hk).mpr hq⟩
  · intro i j k l hij hj hk hl e1 e2
    rw [h3] at e1 e2
    obtain ⟨k', hk', e', hq'⟩ := h.q1 i (by omega)
    obtain ⟨l', hl', e'', hq''⟩ := h.q1 j hj
    have a1 : k = k' := nI_inj (by omega) (by omega) (e1.symm.trans e')
    have a2 : l = l' := nI_inj (by omega) (by omega) (e2.symm.trans e'')
    subst a1
    subst a2
    rw [h32 k hk hq', h32 l hl hq'']
    exact h.q2 i j k l hij hj hk hl e1 e2
  · intro k hk hq
    obtain ⟨j, hj, e⟩ := h.q3 k hk ((hi k hk).mp hq)
    exact ⟨j, hj, by rw [h3]; exact e⟩
/-- the fault's cell matters not -/
theorem Rel_fault {c m : xMem} {I T e G : Nat} (x : Int32) (h : Rel c m I T e G) : Rel c (xu3 m 20 0 0 x) I T e G := by
  refine ⟨fun k hk => ?_, fun t ht => ?_, ?_⟩
  · obtain ⟨s, d, w, n, q, o, p, a, r, hk'⟩ := h.rk k hk
    exact ⟨s, d, w, n, q, o, p, a, r, RK_congr (c := c) (m := m) (fun _ => rfl) (fun _ _ => rfl) rfl rfl rfl rfl rfl rfl rfl rfl (fun _ _ => rfl) (fun _ _ => rfl) (Nat.le_refl _) (Nat.le_refl _) (Nat.le_refl _) hk'⟩
  · obtain ⟨mt, ht'⟩ := h.rt t ht
    exact ⟨mt, RT_congr (c := c) (m := m) (fun _ => rfl) (fun _ => rfl) rfl rfl (fun _ _ => Iff.rfl) (fun _ _ => Iff.rfl) (fun _ _ _ => rfl) ht'⟩
  · exact h.rg
theorem sim_data {c m : xMem} {I T e G a j : Nat} (x : Int32) (ha : a < 4) (hj : j < 4) (h : Rel c m I T e G) : Rel (xu3 c 4 a j x) (xu3 (xu3 m 20 0 0 (nI 0)) 22 0 (4 * a + j) x) I T e G := by
  have h := Rel_fault (nI 0) h
  generalize xu3 m 20 0 0 (nI 0) = m at h ⊢
  refine ⟨fun k hk => ?_, fun t ht => ?_, ?_⟩
  · obtain ⟨s, d, w, n, q, o, p, a, r, hk'⟩ := h.rk k hk
    exact ⟨s, d, w, n, q, o, p, a, r, RK_congr (c := c) (m := m) (fun _ => rfl) (fun _ _ => rfl) rfl rfl rfl rfl rfl rfl rfl rfl (fun _ _ => rfl) (fun _ _ => rfl) (Nat.le_refl _) (Nat.le_refl _) (Nat.le_refl _) hk'⟩
  · obtain ⟨mt, ht'⟩ := h.rt t ht
    exact ⟨mt, RT_congr (c := c) (m := m) (fun _ => rfl) (fun _ => rfl) rfl rfl (fun _ _ => Iff.rfl) (fun _ _ => Iff.rfl) (fun _ _ _ => rfl) ht'⟩
  · obtain ⟨a1, a2, a3, a4, a5, a6, a7, a8, a8e, a9, a10, a11, a12, a13, a14, a15, a16, a17, a18, a19, a20⟩ := h.rg
    refine ⟨a1, a2, a3, a4, a5, a6, a7, a8, a8e, a9, a10, a11, ?_, a13, a14, a15, a16, a17, a18, a19, a20⟩
    intro b i hb hi
    rw [xu3_at, xu3_at]
    have := a12 b i hb hi
    grind
theorem sim_ready {c m : xMem} {I T e G t : Nat} {x : Int32} (hx : x = nI 0 ∨ x = nI 1) (ht : t < 3) (h : Rel c m I T e G) : Rel (xu3 c 2 t 4 x) (xu3 (xu3 m 20 0 0 (nI 0)) 24 0 t x) I T e G := by
  have h := Rel_fault (nI 0) h
  generalize xu3 m 20 0 0 (nI 0) = m at h ⊢
  refine ⟨fun k hk => ?_, fun u hu => ?_, ?_⟩
  · obtain ⟨s, d, w, n, q, o, p, a, r, hk'⟩ := h.rk k hk
    exact ⟨s, d, w, n, q, o, p, a, r, RK_congr (c := c) (m := m) (fun _ => rfl) (fun _ _ => rfl) rfl rfl rfl rfl rfl rfl rfl rfl (fun _ _ => rfl) (fun _ _ => rfl) (Nat.le_refl _) (Nat.le_refl _) (Nat.le_refl _) hk'⟩
  · obtain ⟨mt, hu'⟩ := h.rt u hu
    refine ⟨mt, ?_⟩
    obtain ⟨a1, a2, a3, a4, a5, a6, a7, a8, a9, a10, a11⟩ := hu'
    refine ⟨?_, a2, a3, ?_, ?_, a6, ?_, ?_, a9, a10, a11⟩
    · rw [xu3_at]; grind
    · rw [xu3_at, if_neg (by omega)]; exact a4
    · rw [xu3_at, if_neg (by omega)]; exact a5
    · rw [xu3_at, xu3_at]; grind
    · rw [xu3_at]; grind
  · exact h.rg
theorem sim_base {c m : xMem} {I T e G a b : Nat} (ha : a < 4) (hb : b ≤ 2) (h : Rel c m I T e G) : Rel (xu3 c 10 0 a (nI b)) (xu3 (xu3 m 20 0 0 (nI 0)) 23 0 a (nI b)) I T e G := by
  have h := Rel_fault (nI 0) h
  generalize xu3 m 20 0 0 (nI 0) = m at h ⊢
  refine ⟨fun k hk => ?_, fun t ht => ?_, ?_⟩
  · obtain ⟨s, d, w, n, q, o, p, a, r, hk'⟩ := h.rk k hk
    exact ⟨s, d, w, n, q, o, p, a, r, RK_congr (c := c) (m := m) (fun _ => rfl) (fun _ _ => rfl) rfl rfl rfl rfl rfl rfl rfl rfl (fun _ _ => rfl) (fun _ _ => rfl) (Nat.le_refl _) (Nat.le_refl _) (Nat.le_refl _) hk'⟩
  · obtain ⟨mt, ht'⟩ := h.rt t ht
    exact ⟨mt, RT_congr (c := c) (m := m) (fun _ => rfl) (fun _ => rfl) rfl rfl (fun _ _ => Iff.rfl) (fun _ _ => Iff.rfl) (fun _ _ _ => rfl) ht'⟩
  · obtain ⟨a1, a2, a3, a4, a5, a6, a7, a8, a8e, a9, a10, a11, a12, a13, a14, a15, a16, a17, a18, a19, a20⟩ := h.rg
    refine ⟨a1, a2, a3, a4, a5, a6, a7, a8, a8e, a9, a10, a11, a12, ?_, a14, a15, a16, a17, a18, a19, a20⟩
    intro a' ha'
    obtain ⟨b', h1, h2, h3⟩ := a13 a' ha'
    rw [xu3_at, xu3_at]
    by_cases e : a' = a
    · exact ⟨b, hb, by rw [if_pos ⟨rfl, rfl, e⟩], by rw [if_pos ⟨rfl, rfl, e⟩]⟩
    · exact ⟨b', h1, by rw [if_neg (by omega)]; exact h2, by rw [if_neg (by omega)]; exact h3⟩
/-- a tag becomes free that neither waits nor is granted -/
theorem sim_free {c m : xMem} {I T e G k0 : Nat} (hk0 : k0 < 16) (hs : m 26 0 k0 = nI 3 ∨ m 26 0 k0 = nI 4) (h : Rel c m I T e G) : Rel (xu3 c 0 k0 3 (nI 0)) (xu3 m 26 0 k0 (nI 0)) I T e G := by
  have e3 : ¬ nI 3 = nI 2 := by decide
  have e4 : ¬ nI 4 = nI 2 := by decide
  have e0 : ¬ nI 0 = nI 2 := by decide
  have e5 : ¬ nI 3 = nI 1 := by decide
  have e6 : ¬ nI 4 = nI 1 := by decide
  have e7 : ¬ nI 0 = nI 1 := by decide
  have hi : ∀ t, ∀ k, k < 16 → (mp_inq (xu3 m 26 0 k0 (nI 0)) (nI t) k ↔ mp_inq m (nI t) k) := by
    intro t k hk
    unfold mp_inq
    rw [xu3_at, xu3_at, xu3_at]
    grind
  have hg : ∀ t, ∀ k, k < 16 → (mp_gr (xu3 m 26 0 k0 (nI 0)) t k ↔ mp_gr m t k) := by
    intro t k hk
    unfold mp_gr
    rw [xu3_at, xu3_at]
    grind
  have hu : ∀ k, k < 16 → (mp_uns (xu3 m 26 0 k0 (nI 0)) k ↔ mp_uns m k) := by
    intro k hk
    unfold mp_uns
    rw [xu3_at, xu3_at]
    grind
  refine ⟨fun k hk => ?_, fun t ht => ?_, ?_⟩
  · obtain ⟨s, d, w, n, q, o, p, a, r, hk'⟩ := h.rk k hk
    by_cases e : k = k0
    · subst e
      have hs2 : s ≠ 2 := by
        intro z
        rw [hk'.ms, z] at hs
        rcases hs with hs | hs
        · exact absurd hs (by decide)
        · exact absurd hs (by decide)
      refine ⟨0, d, w, n, q, o, p, a, r, ?_⟩
      obtain ⟨a1, a2, a3, a4, a5, a6, a7, a8, a9, a10, a11, a12, a13, a14, a15, a16, a17, a18, a19, a20, a21, a22, a23, a24, a25, a26, a27, a28, a29, a30⟩ := hk'
      refine ⟨?_, ?_, ?_, ?_, by omega, ?_, a7, a8, ?_, a10, a11, ?_, a13, a14, ?_, a16, a17, ?_, a19, by omega, a21, a22, ?_, a24, ?_, fun _ => a26 hs2, by omega, by omega, by omega, by omega⟩
      all_goals rw [xu3_at]; first | (rw [if_neg (by omega)]; assumption) | (rw [if_pos (by omega)])
    · refine ⟨s, d, w, n, q, o, p, a, r, RK_congr (c := c) (m := m) (fun i => ?_) (fun _ _ => rfl) ?_ rfl rfl rfl rfl rfl rfl rfl (fun _ _ => rfl) (fun _ _ => rfl) (Nat.le_refl _) (Nat.le_refl _) (Nat.le_refl _) hk'⟩
      · rw [xu3_at, if_neg (by omega)]
      · rw [xu3_at, if_neg (by omega)]
  · obtain ⟨mt, ht'⟩ := h.rt t ht
    exact ⟨mt, RT_congr (c := c) (m := m) (fun _ => rfl) (fun _ => rfl) rfl rfl (hi t) (hg t) (fun _ _ _ => rfl) ht'⟩
  · obtain ⟨a1, a2, a3, a4, a5, a6, a7, a8, a8e, a9, a10, a11, a12, a13, a14, a15, a16, a17, a18, a19, a20⟩ := h.rg
    refine ⟨a1, a2, a3, a4, a5, a6, a7, a8, a8e, a9, a10, a11, a12, a13, a14, a15, a16, ?_, ?_, a19, a20⟩
    · rw [cN_congr hu]; exact a17
    · intro k l hk hl hkl h1 h2
      rw [xu3_at] at h1 h2
      rw [xu3_at, xu3_at]
      have := a18 k l hk hl hkl
      grind
