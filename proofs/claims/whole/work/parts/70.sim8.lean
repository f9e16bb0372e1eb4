/-! A cycle, side by side. -/
theorem sim_srv1 {c m : xMem} {I T G t : Nat} (ht : t < 3) (h : Rel c m I T 1 G) : Rel (xf_srv1 c t) (mf_srv1 m t (mf_fst m (nI t) 16)) I T 1 G := by
  obtain ⟨mt, htt⟩ := h.rt t ht
  have hrd := htt.rd
  have m4 : mt ≤ 4 := by
    rw [htt.tm]
    exact Nat.le_trans (cN_mono (fun k _ hq => (⟨hq.1, hq.2.2⟩ : mp_gr m t k))) htt.tc
  rcases fst_eq h htt with ⟨h0, hf⟩ | ⟨h0, k, hk16, h30, hin, hf⟩
  · rw [hf, xf_srv1_f]
    · exact h
    · rintro ⟨-, z⟩
      rw [htt.tn, h0] at z
      exact z (by decide)
  · rw [hf]
    by_cases hr : m 24 0 t = 0
    · rw [xf_srv1_f (fun z => z.1 (hrd.trans hr))]
      show Rel c (xif _ _ _) I T 1 G
      rw [xif_t hr]
      exact h
    · obtain ⟨s, d, w, n, q, o, p, a, r, hk⟩ := h.rk k hk16
      have hs : s = 2 := nI_inj (by have := hk.s4; omega) (by omega) (hk.ms.symm.trans hin.1)
      have hd : d < 4 := (hk.gr hs).1
      have hq6 := hk.q64
      have hn4 := hk.n4
      have hn5 : xf_n c < 2 ^ 31 := by have := h.rg.un; have := h.rg.I5; omega
      rw [xf_srv1_t (fun z => hr (hrd.symm.trans z)) (by rw [htt.tn]; exact nI_nle h0 (by omega)), xf_pick_eq htt.tn (by omega) h30 (by omega) hk.cq (by omega) hk.cn (by omega)]
      show Rel _ (xif _ _ _) I T 1 G
      rw [xif_f hr]
      unfold mf_serve
      rw [xN_of (hk.mq (by omega)) (by omega), xN_of hk.mn (by omega), xN_of h.rg.sv hn5]
      exact sim_serve ht htt h0 hk16 h30 hin hk h
theorem sim_srv {c m : xMem} {I T G : Nat} (h : Rel c m I T 1 G) : ∀ i, i ≤ 3 → Rel (xf_srv c i) (mf_srv m i) I T 1 G := by
  intro i
  induction i with
  | zero => intro _; exact h
  | succ i ih =>
    intro hi
    exact sim_srv1 (by omega) (ih (by omega))
theorem cv_of {c m : xMem} {I T e G : Nat} (h : Rel c m I T e G) : cv c := by
  refine ⟨h.rg.h7, h.rg.h6, fun t ht => ?_, h.rg.xs⟩
  obtain ⟨mt, htt⟩ := h.rt t ht
  have m4 : mt ≤ 4 := by
    rw [htt.tm]
    exact Nat.le_trans (cN_mono (fun k _ hq => (⟨hq.1, hq.2.2⟩ : mp_gr m t k))) htt.tc
  refine ⟨mt, m4, htt.tn, fun h0 => ?_⟩
  obtain ⟨k, hk16, h30, hin⟩ := htt.q1 0 h0
  obtain ⟨s, d, w, n, q, o, p, a, r, hk⟩ := h.rk k hk16
  have hs : s = 2 := nI_inj (by have := hk.s4; omega) (by omega) (hk.ms.symm.trans hin.1)
  obtain ⟨-, g1, g2, -, -⟩ := hk.gr hs
  have hup := cN_pos (P := mp_uns m) (k0 := k) (Or.inr ⟨hin.1, hin.2.1⟩) hk16
  have := h.rg.un
  have := h.rg.I5
  exact ⟨k, q, n, hk16, h30, hk.cq, hk.cn, by omega, g2, hk.n4, by omega⟩
theorem mv_of {c m : xMem} {I T e G : Nat} (h : Rel c m I T e G) : mv m := by
  obtain ⟨g, hg, -, hm⟩ := h.rg.lg
  obtain ⟨g', hg', -, hm'⟩ := h.rg.lr
  refine ⟨⟨g, hg, hm⟩, ⟨g', hg', hm'⟩, ⟨xf_n c, by have := h.rg.un; have := h.rg.I5; omega, h.rg.sv⟩, fun k hk16 => ?_⟩
  obtain ⟨s, d, w, n, q, o, p, a, r, hk⟩ := h.rk k hk16
  have hd4 := hk.d4
  refine ⟨fun z => ⟨q, hk.q64, hk.mq (fun y => z (by rw [hk.md, y]))⟩, fun z => ?_⟩
  have hs : s = 2 := nI_inj (by have := hk.s4; omega) (by omega) (hk.ms.symm.trans z)
  obtain ⟨g0, g1, g2, -, -⟩ := hk.gr hs
  exact ⟨q, n, by omega, hk.n4, hk.mq (by omega), hk.mn⟩
theorem vt_of {c m : xMem} {I T e G : Nat} (h : Rel c m I T e G) : xv_tags c := by
  refine ⟨h.rg.h6, h.rg.h7, fun k hk16 => ?_⟩
  obtain ⟨s, d, w, n, q, o, p, a, r, hk⟩ := h.rk k hk16
  exact ⟨hk.m0, hk.m1, ⟨q, hk.q64, hk.cq⟩, n, hk.n4, hk.cn⟩
/-- one that may be granted and goes to a target: there is room for it -/
theorem room_of {c m : xMem} {I T e G k q t mt : Nat} (h : Rel c m I T e G) (he : xp_elig c k) (hd : ¬ c 0 k 4 = nI 4) (hq : q < 48) (hcq : c 0 k 5 = nI q) (ht : t = q / 16) (htt : RT c m t mt) : cN (mp_gr m t) 16 < 4 ∧ mt < 4 := by
  have hadm : xp_adm c k (xf_tgt c k) := by
    rcases he.2.2 with z | z | z
    · exact absurd z hd
    · unfold xp_unm at z
      rw [hcq] at z
      exact absurd z (nI_ge hq (by omega))
    · exact z
  rw [xf_tgt_of hcq (by omega), ← ht] at hadm
  have h0 := hadm.1
  rw [htt.cr] at h0
  have h1 : cN (mp_gr m t) 16 < 4 := by
    apply Nat.lt_of_not_le
    intro z
    rw [show 4 - cN (mp_gr m t) 16 = 0 by omega] at h0
    exact absurd h0 (by decide)
  refine ⟨h1, ?_⟩
  rw [htt.tm]
  exact Nat.lt_of_le_of_lt (cN_mono (fun k _ hq => (⟨hq.1, hq.2.2⟩ : mp_gr m t k))) h1
theorem cvq_of {c m : xMem} {I T e G : Nat} (h : Rel c m I T e G) : cvq c := by
  intro k hk16 he hd q hq hcq
  obtain ⟨mt, htt⟩ := h.rt (q / 16) (by omega)
  exact ⟨mt, (room_of h he hd hq hcq rfl htt).2, htt.tn⟩
theorem sim_gr {c m : xMem} {I T G b : Nat} (hb : b < 16) (he : xp_elig c b) (hGT : G ≤ T) (h : Rel c m I T 1 G) :
    Rel (xf_grant c b (xN (c 0 b 5) / 16) (xN (c 2 (xN (c 0 b 5) / 16) 1))) (mf_grant m (some b)) I T 1 (G + 1) := by
  obtain ⟨s, d, w, n, q, o, p, a, r, hk⟩ := h.rk b hb
  have hq6 := hk.q64
  have hd4 := hk.d4
  have hs : s = 1 := nI_inj (by have := hk.s4; omega) (by omega) (hk.cs.symm.trans he.1)
  have hms : m 26 0 b = nI 1 := by rw [hk.ms, hs]
  rw [xN_of hk.cq (by omega)]
  unfold xf_grant mf_grant
  by_cases h4 : d = 4
  · have c4 : c 0 b 4 = nI 4 := by rw [hk.cd, h4]
    have m4 : m 27 0 b = nI 4 := by rw [hk.md, h4]
    have nmap : ¬ mp_map m b := fun z => z.1 m4
    rw [xif_t c4]
    show Rel _ (xif _ _ _) I T 1 (G + 1)
    rw [xif_f nmap, xif_t m4]
    exact sim_end hb (Or.inl rfl) hms (fun _ => m4) hGT h
  · have c4 : ¬ c 0 b 4 = nI 4 := fun z => h4 (nI_inj (by omega) (by omega) (hk.cd.symm.trans z))
    have m4 : ¬ m 27 0 b = nI 4 := fun z => h4 (nI_inj (by omega) (by omega) (hk.md.symm.trans z))
    have hmq := hk.mq h4
    rw [xif_f c4]
    show Rel _ (xif _ _ _) I T 1 (G + 1)
    by_cases h48 : q < 48
    · have nun : ¬ xp_unm c b := by unfold xp_unm; rw [hk.cq]; exact nI_ge h48 (by omega)
      have map : mp_map m b := ⟨m4, by rw [hmq]; exact nI_ge h48 (by omega)⟩
      rw [xif_f nun, xif_t map]
      obtain ⟨mt, htt⟩ := h.rt (q / 16) (by omega)
      have hrm := room_of h he c4 h48 hk.cq rfl htt
      rw [xN_of htt.tn (by omega)]
      exact sim_enter hb hk hs (by omega) h48 rfl htt hrm.1 hGT h
    · have un : xp_unm c b := by unfold xp_unm; rw [hk.cq]; exact nI_le (by omega) (by omega)
      have nmap : ¬ mp_map m b := fun z => z.2 (by rw [hmq]; exact nI_le (by omega) (by omega))
      rw [xif_t un, xif_f nmap, xif_f m4]
      exact sim_end hb (Or.inr rfl) hms (fun z => by omega) hGT h
theorem sim_tick {c m : xMem} {I T G : Nat} (h : Rel c m I T 0 G) : Rel (xu3 c 5 0 6 (c 5 0 6 + nI 1)) m I T 1 G := by
  refine ⟨fun k hk => ?_, fun t ht => ?_, ?_⟩
  · obtain ⟨s, d, w, n, q, o, p, a, r, hk'⟩ := h.rk k hk
    exact ⟨s, d, w, n, q, o, p, a, r, RK_congr (c := c) (m := m) (fun _ => rfl) (fun _ _ => rfl) rfl rfl rfl rfl rfl rfl rfl rfl (fun _ _ => rfl) (fun _ _ => rfl) (Nat.le_refl _) (Nat.le_refl _) (Nat.le_refl _) hk'⟩
  · obtain ⟨mt, ht'⟩ := h.rt t ht
    exact ⟨mt, RT_congr (c := c) (m := m) (fun _ => rfl) (fun _ => rfl) rfl rfl (fun _ _ => Iff.rfl) (fun _ _ => Iff.rfl) (fun _ _ _ => rfl) ht'⟩
  · obtain ⟨a1, a2, a3, a4, a5, a6, a7, a8, a8e, a9, a10, a11, a12, a13, a14, a15, a16, a17, a18, a19, a20⟩ := h.rg
    refine ⟨a1, a2, ?_, a4, a5, a6, a7, by omega, by omega, a9, a10, a11, a12, a13, a14, a15, a16, a17, a18, a19, a20⟩
    show c 5 0 6 + nI 1 = _
    rw [a3, nI_add]
theorem sim_cycle {c m : xMem} {I T G : Nat} (hT : T + 1 ≤ 51200) (h : Rel c m I T 0 G) : cv1 c ∧ mv1 m ∧ xf_bst c = mf_bst m ∧ ∃ G', Rel (xf_cyc c) (mf_one m) I (T + 1) 0 G' := by
  have h1 := sim_tick h
  have h2 := sim_srv h1
  have h3 : Rel (xf_s3 c) (mf_srv m 3) I T 1 G := h2 3 (Nat.le_refl _)
  have h4 : Rel (xf_gv c) (mf_gv m) I T 1 G := sim_give h3
  have hGT : G ≤ T := by have := h.rg.gT; omega
  obtain ⟨g, hg, hgc, hgm⟩ := h4.rg.lg
  have hbst : xf_bst c = mf_bst m := by
    unfold xf_bst mf_bst
    rw [xN_of hgc (by omega), xN_of hgm (by omega)]
    exact best_eq h4 hg
  refine ⟨?_, ⟨fun i hi => mv_of (h2 i hi), mv_of h4⟩, hbst, ?_⟩
  · obtain ⟨g9, hg9, hc9, -⟩ := h3.rg.lr
    refine ⟨fun i hi => cv_of (h2 i hi), ⟨g9, hg9, hc9⟩, h3.rg.h6, h3.rg.h7, fun k hk16 z => ?_, ⟨g, hg, hgc⟩, vt_of h4, cvq_of h4⟩
    obtain ⟨s, d, w, n, q, o, p, a, r, hk⟩ := h3.rk k hk16
    have hs : s = 2 := nI_inj (by have := hk.s4; omega) (by omega) (hk.cs.symm.trans z)
    exact ⟨q, (hk.gr hs).2.2.1, hk.cq⟩
  · unfold xf_cyc mf_one
    rw [← hbst]
    cases hb : xf_bst c with
    | none => exact ⟨G, sim_age hT h4⟩
    | some b => exact ⟨G + 1, sim_age hT (sim_gr (xf_best_lt hb) (xf_it_el _ _ hb) hGT h4)⟩
theorem sim_cycles {c m : xMem} {I T G n : Nat} (hT : T + n ≤ 51200) (h : Rel c m I T 0 G) : ∀ k, k ≤ n → xf_many c k = mf_many m k ∧ ∃ G', Rel (xf_run c k) (mf_run m k) I (T + k) 0 G' := by
  intro k
  induction k with
  | zero => intro _; exact ⟨rfl, G, h⟩
  | succ k ih =>
    intro hk
    obtain ⟨e1, G', h'⟩ := ih (by omega)
    obtain ⟨-, -, hb, G'', h''⟩ := sim_cycle (by omega) h'
    refine ⟨?_, G'', h''⟩
    cases hx : mf_bst (mf_run m k) with
    | none => rw [← xf_many_n (hb.trans hx), ← mf_many_n hx, e1]
    | some b => rw [← xf_many_s (hb.trans hx), ← mf_many_s hx, e1]
theorem sim_valid {c m : xMem} {I T G n : Nat} (hT : T + n ≤ 51200) (h : Rel c m I T 0 G) : (∀ k, k < n → cv1 (xf_run c k)) ∧ ∀ k, k < n → mv1 (mf_run m k) := by
  refine ⟨fun k hk => ?_, fun k hk => ?_⟩
  · obtain ⟨-, G', h'⟩ := sim_cycles hT h k (by omega)
    exact (sim_cycle (by omega) h').1
  · obtain ⟨-, G', h'⟩ := sim_cycles hT h k (by omega)
    exact (sim_cycle (by omega) h').2.1
