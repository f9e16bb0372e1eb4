/-! Whom a grant may go to, and whom it goes to: the same on both sides. -/
theorem bars_iff {c m : xMem} {I T G k s d w n q o p a r l s' d' w' n' q' o' p' a' r' : Nat} (hk : RK c m I T G k s d w n q o p a r) (hs : s = 1) (hl : RK c m I T G l s' d' w' n' q' o' p' a' r') (hI : I ≤ 512) :
    (xp_ord c l k ∧ xp_back c l k) ↔ mp_bars m k l := by
  have z1 := hk.d4
  have z2 := hl.d4
  have z3 := hl.s4
  have z4 := hk.q64
  have z5 := hl.q64
  have z6 := hk.n4
  have z7 := hl.n4
  have z8 := hk.oI
  have z9 := hl.oI
  have hok := hk.mo (by omega)
  unfold xp_ord xp_back xp_over xp_open mp_bars mp_open mp_meet
  rw [hk.co, hl.co, hl.cs, hl.cd, hk.cd, hl.ms, hl.md, hk.md, hk.mn, hl.mn, hk.cn, hl.cn, hk.cq, hl.cq, hok.1]
  by_cases h0 : s' = 0
  · subst h0
    simp (disch := omega) only [nI_eq, nI_ltI, nI_add]
    omega
  · rw [(hl.mo h0).1]
    by_cases hd : d = 4
    · subst hd
      simp (disch := omega) only [nI_eq, nI_ltI, nI_add, eq_self, not_true_eq_false, false_and, and_false, or_false, true_or, or_true, and_true, true_and]
      omega
    · by_cases hd' : d' = 4
      · subst hd'
        simp (disch := omega) only [nI_eq, nI_ltI, nI_add, eq_self, not_true_eq_false, false_and, and_false, or_false, true_or, or_true, and_true, true_and]
        omega
      · rw [hk.mq hd, hl.mq hd']
        simp (disch := omega) only [nI_eq, nI_ltI, nI_add]
        omega
theorem adm_iff {c m : xMem} {I T e G k s d w n q o p a r : Nat} (h : Rel c m I T e G) (hk : RK c m I T G k s d w n q o p a r) (hk16 : k < 16) :
    (c 0 k 4 = nI 4 ∨ xp_unm c k ∨ xp_adm c k (xf_tgt c k)) ↔ (¬ mp_map m k ∨ (0 < mf_cr m (m 28 0 k / nI 16) 16 ∧ (m 25 0 ((m 28 0 k).toNatClampNeg / 16) = -1 ∨ (m 27 0 k = nI 3 ∧ m 25 0 ((m 28 0 k).toNatClampNeg / 16) = nI (k / 4))))) := by
  have z1 := hk.d4
  have z4 := hk.q64
  unfold xp_unm xp_adm mp_map
  rw [xf_tgt_of hk.cq hk.q64, hk.cd, hk.cq, hk.md, hk.m0]
  by_cases hd : d = 4
  · subst hd
    simp
  · rw [hk.mq hd, nI_clamp (by omega), pk_div (by omega) (by decide) (by decide)]
    by_cases hq : q < 48
    · obtain ⟨mt, ht⟩ := h.rt (q / 16) (by omega)
      rw [ht.ho, ht.cr, mf_cr_cN m (q / 16) 16 ht.tc]
      simp (disch := omega) only [nI_eq, nI_leI]
      simp only [hd, false_or, not_false_eq_true, true_and, Classical.not_not]
    · have e : 48 ≤ q := by omega
      simp (disch := omega) only [nI_eq, nI_leI]
      simp only [e, true_or, or_true, not_true_eq_false, and_false, not_false_eq_true]
theorem elig_iff {c m : xMem} {I T e G k : Nat} (h : Rel c m I T e G) (hk16 : k < 16) : xp_elig c k ↔ mp_elig m k := by
  obtain ⟨s, d, w, n, q, o, p, a, r, hk⟩ := h.rk k hk16
  have z3 := hk.s4
  unfold xp_elig mp_elig
  rw [hk.cs, hk.ms]
  by_cases hs : s = 1
  · refine and_congr Iff.rfl (and_congr ?_ (adm_iff h hk hk16))
    refine forall_congr' (fun j => imp_congr_right (fun hj => not_congr ?_))
    obtain ⟨s', d', w', n', q', o', p', a', r', hl⟩ := h.rk (4 * (k / 4) + j) (by omega)
    exact bars_iff hk hs hl h.rg.I5
  · have e : ¬ nI s = nI 1 := fun z => hs (nI_inj (by omega) (by omega) z)
    simp only [e, false_and]
/-- the class of a request, as a number -/
theorem class_eq {c m : xMem} {I T e G k s d w n q o p a r : Nat} (h : Rel c m I T e G) (hk : RK c m I T G k s d w n q o p a r) (hk16 : k < 16) : ∃ v, v ≤ 2 ∧ xf_class c k = nI v ∧ mf_class m k = nI v := by
  obtain ⟨b, hb2, hcb, hmb⟩ := h.rg.ba (k / 4) (by omega)
  have hw := hk.wT
  have hT := h.rg.T5
  unfold xf_class mf_class
  rw [hcb, hmb, hk.cw, hk.mw, pk_div (by omega) (by decide) (by decide), nI_add]
  by_cases h2 : b + w / 16 ≤ 2
  · refine ⟨b + w / 16, h2, ?_, ?_⟩
    · rw [if_neg]
      simp (disch := omega) only [nI_ltI]
      omega
    · rw [if_pos]
      simp (disch := omega) only [nI_leI]
      omega
  · refine ⟨2, by omega, ?_, ?_⟩
    · rw [if_pos]
      simp (disch := omega) only [nI_ltI]
      omega
    · rw [if_neg]
      simp (disch := omega) only [nI_leI]
      omega
/-- what the order of the reference compares: a number each -/
def rank (m : xMem) (g k v i : Nat) : Prop := mf_class m k = nI v ∧ v ≤ 2 ∧ m 31 0 k = nI i ∧ i ≤ 513
theorem before_iff {m : xMem} {g k l v i v' i' : Nat} (h : rank m g k v i) (h' : rank m g l v' i') : mp_before m g k l ↔ (v' < v ∨ (v = v' ∧ ((k / 4 + 3 - g) % 4 < (l / 4 + 3 - g) % 4 ∨ ((k / 4 + 3 - g) % 4 = (l / 4 + 3 - g) % 4 ∧ i < i')))) := by
  obtain ⟨h1, h2, h3, h4⟩ := h
  obtain ⟨h5, h6, h7, h8⟩ := h'
  unfold mp_before
  rw [h1, h5, h3, h7]
  simp (disch := omega) only [nI_eq, nI_ltI]
  omega
theorem rank_of {c m : xMem} {I T e G k g : Nat} (h : Rel c m I T e G) (hk16 : k < 16) (he : mp_elig m k) : ∃ v i o, rank m g k v i ∧ xf_class c k = nI v ∧ c 0 k 7 = nI o ∧ i = o + 1 ∧ o < 512 ∧ c 0 k 0 = nI (k / 4) := by
  obtain ⟨s, d, w, n, q, o, p, a, r, hk⟩ := h.rk k hk16
  obtain ⟨v, hv2, hcv, hmv⟩ := class_eq h hk hk16
  have hs : s = 1 := by
    have := he.1
    rw [hk.ms] at this
    exact nI_inj (by have := hk.s4; omega) (by decide) this
  obtain ⟨h1, h2⟩ := hk.mo (by omega)
  have := h.rg.I5
  exact ⟨v, o + 1, o, ⟨hmv, hv2, h1, by omega⟩, hcv, hk.co, rfl, by omega, hk.m0⟩
theorem goes_iff {c : xMem} {k l v o v' o' : Nat} (hv : xf_class c k = nI v) (hv2 : v ≤ 2) (hv' : xf_class c l = nI v') (hv2' : v' ≤ 2) (ho : c 0 k 7 = nI o) (ho' : c 0 l 7 = nI o') (o5 : o < 512) (o5' : o' < 512) (m0 : c 0 k 0 = nI (k / 4)) (m0' : c 0 l 0 = nI (l / 4)) (hk : k < 16) (hl : l < 16) :
    xp_goes c k l ↔ (v' < v ∨ (v = v' ∧ k / 4 = l / 4 ∧ o < o')) := by
  unfold xp_goes xp_ord
  rw [hv, hv', ho, ho', m0, m0']
  simp (disch := omega) only [nI_eq, nI_ltI]
  have e1 : (0 : Int32) < nI v - nI v' ↔ v' < v := by
    rw [Int32.lt_iff_toInt_lt, pk_sub_toInt (by omega) (by omega)]
    show (0 : Int) < _ ↔ _
    omega
  have e2 : nI v - nI v' = 0 ↔ v = v' := by
    constructor
    · intro z
      have := congrArg Int32.toInt z
      rw [pk_sub_toInt (by omega) (by omega)] at this
      have z2 : (v : Int) - v' = 0 := this
      omega
    · intro z
      rw [z, pk_sub (Nat.le_refl _)]
      simp [nI_0]
  rw [e1, e2]
theorem xf_cand_onto {g k : Nat} (hg : g < 4) (hk : k < 16) : ∃ i, i < 16 ∧ xf_cand g i = k := by
  refine ⟨4 * ((k / 4 + 3 - g) % 4) + k % 4, by omega, ?_⟩
  unfold xf_cand
  omega
theorem best_eq {c m : xMem} {I T e G g : Nat} (h : Rel c m I T e G) (hg : g < 4) : xf_best c g 16 = mf_best m g 16 := by
  have hel : ∀ k, k < 16 → (xp_elig c k ↔ mp_elig m k) := fun k hk => elig_iff h hk
  -- the order is strict and total on those that may be granted
  let lt : Nat → Nat → Prop := fun k l => mp_before m g k l
  have tr : ∀ a b c', (a < 16 ∧ mp_elig m a) → (b < 16 ∧ mp_elig m b) → (c' < 16 ∧ mp_elig m c') → lt a b → lt b c' → lt a c' := by
    intro x y z hx hy hz h1 h2
    obtain ⟨v1, i1, o1, r1, -⟩ := rank_of (g := g) h hx.1 hx.2
    obtain ⟨v2, i2, o2, r2, -⟩ := rank_of (g := g) h hy.1 hy.2
    obtain ⟨v3, i3, o3, r3, -⟩ := rank_of (g := g) h hz.1 hz.2
    have h1 := (before_iff r1 r2).mp h1
    have h2 := (before_iff r2 r3).mp h2
    refine (before_iff r1 r3).mpr ?_
    omega
  have tot : ∀ a b, (a < 16 ∧ mp_elig m a) → (b < 16 ∧ mp_elig m b) → a = b ∨ lt a b ∨ lt b a := by
    intro x y hx hy
    by_cases e : x = y
    · exact Or.inl e
    · right
      obtain ⟨v1, i1, o1, r1, -, c1, e1, -⟩ := rank_of (g := g) h hx.1 hx.2
      obtain ⟨v2, i2, o2, r2, -, c2, e2, -⟩ := rank_of (g := g) h hy.1 hy.2
      have hne : o1 ≠ o2 := by
        intro z
        refine h.rg.od x y hx.1 hy.1 e ?_ ?_ (by rw [c1, c2, z])
        · rw [hx.2.1]; decide
        · rw [hy.2.1]; decide
      show mp_before m g x y ∨ mp_before m g y x
      rw [before_iff r1 r2, before_iff r2 r1]
      omega
  have A := xf_it_min (el := fun k => k < 16 ∧ mp_elig m k) (bt := mp_before m g) (lt := lt) (cand := fun i => i) (n := 16) (fun i j _ _ _ _ => Iff.rfl) tr tot 16 (Nat.le_refl _)
  have hb : ∀ i j, i < 16 → j < i → (xf_cand g i < 16 ∧ mp_elig m (xf_cand g i)) → (xf_cand g j < 16 ∧ mp_elig m (xf_cand g j)) → (xp_goes c (xf_cand g i) (xf_cand g j) ↔ lt (xf_cand g i) (xf_cand g j)) := by
    intro i j hi hj e1 e2
    obtain ⟨v1, i1, o1, r1, x1, c1, d1, l1, m1⟩ := rank_of (g := g) h e1.1 e1.2
    obtain ⟨v2, i2, o2, r2, x2, c2, d2, l2, m2⟩ := rank_of (g := g) h e2.1 e2.2
    rw [goes_iff x1 r1.2.1 x2 r2.2.1 c1 c2 l1 l2 m1 m2 e1.1 e2.1]
    show _ ↔ mp_before m g _ _
    rw [before_iff r1 r2]
    have f1 : (xf_cand g i / 4 + 3 - g) % 4 = i / 4 := by unfold xf_cand; omega
    have f2 : (xf_cand g j / 4 + 3 - g) % 4 = j / 4 := by unfold xf_cand; omega
    rw [f1, f2]
    have f3 : xf_cand g i / 4 = xf_cand g j / 4 ↔ i / 4 = j / 4 := by unfold xf_cand; omega
    rw [f3]
    omega
  have B := xf_it_min (el := fun k => k < 16 ∧ mp_elig m k) (bt := xp_goes c) (lt := lt) (cand := xf_cand g) (n := 16) hb tr tot 16 (Nat.le_refl _)
  have ec : ∀ n, xf_it (xp_elig c) (xp_goes c) (xf_cand g) n = xf_it (fun k => k < 16 ∧ mp_elig m k) (xp_goes c) (xf_cand g) n := by
    intro n
    induction n with
    | zero => rfl
    | succ n ih =>
      show xf_step _ _ _ _ = xf_step _ _ _ _
      rw [ih]
      unfold xf_step
      have e : (xp_elig c (xf_cand g n)) = (xf_cand g n < 16 ∧ mp_elig m (xf_cand g n)) := propext ⟨fun z => ⟨xf_cand_lt g n, (hel _ (xf_cand_lt g n)).mp z⟩, fun z => (hel _ z.1).mpr z.2⟩
      rw [e]
  have em : ∀ n, n ≤ 16 → xf_it (mp_elig m) (mp_before m g) (fun i => i) n = xf_it (fun k => k < 16 ∧ mp_elig m k) (mp_before m g) (fun i => i) n := by
    intro n
    induction n with
    | zero => intro _; rfl
    | succ n ih =>
      intro hn
      show xf_step _ _ _ _ = xf_step _ _ _ _
      rw [ih (by omega)]
      unfold xf_step
      have e : (mp_elig m n) = (n < 16 ∧ mp_elig m n) := propext ⟨fun z => ⟨by omega, z⟩, fun z => z.2⟩
      show xif (mp_elig m n ∧ _) _ _ = xif ((n < 16 ∧ mp_elig m n) ∧ _) _ _
      rw [← e]
  unfold xf_best mf_best
  rw [ec, em 16 (Nat.le_refl _)]
  cases hA : xf_it (fun k => k < 16 ∧ mp_elig m k) (mp_before m g) (fun i => i) 16 with
  | none =>
    cases hB : xf_it (fun k => k < 16 ∧ mp_elig m k) (xp_goes c) (xf_cand g) 16 with
    | none => rfl
    | some b =>
      obtain ⟨-, he, -⟩ := B.2 b hB
      exact absurd he (A.1 hA b he.1)
  | some a =>
    obtain ⟨-, hea, hma⟩ := A.2 a hA
    cases hB : xf_it (fun k => k < 16 ∧ mp_elig m k) (xp_goes c) (xf_cand g) 16 with
    | none =>
      obtain ⟨i, hi, e⟩ := xf_cand_onto hg hea.1
      exact absurd (show xf_cand g i < 16 ∧ mp_elig m (xf_cand g i) by rw [e]; exact hea) (B.1 hB i hi)
    | some b =>
      obtain ⟨-, heb, hmb⟩ := B.2 b hB
      obtain ⟨i, hi, e⟩ := xf_cand_onto hg hea.1
      have k1 := hma b heb.1 heb
      have k2 := hmb i hi (by rw [e]; exact hea)
      rw [e] at k2
      rcases k1 with k1 | k1
      · rw [k1]
      · rcases k2 with k2 | k2
        · rw [k2]
        · have := tr _ _ _ hea heb hea k1 k2
          obtain ⟨v1, i1, o1, r1, -⟩ := rank_of (g := g) h hea.1 hea.2
          have := (before_iff r1 r1).mp this
          omega
