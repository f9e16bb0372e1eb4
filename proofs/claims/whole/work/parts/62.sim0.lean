/-! Class and reference side by side: the relation. -/
noncomputable def cN (P : Nat → Prop) : Nat → Nat
  | 0 => 0
  | i + 1 => cN P i + xif (P i) 1 0
theorem cN_t {P : Nat → Prop} {i : Nat} (h : P i) : cN P (i + 1) = cN P i + 1 := by
  show cN P i + xif (P i) 1 0 = _
  rw [xif_t h]
theorem cN_f {P : Nat → Prop} {i : Nat} (h : ¬ P i) : cN P (i + 1) = cN P i := by
  show cN P i + xif (P i) 1 0 = _
  rw [xif_f h]
  rfl
theorem cN_congr {P Q : Nat → Prop} : ∀ {i : Nat}, (∀ k, k < i → (P k ↔ Q k)) → cN P i = cN Q i := by
  intro i
  induction i with
  | zero => intro _; rfl
  | succ i ih =>
    intro h
    have e := ih (fun k hk => h k (by omega))
    by_cases hp : P i
    · rw [cN_t hp, cN_t ((h i (by omega)).mp hp), e]
    · rw [cN_f hp, cN_f (fun z => hp ((h i (by omega)).mpr z)), e]
theorem cN_mono {P Q : Nat → Prop} : ∀ {i : Nat}, (∀ k, k < i → P k → Q k) → cN P i ≤ cN Q i := by
  intro i
  induction i with
  | zero => intro _; exact Nat.le_refl _
  | succ i ih =>
    intro h
    have e := ih (fun k hk => h k (by omega))
    by_cases hp : P i
    · rw [cN_t hp, cN_t (h i (by omega) hp)]
      omega
    · by_cases hq : Q i
      · rw [cN_f hp, cN_t hq]
        omega
      · rw [cN_f hp, cN_f hq]
        exact e
theorem cN_add {P Q : Nat → Prop} {k0 : Nat} (hn : ¬ P k0) (hq : Q k0) : ∀ {i : Nat}, k0 < i → (∀ k, k < i → k ≠ k0 → (Q k ↔ P k)) → cN Q i = cN P i + 1 := by
  intro i
  induction i with
  | zero => intro h; omega
  | succ i ih =>
    intro h1 h
    by_cases e : k0 = i
    · subst e
      rw [cN_t hq, cN_f hn, cN_congr (fun k hk => h k (by omega) (by omega))]
    · have e2 := ih (by omega) (fun k hk => h k (by omega))
      by_cases hp : P i
      · rw [cN_t hp, cN_t ((h i (by omega) (by omega)).mpr hp), e2]
      · rw [cN_f hp, cN_f (fun z => hp ((h i (by omega) (by omega)).mp z)), e2]
theorem cN_pos {P : Nat → Prop} {k0 : Nat} (hp : P k0) : ∀ {i : Nat}, k0 < i → 0 < cN P i := by
  intro i
  induction i with
  | zero => intro h; omega
  | succ i ih =>
    intro h
    by_cases e : k0 = i
    · subst e
      rw [cN_t hp]
      omega
    · have := ih (by omega)
      show 0 < cN P i + _
      omega
def mp_gr (m : xMem) (t : Nat) (r : Nat) : Prop := m 26 0 r = nI 2 ∧ m 28 0 r / nI 16 = nI t
def mp_uns (m : xMem) (r : Nat) : Prop := m 26 0 r = nI 1 ∨ (m 26 0 r = nI 2 ∧ 0 < m 32 0 r)
theorem mf_cr_cN (m : xMem) (t : Nat) : ∀ i, cN (mp_gr m t) i ≤ 4 → mf_cr m (nI t) i = nI (4 - cN (mp_gr m t) i) := by
  intro i
  induction i with
  | zero => intro _; rfl
  | succ i ih =>
    intro h
    by_cases hp : mp_gr m t i
    · rw [cN_t hp] at h ⊢
      rw [← mf_cr_t hp.1 hp.2, ih (by omega), pk_sub (by omega)]
      congr 1
    · rw [cN_f hp] at h ⊢
      rw [← mf_cr_f hp, ih h]
def RK (c m : xMem) (I T G k s d w n q o p a r : Nat) : Prop := (c 0 k 0 = nI (k / 4)) ∧ (c 0 k 1 = nI (k % 4)) ∧ (c 0 k 3 = nI s) ∧ (m 26 0 k = nI s) ∧ (s ≤ 4) ∧ (c 0 k 4 = nI d) ∧ (m 27 0 k = nI d) ∧ (d ≤ 4) ∧ (c 0 k 8 = nI w) ∧ (m 30 0 k = nI w) ∧ (w ≤ T) ∧ (c 0 k 6 = nI n) ∧ (m 29 0 k = nI n) ∧ (n ≤ 4) ∧ (c 0 k 5 = nI q) ∧ (q < 64) ∧ (d ≠ 4 → m 28 0 k = nI q) ∧ (c 0 k 7 = nI o) ∧ (o ≤ I) ∧ (s ≠ 0 → m 31 0 k = nI (o + 1) ∧ o < I) ∧ (m 32 0 k = nI p) ∧ (p ≤ G) ∧ (c 0 k 9 = nI a) ∧ (a ≤ 1) ∧ (c 0 k 10 = nI r) ∧ (s ≠ 2 → m 35 0 k = nI 0) ∧ (s = 2 → d < 4 ∧ q + n ≤ 16 * (q / 16) + 16 ∧ q < 48 ∧ 1 ≤ n ∧ ((a = 0 ∧ 1 ≤ p ∧ r = 0 ∧ m 35 0 k = nI 0) ∨ (a = 1 ∧ p = 0 ∧ (d = 0 ∨ d = 2) ∧ r < n ∧ m 35 0 k = nI (n - r)))) ∧ (s = 1 → a = 0 ∧ r = 0 ∧ (d = 4 ∨ (1 ≤ n ∧ q + n ≤ 16 * (q / 16) + 16))) ∧ ((s = 1 ∨ (s = 2 ∧ a = 0)) → (d = 1 ∨ d = 3) → ∀ j, j < n → c 1 k j = m 33 0 (4 * k + j)) ∧ ((s = 3 ∨ (s = 2 ∧ a = 1)) → (d = 0 ∨ d = 2) → ∀ j, j < n → c 1 k j = m 34 0 (4 * k + j))
theorem RK.m0 {c m : xMem} {I T G k s d w n q o p a r : Nat} (h : RK c m I T G k s d w n q o p a r) : c 0 k 0 = nI (k / 4) := h.1
theorem RK.m1 {c m : xMem} {I T G k s d w n q o p a r : Nat} (h : RK c m I T G k s d w n q o p a r) : c 0 k 1 = nI (k % 4) := h.2.1
theorem RK.cs {c m : xMem} {I T G k s d w n q o p a r : Nat} (h : RK c m I T G k s d w n q o p a r) : c 0 k 3 = nI s := h.2.2.1
theorem RK.ms {c m : xMem} {I T G k s d w n q o p a r : Nat} (h : RK c m I T G k s d w n q o p a r) : m 26 0 k = nI s := h.2.2.2.1
theorem RK.s4 {c m : xMem} {I T G k s d w n q o p a r : Nat} (h : RK c m I T G k s d w n q o p a r) : s ≤ 4 := h.2.2.2.2.1
theorem RK.cd {c m : xMem} {I T G k s d w n q o p a r : Nat} (h : RK c m I T G k s d w n q o p a r) : c 0 k 4 = nI d := h.2.2.2.2.2.1
theorem RK.md {c m : xMem} {I T G k s d w n q o p a r : Nat} (h : RK c m I T G k s d w n q o p a r) : m 27 0 k = nI d := h.2.2.2.2.2.2.1
theorem RK.d4 {c m : xMem} {I T G k s d w n q o p a r : Nat} (h : RK c m I T G k s d w n q o p a r) : d ≤ 4 := h.2.2.2.2.2.2.2.1
theorem RK.cw {c m : xMem} {I T G k s d w n q o p a r : Nat} (h : RK c m I T G k s d w n q o p a r) : c 0 k 8 = nI w := h.2.2.2.2.2.2.2.2.1
theorem RK.mw {c m : xMem} {I T G k s d w n q o p a r : Nat} (h : RK c m I T G k s d w n q o p a r) : m 30 0 k = nI w := h.2.2.2.2.2.2.2.2.2.1
theorem RK.wT {c m : xMem} {I T G k s d w n q o p a r : Nat} (h : RK c m I T G k s d w n q o p a r) : w ≤ T := h.2.2.2.2.2.2.2.2.2.2.1
theorem RK.cn {c m : xMem} {I T G k s d w n q o p a r : Nat} (h : RK c m I T G k s d w n q o p a r) : c 0 k 6 = nI n := h.2.2.2.2.2.2.2.2.2.2.2.1
theorem RK.mn {c m : xMem} {I T G k s d w n q o p a r : Nat} (h : RK c m I T G k s d w n q o p a r) : m 29 0 k = nI n := h.2.2.2.2.2.2.2.2.2.2.2.2.1
theorem RK.n4 {c m : xMem} {I T G k s d w n q o p a r : Nat} (h : RK c m I T G k s d w n q o p a r) : n ≤ 4 := h.2.2.2.2.2.2.2.2.2.2.2.2.2.1
theorem RK.cq {c m : xMem} {I T G k s d w n q o p a r : Nat} (h : RK c m I T G k s d w n q o p a r) : c 0 k 5 = nI q := h.2.2.2.2.2.2.2.2.2.2.2.2.2.2.1
theorem RK.q64 {c m : xMem} {I T G k s d w n q o p a r : Nat} (h : RK c m I T G k s d w n q o p a r) : q < 64 := h.2.2.2.2.2.2.2.2.2.2.2.2.2.2.2.1
theorem RK.mq {c m : xMem} {I T G k s d w n q o p a r : Nat} (h : RK c m I T G k s d w n q o p a r) : d ≠ 4 → m 28 0 k = nI q := h.2.2.2.2.2.2.2.2.2.2.2.2.2.2.2.2.1
theorem RK.co {c m : xMem} {I T G k s d w n q o p a r : Nat} (h : RK c m I T G k s d w n q o p a r) : c 0 k 7 = nI o := h.2.2.2.2.2.2.2.2.2.2.2.2.2.2.2.2.2.1
theorem RK.oI {c m : xMem} {I T G k s d w n q o p a r : Nat} (h : RK c m I T G k s d w n q o p a r) : o ≤ I := h.2.2.2.2.2.2.2.2.2.2.2.2.2.2.2.2.2.2.1
theorem RK.mo {c m : xMem} {I T G k s d w n q o p a r : Nat} (h : RK c m I T G k s d w n q o p a r) : s ≠ 0 → m 31 0 k = nI (o + 1) ∧ o < I := h.2.2.2.2.2.2.2.2.2.2.2.2.2.2.2.2.2.2.2.1
theorem RK.mp {c m : xMem} {I T G k s d w n q o p a r : Nat} (h : RK c m I T G k s d w n q o p a r) : m 32 0 k = nI p := h.2.2.2.2.2.2.2.2.2.2.2.2.2.2.2.2.2.2.2.2.1
theorem RK.pG {c m : xMem} {I T G k s d w n q o p a r : Nat} (h : RK c m I T G k s d w n q o p a r) : p ≤ G := h.2.2.2.2.2.2.2.2.2.2.2.2.2.2.2.2.2.2.2.2.2.1
theorem RK.ca {c m : xMem} {I T G k s d w n q o p a r : Nat} (h : RK c m I T G k s d w n q o p a r) : c 0 k 9 = nI a := h.2.2.2.2.2.2.2.2.2.2.2.2.2.2.2.2.2.2.2.2.2.2.1
theorem RK.a1 {c m : xMem} {I T G k s d w n q o p a r : Nat} (h : RK c m I T G k s d w n q o p a r) : a ≤ 1 := h.2.2.2.2.2.2.2.2.2.2.2.2.2.2.2.2.2.2.2.2.2.2.2.1
theorem RK.cr {c m : xMem} {I T G k s d w n q o p a r : Nat} (h : RK c m I T G k s d w n q o p a r) : c 0 k 10 = nI r := h.2.2.2.2.2.2.2.2.2.2.2.2.2.2.2.2.2.2.2.2.2.2.2.2.1
theorem RK.le {c m : xMem} {I T G k s d w n q o p a r : Nat} (h : RK c m I T G k s d w n q o p a r) : s ≠ 2 → m 35 0 k = nI 0 := h.2.2.2.2.2.2.2.2.2.2.2.2.2.2.2.2.2.2.2.2.2.2.2.2.2.1
theorem RK.gr {c m : xMem} {I T G k s d w n q o p a r : Nat} (h : RK c m I T G k s d w n q o p a r) : s = 2 → d < 4 ∧ q + n ≤ 16 * (q / 16) + 16 ∧ q < 48 ∧ 1 ≤ n ∧ ((a = 0 ∧ 1 ≤ p ∧ r = 0 ∧ m 35 0 k = nI 0) ∨ (a = 1 ∧ p = 0 ∧ (d = 0 ∨ d = 2) ∧ r < n ∧ m 35 0 k = nI (n - r))) := h.2.2.2.2.2.2.2.2.2.2.2.2.2.2.2.2.2.2.2.2.2.2.2.2.2.2.1
theorem RK.wa {c m : xMem} {I T G k s d w n q o p a r : Nat} (h : RK c m I T G k s d w n q o p a r) : s = 1 → a = 0 ∧ r = 0 ∧ (d = 4 ∨ (1 ≤ n ∧ q + n ≤ 16 * (q / 16) + 16)) := h.2.2.2.2.2.2.2.2.2.2.2.2.2.2.2.2.2.2.2.2.2.2.2.2.2.2.2.1
theorem RK.kw {c m : xMem} {I T G k s d w n q o p a r : Nat} (h : RK c m I T G k s d w n q o p a r) : (s = 1 ∨ (s = 2 ∧ a = 0)) → (d = 1 ∨ d = 3) → ∀ j, j < n → c 1 k j = m 33 0 (4 * k + j) := h.2.2.2.2.2.2.2.2.2.2.2.2.2.2.2.2.2.2.2.2.2.2.2.2.2.2.2.2.1
theorem RK.kr {c m : xMem} {I T G k s d w n q o p a r : Nat} (h : RK c m I T G k s d w n q o p a r) : (s = 3 ∨ (s = 2 ∧ a = 1)) → (d = 0 ∨ d = 2) → ∀ j, j < n → c 1 k j = m 34 0 (4 * k + j) := h.2.2.2.2.2.2.2.2.2.2.2.2.2.2.2.2.2.2.2.2.2.2.2.2.2.2.2.2.2
def RT (c m : xMem) (t mt : Nat) : Prop := (c 2 t 1 = nI mt) ∧ (mt = cN (mp_inq m (nI t)) 16) ∧ (cN (mp_gr m t) 16 ≤ 4) ∧ (c 2 t 2 = nI (4 - cN (mp_gr m t) 16)) ∧ (c 2 t 3 = m 25 0 t) ∧ (m 25 0 t = -1 ∨ ∃ a, a < 4 ∧ m 25 0 t = nI a) ∧ (c 2 t 4 = m 24 0 t) ∧ (m 24 0 t = nI 0 ∨ m 24 0 t = nI 1) ∧ (∀ j, j < mt → ∃ k, k < 16 ∧ c 3 t j = nI k ∧ mp_inq m (nI t) k) ∧ (∀ i j k l, i < j → j < mt → k < 16 → l < 16 → c 3 t i = nI k → c 3 t j = nI l → m 32 0 k < m 32 0 l) ∧ (∀ k, k < 16 → mp_inq m (nI t) k → ∃ j, j < mt ∧ c 3 t j = nI k)
theorem RT.tn {c m : xMem} {t mt : Nat} (h : RT c m t mt) : c 2 t 1 = nI mt := h.1
theorem RT.tm {c m : xMem} {t mt : Nat} (h : RT c m t mt) : mt = cN (mp_inq m (nI t)) 16 := h.2.1
theorem RT.tc {c m : xMem} {t mt : Nat} (h : RT c m t mt) : cN (mp_gr m t) 16 ≤ 4 := h.2.2.1
theorem RT.cr {c m : xMem} {t mt : Nat} (h : RT c m t mt) : c 2 t 2 = nI (4 - cN (mp_gr m t) 16) := h.2.2.2.1
theorem RT.ho {c m : xMem} {t mt : Nat} (h : RT c m t mt) : c 2 t 3 = m 25 0 t := h.2.2.2.2.1
theorem RT.hv {c m : xMem} {t mt : Nat} (h : RT c m t mt) : m 25 0 t = -1 ∨ ∃ a, a < 4 ∧ m 25 0 t = nI a := h.2.2.2.2.2.1
theorem RT.rd {c m : xMem} {t mt : Nat} (h : RT c m t mt) : c 2 t 4 = m 24 0 t := h.2.2.2.2.2.2.1
theorem RT.rv {c m : xMem} {t mt : Nat} (h : RT c m t mt) : m 24 0 t = nI 0 ∨ m 24 0 t = nI 1 := h.2.2.2.2.2.2.2.1
theorem RT.q1 {c m : xMem} {t mt : Nat} (h : RT c m t mt) : ∀ j, j < mt → ∃ k, k < 16 ∧ c 3 t j = nI k ∧ mp_inq m (nI t) k := h.2.2.2.2.2.2.2.2.1
theorem RT.q2 {c m : xMem} {t mt : Nat} (h : RT c m t mt) : ∀ i j k l, i < j → j < mt → k < 16 → l < 16 → c 3 t i = nI k → c 3 t j = nI l → m 32 0 k < m 32 0 l := h.2.2.2.2.2.2.2.2.2.1
theorem RT.q3 {c m : xMem} {t mt : Nat} (h : RT c m t mt) : ∀ k, k < 16 → mp_inq m (nI t) k → ∃ j, j < mt ∧ c 3 t j = nI k := h.2.2.2.2.2.2.2.2.2.2
def RG (c m : xMem) (I T e G : Nat) : Prop := (c 6 0 0 = nI 16) ∧ (c 7 0 0 = nI 3) ∧ (c 5 0 6 = nI (T + e)) ∧ (m 20 0 20 = nI T) ∧ (c 5 0 7 = nI I) ∧ (m 20 0 16 = nI I) ∧ (m 20 0 17 = nI G) ∧ (G ≤ T + e) ∧ (e ≤ 1) ∧ (∃ g, g < 4 ∧ c 5 0 8 = nI g ∧ m 20 0 19 = nI g) ∧ (∃ g, g < 16 ∧ c 5 0 9 = nI g ∧ m 20 0 18 = nI g) ∧ (∀ i, i < 48 → c 8 0 i = m 21 0 i) ∧ (∀ a j, a < 4 → j < 4 → c 4 a j = m 22 0 (4 * a + j)) ∧ (∀ a, a < 4 → ∃ b, b ≤ 2 ∧ c 10 0 a = nI b ∧ m 23 0 a = nI b) ∧ (xS c (xf_n c) (xf_g c) (xf_N c)) ∧ (m 20 0 21 = nI (xf_n c)) ∧ (∀ j i, j < xf_n c → i < 6 → c 13 j i = m 36 0 (6 * j + i)) ∧ (xf_n c + cN (mp_uns m) 16 ≤ I) ∧ (∀ k l, k < 16 → l < 16 → k ≠ l → ¬ m 26 0 k = nI 0 → ¬ m 26 0 l = nI 0 → ¬ c 0 k 7 = c 0 l 7) ∧ (I ≤ 512) ∧ (T ≤ 51200)
theorem RG.h6 {c m : xMem} {I T e G : Nat} (h : RG c m I T e G) : c 6 0 0 = nI 16 := h.1
theorem RG.h7 {c m : xMem} {I T e G : Nat} (h : RG c m I T e G) : c 7 0 0 = nI 3 := h.2.1
theorem RG.tc {c m : xMem} {I T e G : Nat} (h : RG c m I T e G) : c 5 0 6 = nI (T + e) := h.2.2.1
theorem RG.tm {c m : xMem} {I T e G : Nat} (h : RG c m I T e G) : m 20 0 20 = nI T := h.2.2.2.1
theorem RG.ic {c m : xMem} {I T e G : Nat} (h : RG c m I T e G) : c 5 0 7 = nI I := h.2.2.2.2.1
theorem RG.im {c m : xMem} {I T e G : Nat} (h : RG c m I T e G) : m 20 0 16 = nI I := h.2.2.2.2.2.1
theorem RG.gm {c m : xMem} {I T e G : Nat} (h : RG c m I T e G) : m 20 0 17 = nI G := h.2.2.2.2.2.2.1
theorem RG.gT {c m : xMem} {I T e G : Nat} (h : RG c m I T e G) : G ≤ T + e := h.2.2.2.2.2.2.2.1
theorem RG.e1 {c m : xMem} {I T e G : Nat} (h : RG c m I T e G) : e ≤ 1 := h.2.2.2.2.2.2.2.2.1
theorem RG.lg {c m : xMem} {I T e G : Nat} (h : RG c m I T e G) : ∃ g, g < 4 ∧ c 5 0 8 = nI g ∧ m 20 0 19 = nI g := h.2.2.2.2.2.2.2.2.2.1
theorem RG.lr {c m : xMem} {I T e G : Nat} (h : RG c m I T e G) : ∃ g, g < 16 ∧ c 5 0 9 = nI g ∧ m 20 0 18 = nI g := h.2.2.2.2.2.2.2.2.2.2.1
theorem RG.wd {c m : xMem} {I T e G : Nat} (h : RG c m I T e G) : ∀ i, i < 48 → c 8 0 i = m 21 0 i := h.2.2.2.2.2.2.2.2.2.2.2.1
theorem RG.da {c m : xMem} {I T e G : Nat} (h : RG c m I T e G) : ∀ a j, a < 4 → j < 4 → c 4 a j = m 22 0 (4 * a + j) := h.2.2.2.2.2.2.2.2.2.2.2.2.1
theorem RG.ba {c m : xMem} {I T e G : Nat} (h : RG c m I T e G) : ∀ a, a < 4 → ∃ b, b ≤ 2 ∧ c 10 0 a = nI b ∧ m 23 0 a = nI b := h.2.2.2.2.2.2.2.2.2.2.2.2.2.1
theorem RG.xs {c m : xMem} {I T e G : Nat} (h : RG c m I T e G) : xS c (xf_n c) (xf_g c) (xf_N c) := h.2.2.2.2.2.2.2.2.2.2.2.2.2.2.1
theorem RG.sv {c m : xMem} {I T e G : Nat} (h : RG c m I T e G) : m 20 0 21 = nI (xf_n c) := h.2.2.2.2.2.2.2.2.2.2.2.2.2.2.2.1
theorem RG.lo {c m : xMem} {I T e G : Nat} (h : RG c m I T e G) : ∀ j i, j < xf_n c → i < 6 → c 13 j i = m 36 0 (6 * j + i) := h.2.2.2.2.2.2.2.2.2.2.2.2.2.2.2.2.1
theorem RG.un {c m : xMem} {I T e G : Nat} (h : RG c m I T e G) : xf_n c + cN (mp_uns m) 16 ≤ I := h.2.2.2.2.2.2.2.2.2.2.2.2.2.2.2.2.2.1
theorem RG.od {c m : xMem} {I T e G : Nat} (h : RG c m I T e G) : ∀ k l, k < 16 → l < 16 → k ≠ l → ¬ m 26 0 k = nI 0 → ¬ m 26 0 l = nI 0 → ¬ c 0 k 7 = c 0 l 7 := h.2.2.2.2.2.2.2.2.2.2.2.2.2.2.2.2.2.2.1
theorem RG.I5 {c m : xMem} {I T e G : Nat} (h : RG c m I T e G) : I ≤ 512 := h.2.2.2.2.2.2.2.2.2.2.2.2.2.2.2.2.2.2.2.1
theorem RG.T5 {c m : xMem} {I T e G : Nat} (h : RG c m I T e G) : T ≤ 51200 := h.2.2.2.2.2.2.2.2.2.2.2.2.2.2.2.2.2.2.2.2
def Rel (c m : xMem) (I T e G : Nat) : Prop := (∀ k, k < 16 → ∃ s d w n q o p a r, RK c m I T G k s d w n q o p a r) ∧ (∀ t, t < 3 → ∃ mt, RT c m t mt) ∧ (RG c m I T e G)
theorem Rel.rk {c m : xMem} {I T e G : Nat} (h : Rel c m I T e G) : ∀ k, k < 16 → ∃ s d w n q o p a r, RK c m I T G k s d w n q o p a r := h.1
theorem Rel.rt {c m : xMem} {I T e G : Nat} (h : Rel c m I T e G) : ∀ t, t < 3 → ∃ mt, RT c m t mt := h.2.1
theorem Rel.rg {c m : xMem} {I T e G : Nat} (h : Rel c m I T e G) : RG c m I T e G := h.2.2
theorem nI_inj {a b : Nat} (ha : a < 2 ^ 31) (hb : b < 2 ^ 31) (h : nI a = nI b) : a = b := (nI_eq ha hb).mp h
theorem Rel_congr {c m c' m' : xMem} {I T e G : Nat} (hc : ∀ r, r < 20 → c' r = c r) (hm : ∀ r, 20 ≤ r → r < 40 → m' r = m r) (h : Rel c m I T e G) : Rel c' m' I T e G := by
  have c0 := hc 0 (by decide)
  have c1 := hc 1 (by decide)
  have c2 := hc 2 (by decide)
  have c3 := hc 3 (by decide)
  have c4 := hc 4 (by decide)
  have c5 := hc 5 (by decide)
  have c6 := hc 6 (by decide)
  have c7 := hc 7 (by decide)
  have c8 := hc 8 (by decide)
  have c10 := hc 10 (by decide)
  have c11 := hc 11 (by decide)
  have c12 := hc 12 (by decide)
  have c13 := hc 13 (by decide)
  have en : xf_n c' = xf_n c := by unfold xf_n; rw [c11]
  have eg : xf_g c' = xf_g c := by unfold xf_g; rw [c11]
  have eN : xf_N c' = xf_N c := by unfold xf_N; rw [eg, c12]
  have eq : ∀ t, mp_inq m' (nI t) = mp_inq m (nI t) := by
    intro t; funext r; unfold mp_inq
    rw [hm 26 (by decide) (by decide), hm 28 (by decide) (by decide), hm 32 (by decide) (by decide)]
  have er : ∀ t, mp_gr m' t = mp_gr m t := by
    intro t; funext r; unfold mp_gr
    rw [hm 26 (by decide) (by decide), hm 28 (by decide) (by decide)]
  have eu : mp_uns m' = mp_uns m := by
    funext r; unfold mp_uns
    rw [hm 26 (by decide) (by decide), hm 32 (by decide) (by decide)]
  obtain ⟨rk, rt, rg⟩ := h
  refine ⟨fun k hk => ?_, fun t ht => ?_, ?_⟩
  · obtain ⟨s, d, w, n, q, o, p, a, r, h⟩ := rk k hk
    refine ⟨s, d, w, n, q, o, p, a, r, ?_⟩
    obtain ⟨a1, a2, a3, a4, a5, a6, a7, a8, a9, a10, a11, a12, a13, a14, a15, a16, a17, a18, a19, a20, a21, a22, a23, a24, a25, a26, a27, a28, a29, a30⟩ := h
    refine ⟨?_, ?_, ?_, ?_, ?_, ?_, ?_, ?_, ?_, ?_, ?_, ?_, ?_, ?_, ?_, ?_, ?_, ?_, ?_, ?_, ?_, ?_, ?_, ?_, ?_, ?_, ?_, ?_, ?_, ?_⟩
    all_goals first
      | assumption
      | (simp only [c0, c1, hm 26 (by decide) (by decide), hm 27 (by decide) (by decide), hm 28 (by decide) (by decide), hm 29 (by decide) (by decide), hm 30 (by decide) (by decide), hm 31 (by decide) (by decide), hm 32 (by decide) (by decide), hm 33 (by decide) (by decide), hm 34 (by decide) (by decide), hm 35 (by decide) (by decide)]; assumption)
  · obtain ⟨mt, h⟩ := rt t ht
    refine ⟨mt, ?_⟩
    obtain ⟨a1, a2, a3, a4, a5, a6, a7, a8, a9, a10, a11⟩ := h
    refine ⟨?_, ?_, ?_, ?_, ?_, ?_, ?_, ?_, ?_, ?_, ?_⟩
    all_goals first
      | assumption
      | (simp only [c2, c3, eq, er, hm 24 (by decide) (by decide), hm 25 (by decide) (by decide), hm 32 (by decide) (by decide)]; assumption)
  · obtain ⟨a1, a2, a3, a4, a5, a6, a7, a8, a9, a10, a11, a12, a13, a14, a15, a16, a17, a18, a19, a20, a21⟩ := rg
    refine ⟨?_, ?_, ?_, ?_, ?_, ?_, ?_, ?_, ?_, ?_, ?_, ?_, ?_, ?_, ?_, ?_, ?_, ?_, ?_, ?_, ?_⟩
    all_goals first
      | assumption
      | (simp only [c0, c4, c5, c6, c7, c8, c10, c13, en, eg, eN, eu, hm 20 (by decide) (by decide), hm 21 (by decide) (by decide), hm 22 (by decide) (by decide), hm 23 (by decide) (by decide), hm 26 (by decide) (by decide), hm 36 (by decide) (by decide)]; assumption)
      | (rw [en, eg, eN]; exact xS_congr c11 c12 (by assumption))
