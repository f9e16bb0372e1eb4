/-! Choices without a decision procedure; numbers; rows for both. -/
noncomputable def xif {α : Type} (P : Prop) (a b : α) : α := @ite α P (Classical.propDecidable P) a b
theorem xif_t {α : Type} {P : Prop} (h : P) (a b : α) : xif P a b = a := by unfold xif; rw [if_pos h]
theorem xif_f {α : Type} {P : Prop} (h : ¬ P) (a b : α) : xif P a b = b := by unfold xif; rw [if_neg h]
noncomputable def xb (P : Prop) : Int32 := xif P (nI 1) (nI 0)
theorem xb_t {P : Prop} (h : P) : xb P = nI 1 := xif_t h _ _
theorem xb_f {P : Prop} (h : ¬ P) : xb P = nI 0 := xif_f h _ _
theorem xb_or (P : Prop) : xb P = nI 0 ∨ xb P = nI 1 := by
  by_cases h : P
  · exact Or.inr (xb_t h)
  · exact Or.inl (xb_f h)
theorem xb_eq0 {P : Prop} : xb P = 0 ↔ ¬ P := by
  constructor
  · intro h hp
    rw [xb_t hp] at h
    exact absurd h (by decide)
  · intro h
    rw [xb_f h]
    decide
theorem xb_congr {P P' : Prop} (h : P ↔ P') : xb P = xb P' := by
  by_cases hp : P
  · rw [xb_t hp, xb_t (h.mp hp)]
  · rw [xb_f hp, xb_f (fun z => hp (h.mpr z))]
section
variable {p : Program} {l : Launch} {e : Env} {R : Room} {s : State} {m : MethodId} {args : Array Value} {below : List Frame} {meth : Method} {c : Code} {H : Heap} {locs : List Loc} {cells slots : Nat} {Q : State → Prop}
variable {cc : ByteArray} {pc : Nat} {ls : Array Slot} {rest : List Value}
theorem xn_eq {x y : Int32} (h : x = y) (k : W p l e R s m args below meth c H locs cells slots Q (F0 m pc ls (.int y :: rest))) : W p l e R s m args below meth c H locs cells slots Q (F0 m pc ls (.int x :: rest)) := h ▸ k
theorem xn_add (hx : p.tables.exec = Jvm.exec) (hb : c.code = cc) {a b : Nat} (hdg : decode cc pc = .ok (.iadd, 1)) (k : W p l e R s m args below meth c H locs cells slots Q (F0 m (pc + 1) ls (.int (nI (a + b)) :: rest))) : W p l e R s m args below meth c H locs cells slots Q (F0 m pc ls (.int (nI b) :: .int (nI a) :: rest)) := lv_iadd hx hb hdg (xn_eq (nI_add a b) k)
theorem xn_mul (hx : p.tables.exec = Jvm.exec) (hb : c.code = cc) {a b : Nat} (hdg : decode cc pc = .ok (.imul, 1)) (k : W p l e R s m args below meth c H locs cells slots Q (F0 m (pc + 1) ls (.int (nI (a * b)) :: rest))) : W p l e R s m args below meth c H locs cells slots Q (F0 m pc ls (.int (nI b) :: .int (nI a) :: rest)) := lv_imul hx hb hdg (xn_eq (pk_mul a b) k)
theorem xn_sub (hx : p.tables.exec = Jvm.exec) (hb : c.code = cc) {a b : Nat} (hdg : decode cc pc = .ok (.isub, 1)) (h : b ≤ a) (k : W p l e R s m args below meth c H locs cells slots Q (F0 m (pc + 1) ls (.int (nI (a - b)) :: rest))) : W p l e R s m args below meth c H locs cells slots Q (F0 m pc ls (.int (nI b) :: .int (nI a) :: rest)) := lv_isub hx hb hdg (xn_eq (pk_sub h) k)
theorem xn_div (hx : p.tables.exec = Jvm.exec) (hb : c.code = cc) {a b : Nat} (hdg : decode cc pc = .ok (.idiv, 1)) (ha : a < 2 ^ 31) (h0 : 0 < b) (h : b < 2 ^ 31) (k : W p l e R s m args below meth c H locs cells slots Q (F0 m (pc + 1) ls (.int (nI (a / b)) :: rest))) : W p l e R s m args below meth c H locs cells slots Q (F0 m pc ls (.int (nI b) :: .int (nI a) :: rest)) := lv_idiv hx hb hdg (nI_ne0 h0 h) (xn_eq (pk_div ha h0 h) k)
theorem xn_rem (hx : p.tables.exec = Jvm.exec) (hb : c.code = cc) {a b : Nat} (hdg : decode cc pc = .ok (.irem, 1)) (ha : a < 2 ^ 31) (h0 : 0 < b) (h : b < 2 ^ 31) (k : W p l e R s m args below meth c H locs cells slots Q (F0 m (pc + 1) ls (.int (nI (a % b)) :: rest))) : W p l e R s m args below meth c H locs cells slots Q (F0 m pc ls (.int (nI b) :: .int (nI a) :: rest)) := lv_irem hx hb hdg (nI_ne0 h0 h) (xn_eq (pk_rem ha h0 h) k)
theorem xn_inc (i : Nat) : nI i + Int32.ofInt 1 = nI (i + 1) := by
  rw [show Int32.ofInt 1 = (1 : Int32) by decide]
  exact nI_1 i
theorem xn_dec (i : Nat) : nI (i + 1) + Int32.ofInt (-1) = nI i := by
  rw [show Int32.ofInt (-1) = (-1 : Int32) by decide]
  exact pk_m1 i
theorem xz_ifeq (hx : p.tables.exec = Jvm.exec) (hb : c.code = cc) {P : Prop} {off : Int} {tgt : Nat} (hdg : decode cc pc = .ok (.ifCond .eq off, 3)) (ht : (pc : Int) + off = (tgt : Int)) (kt : ¬ P → W p l e R s m args below meth c H locs cells slots Q (F0 m tgt ls rest)) (kf : P → W p l e R s m args below meth c H locs cells slots Q (F0 m (pc + 3) ls rest)) :
    W p l e R s m args below meth c H locs cells slots Q (F0 m pc ls (.int (xb P) :: rest)) := lv_if_eq hx hb hdg ht (fun h => kt (xb_eq0.mp h)) (fun h => kf (Classical.byContradiction fun z => h (xb_eq0.mpr z)))
theorem xz_ifne (hx : p.tables.exec = Jvm.exec) (hb : c.code = cc) {P : Prop} {off : Int} {tgt : Nat} (hdg : decode cc pc = .ok (.ifCond .ne off, 3)) (ht : (pc : Int) + off = (tgt : Int)) (kt : P → W p l e R s m args below meth c H locs cells slots Q (F0 m tgt ls rest)) (kf : ¬ P → W p l e R s m args below meth c H locs cells slots Q (F0 m (pc + 3) ls rest)) :
    W p l e R s m args below meth c H locs cells slots Q (F0 m pc ls (.int (xb P) :: rest)) := lv_if_ne hx hb hdg ht (fun h => kt (Classical.byContradiction fun z => h (xb_eq0.mpr z))) (fun h => kf (xb_eq0.mp h))
end
/-! one pass that keeps the best -/
noncomputable def xf_step (el : Nat → Prop) (bt : Nat → Nat → Prop) (b : Option Nat) (k : Nat) : Option Nat := xif (el k ∧ ∀ x, b = some x → bt k x) (some k) b
noncomputable def xf_it (el : Nat → Prop) (bt : Nat → Nat → Prop) (cand : Nat → Nat) : Nat → Option Nat
  | 0 => none
  | i + 1 => xf_step el bt (xf_it el bt cand i) (cand i)
theorem xf_it_min {el : Nat → Prop} {bt lt : Nat → Nat → Prop} {cand : Nat → Nat} {n : Nat} (hbt : ∀ i j, i < n → j < i → el (cand i) → el (cand j) → (bt (cand i) (cand j) ↔ lt (cand i) (cand j)))
    (tr : ∀ a b c, el a → el b → el c → lt a b → lt b c → lt a c) (tot : ∀ a b, el a → el b → a = b ∨ lt a b ∨ lt b a) :
    ∀ i, i ≤ n → (xf_it el bt cand i = none → ∀ j, j < i → ¬ el (cand j)) ∧ ∀ m, xf_it el bt cand i = some m → (∃ j, j < i ∧ cand j = m) ∧ el m ∧ ∀ j, j < i → el (cand j) → cand j = m ∨ lt m (cand j) := by
  intro i
  induction i with
  | zero =>
    intro _
    exact ⟨fun _ j h => absurd h (Nat.not_lt_zero j), fun m h => by simp [xf_it] at h⟩
  | succ i ih =>
    intro hi
    obtain ⟨ih1, ih2⟩ := ih (by omega)
    have hs : xf_it el bt cand (i + 1) = xf_step el bt (xf_it el bt cand i) (cand i) := rfl
    rw [hs]
    unfold xf_step
    by_cases hc : el (cand i) ∧ ∀ x, xf_it el bt cand i = some x → bt (cand i) x
    · rw [xif_t hc]
      refine ⟨fun h => (by cases h), fun m hm => ?_⟩
      cases hm
      refine ⟨⟨i, by omega, rfl⟩, hc.1, fun j hj hej => ?_⟩
      by_cases hji : j = i
      · subst hji; exact Or.inl rfl
      · have hj' : j < i := by omega
        cases hb : xf_it el bt cand i with
        | none => exact absurd hej (ih1 hb j hj')
        | some b =>
          obtain ⟨⟨jb, hjb, hjb2⟩, heb, hmin⟩ := ih2 b hb
          have h1 : lt (cand i) b := by
            have := hc.2 b hb
            rw [← hjb2] at this heb ⊢
            exact (hbt i jb (by omega) hjb hc.1 heb).mp this
          rcases hmin j hj' hej with h2 | h2
          · rw [h2]; exact Or.inr h1
          · exact Or.inr (tr _ _ _ hc.1 heb hej h1 h2)
    · rw [xif_f hc]
      refine ⟨fun h j hj => ?_, fun m hm => ?_⟩
      · by_cases hji : j = i
        · subst hji
          intro hel
          exact hc ⟨hel, fun x hx => by rw [h] at hx; cases hx⟩
        · exact ih1 h j (by omega)
      · obtain ⟨⟨jb, hjb, hjb2⟩, heb, hmin⟩ := ih2 m hm
        refine ⟨⟨jb, by omega, hjb2⟩, heb, fun j hj hej => ?_⟩
        by_cases hji : j = i
        · subst hji
          rcases tot (cand j) m hej heb with h2 | h2 | h2
          · exact Or.inl h2
          · exfalso
            apply hc
            refine ⟨hej, fun x hx => ?_⟩
            rw [hm] at hx
            cases hx
            rw [← hjb2] at h2 heb ⊢
            exact (hbt j jb (by omega) hjb hej heb).mpr h2
          · exact Or.inr h2
        · exact hmin j (by omega) hej
