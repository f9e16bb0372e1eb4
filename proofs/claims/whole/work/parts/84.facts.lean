/-! The facts of the start. -/
theorem xtw {w : Cond} (i : Nat) (h : tables_1[i]? = some w) : w ∈ lw_tbl := List.mem_append_right _ (List.mem_of_getElem? h)
theorem at_six {α : Type} {P : Nat → α → Prop} {a0 a1 a2 a3 a4 a5 : α} (h0 : P 0 a0) (h1 : P 1 a1) (h2 : P 2 a2) (h3 : P 3 a3) (h4 : P 4 a4) (h5 : P 5 a5) : ∀ (k : Nat) (q : α), [a0, a1, a2, a3, a4, a5][k]? = some q → P k q := by
  intro k q h
  match k, h with
  | 0, h => cases h; exact h0
  | 1, h => cases h; exact h1
  | 2, h => cases h; exact h2
  | 3, h => cases h; exact h3
  | 4, h => cases h; exact h4
  | 5, h => cases h; exact h5
  | k + 6, h => exact absurd h (by simp)
theorem at_seven {α : Type} {P : α → Prop} {a0 a1 a2 a3 a4 a5 a6 : α} (h0 : P a0) (h1 : P a1) (h2 : P a2) (h3 : P a3) (h4 : P a4) (h5 : P a5) (h6 : P a6) : ∀ (k : Nat) (q : α), [a0, a1, a2, a3, a4, a5, a6][k]? = some q → P q := by
  intro k q h
  match k, h with
  | 0, h => cases h; exact h0
  | 1, h => cases h; exact h1
  | 2, h => cases h; exact h2
  | 3, h => cases h; exact h3
  | 4, h => cases h; exact h4
  | 5, h => cases h; exact h5
  | 6, h => cases h; exact h6
  | k + 7, h => exact absurd h (by simp)
def pk6 {α : Type} (a0 a1 a2 a3 a4 a5 : α) : Nat → α := fun k => match k with
  | 0 => a0
  | 1 => a1
  | 2 => a2
  | 3 => a3
  | 4 => a4
  | _ => a5
def pk7 {α : Type} (a0 a1 a2 a3 a4 a5 a6 : α) : Nat → α := fun k => match k with
  | 0 => a0
  | 1 => a1
  | 2 => a2
  | 3 => a3
  | 4 => a4
  | 5 => a5
  | _ => a6
theorem st_K {s : State} {args : Array Value} (hts : ∀ w ∈ lw_tbl, w.before args s = true) (hT : ∀ w ∈ xBIG, w.before args s = true) : ∃ (D : va_G) (cA : Nat → ClassId), va_K D xCl (xT cA) s ∧ xs_MA cA s := by
  obtain ⟨d0, i0, k0⟩ := u_known hT xin_TG (hT _ xk_iTG)
  obtain ⟨d1, i1, k1⟩ := u_known hT xin_TA (hT _ xk_iTA)
  obtain ⟨d2, i2, k2⟩ := u_known hT xin_SF (hT _ xk_iSF)
  obtain ⟨d3, i3, k3⟩ := u_known hT xin_SV (hT _ xk_iSV)
  obtain ⟨d4, i4, k4⟩ := u_known hT xin_AL (hT _ xk_iAL)
  obtain ⟨d5, i5, k5⟩ := u_known hT xin_MD (hT _ xk_iMD)
  obtain ⟨a0, q0, p0, f0, g0, h0⟩ := Cond.arrayClass_spec (hT _ xk_arrI)
  obtain ⟨p1, a1, q1, f1, e1, g1, h1, n1⟩ := Cond.arrayOver_spec (hts (.arrayOver (.object "SplitFabric$Tag")) (xtw 30 (by decide +kernel)))
  obtain ⟨p2, a2, q2, f2, e2, g2, h2, n2⟩ := Cond.arrayOver_spec (hts (.arrayOver (.object "SplitFabric$Target")) (xtw 32 (by decide +kernel)))
  obtain ⟨p3, a3, q3, f3, e3, g3, h3, n3⟩ := arrayOverA_spec (hts (.arrayOver (.array .int)) (xtw 34 (by decide +kernel)))
  obtain ⟨p4, a4, q4, f4, e4, g4, h4, n4⟩ := Cond.arrayOver_spec (hts (.arrayOver (.object "java/lang/Object")) (xtw 266 (by decide +kernel)))
  obtain ⟨a5, q5, p5, f5, g5, h5⟩ := Cond.arrayClass_spec (hT _ xk_arrZ)
  obtain ⟨a6, q6, p6, f6, g6, h6⟩ := Cond.arrayClass_spec (hT _ xk_arrJ)
  have eA : p3 = a0 := Option.some.inj (f3.symm.trans f0)
  refine ⟨(pk6 d0 d1 d2 d3 d4 d5, pk6 i0 i1 i2 i3 i4 i5), pk7 a0 a1 a2 a3 a4 a5 a6, ⟨at_six (P := fun (c : Nat) (q : vw_C) => u_Kn s q.1 q.2.1 q.2.2 (pk6 d0 d1 d2 d3 d4 d5 c) (pk6 i0 i1 i2 i3 i4 i5 c)) k0 k1 k2 k3 k4 k5, at_seven (P := fun (q : ClassId × FieldType) => ArrOfT s q.1 q.2 ∧ va_RA s q.1 q.2) ?_ ?_ ?_ ?_ ?_ ?_ ?_⟩, ⟨q3, g3, by rw [h3, eA]; rfl⟩⟩
  · exact ⟨fun n z => ⟨fun k h => (by cases h), q0, g0, p0, h0⟩, f0⟩
  · exact ⟨fun n z => ⟨fun k h => (by cases h), q1, g1, p1, h1⟩, q1, p1, g1, h1, f1, n1⟩
  · exact ⟨fun n z => ⟨fun k h => (by cases h), q2, g2, p2, h2⟩, q2, p2, g2, h2, f2, n2⟩
  · exact ⟨fun n z => ⟨fun k h => (by cases h), q3, g3, p3, h3⟩, n3⟩
  · exact ⟨fun n z => ⟨fun k h => (by cases h), q4, g4, p4, h4⟩, q4, p4, g4, h4, f4, n4⟩
  · exact ⟨fun n z => ⟨fun k h => (by cases h), q5, g5, p5, h5⟩, f5⟩
  · exact ⟨fun n z => ⟨fun k h => (by cases h), q6, g6, p6, h6⟩, f6⟩
theorem st_Z {s : State} {args : Array Value} {A : Nat → Prop} (hA : ∀ a : Nat, a < s.heap.size → ¬ A a) (hts : ∀ w ∈ lw_tbl, w.before args s = true) (hgv : (Jvm.Cond.and given_1 narrow_1).before args s = true) : ∃ tz : Nat, xZ tz A s s.heap ∧ va_AO "SplitFabric$Tag" s ∧ va_AO "SplitFabric$Target" s ∧ va_Nw (.methodLinkNest "SplitFabric" 56 yTA_init "SplitFabric") s := by
  have hG := flat_of_before _ hgv
  obtain ⟨tz, ht, hTz⟩ := va_Tof (A := A) (N := 0) (f := fun _ => .null) (by decide) (hG (.arrayOf (.static "java/util/ArrayList" "DEFAULTCAPACITY_EMPTY_ELEMENTDATA" "[Ljava/lang/Object;") (.object "java/lang/Object")) (by decide +kernel)) (va_eqt (z := Int32.ofNat 0) (hG (.eq (.length (.static "java/util/ArrayList" "DEFAULTCAPACITY_EMPTY_ELEMENTDATA" "[Ljava/lang/Object;")) (.int 0)) (by decide +kernel))) (fun j hj => absurd hj (Nat.not_lt_zero j)) hA
  obtain ⟨v1, hv1, r1⟩ := Cond.isRef_spec (hG (.isRef (.static "java/lang/Throwable" "UNASSIGNED_STACK" "[Ljava/lang/StackTraceElement;")) (by decide +kernel))
  obtain ⟨v2, hv2, r2⟩ := Cond.isRef_spec (hG (.isRef (.static "java/lang/Throwable" "SUPPRESSED_SENTINEL" "Ljava/util/List;")) (by decide +kernel))
  refine ⟨tz, ⟨⟨⟨(va_Nc.of (hG (.not (.castable "java/lang/IllegalArgumentException" "java/lang/IndexOutOfBoundsException")) (by decide +kernel))), (va_Nc.of (hG (.not (.castable "java/lang/IllegalStateException" "java/lang/IndexOutOfBoundsException")) (by decide +kernel))), (va_Nc.of (hG (.not (.castable "java/lang/IllegalStateException" "java/lang/IllegalArgumentException")) (by decide +kernel)))⟩, ⟨xs_Ca.of (hts _ (xtw 376 (by decide +kernel))), xs_Ca.of (hts _ (xtw 454 (by decide +kernel))), xs_Ca.of (hts _ (xtw 472 (by decide +kernel))), xs_Ca.of (hts _ (xtw 833 (by decide +kernel))), xs_Ca.of (hts _ (xtw 825 (by decide +kernel)))⟩, va_Mi.of (hG (.isRef (.mirror "[Ljava/lang/Object;")) (by decide +kernel)), va_Dc.of (hts _ (xtw 828 (by decide +kernel))), va_AO.of (hts _ (xtw 266 (by decide +kernel))), va_Nw.of rfl (hts _ (xtw 377 (by decide +kernel))), va_Nw.of rfl (hts _ (xtw 379 (by decide +kernel))), va_Nw.of rfl (hts _ (xtw 381 (by decide +kernel)))⟩, xs_S.of (hts _ (xtw 401 (by decide +kernel))) (hts _ (xtw 8 (by decide +kernel))) hv1 r1 hA, xs_S.of (hts _ (xtw 403 (by decide +kernel))) (hts _ (xtw 8 (by decide +kernel))) hv2 r2 hA, xs_S.of (hts _ (xtw 48 (by decide +kernel))) (hts _ (xtw 4 (by decide +kernel))) ht rfl hA, hTz⟩, va_AO.of (hts _ (xtw 30 (by decide +kernel))), va_AO.of (hts _ (xtw 32 (by decide +kernel))), va_Nw.of rfl (hts _ (xtw 117 (by decide +kernel)))⟩
