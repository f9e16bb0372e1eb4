/-! The checks, where they throw. -/
set_option maxRecDepth 100000 in
set_option maxHeartbeats 4000000 in
theorem tSF_checkIndex (l : Launch) (htr : l.stackTraces = false) (D : va_G) (cA : Nat → ClassId) (tz : Nat) (I : List (Nat × Nat)) (ad : Nat → Nat → Nat) (σ : xMem) (i b : Int32) (h : i < 0 ∨ b ≤ i) : xTh l ySF_checkIndex bSF_checkIndex 2 none 6 [.int i, .int b] D cA tz I ad σ "java/lang/IndexOutOfBoundsException" := by
  refine xth_of (by decide) (by simp [lg_sl, Value.category]) ?_
  intro p e s m args below meth c A ls C hlk hml hout hl w hz
  obtain ⟨hx, hb, hown, hts⟩ := id C
  have hl : lv_has ls 2 [(0, .int i), (1, .int b)] := hl
  refine lv_iload_n hx hb dSF_checkIndex_0 rfl (lv_at hl 0 rfl) ?_
  refine lv_if_lt hx hb dSF_checkIndex_1 rfl (fun hh1 => ?_) (fun hh1 => ?_)
  · skip
    exact xth_new C w hz hml hl.1 hlk hout htr (by decide +kernel) (xmi 374 (by decide +kernel) rfl) (xmi 11 (by decide +kernel) rfl) xat_1 hz.1.2.1.1 dSF_checkIndex_9 dSF_checkIndex_12 dSF_checkIndex_13 dSF_checkIndex_16 (by decide)
  · skip
    refine lv_iload_n hx hb dSF_checkIndex_4 rfl (lv_at hl 0 rfl) ?_
    refine lv_iload_n hx hb dSF_checkIndex_5 rfl (lv_at hl 1 rfl) ?_
    refine lv_icmp_lt hx hb dSF_checkIndex_6 rfl (fun hh2 => ?_) (fun hh2 => ?_)
    · skip
      exact absurd h (by grind)
    · skip
      exact xth_new C w hz hml hl.1 hlk hout htr (by decide +kernel) (xmi 374 (by decide +kernel) rfl) (xmi 11 (by decide +kernel) rfl) xat_1 hz.1.2.1.1 dSF_checkIndex_9 dSF_checkIndex_12 dSF_checkIndex_13 dSF_checkIndex_16 (by decide)
set_option maxRecDepth 100000 in
set_option maxHeartbeats 4000000 in
theorem tSF_checkArgument (l : Launch) (htr : l.stackTraces = false) (D : va_G) (cA : Nat → ClassId) (tz : Nat) (I : List (Nat × Nat)) (ad : Nat → Nat → Nat) (σ : xMem) : xTh l ySF_checkArgument bSF_checkArgument 1 none 6 [.int (nI 0)] D cA tz I ad σ "java/lang/IllegalArgumentException" := by
  refine xth_of (by decide) (by simp [lg_sl, Value.category]) ?_
  intro p e s m args below meth c A ls C hlk hml hout hl w hz
  obtain ⟨hx, hb, hown, hts⟩ := id C
  have hl : lv_has ls 1 [(0, .int (nI 0))] := hl
  refine lv_iload_n hx hb dSF_checkArgument_0 rfl (lv_at hl 0 rfl) ?_
  refine lv_if_ne hx hb dSF_checkArgument_1 rfl (fun hq => absurd nI_0 hq) (fun _ => ?_)
  exact xth_new C w hz hml hl.1 hlk hout htr (by decide +kernel) (xmi 452 (by decide +kernel) rfl) (xmi 12 (by decide +kernel) rfl) xat_2 hz.1.2.1.2.1 dSF_checkArgument_4 dSF_checkArgument_7 dSF_checkArgument_8 dSF_checkArgument_11 (by decide)
set_option maxRecDepth 100000 in
set_option maxHeartbeats 4000000 in
theorem tSF_checkState (l : Launch) (htr : l.stackTraces = false) (D : va_G) (cA : Nat → ClassId) (tz : Nat) (I : List (Nat × Nat)) (ad : Nat → Nat → Nat) (σ : xMem) : xTh l ySF_checkState bSF_checkState 1 none 6 [.int (nI 0)] D cA tz I ad σ "java/lang/IllegalStateException" := by
  refine xth_of (by decide) (by simp [lg_sl, Value.category]) ?_
  intro p e s m args below meth c A ls C hlk hml hout hl w hz
  obtain ⟨hx, hb, hown, hts⟩ := id C
  have hl : lv_has ls 1 [(0, .int (nI 0))] := hl
  refine lv_iload_n hx hb dSF_checkState_0 rfl (lv_at hl 0 rfl) ?_
  refine lv_if_ne hx hb dSF_checkState_1 rfl (fun hq => absurd nI_0 hq) (fun _ => ?_)
  exact xth_new C w hz hml hl.1 hlk hout htr (by decide +kernel) (xmi 470 (by decide +kernel) rfl) (xmi 13 (by decide +kernel) rfl) xat_3 hz.1.2.1.2.2.1 dSF_checkState_4 dSF_checkState_7 dSF_checkState_8 dSF_checkState_11 (by decide)
