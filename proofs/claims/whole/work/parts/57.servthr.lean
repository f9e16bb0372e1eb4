/-! service, where it throws. -/
set_option maxRecDepth 100000 in
set_option maxHeartbeats 4000000 in
theorem t1SF_service (l : Launch) (htr : l.stackTraces = false) (D : va_G) (cA : Nat → ClassId) (tz : Nat) (I : List (Nat × Nat)) (ad : Nat → Nat → Nat) (σ : xMem) (n : Nat) (x y : Int32) (hI : xI I) (h2 : σ 11 0 2 = nI n) (hbd : x < 0 ∨ nI n ≤ x) : xTh l ySF_service bSF_service 3 (some .int) 7 [.ref (ad 5 0), .int x, .int y] D cA tz I ad σ "java/lang/IndexOutOfBoundsException" := by
  refine xth_of (by decide) (by simp [lg_sl, Value.category]) ?_
  intro p e s m args below meth c A ls C hlk hml hout hl w hz
  obtain ⟨hx, hb, hown, hts⟩ := id C
  have hl : lv_has ls 3 [(0, .ref (ad 5 0)), (1, .int x), (2, .int y)] := hl
  refine lv_iload_n hx hb dSF_service_0 rfl (lv_at hl 1 rfl) ?_
  refine lv_aload_n hx hb dSF_service_1 rfl (lv_at hl 0 rfl) ?_
  refine xg_SF_36 C w (xI5 hI) dSF_service_2 ?_
  refine xd_callV C w hz hml hl.1 xk_SF_148 (cAL_size l D cA tz I ad σ (xI11 hI)) (xI11 hI) rfl rfl rfl rfl (Nat.le_of_ble_eq_true rfl) (by decide) (by decide) dSF_service_5 (fun H locs w => ?_)
  refine W.eq (g2 := F0 m 8 ls [.int (σ 11 0 2), .int x]) rfl ?_
  refine xn_eq (y := nI n) h2 ?_
  exact xth_callS C w hz hml hl.1 hlk hout xk_SF_57 (tSF_checkIndex l htr D cA tz I ad σ x (nI n) hbd) rfl rfl (Nat.le_of_ble_eq_true rfl) (by decide) (by decide) dSF_service_8
set_option maxRecDepth 100000 in
set_option maxHeartbeats 4000000 in
theorem t2SF_service (l : Launch) (htr : l.stackTraces = false) (D : va_G) (cA : Nat → ClassId) (tz : Nat) (I : List (Nat × Nat)) (ad : Nat → Nat → Nat) (σ : xMem) (n a : Nat) (y : Int32) (hI : xI I) (h2 : σ 11 0 2 = nI n) (hn : n < 2 ^ 31) (ha : a < n) (hbd : ¬ (¬ y < 0 ∧ ¬ nI 6 ≤ y)) : xTh l ySF_service bSF_service 3 (some .int) 7 [.ref (ad 5 0), .int (nI a), .int y] D cA tz I ad σ "java/lang/IllegalArgumentException" := by
  refine xth_of (by decide) (by simp [lg_sl, Value.category]) ?_
  intro p e s m args below meth c A ls C hlk hml hout hl w hz
  obtain ⟨hx, hb, hown, hts⟩ := id C
  have hl : lv_has ls 3 [(0, .ref (ad 5 0)), (1, .int (nI a)), (2, .int y)] := hl
  refine lv_iload_n hx hb dSF_service_0 rfl (lv_at hl 1 rfl) ?_
  refine lv_aload_n hx hb dSF_service_1 rfl (lv_at hl 0 rfl) ?_
  refine xg_SF_36 C w (xI5 hI) dSF_service_2 ?_
  refine xd_callV C w hz hml hl.1 xk_SF_148 (cAL_size l D cA tz I ad σ (xI11 hI)) (xI11 hI) rfl rfl rfl rfl (Nat.le_of_ble_eq_true rfl) (by decide) (by decide) dSF_service_5 (fun H locs w => ?_)
  refine W.eq (g2 := F0 m 8 ls [.int (σ 11 0 2), .int (nI a)]) rfl ?_
  refine xn_eq (y := nI n) h2 ?_
  refine xd_callS C w hz hml hl.1 xk_SF_57 (cSF_checkIndex_ok l D cA tz I ad σ a n ha hn) rfl rfl (Nat.le_of_ble_eq_true rfl) (by decide) (by decide) dSF_service_8 (fun H locs w => ?_)
  refine W.eq (g2 := F0 m 11 ls []) rfl ?_
  refine lv_iload_n hx hb dSF_service_11 rfl (lv_at hl 2 rfl) ?_
  refine lv_if_lt hx hb dSF_service_12 rfl (fun hh1 => ?_) (fun hh1 => ?_)
  · skip
    refine lv_iconst (v := nI 0) hx hb dSF_service_25 xk_i0 ?_
    exact xth_callS C w hz hml hl.1 hlk hout xk_SF_118 (tSF_checkArgument l htr D cA tz I ad (σ)) rfl rfl (Nat.le_of_ble_eq_true rfl) (by decide) (by decide) dSF_service_26
  · skip
    refine lv_iload_n hx hb dSF_service_15 rfl (lv_at hl 2 rfl) ?_
    refine lv_bipush (v := nI 6) hx hb dSF_service_16 xk_b6 ?_
    refine lv_icmp_ge hx hb dSF_service_18 rfl (fun hh2 => ?_) (fun hh2 => ?_)
    · skip
      refine lv_iconst (v := nI 0) hx hb dSF_service_25 xk_i0 ?_
      exact xth_callS C w hz hml hl.1 hlk hout xk_SF_118 (tSF_checkArgument l htr D cA tz I ad (σ)) rfl rfl (Nat.le_of_ble_eq_true rfl) (by decide) (by decide) dSF_service_26
    · skip
      refine lv_iconst (v := nI 1) hx hb dSF_service_21 xk_i1 ?_
      refine lv_goto hx hb dSF_service_22 rfl ?_
      refine xd_callS C w hz hml hl.1 xk_SF_118 (cSF_checkArgument_ok l D cA tz I ad (σ)) rfl rfl (Nat.le_of_ble_eq_true rfl) (by decide) (by decide) dSF_service_26 (fun H locs w => ?_)
      refine W.eq (g2 := F0 m 29 ls []) rfl ?_
      exact absurd (by grind) hbd
