/-! Public methods, where they do not throw. -/
set_option maxRecDepth 100000 in
set_option maxHeartbeats 4000000 in
theorem cSF_checkIndex_ok (l : Launch) (D : va_G) (cA : Nat → ClassId) (tz : Nat) (I : List (Nat × Nat)) (ad : Nat → Nat → Nat) (σ : xMem) (a n : Nat) (han : a < n) (hn : n < 2 ^ 31) : xD l ySF_checkIndex bSF_checkIndex 2 none 1 [.int (nI a), .int (nI n)] D cA tz I ad σ none σ := by
  refine xd_of (by decide) (by simp [lg_sl, Value.category]) ?_
  intro p e s m args below meth c A ls C hr hlk hml hl w hz
  obtain ⟨hx, hb, hown, hts⟩ := id C
  have hl : lv_has ls 2 [(0, .int (nI a)), (1, .int (nI n))] := hl
  refine lv_iload_n hx hb dSF_checkIndex_0 rfl (lv_at hl 0 rfl) ?_
  refine lv_if_lt hx hb dSF_checkIndex_1 rfl (fun hh1 => absurd hh1 (nI_pos (by omega))) (fun hh1 => ?_)
  refine lv_iload_n hx hb dSF_checkIndex_4 rfl (lv_at hl 0 rfl) ?_
  refine lv_iload_n hx hb dSF_checkIndex_5 rfl (lv_at hl 1 rfl) ?_
  refine lv_icmp_lt hx hb dSF_checkIndex_6 rfl (fun hh2 => ?_) (fun hh2 => absurd (nI_lt han hn) hh2)
  exact xd_vret C w hr hlk dSF_checkIndex_17 rfl
set_option maxRecDepth 100000 in
set_option maxHeartbeats 4000000 in
theorem cSF_checkArgument_ok (l : Launch) (D : va_G) (cA : Nat → ClassId) (tz : Nat) (I : List (Nat × Nat)) (ad : Nat → Nat → Nat) (σ : xMem) : xD l ySF_checkArgument bSF_checkArgument 1 none 1 [.int (nI 1)] D cA tz I ad σ none σ := by
  refine xd_of (by decide) (by simp [lg_sl, Value.category]) ?_
  intro p e s m args below meth c A ls C hr hlk hml hl w hz
  obtain ⟨hx, hb, hown, hts⟩ := id C
  have hl : lv_has ls 1 [(0, .int (nI 1))] := hl
  refine lv_iload_n hx hb dSF_checkArgument_0 rfl (lv_at hl 0 rfl) ?_
  refine lv_if_ne hx hb dSF_checkArgument_1 rfl (fun _ => ?_) (fun hq => absurd hq (by decide))
  exact xd_vret C w hr hlk dSF_checkArgument_12 rfl
set_option maxRecDepth 100000 in
set_option maxHeartbeats 4000000 in
theorem cSF_checkState_ok (l : Launch) (D : va_G) (cA : Nat → ClassId) (tz : Nat) (I : List (Nat × Nat)) (ad : Nat → Nat → Nat) (σ : xMem) : xD l ySF_checkState bSF_checkState 1 none 1 [.int (nI 1)] D cA tz I ad σ none σ := by
  refine xd_of (by decide) (by simp [lg_sl, Value.category]) ?_
  intro p e s m args below meth c A ls C hr hlk hml hl w hz
  obtain ⟨hx, hb, hown, hts⟩ := id C
  have hl : lv_has ls 1 [(0, .int (nI 1))] := hl
  refine lv_iload_n hx hb dSF_checkState_0 rfl (lv_at hl 0 rfl) ?_
  refine lv_if_ne hx hb dSF_checkState_1 rfl (fun _ => ?_) (fun hq => absurd hq (by decide))
  exact xd_vret C w hr hlk dSF_checkState_12 rfl
set_option maxRecDepth 100000 in
set_option maxHeartbeats 4000000 in
theorem cSF_data_ok (l : Launch) (D : va_G) (cA : Nat → ClassId) (tz : Nat) (I : List (Nat × Nat)) (ad : Nat → Nat → Nat) (σ : xMem) (a b : Nat) (x : Int32) (hI : xI I) (ha : a < 4) (hb4 : b < 4) : xD l ySF_data bSF_data 4 none 2 [.ref (ad 5 0), .int (nI a), .int (nI b), .int x] D cA tz I ad σ none (xu3 σ 4 a b x) := by
  refine xd_of (by decide) (by simp [lg_sl, Value.category]) ?_
  intro p e s m args below meth c A ls C hr hlk hml hl w hz
  obtain ⟨hx, hb, hown, hts⟩ := id C
  have hl : lv_has ls 4 [(0, .ref (ad 5 0)), (1, .int (nI a)), (2, .int (nI b)), (3, .int x)] := hl
  refine lv_iload_n hx hb dSF_data_0 rfl (lv_at hl 1 rfl) ?_
  refine lv_iconst (v := nI 4) hx hb dSF_data_1 xk_i4 ?_
  refine xd_callS C w hz hml hl.1 xk_SF_57 (cSF_checkIndex_ok l D cA tz I ad σ a 4 (by omega) (by decide)) rfl rfl (Nat.le_of_ble_eq_true rfl) (by decide) (by decide) dSF_data_2 (fun H locs w => ?_)
  refine W.eq (g2 := F0 m 5 ls []) rfl ?_
  refine lv_iload_n hx hb dSF_data_5 rfl (lv_at hl 2 rfl) ?_
  refine lv_iconst (v := nI 4) hx hb dSF_data_6 xk_i4 ?_
  refine xd_callS C w hz hml hl.1 xk_SF_57 (cSF_checkIndex_ok l D cA tz I ad σ b 4 (by omega) (by decide)) rfl rfl (Nat.le_of_ble_eq_true rfl) (by decide) (by decide) dSF_data_7 (fun H locs w => ?_)
  refine W.eq (g2 := F0 m 10 ls []) rfl ?_
  refine lv_aload_n hx hb dSF_data_10 rfl (lv_at hl 0 rfl) ?_
  refine xg_SF_27 C w (xI5 hI) dSF_data_11 ?_
  refine lv_iload_n hx hb dSF_data_14 rfl (lv_at hl 1 rfl) ?_
  refine xa_9 C w (xI9 hI) a rfl (by omega) dSF_data_15 ?_
  refine lv_iload_n hx hb dSF_data_16 rfl (lv_at hl 2 rfl) ?_
  refine lv_iload_n hx hb dSF_data_17 rfl (lv_at hl 3 rfl) ?_
  refine xs_iast C w (xI4 hI (by omega)) (fun _ => rfl) b rfl (by omega) (by decide) dSF_data_18 (fun H locs w => ?_)
  exact xd_vret C w hr hlk dSF_data_19 rfl
set_option maxRecDepth 100000 in
set_option maxHeartbeats 4000000 in
theorem cSF_ready_ok (l : Launch) (D : va_G) (cA : Nat → ClassId) (tz : Nat) (I : List (Nat × Nat)) (ad : Nat → Nat → Nat) (σ : xMem) (t : Nat) (x : Int32) (hI : xI I) (h7 : σ 7 0 0 = nI 3) (ht : t < 3) (hx2 : x = nI 0 ∨ x = nI 1) : xD l ySF_ready bSF_ready 3 none 2 [.ref (ad 5 0), .int (nI t), .int x] D cA tz I ad σ none (xu3 σ 2 t 4 x) := by
  refine xd_of (by decide) (by simp [lg_sl, Value.category]) ?_
  intro p e s m args below meth c A ls C hr hlk hml hl w hz
  obtain ⟨hx, hb, hown, hts⟩ := id C
  have hl : lv_has ls 3 [(0, .ref (ad 5 0)), (1, .int (nI t)), (2, .int x)] := hl
  refine lv_iload_n hx hb dSF_ready_0 rfl (lv_at hl 1 rfl) ?_
  refine lv_iconst (v := nI 3) hx hb dSF_ready_1 xk_i3 ?_
  refine xd_callS C w hz hml hl.1 xk_SF_57 (cSF_checkIndex_ok l D cA tz I ad σ t 3 (by omega) (by decide)) rfl rfl (Nat.le_of_ble_eq_true rfl) (by decide) (by decide) dSF_ready_2 (fun H locs w => ?_)
  refine W.eq (g2 := F0 m 5 ls []) rfl ?_
  refine lv_aload_n hx hb dSF_ready_5 rfl (lv_at hl 0 rfl) ?_
  refine xg_SF_17 C w (xI5 hI) dSF_ready_6 ?_
  refine lv_iload_n hx hb dSF_ready_9 rfl (lv_at hl 1 rfl) ?_
  refine xa_7 C w (xI7 hI) h7 t rfl (by omega) dSF_ready_10 ?_
  refine lv_iload_n hx hb dSF_ready_11 rfl (lv_at hl 2 rfl) ?_
  refine xp_SF_94 C w (xI2 hI (by omega)) hx2 dSF_ready_12 (fun H locs w => ?_)
  exact xd_vret C w hr hlk dSF_ready_15 rfl
set_option maxRecDepth 100000 in
set_option maxHeartbeats 4000000 in
theorem cSF_time (l : Launch) (D : va_G) (cA : Nat → ClassId) (tz : Nat) (I : List (Nat × Nat)) (ad : Nat → Nat → Nat) (σ : xMem) (hI : xI I) : xD l ySF_time bSF_time 1 (some .int) 1 [.ref (ad 5 0)] D cA tz I ad σ (some (.int (σ 5 0 6))) σ := by
  refine xd_of (by decide) (by simp [lg_sl, Value.category]) ?_
  intro p e s m args below meth c A ls C hr hlk hml hl w hz
  obtain ⟨hx, hb, hown, hts⟩ := id C
  have hl : lv_has ls 1 [(0, .ref (ad 5 0))] := hl
  refine lv_aload_n hx hb dSF_time_0 rfl (lv_at hl 0 rfl) ?_
  refine xg_SF_40 C w (xI5 hI) dSF_time_1 ?_
  exact xd_iret C w hr hlk dSF_time_4 (rfl) rfl
set_option maxRecDepth 100000 in
set_option maxHeartbeats 4000000 in
theorem cSF_state_ok (l : Launch) (D : va_G) (cA : Nat → ClassId) (tz : Nat) (I : List (Nat × Nat)) (ad : Nat → Nat → Nat) (σ : xMem) (a b : Nat) (hI : xI I) (h6 : σ 6 0 0 = nI 16) (ha : a < 4) (hb4 : b < 4) : xD l ySF_state bSF_state 3 (some .int) 2 [.ref (ad 5 0), .int (nI a), .int (nI b)] D cA tz I ad σ (some (.int (σ 0 (4 * a + b) 3))) σ := by
  refine xd_of (by decide) (by simp [lg_sl, Value.category]) ?_
  intro p e s m args below meth c A ls C hr hlk hml hl w hz
  obtain ⟨hx, hb, hown, hts⟩ := id C
  have hl : lv_has ls 3 [(0, .ref (ad 5 0)), (1, .int (nI a)), (2, .int (nI b))] := hl
  refine lv_iload_n hx hb dSF_state_0 rfl (lv_at hl 1 rfl) ?_
  refine lv_iconst (v := nI 4) hx hb dSF_state_1 xk_i4 ?_
  refine xd_callS C w hz hml hl.1 xk_SF_57 (cSF_checkIndex_ok l D cA tz I ad σ a 4 (by omega) (by decide)) rfl rfl (Nat.le_of_ble_eq_true rfl) (by decide) (by decide) dSF_state_2 (fun H locs w => ?_)
  refine W.eq (g2 := F0 m 5 ls []) rfl ?_
  refine lv_iload_n hx hb dSF_state_5 rfl (lv_at hl 2 rfl) ?_
  refine lv_iconst (v := nI 4) hx hb dSF_state_6 xk_i4 ?_
  refine xd_callS C w hz hml hl.1 xk_SF_57 (cSF_checkIndex_ok l D cA tz I ad σ b 4 (by omega) (by decide)) rfl rfl (Nat.le_of_ble_eq_true rfl) (by decide) (by decide) dSF_state_7 (fun H locs w => ?_)
  refine W.eq (g2 := F0 m 10 ls []) rfl ?_
  refine lv_aload_n hx hb dSF_state_10 rfl (lv_at hl 0 rfl) ?_
  refine lv_iload_n hx hb dSF_state_11 rfl (lv_at hl 1 rfl) ?_
  refine lv_iload_n hx hb dSF_state_12 rfl (lv_at hl 2 rfl) ?_
  refine xd_callV C w hz hml hl.1 xk_SF_64 (cSF_tagOf l D cA tz I ad σ a b hI h6 (by omega)) (xI5 hI) rfl rfl rfl rfl (Nat.le_of_ble_eq_true rfl) (by decide) (by decide) dSF_state_13 (fun H locs w => ?_)
  refine W.eq (g2 := F0 m 16 ls [.ref (ad 0 (4 * a + b))]) rfl ?_
  refine xg_SF_68 C w (xI0 hI (by omega)) dSF_state_16 ?_
  exact xd_iret C w hr hlk dSF_state_19 (rfl) rfl
set_option maxRecDepth 100000 in
set_option maxHeartbeats 4000000 in
theorem cSF_word_ok (l : Launch) (D : va_G) (cA : Nat → ClassId) (tz : Nat) (I : List (Nat × Nat)) (ad : Nat → Nat → Nat) (σ : xMem) (a b i : Nat) (hI : xI I) (h6 : σ 6 0 0 = nI 16) (ha : a < 4) (hb4 : b < 4) (hi4 : i < 4) (hst : σ 0 (4 * a + b) 3 = nI 3) (hrd : xp_read σ (4 * a + b)) (hln : nI i < σ 0 (4 * a + b) 6) : xD l ySF_word bSF_word 5 (some .int) 2 [.ref (ad 5 0), .int (nI a), .int (nI b), .int (nI i)] D cA tz I ad σ (some (.int (σ 1 (4 * a + b) i))) σ := by
  refine xd_of (by decide) (by simp [lg_sl, Value.category]) ?_
  intro p e s m args below meth c A ls C hr hlk hml hl w hz
  obtain ⟨hx, hb, hown, hts⟩ := id C
  have hl : lv_has ls 5 [(0, .ref (ad 5 0)), (1, .int (nI a)), (2, .int (nI b)), (3, .int (nI i))] := hl
  refine lv_iload_n hx hb dSF_word_0 rfl (lv_at hl 1 rfl) ?_
  refine lv_iconst (v := nI 4) hx hb dSF_word_1 xk_i4 ?_
  refine xd_callS C w hz hml hl.1 xk_SF_57 (cSF_checkIndex_ok l D cA tz I ad σ a 4 (by omega) (by decide)) rfl rfl (Nat.le_of_ble_eq_true rfl) (by decide) (by decide) dSF_word_2 (fun H locs w => ?_)
  refine W.eq (g2 := F0 m 5 ls []) rfl ?_
  refine lv_iload_n hx hb dSF_word_5 rfl (lv_at hl 2 rfl) ?_
  refine lv_iconst (v := nI 4) hx hb dSF_word_6 xk_i4 ?_
  refine xd_callS C w hz hml hl.1 xk_SF_57 (cSF_checkIndex_ok l D cA tz I ad σ b 4 (by omega) (by decide)) rfl rfl (Nat.le_of_ble_eq_true rfl) (by decide) (by decide) dSF_word_7 (fun H locs w => ?_)
  refine W.eq (g2 := F0 m 10 ls []) rfl ?_
  refine lv_iload_n hx hb dSF_word_10 rfl (lv_at hl 3 rfl) ?_
  refine lv_iconst (v := nI 4) hx hb dSF_word_11 xk_i4 ?_
  refine xd_callS C w hz hml hl.1 xk_SF_57 (cSF_checkIndex_ok l D cA tz I ad σ i 4 (by omega) (by decide)) rfl rfl (Nat.le_of_ble_eq_true rfl) (by decide) (by decide) dSF_word_12 (fun H locs w => ?_)
  refine W.eq (g2 := F0 m 15 ls []) rfl ?_
  refine lv_aload_n hx hb dSF_word_15 rfl (lv_at hl 0 rfl) ?_
  refine lv_iload_n hx hb dSF_word_16 rfl (lv_at hl 1 rfl) ?_
  refine lv_iload_n hx hb dSF_word_17 rfl (lv_at hl 2 rfl) ?_
  refine xd_callV C w hz hml hl.1 xk_SF_64 (cSF_tagOf l D cA tz I ad σ a b hI h6 (by omega)) (xI5 hI) rfl rfl rfl rfl (Nat.le_of_ble_eq_true rfl) (by decide) (by decide) dSF_word_18 (fun H locs w => ?_)
  refine W.eq (g2 := F0 m 21 ls [.ref (ad 0 (4 * a + b))]) rfl ?_
  refine lv_astore (lv' := [(4, .ref (ad 0 (4 * a + b))), (0, .ref (ad 5 0)), (1, .int (nI a)), (2, .int (nI b)), (3, .int (nI i))]) hx hb dSF_word_21 hl (by decide) rfl (fun ls hl => ?_)
  refine lv_aload hx hb dSF_word_23 (lv_at hl 0 rfl) ?_
  refine xg_SF_68 C w (xI0 hI (by omega)) dSF_word_25 ?_
  refine lv_iconst (v := nI 3) hx hb dSF_word_28 xk_i3 ?_
  refine lv_icmp_ne hx hb dSF_word_29 rfl (fun hh1 => absurd hst hh1) (fun hh1 => ?_)
  refine lv_aload hx hb dSF_word_32 (lv_at hl 0 rfl) ?_
  refine xd_callV C w hz hml hl.1 xk_SF_125 (cTG_isReading l D cA tz I ad σ (4 * a + b) hI (by omega)) (xI0 hI (by omega)) rfl rfl rfl rfl (Nat.le_of_ble_eq_true rfl) (by decide) (by decide) dSF_word_34 (fun H locs w => ?_)
  refine W.eq (g2 := F0 m 37 ls [.int (xb (xp_read σ (4 * a + b)))]) rfl ?_
  refine xz_ifeq hx hb dSF_word_37 rfl (fun hh2 => absurd hrd hh2) (fun hh2 => ?_)
  refine lv_iload_n hx hb dSF_word_40 rfl (lv_at hl 4 rfl) ?_
  refine lv_aload hx hb dSF_word_41 (lv_at hl 0 rfl) ?_
  refine xg_SF_129 C w (xI0 hI (by omega)) dSF_word_43 ?_
  refine lv_icmp_ge hx hb dSF_word_46 rfl (fun hh3 => absurd hln (Int32.not_lt.mpr hh3)) (fun hh3 => ?_)
  refine lv_iconst (v := nI 1) hx hb dSF_word_49 xk_i1 ?_
  refine lv_goto hx hb dSF_word_50 rfl ?_
  refine xd_callS C w hz hml hl.1 xk_SF_71 (cSF_checkState_ok l D cA tz I ad (σ)) rfl rfl (Nat.le_of_ble_eq_true rfl) (by decide) (by decide) dSF_word_54 (fun H locs w => ?_)
  refine W.eq (g2 := F0 m 57 ls []) rfl ?_
  refine lv_aload hx hb dSF_word_57 (lv_at hl 0 rfl) ?_
  refine xg_SF_132 C w (xI0 hI (by omega)) dSF_word_59 ?_
  refine lv_iload_n hx hb dSF_word_62 rfl (lv_at hl 4 rfl) ?_
  refine xr_iald C w (xI1 hI (by omega)) rfl 0 rfl i rfl (by omega) (by decide) dSF_word_63 ?_
  exact xd_iret C w hr hlk dSF_word_64 (rfl) rfl
set_option maxRecDepth 100000 in
set_option maxHeartbeats 4000000 in
theorem cSF_take_ok (l : Launch) (D : va_G) (cA : Nat → ClassId) (tz : Nat) (I : List (Nat × Nat)) (ad : Nat → Nat → Nat) (σ : xMem) (a b : Nat) (hI : xI I) (h6 : σ 6 0 0 = nI 16) (ha : a < 4) (hb4 : b < 4) (hst : σ 0 (4 * a + b) 3 = nI 3 ∨ σ 0 (4 * a + b) 3 = nI 4) : xD l ySF_take bSF_take 5 (some .boolean) 2 [.ref (ad 5 0), .int (nI a), .int (nI b)] D cA tz I ad σ (some (.int (xb (σ 0 (4 * a + b) 3 = nI 3)))) (xu3 σ 0 (4 * a + b) 3 (nI 0)) := by
  refine xd_of (by decide) (by simp [lg_sl, Value.category]) ?_
  intro p e s m args below meth c A ls C hr hlk hml hl w hz
  obtain ⟨hx, hb, hown, hts⟩ := id C
  have hl : lv_has ls 5 [(0, .ref (ad 5 0)), (1, .int (nI a)), (2, .int (nI b))] := hl
  refine lv_iload_n hx hb dSF_take_0 rfl (lv_at hl 1 rfl) ?_
  refine lv_iconst (v := nI 4) hx hb dSF_take_1 xk_i4 ?_
  refine xd_callS C w hz hml hl.1 xk_SF_57 (cSF_checkIndex_ok l D cA tz I ad σ a 4 (by omega) (by decide)) rfl rfl (Nat.le_of_ble_eq_true rfl) (by decide) (by decide) dSF_take_2 (fun H locs w => ?_)
  refine W.eq (g2 := F0 m 5 ls []) rfl ?_
  refine lv_iload_n hx hb dSF_take_5 rfl (lv_at hl 2 rfl) ?_
  refine lv_iconst (v := nI 4) hx hb dSF_take_6 xk_i4 ?_
  refine xd_callS C w hz hml hl.1 xk_SF_57 (cSF_checkIndex_ok l D cA tz I ad σ b 4 (by omega) (by decide)) rfl rfl (Nat.le_of_ble_eq_true rfl) (by decide) (by decide) dSF_take_7 (fun H locs w => ?_)
  refine W.eq (g2 := F0 m 10 ls []) rfl ?_
  refine lv_aload_n hx hb dSF_take_10 rfl (lv_at hl 0 rfl) ?_
  refine lv_iload_n hx hb dSF_take_11 rfl (lv_at hl 1 rfl) ?_
  refine lv_iload_n hx hb dSF_take_12 rfl (lv_at hl 2 rfl) ?_
  refine xd_callV C w hz hml hl.1 xk_SF_64 (cSF_tagOf l D cA tz I ad σ a b hI h6 (by omega)) (xI5 hI) rfl rfl rfl rfl (Nat.le_of_ble_eq_true rfl) (by decide) (by decide) dSF_take_13 (fun H locs w => ?_)
  refine W.eq (g2 := F0 m 16 ls [.ref (ad 0 (4 * a + b))]) rfl ?_
  refine lv_astore_n (lv' := [(3, .ref (ad 0 (4 * a + b))), (0, .ref (ad 5 0)), (1, .int (nI a)), (2, .int (nI b))]) hx hb dSF_take_16 rfl hl (by decide) rfl (fun ls hl => ?_)
  refine lv_aload_n hx hb dSF_take_17 rfl (lv_at hl 0 rfl) ?_
  refine xg_SF_68 C w (xI0 hI (by omega)) dSF_take_18 ?_
  refine lv_iconst (v := nI 3) hx hb dSF_take_21 xk_i3 ?_
  refine lv_icmp_eq hx hb dSF_take_22 rfl (fun hh1 => ?_) (fun hh1 => ?_)
  · skip
    refine lv_iconst (v := nI 1) hx hb dSF_take_33 xk_i1 ?_
    refine lv_goto hx hb dSF_take_34 rfl ?_
    refine xd_callS C w hz hml hl.1 xk_SF_71 (cSF_checkState_ok l D cA tz I ad (σ)) rfl rfl (Nat.le_of_ble_eq_true rfl) (by decide) (by decide) dSF_take_38 (fun H locs w => ?_)
    refine W.eq (g2 := F0 m 41 ls []) rfl ?_
    refine lv_aload_n hx hb dSF_take_41 rfl (lv_at hl 0 rfl) ?_
    refine xg_SF_68 C w (xI0 hI (by omega)) dSF_take_42 ?_
    refine lv_iconst (v := nI 3) hx hb dSF_take_45 xk_i3 ?_
    refine lv_icmp_ne hx hb dSF_take_46 rfl (fun hh2 => ?_) (fun hh2 => ?_)
    · skip
      refine lv_iconst (v := nI 0) hx hb dSF_take_53 xk_i0 ?_
      refine lv_istore (lv' := [(4, .int (nI 0)), (3, .ref (ad 0 (4 * a + b))), (0, .ref (ad 5 0)), (1, .int (nI a)), (2, .int (nI b))]) hx hb dSF_take_54 hl (by decide) rfl (fun ls hl => ?_)
      refine lv_aload_n hx hb dSF_take_56 rfl (lv_at hl 1 rfl) ?_
      refine lv_iconst (v := nI 0) hx hb dSF_take_57 xk_i0 ?_
      refine xp_SF_68 C w (xI0 hI (by omega)) dSF_take_58 (fun H locs w => ?_)
      refine lv_iload hx hb dSF_take_61 (lv_at hl 0 rfl) ?_
      exact xd_zf C w hr hlk dSF_take_63 (by grind) rfl
    · skip
      refine lv_iconst (v := nI 1) hx hb dSF_take_49 xk_i1 ?_
      refine lv_goto hx hb dSF_take_50 rfl ?_
      refine lv_istore (lv' := [(4, .int (nI 1)), (3, .ref (ad 0 (4 * a + b))), (0, .ref (ad 5 0)), (1, .int (nI a)), (2, .int (nI b))]) hx hb dSF_take_54 hl (by decide) rfl (fun ls hl => ?_)
      refine lv_aload_n hx hb dSF_take_56 rfl (lv_at hl 1 rfl) ?_
      refine lv_iconst (v := nI 0) hx hb dSF_take_57 xk_i0 ?_
      refine xp_SF_68 C w (xI0 hI (by omega)) dSF_take_58 (fun H locs w => ?_)
      refine lv_iload hx hb dSF_take_61 (lv_at hl 0 rfl) ?_
      exact xd_zt C w hr hlk dSF_take_63 (by grind) rfl
  · skip
    refine lv_aload_n hx hb dSF_take_25 rfl (lv_at hl 0 rfl) ?_
    refine xg_SF_68 C w (xI0 hI (by omega)) dSF_take_26 ?_
    refine lv_iconst (v := nI 4) hx hb dSF_take_29 xk_i4 ?_
    refine lv_icmp_ne hx hb dSF_take_30 rfl (fun hh3 => absurd (hst.resolve_left (by assumption)) hh3) (fun hh3 => ?_)
    refine lv_iconst (v := nI 1) hx hb dSF_take_33 xk_i1 ?_
    refine lv_goto hx hb dSF_take_34 rfl ?_
    refine xd_callS C w hz hml hl.1 xk_SF_71 (cSF_checkState_ok l D cA tz I ad (σ)) rfl rfl (Nat.le_of_ble_eq_true rfl) (by decide) (by decide) dSF_take_38 (fun H locs w => ?_)
    refine W.eq (g2 := F0 m 41 ls []) rfl ?_
    refine lv_aload_n hx hb dSF_take_41 rfl (lv_at hl 0 rfl) ?_
    refine xg_SF_68 C w (xI0 hI (by omega)) dSF_take_42 ?_
    refine lv_iconst (v := nI 3) hx hb dSF_take_45 xk_i3 ?_
    refine lv_icmp_ne hx hb dSF_take_46 rfl (fun hh4 => ?_) (fun hh4 => ?_)
    · skip
      refine lv_iconst (v := nI 0) hx hb dSF_take_53 xk_i0 ?_
      refine lv_istore (lv' := [(4, .int (nI 0)), (3, .ref (ad 0 (4 * a + b))), (0, .ref (ad 5 0)), (1, .int (nI a)), (2, .int (nI b))]) hx hb dSF_take_54 hl (by decide) rfl (fun ls hl => ?_)
      refine lv_aload_n hx hb dSF_take_56 rfl (lv_at hl 1 rfl) ?_
      refine lv_iconst (v := nI 0) hx hb dSF_take_57 xk_i0 ?_
      refine xp_SF_68 C w (xI0 hI (by omega)) dSF_take_58 (fun H locs w => ?_)
      refine lv_iload hx hb dSF_take_61 (lv_at hl 0 rfl) ?_
      exact xd_zf C w hr hlk dSF_take_63 (by grind) rfl
    · skip
      refine lv_iconst (v := nI 1) hx hb dSF_take_49 xk_i1 ?_
      refine lv_goto hx hb dSF_take_50 rfl ?_
      refine lv_istore (lv' := [(4, .int (nI 1)), (3, .ref (ad 0 (4 * a + b))), (0, .ref (ad 5 0)), (1, .int (nI a)), (2, .int (nI b))]) hx hb dSF_take_54 hl (by decide) rfl (fun ls hl => ?_)
      refine lv_aload_n hx hb dSF_take_56 rfl (lv_at hl 1 rfl) ?_
      refine lv_iconst (v := nI 0) hx hb dSF_take_57 xk_i0 ?_
      refine xp_SF_68 C w (xI0 hI (by omega)) dSF_take_58 (fun H locs w => ?_)
      refine lv_iload hx hb dSF_take_61 (lv_at hl 0 rfl) ?_
      exact xd_zt C w hr hlk dSF_take_63 (by grind) rfl
set_option maxRecDepth 100000 in
set_option maxHeartbeats 4000000 in
theorem cSF_base_ok (l : Launch) (D : va_G) (cA : Nat → ClassId) (tz : Nat) (I : List (Nat × Nat)) (ad : Nat → Nat → Nat) (σ : xMem) (a b : Nat) (hI : xI I) (ha : a < 4) (hb2 : b ≤ 2) : xD l ySF_base bSF_base 3 none 2 [.ref (ad 5 0), .int (nI a), .int (nI b)] D cA tz I ad σ none (xu3 σ 10 0 a (nI b)) := by
  refine xd_of (by decide) (by simp [lg_sl, Value.category]) ?_
  intro p e s m args below meth c A ls C hr hlk hml hl w hz
  obtain ⟨hx, hb, hown, hts⟩ := id C
  have hl : lv_has ls 3 [(0, .ref (ad 5 0)), (1, .int (nI a)), (2, .int (nI b))] := hl
  refine lv_iload_n hx hb dSF_base_0 rfl (lv_at hl 1 rfl) ?_
  refine lv_iconst (v := nI 4) hx hb dSF_base_1 xk_i4 ?_
  refine xd_callS C w hz hml hl.1 xk_SF_57 (cSF_checkIndex_ok l D cA tz I ad σ a 4 (by omega) (by decide)) rfl rfl (Nat.le_of_ble_eq_true rfl) (by decide) (by decide) dSF_base_2 (fun H locs w => ?_)
  refine W.eq (g2 := F0 m 5 ls []) rfl ?_
  refine lv_iload_n hx hb dSF_base_5 rfl (lv_at hl 2 rfl) ?_
  refine lv_if_lt hx hb dSF_base_6 rfl (fun hh1 => absurd hh1 (nI_pos (by omega))) (fun hh1 => ?_)
  refine lv_iload_n hx hb dSF_base_9 rfl (lv_at hl 2 rfl) ?_
  refine lv_iconst (v := nI 2) hx hb dSF_base_10 xk_i2 ?_
  refine lv_icmp_gt hx hb dSF_base_11 rfl (fun hh2 => absurd hh2 (nI_nlt (by omega) (by omega))) (fun hh2 => ?_)
  refine lv_iconst (v := nI 1) hx hb dSF_base_14 xk_i1 ?_
  refine lv_goto hx hb dSF_base_15 rfl ?_
  refine xd_callS C w hz hml hl.1 xk_SF_118 (cSF_checkArgument_ok l D cA tz I ad σ) rfl rfl (Nat.le_of_ble_eq_true rfl) (by decide) (by decide) dSF_base_19 (fun H locs w => ?_)
  refine W.eq (g2 := F0 m 22 ls []) rfl ?_
  refine lv_aload_n hx hb dSF_base_22 rfl (lv_at hl 0 rfl) ?_
  refine xg_SF_30 C w (xI5 hI) dSF_base_23 ?_
  refine lv_iload_n hx hb dSF_base_26 rfl (lv_at hl 1 rfl) ?_
  refine lv_iload_n hx hb dSF_base_27 rfl (lv_at hl 2 rfl) ?_
  refine xs_iast C w (xI10 hI) (fun _ => rfl) a rfl (by omega) (by decide) dSF_base_28 (fun H locs w => ?_)
  exact xd_vret C w hr hlk dSF_base_29 rfl
set_option maxRecDepth 100000 in
set_option maxHeartbeats 4000000 in
theorem cSF_credits_ok (l : Launch) (D : va_G) (cA : Nat → ClassId) (tz : Nat) (I : List (Nat × Nat)) (ad : Nat → Nat → Nat) (σ : xMem) (t : Nat) (hI : xI I) (h7 : σ 7 0 0 = nI 3) (ht : t < 3) : xD l ySF_credits bSF_credits 2 (some .int) 2 [.ref (ad 5 0), .int (nI t)] D cA tz I ad σ (some (.int (σ 2 t 2))) σ := by
  refine xd_of (by decide) (by simp [lg_sl, Value.category]) ?_
  intro p e s m args below meth c A ls C hr hlk hml hl w hz
  obtain ⟨hx, hb, hown, hts⟩ := id C
  have hl : lv_has ls 2 [(0, .ref (ad 5 0)), (1, .int (nI t))] := hl
  refine lv_iload_n hx hb dSF_credits_0 rfl (lv_at hl 1 rfl) ?_
  refine lv_iconst (v := nI 3) hx hb dSF_credits_1 xk_i3 ?_
  refine xd_callS C w hz hml hl.1 xk_SF_57 (cSF_checkIndex_ok l D cA tz I ad σ t 3 (by omega) (by decide)) rfl rfl (Nat.le_of_ble_eq_true rfl) (by decide) (by decide) dSF_credits_2 (fun H locs w => ?_)
  refine W.eq (g2 := F0 m 5 ls []) rfl ?_
  refine lv_aload_n hx hb dSF_credits_5 rfl (lv_at hl 0 rfl) ?_
  refine xg_SF_17 C w (xI5 hI) dSF_credits_6 ?_
  refine lv_iload_n hx hb dSF_credits_9 rfl (lv_at hl 1 rfl) ?_
  refine xa_7 C w (xI7 hI) h7 t rfl (by omega) dSF_credits_10 ?_
  refine xg_SF_145 C w (xI2 hI (by omega)) dSF_credits_11 ?_
  exact xd_iret C w hr hlk dSF_credits_14 (rfl) rfl
set_option maxRecDepth 100000 in
set_option maxHeartbeats 4000000 in
theorem cSF_holder_ok (l : Launch) (D : va_G) (cA : Nat → ClassId) (tz : Nat) (I : List (Nat × Nat)) (ad : Nat → Nat → Nat) (σ : xMem) (t : Nat) (hI : xI I) (h7 : σ 7 0 0 = nI 3) (ht : t < 3) : xD l ySF_holder bSF_holder 2 (some .int) 2 [.ref (ad 5 0), .int (nI t)] D cA tz I ad σ (some (.int (σ 2 t 3))) σ := by
  refine xd_of (by decide) (by simp [lg_sl, Value.category]) ?_
  intro p e s m args below meth c A ls C hr hlk hml hl w hz
  obtain ⟨hx, hb, hown, hts⟩ := id C
  have hl : lv_has ls 2 [(0, .ref (ad 5 0)), (1, .int (nI t))] := hl
  refine lv_iload_n hx hb dSF_holder_0 rfl (lv_at hl 1 rfl) ?_
  refine lv_iconst (v := nI 3) hx hb dSF_holder_1 xk_i3 ?_
  refine xd_callS C w hz hml hl.1 xk_SF_57 (cSF_checkIndex_ok l D cA tz I ad σ t 3 (by omega) (by decide)) rfl rfl (Nat.le_of_ble_eq_true rfl) (by decide) (by decide) dSF_holder_2 (fun H locs w => ?_)
  refine W.eq (g2 := F0 m 5 ls []) rfl ?_
  refine lv_aload_n hx hb dSF_holder_5 rfl (lv_at hl 0 rfl) ?_
  refine xg_SF_17 C w (xI5 hI) dSF_holder_6 ?_
  refine lv_iload_n hx hb dSF_holder_9 rfl (lv_at hl 1 rfl) ?_
  refine xa_7 C w (xI7 hI) h7 t rfl (by omega) dSF_holder_10 ?_
  refine xg_SF_142 C w (xI2 hI (by omega)) dSF_holder_11 ?_
  exact xd_iret C w hr hlk dSF_holder_14 (rfl) rfl
set_option maxRecDepth 100000 in
set_option maxHeartbeats 4000000 in
theorem cSF_memory_ok (l : Launch) (D : va_G) (cA : Nat → ClassId) (tz : Nat) (I : List (Nat × Nat)) (ad : Nat → Nat → Nat) (σ : xMem) (a : Nat) (hI : xI I) (ha : a < 48) : xD l ySF_memory bSF_memory 2 (some .int) 2 [.ref (ad 5 0), .int (nI a)] D cA tz I ad σ (some (.int (σ 8 0 a))) σ := by
  refine xd_of (by decide) (by simp [lg_sl, Value.category]) ?_
  intro p e s m args below meth c A ls C hr hlk hml hl w hz
  obtain ⟨hx, hb, hown, hts⟩ := id C
  have hl : lv_has ls 2 [(0, .ref (ad 5 0)), (1, .int (nI a))] := hl
  refine lv_iload_n hx hb dSF_memory_0 rfl (lv_at hl 1 rfl) ?_
  refine lv_bipush (v := nI 48) hx hb dSF_memory_1 xk_b48 ?_
  refine xd_callS C w hz hml hl.1 xk_SF_57 (cSF_checkIndex_ok l D cA tz I ad σ a 48 (by omega) (by decide)) rfl rfl (Nat.le_of_ble_eq_true rfl) (by decide) (by decide) dSF_memory_3 (fun H locs w => ?_)
  refine W.eq (g2 := F0 m 6 ls []) rfl ?_
  refine lv_aload_n hx hb dSF_memory_6 rfl (lv_at hl 0 rfl) ?_
  refine xg_SF_21 C w (xI5 hI) dSF_memory_7 ?_
  refine lv_iload_n hx hb dSF_memory_10 rfl (lv_at hl 1 rfl) ?_
  refine xr_iald C w (xI8 hI) rfl 0 rfl a rfl (by omega) (by decide) dSF_memory_11 ?_
  exact xd_iret C w hr hlk dSF_memory_12 (rfl) rfl
set_option maxRecDepth 100000 in
set_option maxHeartbeats 4000000 in
theorem cSF_waits_ok (l : Launch) (D : va_G) (cA : Nat → ClassId) (tz : Nat) (I : List (Nat × Nat)) (ad : Nat → Nat → Nat) (σ : xMem) (a : Nat) (hI : xI I) (h6 : σ 6 0 0 = nI 16) (ha : a < 4) : xD l ySF_waits bSF_waits 5 (some .int) 2 [.ref (ad 5 0), .int (nI a)] D cA tz I ad σ (some (.int (xf_wait σ (xf_wts σ a 4)))) σ := by
  refine xd_of (by decide) (by simp [lg_sl, Value.category]) ?_
  intro p e s m args below meth c A ls C hr hlk hml hl w hz
  obtain ⟨hx, hb, hown, hts⟩ := id C
  have hl : lv_has ls 5 [(0, .ref (ad 5 0)), (1, .int (nI a))] := hl
  refine lv_iload_n hx hb dSF_waits_0 rfl (lv_at hl 1 rfl) ?_
  refine lv_iconst (v := nI 4) hx hb dSF_waits_1 xk_i4 ?_
  refine xd_callS C w hz hml hl.1 xk_SF_57 (cSF_checkIndex_ok l D cA tz I ad σ a 4 (by omega) (by decide)) rfl rfl (Nat.le_of_ble_eq_true rfl) (by decide) (by decide) dSF_waits_2 (fun H locs w => ?_)
  refine W.eq (g2 := F0 m 5 ls []) rfl ?_
  refine lv_null hx hb dSF_waits_5 ?_
  refine lv_astore_nN (lv' := [(2, .null), (0, .ref (ad 5 0)), (1, .int (nI a))]) hx hb dSF_waits_6 rfl hl (by decide) rfl (fun ls hl => ?_)
  refine lv_iconst (v := nI 0) hx hb dSF_waits_7 xk_i0 ?_
  refine lv_istore_n (lv' := [(3, .int (nI 0)), (2, .null), (0, .ref (ad 5 0)), (1, .int (nI a))]) hx hb dSF_waits_8 rfl hl (by decide) rfl (fun ls hl => ?_)
  refine xl_up (Wg := fun H locs ls => W p l e _ s m args below meth c H locs _ _ _ (F0 m 9 ls [])) (K := fun i H locs ls => xr_W xCl (xT cA) D I ad (xc cA tz ad σ) A s H locs ∧ lv_has ls 5 [(0, .ref (ad 5 0)), (1, .int (nI a)), (2, xo ad (xf_wts σ a i)), (3, .int (nI i))]) 4 ?_ ?_ 0 _ _ _ (by omega) ⟨w, lv_sub hl [2, 3, 1, 0] rfl⟩
  · skip
    intro H locs ls ⟨w, hl⟩
    refine lv_iload_n hx hb dSF_waits_9 rfl (lv_at hl 3 rfl) ?_
    refine lv_iconst (v := nI 4) hx hb dSF_waits_10 xk_i4 ?_
    refine lv_icmp_ge hx hb dSF_waits_11 rfl (fun _ => ?_) (fun hq => absurd (nI_le (by omega) (by omega)) hq)
    rcases hbe : xf_wts σ a 4 with _ | b
    · skip
      have hl : lv_has ls 5 [(0, .ref (ad 5 0)), (1, .int (nI a)), (2, .null), (3, .int (nI 4))] := by rw [hbe] at hl; exact hl
      refine lv_aload_nN hx hb dSF_waits_53 rfl (lv_at hl 2 rfl) ?_
      refine lv_ifnonnullN hx hb dSF_waits_54 ?_
      refine lv_iconst (v := -1) hx hb dSF_waits_57 xk_im1 ?_
      refine lv_goto hx hb dSF_waits_58 rfl ?_
      exact xd_iret C w hr hlk dSF_waits_65 (rfl) rfl
    · skip
      have hl : lv_has ls 5 [(0, .ref (ad 5 0)), (1, .int (nI a)), (2, .ref (ad 0 b)), (3, .int (nI 4))] := by rw [hbe] at hl; exact hl
      have hb16 := xf_wts_lt ha (by omega) hbe
      refine lv_aload_n hx hb dSF_waits_53 rfl (lv_at hl 2 rfl) ?_
      refine lv_ifnonnull hx hb dSF_waits_54 rfl ?_
      refine lv_aload_n hx hb dSF_waits_61 rfl (lv_at hl 2 rfl) ?_
      refine xg_SF_139 C w (xI0 hI (by omega)) dSF_waits_62 ?_
      exact xd_iret C w hr hlk dSF_waits_65 (rfl) rfl
  · skip
    intro i H locs ls hii ⟨w, hl⟩ ihi
    refine lv_iload_n hx hb dSF_waits_9 rfl (lv_at hl 3 rfl) ?_
    refine lv_iconst (v := nI 4) hx hb dSF_waits_10 xk_i4 ?_
    refine lv_icmp_ge hx hb dSF_waits_11 rfl (fun hq => absurd hq (nI_ge (by omega) (by omega))) (fun _ => ?_)
    refine lv_aload_n hx hb dSF_waits_14 rfl (lv_at hl 0 rfl) ?_
    refine lv_iload_n hx hb dSF_waits_15 rfl (lv_at hl 1 rfl) ?_
    refine lv_iload_n hx hb dSF_waits_16 rfl (lv_at hl 3 rfl) ?_
    refine xd_callV C w hz hml hl.1 xk_SF_64 (cSF_tagOf l D cA tz I ad σ a i hI h6 (by omega)) (xI5 hI) rfl rfl rfl rfl (Nat.le_of_ble_eq_true rfl) (by decide) (by decide) dSF_waits_17 (fun H locs w => ?_)
    refine W.eq (g2 := F0 m 20 ls [.ref (ad 0 (4 * a + i))]) rfl ?_
    refine lv_astore (lv' := [(4, .ref (ad 0 (4 * a + i))), (0, .ref (ad 5 0)), (1, .int (nI a)), (2, xo ad (xf_wts σ a i)), (3, .int (nI i))]) hx hb dSF_waits_20 hl (by decide) rfl (fun ls hl => ?_)
    refine lv_aload hx hb dSF_waits_22 (lv_at hl 0 rfl) ?_
    refine xg_SF_68 C w (xI0 hI (by omega)) dSF_waits_24 ?_
    refine lv_iconst (v := nI 1) hx hb dSF_waits_27 xk_i1 ?_
    refine lv_icmp_ne hx hb dSF_waits_28 rfl (fun hh1 => ?_) (fun hh1 => ?_)
    · skip
      have hbn : xf_wts σ a (i + 1) = xf_wts σ a i := by rw [xf_wts_s]; unfold xf_step; rw [xif_f (fun z => hh1 z.1)]
      have hl : lv_has ls 5 [(4, .ref (ad 0 (4 * a + i))), (0, .ref (ad 5 0)), (1, .int (nI a)), (2, xo ad (xf_wts σ a (i + 1))), (3, .int (nI i))] := by rw [hbn]; exact hl
      refine lv_iinc (lv' := [(3, .int (nI (i + 1))), (4, .ref (ad 0 (4 * a + i))), (0, .ref (ad 5 0)), (1, .int (nI a)), (2, xo ad (xf_wts σ a (i + 1)))]) hx hb dSF_waits_47 hl (k := 4) rfl (xn_inc _) (by decide) (by simp [xo_cat]) (fun ls hl => ?_)
      refine lv_goto hx hb dSF_waits_50 rfl ?_
      exact ihi _ _ _ ⟨w, lv_sub hl [2, 3, 4, 0] rfl⟩
    · skip
      rcases hbe : xf_wts σ a i with _ | b
      · skip
        have hl : lv_has ls 5 [(4, .ref (ad 0 (4 * a + i))), (0, .ref (ad 5 0)), (1, .int (nI a)), (2, .null), (3, .int (nI i))] := by rw [hbe] at hl; exact hl
        refine lv_aload_nN hx hb dSF_waits_31 rfl (lv_at hl 3 rfl) ?_
        refine lv_ifnullN hx hb dSF_waits_32 rfl ?_
        refine lv_aload hx hb dSF_waits_44 (lv_at hl 0 rfl) ?_
        refine lv_astore_n (lv' := [(2, .ref (ad 0 (4 * a + i))), (4, .ref (ad 0 (4 * a + i))), (0, .ref (ad 5 0)), (1, .int (nI a)), (3, .int (nI i))]) hx hb dSF_waits_46 rfl hl (by decide) rfl (fun ls hl => ?_)
        have hbn : xf_wts σ a (i + 1) = some (4 * a + i) := by rw [xf_wts_s]; unfold xf_step; rw [xif_t ⟨hh1, fun x hx => (by rw [hbe] at hx; cases hx)⟩]
        have hl : lv_has ls 5 [(2, xo ad (xf_wts σ a (i + 1))), (4, .ref (ad 0 (4 * a + i))), (0, .ref (ad 5 0)), (1, .int (nI a)), (3, .int (nI i))] := by rw [hbn]; exact hl
        refine lv_iinc (lv' := [(3, .int (nI (i + 1))), (2, xo ad (xf_wts σ a (i + 1))), (4, .ref (ad 0 (4 * a + i))), (0, .ref (ad 5 0)), (1, .int (nI a))]) hx hb dSF_waits_47 hl (k := 4) rfl (xn_inc _) (by decide) (by simp [xo_cat]) (fun ls hl => ?_)
        refine lv_goto hx hb dSF_waits_50 rfl ?_
        exact ihi _ _ _ ⟨w, lv_sub hl [3, 4, 1, 0] rfl⟩
      · skip
        have hl : lv_has ls 5 [(4, .ref (ad 0 (4 * a + i))), (0, .ref (ad 5 0)), (1, .int (nI a)), (2, .ref (ad 0 b)), (3, .int (nI i))] := by rw [hbe] at hl; exact hl
        have hb16 := xf_wts_lt ha (by omega) hbe
        refine lv_aload_n hx hb dSF_waits_31 rfl (lv_at hl 3 rfl) ?_
        refine lv_ifnull hx hb dSF_waits_32 ?_
        refine lv_aload hx hb dSF_waits_35 (lv_at hl 0 rfl) ?_
        refine lv_aload_n hx hb dSF_waits_37 rfl (lv_at hl 3 rfl) ?_
        refine xd_callV C w hz hml hl.1 xk_SF_135 (cTG_isBefore l D cA tz I ad σ (4 * a + i) b hI (by omega) hb16) (xI0 hI (by omega)) rfl rfl rfl rfl (Nat.le_of_ble_eq_true rfl) (by decide) (by decide) dSF_waits_38 (fun H locs w => ?_)
        refine W.eq (g2 := F0 m 41 ls [.int (xb (xp_ord σ (4 * a + i) b))]) rfl ?_
        refine xz_ifeq hx hb dSF_waits_41 rfl (fun hh2 => ?_) (fun hh2 => ?_)
        · skip
          have hbn : xf_wts σ a (i + 1) = some b := by rw [xf_wts_s]; unfold xf_step; rw [xif_f (fun z => hh2 (z.2 b hbe)), hbe]
          have hl : lv_has ls 5 [(4, .ref (ad 0 (4 * a + i))), (0, .ref (ad 5 0)), (1, .int (nI a)), (2, xo ad (xf_wts σ a (i + 1))), (3, .int (nI i))] := by rw [hbn]; exact hl
          refine lv_iinc (lv' := [(3, .int (nI (i + 1))), (4, .ref (ad 0 (4 * a + i))), (0, .ref (ad 5 0)), (1, .int (nI a)), (2, xo ad (xf_wts σ a (i + 1)))]) hx hb dSF_waits_47 hl (k := 4) rfl (xn_inc _) (by decide) (by simp [xo_cat]) (fun ls hl => ?_)
          refine lv_goto hx hb dSF_waits_50 rfl ?_
          exact ihi _ _ _ ⟨w, lv_sub hl [2, 3, 4, 0] rfl⟩
        · skip
          refine lv_aload hx hb dSF_waits_44 (lv_at hl 0 rfl) ?_
          refine lv_astore_n (lv' := [(2, .ref (ad 0 (4 * a + i))), (4, .ref (ad 0 (4 * a + i))), (0, .ref (ad 5 0)), (1, .int (nI a)), (3, .int (nI i))]) hx hb dSF_waits_46 rfl hl (by decide) rfl (fun ls hl => ?_)
          have hbn : xf_wts σ a (i + 1) = some (4 * a + i) := by rw [xf_wts_s]; unfold xf_step; rw [xif_t ⟨hh1, fun x hx => (by rw [hbe] at hx; cases hx; exact hh2)⟩]
          have hl : lv_has ls 5 [(2, xo ad (xf_wts σ a (i + 1))), (4, .ref (ad 0 (4 * a + i))), (0, .ref (ad 5 0)), (1, .int (nI a)), (3, .int (nI i))] := by rw [hbn]; exact hl
          refine lv_iinc (lv' := [(3, .int (nI (i + 1))), (2, xo ad (xf_wts σ a (i + 1))), (4, .ref (ad 0 (4 * a + i))), (0, .ref (ad 5 0)), (1, .int (nI a))]) hx hb dSF_waits_47 hl (k := 4) rfl (xn_inc _) (by decide) (by simp [xo_cat]) (fun ls hl => ?_)
          refine lv_goto hx hb dSF_waits_50 rfl ?_
          exact ihi _ _ _ ⟨w, lv_sub hl [3, 4, 1, 0] rfl⟩
set_option maxRecDepth 100000 in
set_option maxHeartbeats 4000000 in
theorem cSF_reset_ok (l : Launch) (D : va_G) (cA : Nat → ClassId) (tz : Nat) (I : List (Nat × Nat)) (ad : Nat → Nat → Nat) (σ : xMem) (a : Nat) (hI : xI I) (h6 : σ 6 0 0 = nI 16) (h7 : σ 7 0 0 = nI 3) (ha : a < 4) : xD l ySF_reset bSF_reset 5 (some .int) 2 [.ref (ad 5 0), .int (nI a)] D cA tz I ad σ (some (.int (nI (xf_cnt σ a 4)))) (xf_rel (xf_rst σ a 4) (nI a) 3) := by
  refine xd_of (by decide) (by simp [lg_sl, Value.category]) ?_
  intro p e s m args below meth c A ls C hr hlk hml hl w hz
  obtain ⟨hx, hb, hown, hts⟩ := id C
  have hl : lv_has ls 5 [(0, .ref (ad 5 0)), (1, .int (nI a))] := hl
  refine lv_iload_n hx hb dSF_reset_0 rfl (lv_at hl 1 rfl) ?_
  refine lv_iconst (v := nI 4) hx hb dSF_reset_1 xk_i4 ?_
  refine xd_callS C w hz hml hl.1 xk_SF_57 (cSF_checkIndex_ok l D cA tz I ad σ a 4 (by omega) (by decide)) rfl rfl (Nat.le_of_ble_eq_true rfl) (by decide) (by decide) dSF_reset_2 (fun H locs w => ?_)
  refine W.eq (g2 := F0 m 5 ls []) rfl ?_
  refine lv_iconst (v := nI 0) hx hb dSF_reset_5 xk_i0 ?_
  refine lv_istore_n (lv' := [(2, .int (nI 0)), (0, .ref (ad 5 0)), (1, .int (nI a))]) hx hb dSF_reset_6 rfl hl (by decide) rfl (fun ls hl => ?_)
  refine lv_iconst (v := nI 0) hx hb dSF_reset_7 xk_i0 ?_
  refine lv_istore_n (lv' := [(3, .int (nI 0)), (2, .int (nI 0)), (0, .ref (ad 5 0)), (1, .int (nI a))]) hx hb dSF_reset_8 rfl hl (by decide) rfl (fun ls hl => ?_)
  refine xl_up (Wg := fun H locs ls => W p l e _ s m args below meth c H locs _ _ _ (F0 m 9 ls [])) (K := fun i H locs ls => xr_W xCl (xT cA) D I ad (xc cA tz ad (xf_rst σ a i)) A s H locs ∧ lv_has ls 5 [(0, .ref (ad 5 0)), (1, .int (nI a)), (2, .int (nI (xf_cnt σ a i))), (3, .int (nI i))]) 4 ?_ ?_ 0 _ _ _ (by omega) ⟨by rw [xf_rst_0]; exact w, lv_sub hl [2, 3, 1, 0] rfl⟩
  · skip
    intro H locs ls ⟨w, hl⟩
    refine lv_iload_n hx hb dSF_reset_9 rfl (lv_at hl 3 rfl) ?_
    refine lv_iconst (v := nI 4) hx hb dSF_reset_10 xk_i4 ?_
    refine lv_icmp_ge hx hb dSF_reset_11 rfl (fun _ => ?_) (fun hq => absurd (nI_le (by omega) (by omega)) hq)
    refine lv_iconst (v := nI 0) hx hb dSF_reset_46 xk_i0 ?_
    refine lv_istore_n (lv' := [(3, .int (nI 0)), (0, .ref (ad 5 0)), (1, .int (nI a)), (2, .int (nI (xf_cnt σ a 4)))]) hx hb dSF_reset_47 rfl hl (by decide) rfl (fun ls hl => ?_)
    refine xl_up (Wg := fun H locs ls => W p l e _ s m args below meth c H locs _ _ _ (F0 m 48 ls [])) (K := fun i H locs ls => xr_W xCl (xT cA) D I ad (xc cA tz ad (xf_rel (xf_rst σ a 4) (nI a) i)) A s H locs ∧ lv_has ls 5 [(0, .ref (ad 5 0)), (1, .int (nI a)), (2, .int (nI (xf_cnt σ a 4))), (3, .int (nI i))]) 3 ?_ ?_ 0 _ _ _ (by omega) ⟨by rw [xf_rel_0]; exact w, lv_sub hl [1, 2, 3, 0] rfl⟩
    · skip
      intro H locs ls ⟨w, hl⟩
      refine lv_iload_n hx hb dSF_reset_48 rfl (lv_at hl 3 rfl) ?_
      refine lv_iconst (v := nI 3) hx hb dSF_reset_49 xk_i3 ?_
      refine lv_icmp_ge hx hb dSF_reset_50 rfl (fun _ => ?_) (fun hq => absurd (nI_le (by omega) (by omega)) hq)
      refine lv_iload_n hx hb dSF_reset_82 rfl (lv_at hl 2 rfl) ?_
      exact xd_iret C w hr hlk dSF_reset_83 (rfl) rfl
    · skip
      intro i H locs ls hii ⟨w, hl⟩ ihi
      refine lv_iload_n hx hb dSF_reset_48 rfl (lv_at hl 3 rfl) ?_
      refine lv_iconst (v := nI 3) hx hb dSF_reset_49 xk_i3 ?_
      refine lv_icmp_ge hx hb dSF_reset_50 rfl (fun hq => absurd hq (nI_ge (by omega) (by omega))) (fun _ => ?_)
      refine lv_aload_n hx hb dSF_reset_53 rfl (lv_at hl 0 rfl) ?_
      refine xg_SF_17 C w (xI5 hI) dSF_reset_54 ?_
      refine lv_iload_n hx hb dSF_reset_57 rfl (lv_at hl 3 rfl) ?_
      refine xa_7 C w (xI7 hI) h7 i rfl (by omega) dSF_reset_58 ?_
      refine xg_SF_142 C w (xI2 hI (by omega)) dSF_reset_59 ?_
      refine lv_iload_n hx hb dSF_reset_62 rfl (lv_at hl 1 rfl) ?_
      refine lv_icmp_ne hx hb dSF_reset_63 rfl (fun hh1 => ?_) (fun hh1 => ?_)
      · skip
        refine lv_iinc (lv' := [(3, .int (nI (i + 1))), (0, .ref (ad 5 0)), (1, .int (nI a)), (2, .int (nI (xf_cnt σ a 4)))]) hx hb dSF_reset_76 hl (k := 3) rfl (xn_inc _) (by decide) rfl (fun ls hl => ?_)
        refine lv_goto hx hb dSF_reset_79 rfl ?_
        exact ihi _ _ _ ⟨xf_rel_f hh1 ▸ w, lv_sub hl [1, 2, 3, 0] rfl⟩
      · skip
        refine lv_aload_n hx hb dSF_reset_66 rfl (lv_at hl 0 rfl) ?_
        refine xg_SF_17 C w (xI5 hI) dSF_reset_67 ?_
        refine lv_iload_n hx hb dSF_reset_70 rfl (lv_at hl 3 rfl) ?_
        refine xa_7 C w (xI7 hI) h7 i rfl (by omega) dSF_reset_71 ?_
        refine lv_iconst (v := -1) hx hb dSF_reset_72 xk_im1 ?_
        refine xp_SF_142 C w (xI2 hI (by omega)) dSF_reset_73 (fun H locs w => ?_)
        refine lv_iinc (lv' := [(3, .int (nI (i + 1))), (0, .ref (ad 5 0)), (1, .int (nI a)), (2, .int (nI (xf_cnt σ a 4)))]) hx hb dSF_reset_76 hl (k := 3) rfl (xn_inc _) (by decide) rfl (fun ls hl => ?_)
        refine lv_goto hx hb dSF_reset_79 rfl ?_
        exact ihi _ _ _ ⟨xf_rel_t hh1 ▸ w, lv_sub hl [1, 2, 3, 0] rfl⟩
  · skip
    intro i H locs ls hii ⟨w, hl⟩ ihi
    refine lv_iload_n hx hb dSF_reset_9 rfl (lv_at hl 3 rfl) ?_
    refine lv_iconst (v := nI 4) hx hb dSF_reset_10 xk_i4 ?_
    refine lv_icmp_ge hx hb dSF_reset_11 rfl (fun hq => absurd hq (nI_ge (by omega) (by omega))) (fun _ => ?_)
    refine lv_aload_n hx hb dSF_reset_14 rfl (lv_at hl 0 rfl) ?_
    refine lv_iload_n hx hb dSF_reset_15 rfl (lv_at hl 1 rfl) ?_
    refine lv_iload_n hx hb dSF_reset_16 rfl (lv_at hl 3 rfl) ?_
    refine xd_callV C w hz hml hl.1 xk_SF_64 (cSF_tagOf l D cA tz I ad (xf_rst σ a i) a i hI h6 (by omega)) (xI5 hI) rfl rfl rfl rfl (Nat.le_of_ble_eq_true rfl) (by decide) (by decide) dSF_reset_17 (fun H locs w => ?_)
    refine W.eq (g2 := F0 m 20 ls [.ref (ad 0 (4 * a + i))]) rfl ?_
    refine lv_astore (lv' := [(4, .ref (ad 0 (4 * a + i))), (0, .ref (ad 5 0)), (1, .int (nI a)), (2, .int (nI (xf_cnt σ a i))), (3, .int (nI i))]) hx hb dSF_reset_20 hl (by decide) rfl (fun ls hl => ?_)
    refine lv_aload hx hb dSF_reset_22 (lv_at hl 0 rfl) ?_
    refine xg_SF_68 C w (xI0 hI (by omega)) dSF_reset_24 ?_
    refine lv_iconst (v := nI 1) hx hb dSF_reset_27 xk_i1 ?_
    refine lv_icmp_ne hx hb dSF_reset_28 rfl (fun hh2 => ?_) (fun hh2 => ?_)
    · skip
      have hl : lv_has ls 5 [(4, .ref (ad 0 (4 * a + i))), (0, .ref (ad 5 0)), (1, .int (nI a)), (2, .int (nI (xf_cnt σ a (i + 1)))), (3, .int (nI i))] := by rw [← xf_cnt_f hh2]; exact hl
      refine lv_iinc (lv' := [(3, .int (nI (i + 1))), (4, .ref (ad 0 (4 * a + i))), (0, .ref (ad 5 0)), (1, .int (nI a)), (2, .int (nI (xf_cnt σ a (i + 1))))]) hx hb dSF_reset_40 hl (k := 4) rfl (xn_inc _) (by decide) rfl (fun ls hl => ?_)
      refine lv_goto hx hb dSF_reset_43 rfl ?_
      exact ihi _ _ _ ⟨xf_rst_f hh2 ▸ w, lv_sub hl [2, 3, 4, 0] rfl⟩
    · skip
      refine lv_aload hx hb dSF_reset_31 (lv_at hl 0 rfl) ?_
      refine lv_iconst (v := nI 0) hx hb dSF_reset_33 xk_i0 ?_
      refine xp_SF_68 C w (xI0 hI (by omega)) dSF_reset_34 (fun H locs w => ?_)
      refine lv_iinc (lv' := [(2, .int (nI (xf_cnt σ a i + 1))), (4, .ref (ad 0 (4 * a + i))), (0, .ref (ad 5 0)), (1, .int (nI a)), (3, .int (nI i))]) hx hb dSF_reset_37 hl (k := 3) rfl (xn_inc _) (by decide) rfl (fun ls hl => ?_)
      have hl : lv_has ls 5 [(2, .int (nI (xf_cnt σ a (i + 1)))), (4, .ref (ad 0 (4 * a + i))), (0, .ref (ad 5 0)), (1, .int (nI a)), (3, .int (nI i))] := by rw [← xf_cnt_t hh2]; exact hl
      refine lv_iinc (lv' := [(3, .int (nI (i + 1))), (2, .int (nI (xf_cnt σ a (i + 1)))), (4, .ref (ad 0 (4 * a + i))), (0, .ref (ad 5 0)), (1, .int (nI a))]) hx hb dSF_reset_40 hl (k := 4) rfl (xn_inc _) (by decide) rfl (fun ls hl => ?_)
      refine lv_goto hx hb dSF_reset_43 rfl ?_
      exact ihi _ _ _ ⟨xf_rst_t hh2 ▸ w, lv_sub hl [3, 4, 1, 0] rfl⟩
set_option maxRecDepth 100000 in
set_option maxHeartbeats 4000000 in
theorem cSF_checkRequest_bar (l : Launch) (D : va_G) (cA : Nat → ClassId) (tz : Nat) (I : List (Nat × Nat)) (ad : Nat → Nat → Nat) (σ : xMem) (x y : Int32) : xD l ySF_checkRequest bSF_checkRequest 4 none 2 [.int (nI 4), .int x, .int y] D cA tz I ad σ none σ := by
  refine xd_of (by decide) (by simp [lg_sl, Value.category]) ?_
  intro p e s m args below meth c A ls C hr hlk hml hl w hz
  obtain ⟨hx, hb, hown, hts⟩ := id C
  have hl : lv_has ls 4 [(0, .int (nI 4)), (1, .int x), (2, .int y)] := hl
  refine lv_iload_n hx hb dSF_checkRequest_0 rfl (lv_at hl 0 rfl) ?_
  refine lv_if_lt hx hb dSF_checkRequest_1 rfl (fun hh1 => absurd hh1 (by decide)) (fun hh1 => ?_)
  refine lv_iload_n hx hb dSF_checkRequest_4 rfl (lv_at hl 0 rfl) ?_
  refine lv_iconst (v := nI 4) hx hb dSF_checkRequest_5 xk_i4 ?_
  refine lv_icmp_gt hx hb dSF_checkRequest_6 rfl (fun hh2 => absurd hh2 (by decide)) (fun hh2 => ?_)
  refine lv_iconst (v := nI 1) hx hb dSF_checkRequest_9 xk_i1 ?_
  refine lv_goto hx hb dSF_checkRequest_10 rfl ?_
  refine xd_callS C w hz hml hl.1 xk_SF_118 (cSF_checkArgument_ok l D cA tz I ad σ) rfl rfl (Nat.le_of_ble_eq_true rfl) (by decide) (by decide) dSF_checkRequest_14 (fun H locs w => ?_)
  refine W.eq (g2 := F0 m 17 ls []) rfl ?_
  refine lv_iload_n hx hb dSF_checkRequest_17 rfl (lv_at hl 0 rfl) ?_
  refine lv_iconst (v := nI 4) hx hb dSF_checkRequest_18 xk_i4 ?_
  refine lv_icmp_ne hx hb dSF_checkRequest_19 rfl (fun hh3 => absurd rfl hh3) (fun hh3 => ?_)
  exact xd_vret C w hr hlk dSF_checkRequest_22 rfl
set_option maxRecDepth 100000 in
set_option maxHeartbeats 4000000 in
theorem cSF_checkRequest_ok (l : Launch) (D : va_G) (cA : Nat → ClassId) (tz : Nat) (I : List (Nat × Nat)) (ad : Nat → Nat → Nat) (σ : xMem) (k a n : Nat) (hk4 : k < 4) (ha : a < 64) (h1n : 1 ≤ n) (hn4 : n ≤ 4) (hn1 : k = 2 ∨ k = 3 → n ≤ 1) (h16 : a / 16 = (a + n - 1) / 16) : xD l ySF_checkRequest bSF_checkRequest 4 none 2 [.int (nI k), .int (nI a), .int (nI n)] D cA tz I ad σ none σ := by
  refine xd_of (by decide) (by simp [lg_sl, Value.category]) ?_
  intro p e s m args below meth c A ls C hr hlk hml hl w hz
  obtain ⟨hx, hb, hown, hts⟩ := id C
  have hl : lv_has ls 4 [(0, .int (nI k)), (1, .int (nI a)), (2, .int (nI n))] := hl
  refine lv_iload_n hx hb dSF_checkRequest_0 rfl (lv_at hl 0 rfl) ?_
  refine lv_if_lt hx hb dSF_checkRequest_1 rfl (fun hh1 => absurd hh1 (nI_pos (by omega))) (fun hh1 => ?_)
  refine lv_iload_n hx hb dSF_checkRequest_4 rfl (lv_at hl 0 rfl) ?_
  refine lv_iconst (v := nI 4) hx hb dSF_checkRequest_5 xk_i4 ?_
  refine lv_icmp_gt hx hb dSF_checkRequest_6 rfl (fun hh2 => absurd hh2 (nI_nlt (by omega) (by omega))) (fun hh2 => ?_)
  refine lv_iconst (v := nI 1) hx hb dSF_checkRequest_9 xk_i1 ?_
  refine lv_goto hx hb dSF_checkRequest_10 rfl ?_
  refine xd_callS C w hz hml hl.1 xk_SF_118 (cSF_checkArgument_ok l D cA tz I ad σ) rfl rfl (Nat.le_of_ble_eq_true rfl) (by decide) (by decide) dSF_checkRequest_14 (fun H locs w => ?_)
  refine W.eq (g2 := F0 m 17 ls []) rfl ?_
  refine lv_iload_n hx hb dSF_checkRequest_17 rfl (lv_at hl 0 rfl) ?_
  refine lv_iconst (v := nI 4) hx hb dSF_checkRequest_18 xk_i4 ?_
  refine lv_icmp_ne hx hb dSF_checkRequest_19 rfl (fun hh3 => ?_) (fun hh3 => absurd ((nI_eq (by omega) (by omega)).mp hh3) (by omega))
  refine lv_iload_n hx hb dSF_checkRequest_23 rfl (lv_at hl 0 rfl) ?_
  refine lv_iconst (v := nI 2) hx hb dSF_checkRequest_24 xk_i2 ?_
  refine lv_icmp_eq hx hb dSF_checkRequest_25 rfl (fun hh4 => ?_) (fun hh4 => ?_)
  · skip
    refine lv_iconst (v := nI 1) hx hb dSF_checkRequest_33 xk_i1 ?_
    refine lv_goto hx hb dSF_checkRequest_34 rfl ?_
    refine lv_istore_n (lv' := [(3, .int (nI 1)), (0, .int (nI k)), (1, .int (nI a)), (2, .int (nI n))]) hx hb dSF_checkRequest_38 rfl hl (by decide) rfl (fun ls hl => ?_)
    refine lv_iload_n hx hb dSF_checkRequest_39 rfl (lv_at hl 2 rfl) ?_
    refine lv_if_lt hx hb dSF_checkRequest_40 rfl (fun hh5 => absurd hh5 (nI_pos (by omega))) (fun hh5 => ?_)
    refine lv_iload_n hx hb dSF_checkRequest_43 rfl (lv_at hl 2 rfl) ?_
    refine lv_bipush (v := nI 64) hx hb dSF_checkRequest_44 xk_b64 ?_
    refine lv_icmp_ge hx hb dSF_checkRequest_46 rfl (fun hh6 => absurd hh6 (nI_ge (by omega) (by omega))) (fun hh6 => ?_)
    refine lv_iconst (v := nI 1) hx hb dSF_checkRequest_49 xk_i1 ?_
    refine lv_goto hx hb dSF_checkRequest_50 rfl ?_
    refine xd_callS C w hz hml hl.1 xk_SF_118 (cSF_checkArgument_ok l D cA tz I ad σ) rfl rfl (Nat.le_of_ble_eq_true rfl) (by decide) (by decide) dSF_checkRequest_54 (fun H locs w => ?_)
    refine W.eq (g2 := F0 m 57 ls []) rfl ?_
    refine lv_iload_n hx hb dSF_checkRequest_57 rfl (lv_at hl 3 rfl) ?_
    refine lv_iconst (v := nI 1) hx hb dSF_checkRequest_58 xk_i1 ?_
    refine lv_icmp_lt hx hb dSF_checkRequest_59 rfl (fun hh7 => absurd hh7 (nI_nlt (by omega) (by omega))) (fun hh7 => ?_)
    refine lv_iload_n hx hb dSF_checkRequest_62 rfl (lv_at hl 3 rfl) ?_
    refine lv_iload_n hx hb dSF_checkRequest_63 rfl (lv_at hl 0 rfl) ?_
    refine lv_icmp_gt hx hb dSF_checkRequest_64 rfl (fun hh8 => absurd hh8 (nI_nlt (by have hq := hn1 (by grind [nI_eq]); omega) (by omega))) (fun hh8 => ?_)
    refine lv_iconst (v := nI 1) hx hb dSF_checkRequest_67 xk_i1 ?_
    refine lv_goto hx hb dSF_checkRequest_68 rfl ?_
    refine xd_callS C w hz hml hl.1 xk_SF_118 (cSF_checkArgument_ok l D cA tz I ad σ) rfl rfl (Nat.le_of_ble_eq_true rfl) (by decide) (by decide) dSF_checkRequest_72 (fun H locs w => ?_)
    refine W.eq (g2 := F0 m 75 ls []) rfl ?_
    refine lv_iload_n hx hb dSF_checkRequest_75 rfl (lv_at hl 2 rfl) ?_
    refine lv_bipush (v := nI 16) hx hb dSF_checkRequest_76 xk_b16 ?_
    refine xn_div hx hb dSF_checkRequest_78 (by omega) (by decide) (by decide) ?_
    refine lv_iload_n hx hb dSF_checkRequest_79 rfl (lv_at hl 2 rfl) ?_
    refine lv_iload_n hx hb dSF_checkRequest_80 rfl (lv_at hl 3 rfl) ?_
    refine xn_add hx hb dSF_checkRequest_81 ?_
    refine lv_iconst (v := nI 1) hx hb dSF_checkRequest_82 xk_i1 ?_
    refine xn_sub hx hb dSF_checkRequest_83 (by omega) ?_
    refine lv_bipush (v := nI 16) hx hb dSF_checkRequest_84 xk_b16 ?_
    refine xn_div hx hb dSF_checkRequest_86 (by omega) (by decide) (by decide) ?_
    refine lv_icmp_ne hx hb dSF_checkRequest_87 rfl (fun hh9 => absurd (congrArg nI h16) hh9) (fun hh9 => ?_)
    refine lv_iconst (v := nI 1) hx hb dSF_checkRequest_90 xk_i1 ?_
    refine lv_goto hx hb dSF_checkRequest_91 rfl ?_
    refine xd_callS C w hz hml hl.1 xk_SF_118 (cSF_checkArgument_ok l D cA tz I ad σ) rfl rfl (Nat.le_of_ble_eq_true rfl) (by decide) (by decide) dSF_checkRequest_95 (fun H locs w => ?_)
    refine W.eq (g2 := F0 m 98 ls []) rfl ?_
    exact xd_vret C w hr hlk dSF_checkRequest_98 rfl
  · skip
    refine lv_iload_n hx hb dSF_checkRequest_28 rfl (lv_at hl 0 rfl) ?_
    refine lv_iconst (v := nI 3) hx hb dSF_checkRequest_29 xk_i3 ?_
    refine lv_icmp_ne hx hb dSF_checkRequest_30 rfl (fun hh10 => ?_) (fun hh10 => ?_)
    · skip
      refine lv_iconst (v := nI 4) hx hb dSF_checkRequest_37 xk_i4 ?_
      refine lv_istore_n (lv' := [(3, .int (nI 4)), (0, .int (nI k)), (1, .int (nI a)), (2, .int (nI n))]) hx hb dSF_checkRequest_38 rfl hl (by decide) rfl (fun ls hl => ?_)
      refine lv_iload_n hx hb dSF_checkRequest_39 rfl (lv_at hl 2 rfl) ?_
      refine lv_if_lt hx hb dSF_checkRequest_40 rfl (fun hh11 => absurd hh11 (nI_pos (by omega))) (fun hh11 => ?_)
      refine lv_iload_n hx hb dSF_checkRequest_43 rfl (lv_at hl 2 rfl) ?_
      refine lv_bipush (v := nI 64) hx hb dSF_checkRequest_44 xk_b64 ?_
      refine lv_icmp_ge hx hb dSF_checkRequest_46 rfl (fun hh12 => absurd hh12 (nI_ge (by omega) (by omega))) (fun hh12 => ?_)
      refine lv_iconst (v := nI 1) hx hb dSF_checkRequest_49 xk_i1 ?_
      refine lv_goto hx hb dSF_checkRequest_50 rfl ?_
      refine xd_callS C w hz hml hl.1 xk_SF_118 (cSF_checkArgument_ok l D cA tz I ad σ) rfl rfl (Nat.le_of_ble_eq_true rfl) (by decide) (by decide) dSF_checkRequest_54 (fun H locs w => ?_)
      refine W.eq (g2 := F0 m 57 ls []) rfl ?_
      refine lv_iload_n hx hb dSF_checkRequest_57 rfl (lv_at hl 3 rfl) ?_
      refine lv_iconst (v := nI 1) hx hb dSF_checkRequest_58 xk_i1 ?_
      refine lv_icmp_lt hx hb dSF_checkRequest_59 rfl (fun hh13 => absurd hh13 (nI_nlt (by omega) (by omega))) (fun hh13 => ?_)
      refine lv_iload_n hx hb dSF_checkRequest_62 rfl (lv_at hl 3 rfl) ?_
      refine lv_iload_n hx hb dSF_checkRequest_63 rfl (lv_at hl 0 rfl) ?_
      refine lv_icmp_gt hx hb dSF_checkRequest_64 rfl (fun hh14 => absurd hh14 (nI_nlt (by omega) (by omega))) (fun hh14 => ?_)
      refine lv_iconst (v := nI 1) hx hb dSF_checkRequest_67 xk_i1 ?_
      refine lv_goto hx hb dSF_checkRequest_68 rfl ?_
      refine xd_callS C w hz hml hl.1 xk_SF_118 (cSF_checkArgument_ok l D cA tz I ad σ) rfl rfl (Nat.le_of_ble_eq_true rfl) (by decide) (by decide) dSF_checkRequest_72 (fun H locs w => ?_)
      refine W.eq (g2 := F0 m 75 ls []) rfl ?_
      refine lv_iload_n hx hb dSF_checkRequest_75 rfl (lv_at hl 2 rfl) ?_
      refine lv_bipush (v := nI 16) hx hb dSF_checkRequest_76 xk_b16 ?_
      refine xn_div hx hb dSF_checkRequest_78 (by omega) (by decide) (by decide) ?_
      refine lv_iload_n hx hb dSF_checkRequest_79 rfl (lv_at hl 2 rfl) ?_
      refine lv_iload_n hx hb dSF_checkRequest_80 rfl (lv_at hl 3 rfl) ?_
      refine xn_add hx hb dSF_checkRequest_81 ?_
      refine lv_iconst (v := nI 1) hx hb dSF_checkRequest_82 xk_i1 ?_
      refine xn_sub hx hb dSF_checkRequest_83 (by omega) ?_
      refine lv_bipush (v := nI 16) hx hb dSF_checkRequest_84 xk_b16 ?_
      refine xn_div hx hb dSF_checkRequest_86 (by omega) (by decide) (by decide) ?_
      refine lv_icmp_ne hx hb dSF_checkRequest_87 rfl (fun hh15 => absurd (congrArg nI h16) hh15) (fun hh15 => ?_)
      refine lv_iconst (v := nI 1) hx hb dSF_checkRequest_90 xk_i1 ?_
      refine lv_goto hx hb dSF_checkRequest_91 rfl ?_
      refine xd_callS C w hz hml hl.1 xk_SF_118 (cSF_checkArgument_ok l D cA tz I ad σ) rfl rfl (Nat.le_of_ble_eq_true rfl) (by decide) (by decide) dSF_checkRequest_95 (fun H locs w => ?_)
      refine W.eq (g2 := F0 m 98 ls []) rfl ?_
      exact xd_vret C w hr hlk dSF_checkRequest_98 rfl
    · skip
      refine lv_iconst (v := nI 1) hx hb dSF_checkRequest_33 xk_i1 ?_
      refine lv_goto hx hb dSF_checkRequest_34 rfl ?_
      refine lv_istore_n (lv' := [(3, .int (nI 1)), (0, .int (nI k)), (1, .int (nI a)), (2, .int (nI n))]) hx hb dSF_checkRequest_38 rfl hl (by decide) rfl (fun ls hl => ?_)
      refine lv_iload_n hx hb dSF_checkRequest_39 rfl (lv_at hl 2 rfl) ?_
      refine lv_if_lt hx hb dSF_checkRequest_40 rfl (fun hh16 => absurd hh16 (nI_pos (by omega))) (fun hh16 => ?_)
      refine lv_iload_n hx hb dSF_checkRequest_43 rfl (lv_at hl 2 rfl) ?_
      refine lv_bipush (v := nI 64) hx hb dSF_checkRequest_44 xk_b64 ?_
      refine lv_icmp_ge hx hb dSF_checkRequest_46 rfl (fun hh17 => absurd hh17 (nI_ge (by omega) (by omega))) (fun hh17 => ?_)
      refine lv_iconst (v := nI 1) hx hb dSF_checkRequest_49 xk_i1 ?_
      refine lv_goto hx hb dSF_checkRequest_50 rfl ?_
      refine xd_callS C w hz hml hl.1 xk_SF_118 (cSF_checkArgument_ok l D cA tz I ad σ) rfl rfl (Nat.le_of_ble_eq_true rfl) (by decide) (by decide) dSF_checkRequest_54 (fun H locs w => ?_)
      refine W.eq (g2 := F0 m 57 ls []) rfl ?_
      refine lv_iload_n hx hb dSF_checkRequest_57 rfl (lv_at hl 3 rfl) ?_
      refine lv_iconst (v := nI 1) hx hb dSF_checkRequest_58 xk_i1 ?_
      refine lv_icmp_lt hx hb dSF_checkRequest_59 rfl (fun hh18 => absurd hh18 (nI_nlt (by omega) (by omega))) (fun hh18 => ?_)
      refine lv_iload_n hx hb dSF_checkRequest_62 rfl (lv_at hl 3 rfl) ?_
      refine lv_iload_n hx hb dSF_checkRequest_63 rfl (lv_at hl 0 rfl) ?_
      refine lv_icmp_gt hx hb dSF_checkRequest_64 rfl (fun hh19 => absurd hh19 (nI_nlt (by have hq := hn1 (by grind [nI_eq]); omega) (by omega))) (fun hh19 => ?_)
      refine lv_iconst (v := nI 1) hx hb dSF_checkRequest_67 xk_i1 ?_
      refine lv_goto hx hb dSF_checkRequest_68 rfl ?_
      refine xd_callS C w hz hml hl.1 xk_SF_118 (cSF_checkArgument_ok l D cA tz I ad σ) rfl rfl (Nat.le_of_ble_eq_true rfl) (by decide) (by decide) dSF_checkRequest_72 (fun H locs w => ?_)
      refine W.eq (g2 := F0 m 75 ls []) rfl ?_
      refine lv_iload_n hx hb dSF_checkRequest_75 rfl (lv_at hl 2 rfl) ?_
      refine lv_bipush (v := nI 16) hx hb dSF_checkRequest_76 xk_b16 ?_
      refine xn_div hx hb dSF_checkRequest_78 (by omega) (by decide) (by decide) ?_
      refine lv_iload_n hx hb dSF_checkRequest_79 rfl (lv_at hl 2 rfl) ?_
      refine lv_iload_n hx hb dSF_checkRequest_80 rfl (lv_at hl 3 rfl) ?_
      refine xn_add hx hb dSF_checkRequest_81 ?_
      refine lv_iconst (v := nI 1) hx hb dSF_checkRequest_82 xk_i1 ?_
      refine xn_sub hx hb dSF_checkRequest_83 (by omega) ?_
      refine lv_bipush (v := nI 16) hx hb dSF_checkRequest_84 xk_b16 ?_
      refine xn_div hx hb dSF_checkRequest_86 (by omega) (by decide) (by decide) ?_
      refine lv_icmp_ne hx hb dSF_checkRequest_87 rfl (fun hh20 => absurd (congrArg nI h16) hh20) (fun hh20 => ?_)
      refine lv_iconst (v := nI 1) hx hb dSF_checkRequest_90 xk_i1 ?_
      refine lv_goto hx hb dSF_checkRequest_91 rfl ?_
      refine xd_callS C w hz hml hl.1 xk_SF_118 (cSF_checkArgument_ok l D cA tz I ad σ) rfl rfl (Nat.le_of_ble_eq_true rfl) (by decide) (by decide) dSF_checkRequest_95 (fun H locs w => ?_)
      refine W.eq (g2 := F0 m 98 ls []) rfl ?_
      exact xd_vret C w hr hlk dSF_checkRequest_98 rfl
