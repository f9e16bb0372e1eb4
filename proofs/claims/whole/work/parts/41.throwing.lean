/-! Public methods, where they throw. -/
theorem xck (x : Int32) {n : Nat} (hn : n < 2 ^ 31) : (x < 0 ∨ nI n ≤ x) ∨ ∃ a, a < n ∧ x = nI a := by
  rcases pk_ix x hn with h | h | h
  · exact Or.inl (Or.inl h)
  · exact Or.inl (Or.inr h)
  · exact Or.inr h
/-- a request that is well formed -/
def xp_sound (k a n : Int32) : Prop := (¬ k < 0 ∧ ¬ nI 4 < k) ∧ (k = nI 4 ∨ ((¬ a < 0 ∧ ¬ nI 64 ≤ a) ∧ (¬ n < nI 1 ∧ ¬ (if k = nI 2 ∨ k = nI 3 then nI 1 else nI 4) < n) ∧ a / nI 16 = (a + n - nI 1) / nI 16))
set_option maxRecDepth 100000 in
set_option maxHeartbeats 4000000 in
theorem t1SF_data (l : Launch) (htr : l.stackTraces = false) (D : va_G) (cA : Nat → ClassId) (tz : Nat) (I : List (Nat × Nat)) (ad : Nat → Nat → Nat) (σ : xMem) (x y z : Int32) (hbd : (x < 0 ∨ nI 4 ≤ x) ∨ (y < 0 ∨ nI 4 ≤ y)) : xTh l ySF_data bSF_data 4 none 7 [.ref (ad 5 0), .int x, .int y, .int z] D cA tz I ad σ "java/lang/IndexOutOfBoundsException" := by
  refine xth_of (by decide) (by simp [lg_sl, Value.category]) ?_
  intro p e s m args below meth c A ls C hlk hml hout hl w hz
  obtain ⟨hx, hb, hown, hts⟩ := id C
  have hl : lv_has ls 4 [(0, .ref (ad 5 0)), (1, .int x), (2, .int y), (3, .int z)] := hl
  refine lv_iload_n hx hb dSF_data_0 rfl (lv_at hl 1 rfl) ?_
  refine lv_iconst (v := nI 4) hx hb dSF_data_1 xk_i4 ?_
  rcases xck x (n := 4) (by decide) with hbad | ⟨a, hn_a, rfl⟩
  · exact xth_callS C w hz hml hl.1 hlk hout xk_SF_57 (tSF_checkIndex l htr D cA tz I ad σ x (nI 4) hbad) rfl rfl (Nat.le_of_ble_eq_true rfl) (by decide) (by decide) dSF_data_2
  refine xd_callS C w hz hml hl.1 xk_SF_57 (cSF_checkIndex_ok l D cA tz I ad σ a 4 hn_a (by decide)) rfl rfl (Nat.le_of_ble_eq_true rfl) (by decide) (by decide) dSF_data_2 (fun H locs w => ?_)
  refine W.eq (g2 := F0 m 5 ls []) rfl ?_
  refine lv_iload_n hx hb dSF_data_5 rfl (lv_at hl 2 rfl) ?_
  refine lv_iconst (v := nI 4) hx hb dSF_data_6 xk_i4 ?_
  rcases xck y (n := 4) (by decide) with hbad | ⟨b, hn_b, rfl⟩
  · exact xth_callS C w hz hml hl.1 hlk hout xk_SF_57 (tSF_checkIndex l htr D cA tz I ad σ y (nI 4) hbad) rfl rfl (Nat.le_of_ble_eq_true rfl) (by decide) (by decide) dSF_data_7
  refine xd_callS C w hz hml hl.1 xk_SF_57 (cSF_checkIndex_ok l D cA tz I ad σ b 4 hn_b (by decide)) rfl rfl (Nat.le_of_ble_eq_true rfl) (by decide) (by decide) dSF_data_7 (fun H locs w => ?_)
  refine W.eq (g2 := F0 m 10 ls []) rfl ?_
  exfalso
  rcases hbd with (hq | hq) | (hq | hq)
  · exact absurd hq (nI_pos (by omega))
  · exact absurd hq (nI_ge hn_a (by decide))
  · exact absurd hq (nI_pos (by omega))
  · exact absurd hq (nI_ge hn_b (by decide))
set_option maxRecDepth 100000 in
set_option maxHeartbeats 4000000 in
theorem t1SF_ready (l : Launch) (htr : l.stackTraces = false) (D : va_G) (cA : Nat → ClassId) (tz : Nat) (I : List (Nat × Nat)) (ad : Nat → Nat → Nat) (σ : xMem) (x z : Int32) (hbd : (x < 0 ∨ nI 3 ≤ x)) : xTh l ySF_ready bSF_ready 3 none 7 [.ref (ad 5 0), .int x, .int z] D cA tz I ad σ "java/lang/IndexOutOfBoundsException" := by
  refine xth_of (by decide) (by simp [lg_sl, Value.category]) ?_
  intro p e s m args below meth c A ls C hlk hml hout hl w hz
  obtain ⟨hx, hb, hown, hts⟩ := id C
  have hl : lv_has ls 3 [(0, .ref (ad 5 0)), (1, .int x), (2, .int z)] := hl
  refine lv_iload_n hx hb dSF_ready_0 rfl (lv_at hl 1 rfl) ?_
  refine lv_iconst (v := nI 3) hx hb dSF_ready_1 xk_i3 ?_
  rcases xck x (n := 3) (by decide) with hbad | ⟨a, hn_a, rfl⟩
  · exact xth_callS C w hz hml hl.1 hlk hout xk_SF_57 (tSF_checkIndex l htr D cA tz I ad σ x (nI 3) hbad) rfl rfl (Nat.le_of_ble_eq_true rfl) (by decide) (by decide) dSF_ready_2
  refine xd_callS C w hz hml hl.1 xk_SF_57 (cSF_checkIndex_ok l D cA tz I ad σ a 3 hn_a (by decide)) rfl rfl (Nat.le_of_ble_eq_true rfl) (by decide) (by decide) dSF_ready_2 (fun H locs w => ?_)
  refine W.eq (g2 := F0 m 5 ls []) rfl ?_
  exfalso
  rcases hbd with (hq | hq)
  · exact absurd hq (nI_pos (by omega))
  · exact absurd hq (nI_ge hn_a (by decide))
set_option maxRecDepth 100000 in
set_option maxHeartbeats 4000000 in
theorem t1SF_state (l : Launch) (htr : l.stackTraces = false) (D : va_G) (cA : Nat → ClassId) (tz : Nat) (I : List (Nat × Nat)) (ad : Nat → Nat → Nat) (σ : xMem) (x y : Int32) (hbd : (x < 0 ∨ nI 4 ≤ x) ∨ (y < 0 ∨ nI 4 ≤ y)) : xTh l ySF_state bSF_state 3 (some .int) 7 [.ref (ad 5 0), .int x, .int y] D cA tz I ad σ "java/lang/IndexOutOfBoundsException" := by
  refine xth_of (by decide) (by simp [lg_sl, Value.category]) ?_
  intro p e s m args below meth c A ls C hlk hml hout hl w hz
  obtain ⟨hx, hb, hown, hts⟩ := id C
  have hl : lv_has ls 3 [(0, .ref (ad 5 0)), (1, .int x), (2, .int y)] := hl
  refine lv_iload_n hx hb dSF_state_0 rfl (lv_at hl 1 rfl) ?_
  refine lv_iconst (v := nI 4) hx hb dSF_state_1 xk_i4 ?_
  rcases xck x (n := 4) (by decide) with hbad | ⟨a, hn_a, rfl⟩
  · exact xth_callS C w hz hml hl.1 hlk hout xk_SF_57 (tSF_checkIndex l htr D cA tz I ad σ x (nI 4) hbad) rfl rfl (Nat.le_of_ble_eq_true rfl) (by decide) (by decide) dSF_state_2
  refine xd_callS C w hz hml hl.1 xk_SF_57 (cSF_checkIndex_ok l D cA tz I ad σ a 4 hn_a (by decide)) rfl rfl (Nat.le_of_ble_eq_true rfl) (by decide) (by decide) dSF_state_2 (fun H locs w => ?_)
  refine W.eq (g2 := F0 m 5 ls []) rfl ?_
  refine lv_iload_n hx hb dSF_state_5 rfl (lv_at hl 2 rfl) ?_
  refine lv_iconst (v := nI 4) hx hb dSF_state_6 xk_i4 ?_
  rcases xck y (n := 4) (by decide) with hbad | ⟨b, hn_b, rfl⟩
  · exact xth_callS C w hz hml hl.1 hlk hout xk_SF_57 (tSF_checkIndex l htr D cA tz I ad σ y (nI 4) hbad) rfl rfl (Nat.le_of_ble_eq_true rfl) (by decide) (by decide) dSF_state_7
  refine xd_callS C w hz hml hl.1 xk_SF_57 (cSF_checkIndex_ok l D cA tz I ad σ b 4 hn_b (by decide)) rfl rfl (Nat.le_of_ble_eq_true rfl) (by decide) (by decide) dSF_state_7 (fun H locs w => ?_)
  refine W.eq (g2 := F0 m 10 ls []) rfl ?_
  exfalso
  rcases hbd with (hq | hq) | (hq | hq)
  · exact absurd hq (nI_pos (by omega))
  · exact absurd hq (nI_ge hn_a (by decide))
  · exact absurd hq (nI_pos (by omega))
  · exact absurd hq (nI_ge hn_b (by decide))
set_option maxRecDepth 100000 in
set_option maxHeartbeats 4000000 in
theorem t1SF_word (l : Launch) (htr : l.stackTraces = false) (D : va_G) (cA : Nat → ClassId) (tz : Nat) (I : List (Nat × Nat)) (ad : Nat → Nat → Nat) (σ : xMem) (x y z : Int32) (hbd : (x < 0 ∨ nI 4 ≤ x) ∨ (y < 0 ∨ nI 4 ≤ y) ∨ (z < 0 ∨ nI 4 ≤ z)) : xTh l ySF_word bSF_word 5 (some .int) 7 [.ref (ad 5 0), .int x, .int y, .int z] D cA tz I ad σ "java/lang/IndexOutOfBoundsException" := by
  refine xth_of (by decide) (by simp [lg_sl, Value.category]) ?_
  intro p e s m args below meth c A ls C hlk hml hout hl w hz
  obtain ⟨hx, hb, hown, hts⟩ := id C
  have hl : lv_has ls 5 [(0, .ref (ad 5 0)), (1, .int x), (2, .int y), (3, .int z)] := hl
  refine lv_iload_n hx hb dSF_word_0 rfl (lv_at hl 1 rfl) ?_
  refine lv_iconst (v := nI 4) hx hb dSF_word_1 xk_i4 ?_
  rcases xck x (n := 4) (by decide) with hbad | ⟨a, hn_a, rfl⟩
  · exact xth_callS C w hz hml hl.1 hlk hout xk_SF_57 (tSF_checkIndex l htr D cA tz I ad σ x (nI 4) hbad) rfl rfl (Nat.le_of_ble_eq_true rfl) (by decide) (by decide) dSF_word_2
  refine xd_callS C w hz hml hl.1 xk_SF_57 (cSF_checkIndex_ok l D cA tz I ad σ a 4 hn_a (by decide)) rfl rfl (Nat.le_of_ble_eq_true rfl) (by decide) (by decide) dSF_word_2 (fun H locs w => ?_)
  refine W.eq (g2 := F0 m 5 ls []) rfl ?_
  refine lv_iload_n hx hb dSF_word_5 rfl (lv_at hl 2 rfl) ?_
  refine lv_iconst (v := nI 4) hx hb dSF_word_6 xk_i4 ?_
  rcases xck y (n := 4) (by decide) with hbad | ⟨b, hn_b, rfl⟩
  · exact xth_callS C w hz hml hl.1 hlk hout xk_SF_57 (tSF_checkIndex l htr D cA tz I ad σ y (nI 4) hbad) rfl rfl (Nat.le_of_ble_eq_true rfl) (by decide) (by decide) dSF_word_7
  refine xd_callS C w hz hml hl.1 xk_SF_57 (cSF_checkIndex_ok l D cA tz I ad σ b 4 hn_b (by decide)) rfl rfl (Nat.le_of_ble_eq_true rfl) (by decide) (by decide) dSF_word_7 (fun H locs w => ?_)
  refine W.eq (g2 := F0 m 10 ls []) rfl ?_
  refine lv_iload_n hx hb dSF_word_10 rfl (lv_at hl 3 rfl) ?_
  refine lv_iconst (v := nI 4) hx hb dSF_word_11 xk_i4 ?_
  rcases xck z (n := 4) (by decide) with hbad | ⟨i, hn_i, rfl⟩
  · exact xth_callS C w hz hml hl.1 hlk hout xk_SF_57 (tSF_checkIndex l htr D cA tz I ad σ z (nI 4) hbad) rfl rfl (Nat.le_of_ble_eq_true rfl) (by decide) (by decide) dSF_word_12
  refine xd_callS C w hz hml hl.1 xk_SF_57 (cSF_checkIndex_ok l D cA tz I ad σ i 4 hn_i (by decide)) rfl rfl (Nat.le_of_ble_eq_true rfl) (by decide) (by decide) dSF_word_12 (fun H locs w => ?_)
  refine W.eq (g2 := F0 m 15 ls []) rfl ?_
  exfalso
  rcases hbd with (hq | hq) | (hq | hq) | (hq | hq)
  · exact absurd hq (nI_pos (by omega))
  · exact absurd hq (nI_ge hn_a (by decide))
  · exact absurd hq (nI_pos (by omega))
  · exact absurd hq (nI_ge hn_b (by decide))
  · exact absurd hq (nI_pos (by omega))
  · exact absurd hq (nI_ge hn_i (by decide))
set_option maxRecDepth 100000 in
set_option maxHeartbeats 4000000 in
theorem t1SF_take (l : Launch) (htr : l.stackTraces = false) (D : va_G) (cA : Nat → ClassId) (tz : Nat) (I : List (Nat × Nat)) (ad : Nat → Nat → Nat) (σ : xMem) (x y : Int32) (hbd : (x < 0 ∨ nI 4 ≤ x) ∨ (y < 0 ∨ nI 4 ≤ y)) : xTh l ySF_take bSF_take 5 (some .boolean) 7 [.ref (ad 5 0), .int x, .int y] D cA tz I ad σ "java/lang/IndexOutOfBoundsException" := by
  refine xth_of (by decide) (by simp [lg_sl, Value.category]) ?_
  intro p e s m args below meth c A ls C hlk hml hout hl w hz
  obtain ⟨hx, hb, hown, hts⟩ := id C
  have hl : lv_has ls 5 [(0, .ref (ad 5 0)), (1, .int x), (2, .int y)] := hl
  refine lv_iload_n hx hb dSF_take_0 rfl (lv_at hl 1 rfl) ?_
  refine lv_iconst (v := nI 4) hx hb dSF_take_1 xk_i4 ?_
  rcases xck x (n := 4) (by decide) with hbad | ⟨a, hn_a, rfl⟩
  · exact xth_callS C w hz hml hl.1 hlk hout xk_SF_57 (tSF_checkIndex l htr D cA tz I ad σ x (nI 4) hbad) rfl rfl (Nat.le_of_ble_eq_true rfl) (by decide) (by decide) dSF_take_2
  refine xd_callS C w hz hml hl.1 xk_SF_57 (cSF_checkIndex_ok l D cA tz I ad σ a 4 hn_a (by decide)) rfl rfl (Nat.le_of_ble_eq_true rfl) (by decide) (by decide) dSF_take_2 (fun H locs w => ?_)
  refine W.eq (g2 := F0 m 5 ls []) rfl ?_
  refine lv_iload_n hx hb dSF_take_5 rfl (lv_at hl 2 rfl) ?_
  refine lv_iconst (v := nI 4) hx hb dSF_take_6 xk_i4 ?_
  rcases xck y (n := 4) (by decide) with hbad | ⟨b, hn_b, rfl⟩
  · exact xth_callS C w hz hml hl.1 hlk hout xk_SF_57 (tSF_checkIndex l htr D cA tz I ad σ y (nI 4) hbad) rfl rfl (Nat.le_of_ble_eq_true rfl) (by decide) (by decide) dSF_take_7
  refine xd_callS C w hz hml hl.1 xk_SF_57 (cSF_checkIndex_ok l D cA tz I ad σ b 4 hn_b (by decide)) rfl rfl (Nat.le_of_ble_eq_true rfl) (by decide) (by decide) dSF_take_7 (fun H locs w => ?_)
  refine W.eq (g2 := F0 m 10 ls []) rfl ?_
  exfalso
  rcases hbd with (hq | hq) | (hq | hq)
  · exact absurd hq (nI_pos (by omega))
  · exact absurd hq (nI_ge hn_a (by decide))
  · exact absurd hq (nI_pos (by omega))
  · exact absurd hq (nI_ge hn_b (by decide))
set_option maxRecDepth 100000 in
set_option maxHeartbeats 4000000 in
theorem t1SF_base (l : Launch) (htr : l.stackTraces = false) (D : va_G) (cA : Nat → ClassId) (tz : Nat) (I : List (Nat × Nat)) (ad : Nat → Nat → Nat) (σ : xMem) (x y : Int32) (hbd : (x < 0 ∨ nI 4 ≤ x)) : xTh l ySF_base bSF_base 3 none 7 [.ref (ad 5 0), .int x, .int y] D cA tz I ad σ "java/lang/IndexOutOfBoundsException" := by
  refine xth_of (by decide) (by simp [lg_sl, Value.category]) ?_
  intro p e s m args below meth c A ls C hlk hml hout hl w hz
  obtain ⟨hx, hb, hown, hts⟩ := id C
  have hl : lv_has ls 3 [(0, .ref (ad 5 0)), (1, .int x), (2, .int y)] := hl
  refine lv_iload_n hx hb dSF_base_0 rfl (lv_at hl 1 rfl) ?_
  refine lv_iconst (v := nI 4) hx hb dSF_base_1 xk_i4 ?_
  rcases xck x (n := 4) (by decide) with hbad | ⟨a, hn_a, rfl⟩
  · exact xth_callS C w hz hml hl.1 hlk hout xk_SF_57 (tSF_checkIndex l htr D cA tz I ad σ x (nI 4) hbad) rfl rfl (Nat.le_of_ble_eq_true rfl) (by decide) (by decide) dSF_base_2
  refine xd_callS C w hz hml hl.1 xk_SF_57 (cSF_checkIndex_ok l D cA tz I ad σ a 4 hn_a (by decide)) rfl rfl (Nat.le_of_ble_eq_true rfl) (by decide) (by decide) dSF_base_2 (fun H locs w => ?_)
  refine W.eq (g2 := F0 m 5 ls []) rfl ?_
  exfalso
  rcases hbd with (hq | hq)
  · exact absurd hq (nI_pos (by omega))
  · exact absurd hq (nI_ge hn_a (by decide))
set_option maxRecDepth 100000 in
set_option maxHeartbeats 4000000 in
theorem t1SF_waits (l : Launch) (htr : l.stackTraces = false) (D : va_G) (cA : Nat → ClassId) (tz : Nat) (I : List (Nat × Nat)) (ad : Nat → Nat → Nat) (σ : xMem) (x : Int32) (hbd : (x < 0 ∨ nI 4 ≤ x)) : xTh l ySF_waits bSF_waits 5 (some .int) 7 [.ref (ad 5 0), .int x] D cA tz I ad σ "java/lang/IndexOutOfBoundsException" := by
  refine xth_of (by decide) (by simp [lg_sl, Value.category]) ?_
  intro p e s m args below meth c A ls C hlk hml hout hl w hz
  obtain ⟨hx, hb, hown, hts⟩ := id C
  have hl : lv_has ls 5 [(0, .ref (ad 5 0)), (1, .int x)] := hl
  refine lv_iload_n hx hb dSF_waits_0 rfl (lv_at hl 1 rfl) ?_
  refine lv_iconst (v := nI 4) hx hb dSF_waits_1 xk_i4 ?_
  rcases xck x (n := 4) (by decide) with hbad | ⟨a, hn_a, rfl⟩
  · exact xth_callS C w hz hml hl.1 hlk hout xk_SF_57 (tSF_checkIndex l htr D cA tz I ad σ x (nI 4) hbad) rfl rfl (Nat.le_of_ble_eq_true rfl) (by decide) (by decide) dSF_waits_2
  refine xd_callS C w hz hml hl.1 xk_SF_57 (cSF_checkIndex_ok l D cA tz I ad σ a 4 hn_a (by decide)) rfl rfl (Nat.le_of_ble_eq_true rfl) (by decide) (by decide) dSF_waits_2 (fun H locs w => ?_)
  refine W.eq (g2 := F0 m 5 ls []) rfl ?_
  exfalso
  rcases hbd with (hq | hq)
  · exact absurd hq (nI_pos (by omega))
  · exact absurd hq (nI_ge hn_a (by decide))
set_option maxRecDepth 100000 in
set_option maxHeartbeats 4000000 in
theorem t1SF_reset (l : Launch) (htr : l.stackTraces = false) (D : va_G) (cA : Nat → ClassId) (tz : Nat) (I : List (Nat × Nat)) (ad : Nat → Nat → Nat) (σ : xMem) (x : Int32) (hbd : (x < 0 ∨ nI 4 ≤ x)) : xTh l ySF_reset bSF_reset 5 (some .int) 7 [.ref (ad 5 0), .int x] D cA tz I ad σ "java/lang/IndexOutOfBoundsException" := by
  refine xth_of (by decide) (by simp [lg_sl, Value.category]) ?_
  intro p e s m args below meth c A ls C hlk hml hout hl w hz
  obtain ⟨hx, hb, hown, hts⟩ := id C
  have hl : lv_has ls 5 [(0, .ref (ad 5 0)), (1, .int x)] := hl
  refine lv_iload_n hx hb dSF_reset_0 rfl (lv_at hl 1 rfl) ?_
  refine lv_iconst (v := nI 4) hx hb dSF_reset_1 xk_i4 ?_
  rcases xck x (n := 4) (by decide) with hbad | ⟨a, hn_a, rfl⟩
  · exact xth_callS C w hz hml hl.1 hlk hout xk_SF_57 (tSF_checkIndex l htr D cA tz I ad σ x (nI 4) hbad) rfl rfl (Nat.le_of_ble_eq_true rfl) (by decide) (by decide) dSF_reset_2
  refine xd_callS C w hz hml hl.1 xk_SF_57 (cSF_checkIndex_ok l D cA tz I ad σ a 4 hn_a (by decide)) rfl rfl (Nat.le_of_ble_eq_true rfl) (by decide) (by decide) dSF_reset_2 (fun H locs w => ?_)
  refine W.eq (g2 := F0 m 5 ls []) rfl ?_
  exfalso
  rcases hbd with (hq | hq)
  · exact absurd hq (nI_pos (by omega))
  · exact absurd hq (nI_ge hn_a (by decide))
set_option maxRecDepth 100000 in
set_option maxHeartbeats 4000000 in
theorem t1SF_credits (l : Launch) (htr : l.stackTraces = false) (D : va_G) (cA : Nat → ClassId) (tz : Nat) (I : List (Nat × Nat)) (ad : Nat → Nat → Nat) (σ : xMem) (x : Int32) (hbd : (x < 0 ∨ nI 3 ≤ x)) : xTh l ySF_credits bSF_credits 2 (some .int) 7 [.ref (ad 5 0), .int x] D cA tz I ad σ "java/lang/IndexOutOfBoundsException" := by
  refine xth_of (by decide) (by simp [lg_sl, Value.category]) ?_
  intro p e s m args below meth c A ls C hlk hml hout hl w hz
  obtain ⟨hx, hb, hown, hts⟩ := id C
  have hl : lv_has ls 2 [(0, .ref (ad 5 0)), (1, .int x)] := hl
  refine lv_iload_n hx hb dSF_credits_0 rfl (lv_at hl 1 rfl) ?_
  refine lv_iconst (v := nI 3) hx hb dSF_credits_1 xk_i3 ?_
  rcases xck x (n := 3) (by decide) with hbad | ⟨a, hn_a, rfl⟩
  · exact xth_callS C w hz hml hl.1 hlk hout xk_SF_57 (tSF_checkIndex l htr D cA tz I ad σ x (nI 3) hbad) rfl rfl (Nat.le_of_ble_eq_true rfl) (by decide) (by decide) dSF_credits_2
  refine xd_callS C w hz hml hl.1 xk_SF_57 (cSF_checkIndex_ok l D cA tz I ad σ a 3 hn_a (by decide)) rfl rfl (Nat.le_of_ble_eq_true rfl) (by decide) (by decide) dSF_credits_2 (fun H locs w => ?_)
  refine W.eq (g2 := F0 m 5 ls []) rfl ?_
  exfalso
  rcases hbd with (hq | hq)
  · exact absurd hq (nI_pos (by omega))
  · exact absurd hq (nI_ge hn_a (by decide))
set_option maxRecDepth 100000 in
set_option maxHeartbeats 4000000 in
theorem t1SF_holder (l : Launch) (htr : l.stackTraces = false) (D : va_G) (cA : Nat → ClassId) (tz : Nat) (I : List (Nat × Nat)) (ad : Nat → Nat → Nat) (σ : xMem) (x : Int32) (hbd : (x < 0 ∨ nI 3 ≤ x)) : xTh l ySF_holder bSF_holder 2 (some .int) 7 [.ref (ad 5 0), .int x] D cA tz I ad σ "java/lang/IndexOutOfBoundsException" := by
  refine xth_of (by decide) (by simp [lg_sl, Value.category]) ?_
  intro p e s m args below meth c A ls C hlk hml hout hl w hz
  obtain ⟨hx, hb, hown, hts⟩ := id C
  have hl : lv_has ls 2 [(0, .ref (ad 5 0)), (1, .int x)] := hl
  refine lv_iload_n hx hb dSF_holder_0 rfl (lv_at hl 1 rfl) ?_
  refine lv_iconst (v := nI 3) hx hb dSF_holder_1 xk_i3 ?_
  rcases xck x (n := 3) (by decide) with hbad | ⟨a, hn_a, rfl⟩
  · exact xth_callS C w hz hml hl.1 hlk hout xk_SF_57 (tSF_checkIndex l htr D cA tz I ad σ x (nI 3) hbad) rfl rfl (Nat.le_of_ble_eq_true rfl) (by decide) (by decide) dSF_holder_2
  refine xd_callS C w hz hml hl.1 xk_SF_57 (cSF_checkIndex_ok l D cA tz I ad σ a 3 hn_a (by decide)) rfl rfl (Nat.le_of_ble_eq_true rfl) (by decide) (by decide) dSF_holder_2 (fun H locs w => ?_)
  refine W.eq (g2 := F0 m 5 ls []) rfl ?_
  exfalso
  rcases hbd with (hq | hq)
  · exact absurd hq (nI_pos (by omega))
  · exact absurd hq (nI_ge hn_a (by decide))
set_option maxRecDepth 100000 in
set_option maxHeartbeats 4000000 in
theorem t1SF_memory (l : Launch) (htr : l.stackTraces = false) (D : va_G) (cA : Nat → ClassId) (tz : Nat) (I : List (Nat × Nat)) (ad : Nat → Nat → Nat) (σ : xMem) (x : Int32) (hbd : (x < 0 ∨ nI 48 ≤ x)) : xTh l ySF_memory bSF_memory 2 (some .int) 7 [.ref (ad 5 0), .int x] D cA tz I ad σ "java/lang/IndexOutOfBoundsException" := by
  refine xth_of (by decide) (by simp [lg_sl, Value.category]) ?_
  intro p e s m args below meth c A ls C hlk hml hout hl w hz
  obtain ⟨hx, hb, hown, hts⟩ := id C
  have hl : lv_has ls 2 [(0, .ref (ad 5 0)), (1, .int x)] := hl
  refine lv_iload_n hx hb dSF_memory_0 rfl (lv_at hl 1 rfl) ?_
  refine lv_bipush (v := nI 48) hx hb dSF_memory_1 xk_b48 ?_
  rcases xck x (n := 48) (by decide) with hbad | ⟨a, hn_a, rfl⟩
  · exact xth_callS C w hz hml hl.1 hlk hout xk_SF_57 (tSF_checkIndex l htr D cA tz I ad σ x (nI 48) hbad) rfl rfl (Nat.le_of_ble_eq_true rfl) (by decide) (by decide) dSF_memory_3
  refine xd_callS C w hz hml hl.1 xk_SF_57 (cSF_checkIndex_ok l D cA tz I ad σ a 48 hn_a (by decide)) rfl rfl (Nat.le_of_ble_eq_true rfl) (by decide) (by decide) dSF_memory_3 (fun H locs w => ?_)
  refine W.eq (g2 := F0 m 6 ls []) rfl ?_
  exfalso
  rcases hbd with (hq | hq)
  · exact absurd hq (nI_pos (by omega))
  · exact absurd hq (nI_ge hn_a (by decide))
set_option maxRecDepth 100000 in
set_option maxHeartbeats 4000000 in
theorem t1SF_issue (l : Launch) (htr : l.stackTraces = false) (D : va_G) (cA : Nat → ClassId) (tz : Nat) (I : List (Nat × Nat)) (ad : Nat → Nat → Nat) (σ : xMem) (x u v w1 y : Int32) (hbd : (x < 0 ∨ nI 4 ≤ x) ∨ (y < 0 ∨ nI 4 ≤ y)) : xTh l ySF_issue bSF_issue 7 none 7 [.ref (ad 5 0), .int x, .int u, .int v, .int w1, .int y] D cA tz I ad σ "java/lang/IndexOutOfBoundsException" := by
  refine xth_of (by decide) (by simp [lg_sl, Value.category]) ?_
  intro p e s m args below meth c A ls C hlk hml hout hl w hz
  obtain ⟨hx, hb, hown, hts⟩ := id C
  have hl : lv_has ls 7 [(0, .ref (ad 5 0)), (1, .int x), (2, .int u), (3, .int v), (4, .int w1), (5, .int y)] := hl
  refine lv_iload_n hx hb dSF_issue_0 rfl (lv_at hl 1 rfl) ?_
  refine lv_iconst (v := nI 4) hx hb dSF_issue_1 xk_i4 ?_
  rcases xck x (n := 4) (by decide) with hbad | ⟨a, hn_a, rfl⟩
  · exact xth_callS C w hz hml hl.1 hlk hout xk_SF_57 (tSF_checkIndex l htr D cA tz I ad σ x (nI 4) hbad) rfl rfl (Nat.le_of_ble_eq_true rfl) (by decide) (by decide) dSF_issue_2
  refine xd_callS C w hz hml hl.1 xk_SF_57 (cSF_checkIndex_ok l D cA tz I ad σ a 4 hn_a (by decide)) rfl rfl (Nat.le_of_ble_eq_true rfl) (by decide) (by decide) dSF_issue_2 (fun H locs w => ?_)
  refine W.eq (g2 := F0 m 5 ls []) rfl ?_
  refine lv_iload hx hb dSF_issue_5 (lv_at hl 5 rfl) ?_
  refine lv_iconst (v := nI 4) hx hb dSF_issue_7 xk_i4 ?_
  rcases xck y (n := 4) (by decide) with hbad | ⟨b, hn_b, rfl⟩
  · exact xth_callS C w hz hml hl.1 hlk hout xk_SF_57 (tSF_checkIndex l htr D cA tz I ad σ y (nI 4) hbad) rfl rfl (Nat.le_of_ble_eq_true rfl) (by decide) (by decide) dSF_issue_8
  refine xd_callS C w hz hml hl.1 xk_SF_57 (cSF_checkIndex_ok l D cA tz I ad σ b 4 hn_b (by decide)) rfl rfl (Nat.le_of_ble_eq_true rfl) (by decide) (by decide) dSF_issue_8 (fun H locs w => ?_)
  refine W.eq (g2 := F0 m 11 ls []) rfl ?_
  exfalso
  rcases hbd with (hq | hq) | (hq | hq)
  · exact absurd hq (nI_pos (by omega))
  · exact absurd hq (nI_ge hn_a (by decide))
  · exact absurd hq (nI_pos (by omega))
  · exact absurd hq (nI_ge hn_b (by decide))
set_option maxRecDepth 100000 in
set_option maxHeartbeats 4000000 in
theorem tSF_checkRequest (l : Launch) (htr : l.stackTraces = false) (D : va_G) (cA : Nat → ClassId) (tz : Nat) (I : List (Nat × Nat)) (ad : Nat → Nat → Nat) (σ : xMem) (x y z : Int32) (hbd : ¬ xp_sound x y z) : xTh l ySF_checkRequest bSF_checkRequest 4 none 7 [.int x, .int y, .int z] D cA tz I ad σ "java/lang/IllegalArgumentException" := by
  refine xth_of (by decide) (by simp [lg_sl, Value.category]) ?_
  intro p e s m args below meth c A ls C hlk hml hout hl w hz
  obtain ⟨hx, hb, hown, hts⟩ := id C
  have hl : lv_has ls 4 [(0, .int x), (1, .int y), (2, .int z)] := hl
  refine lv_iload_n hx hb dSF_checkRequest_0 rfl (lv_at hl 0 rfl) ?_
  refine lv_if_lt hx hb dSF_checkRequest_1 rfl (fun hh1 => ?_) (fun hh1 => ?_)
  · skip
    refine lv_iconst (v := nI 0) hx hb dSF_checkRequest_13 xk_i0 ?_
    exact xth_callS C w hz hml hl.1 hlk hout xk_SF_118 (tSF_checkArgument l htr D cA tz I ad (σ)) rfl rfl (Nat.le_of_ble_eq_true rfl) (by decide) (by decide) dSF_checkRequest_14
  · skip
    refine lv_iload_n hx hb dSF_checkRequest_4 rfl (lv_at hl 0 rfl) ?_
    refine lv_iconst (v := nI 4) hx hb dSF_checkRequest_5 xk_i4 ?_
    refine lv_icmp_gt hx hb dSF_checkRequest_6 rfl (fun hh2 => ?_) (fun hh2 => ?_)
    · skip
      refine lv_iconst (v := nI 0) hx hb dSF_checkRequest_13 xk_i0 ?_
      exact xth_callS C w hz hml hl.1 hlk hout xk_SF_118 (tSF_checkArgument l htr D cA tz I ad (σ)) rfl rfl (Nat.le_of_ble_eq_true rfl) (by decide) (by decide) dSF_checkRequest_14
    · skip
      refine lv_iconst (v := nI 1) hx hb dSF_checkRequest_9 xk_i1 ?_
      refine lv_goto hx hb dSF_checkRequest_10 rfl ?_
      refine xd_callS C w hz hml hl.1 xk_SF_118 (cSF_checkArgument_ok l D cA tz I ad (σ)) rfl rfl (Nat.le_of_ble_eq_true rfl) (by decide) (by decide) dSF_checkRequest_14 (fun H locs w => ?_)
      refine W.eq (g2 := F0 m 17 ls []) rfl ?_
      refine lv_iload_n hx hb dSF_checkRequest_17 rfl (lv_at hl 0 rfl) ?_
      refine lv_iconst (v := nI 4) hx hb dSF_checkRequest_18 xk_i4 ?_
      refine lv_icmp_ne hx hb dSF_checkRequest_19 rfl (fun hh3 => ?_) (fun hh3 => ?_)
      · skip
        refine lv_iload_n hx hb dSF_checkRequest_23 rfl (lv_at hl 0 rfl) ?_
        refine lv_iconst (v := nI 2) hx hb dSF_checkRequest_24 xk_i2 ?_
        refine lv_icmp_eq hx hb dSF_checkRequest_25 rfl (fun hh4 => ?_) (fun hh4 => ?_)
        · skip
          refine lv_iconst (v := nI 1) hx hb dSF_checkRequest_33 xk_i1 ?_
          refine lv_goto hx hb dSF_checkRequest_34 rfl ?_
          refine lv_istore_n (lv' := [(3, .int (nI 1)), (0, .int x), (1, .int y), (2, .int z)]) hx hb dSF_checkRequest_38 rfl hl (by decide) rfl (fun ls hl => ?_)
          refine lv_iload_n hx hb dSF_checkRequest_39 rfl (lv_at hl 2 rfl) ?_
          refine lv_if_lt hx hb dSF_checkRequest_40 rfl (fun hh5 => ?_) (fun hh5 => ?_)
          · skip
            refine lv_iconst (v := nI 0) hx hb dSF_checkRequest_53 xk_i0 ?_
            exact xth_callS C w hz hml hl.1 hlk hout xk_SF_118 (tSF_checkArgument l htr D cA tz I ad (σ)) rfl rfl (Nat.le_of_ble_eq_true rfl) (by decide) (by decide) dSF_checkRequest_54
          · skip
            refine lv_iload_n hx hb dSF_checkRequest_43 rfl (lv_at hl 2 rfl) ?_
            refine lv_bipush (v := nI 64) hx hb dSF_checkRequest_44 xk_b64 ?_
            refine lv_icmp_ge hx hb dSF_checkRequest_46 rfl (fun hh6 => ?_) (fun hh6 => ?_)
            · skip
              refine lv_iconst (v := nI 0) hx hb dSF_checkRequest_53 xk_i0 ?_
              exact xth_callS C w hz hml hl.1 hlk hout xk_SF_118 (tSF_checkArgument l htr D cA tz I ad (σ)) rfl rfl (Nat.le_of_ble_eq_true rfl) (by decide) (by decide) dSF_checkRequest_54
            · skip
              refine lv_iconst (v := nI 1) hx hb dSF_checkRequest_49 xk_i1 ?_
              refine lv_goto hx hb dSF_checkRequest_50 rfl ?_
              refine xd_callS C w hz hml hl.1 xk_SF_118 (cSF_checkArgument_ok l D cA tz I ad (σ)) rfl rfl (Nat.le_of_ble_eq_true rfl) (by decide) (by decide) dSF_checkRequest_54 (fun H locs w => ?_)
              refine W.eq (g2 := F0 m 57 ls []) rfl ?_
              refine lv_iload_n hx hb dSF_checkRequest_57 rfl (lv_at hl 3 rfl) ?_
              refine lv_iconst (v := nI 1) hx hb dSF_checkRequest_58 xk_i1 ?_
              refine lv_icmp_lt hx hb dSF_checkRequest_59 rfl (fun hh7 => ?_) (fun hh7 => ?_)
              · skip
                refine lv_iconst (v := nI 0) hx hb dSF_checkRequest_71 xk_i0 ?_
                exact xth_callS C w hz hml hl.1 hlk hout xk_SF_118 (tSF_checkArgument l htr D cA tz I ad (σ)) rfl rfl (Nat.le_of_ble_eq_true rfl) (by decide) (by decide) dSF_checkRequest_72
              · skip
                refine lv_iload_n hx hb dSF_checkRequest_62 rfl (lv_at hl 3 rfl) ?_
                refine lv_iload_n hx hb dSF_checkRequest_63 rfl (lv_at hl 0 rfl) ?_
                refine lv_icmp_gt hx hb dSF_checkRequest_64 rfl (fun hh8 => ?_) (fun hh8 => ?_)
                · skip
                  refine lv_iconst (v := nI 0) hx hb dSF_checkRequest_71 xk_i0 ?_
                  exact xth_callS C w hz hml hl.1 hlk hout xk_SF_118 (tSF_checkArgument l htr D cA tz I ad (σ)) rfl rfl (Nat.le_of_ble_eq_true rfl) (by decide) (by decide) dSF_checkRequest_72
                · skip
                  refine lv_iconst (v := nI 1) hx hb dSF_checkRequest_67 xk_i1 ?_
                  refine lv_goto hx hb dSF_checkRequest_68 rfl ?_
                  refine xd_callS C w hz hml hl.1 xk_SF_118 (cSF_checkArgument_ok l D cA tz I ad (σ)) rfl rfl (Nat.le_of_ble_eq_true rfl) (by decide) (by decide) dSF_checkRequest_72 (fun H locs w => ?_)
                  refine W.eq (g2 := F0 m 75 ls []) rfl ?_
                  refine lv_iload_n hx hb dSF_checkRequest_75 rfl (lv_at hl 2 rfl) ?_
                  refine lv_bipush (v := nI 16) hx hb dSF_checkRequest_76 xk_b16 ?_
                  refine lv_idiv hx hb dSF_checkRequest_78 (by decide) ?_
                  refine lv_iload_n hx hb dSF_checkRequest_79 rfl (lv_at hl 2 rfl) ?_
                  refine lv_iload_n hx hb dSF_checkRequest_80 rfl (lv_at hl 3 rfl) ?_
                  refine lv_iadd hx hb dSF_checkRequest_81 ?_
                  refine lv_iconst (v := nI 1) hx hb dSF_checkRequest_82 xk_i1 ?_
                  refine lv_isub hx hb dSF_checkRequest_83 ?_
                  refine lv_bipush (v := nI 16) hx hb dSF_checkRequest_84 xk_b16 ?_
                  refine lv_idiv hx hb dSF_checkRequest_86 (by decide) ?_
                  refine lv_icmp_ne hx hb dSF_checkRequest_87 rfl (fun hh9 => ?_) (fun hh9 => ?_)
                  · skip
                    refine lv_iconst (v := nI 0) hx hb dSF_checkRequest_94 xk_i0 ?_
                    exact xth_callS C w hz hml hl.1 hlk hout xk_SF_118 (tSF_checkArgument l htr D cA tz I ad (σ)) rfl rfl (Nat.le_of_ble_eq_true rfl) (by decide) (by decide) dSF_checkRequest_95
                  · skip
                    refine lv_iconst (v := nI 1) hx hb dSF_checkRequest_90 xk_i1 ?_
                    refine lv_goto hx hb dSF_checkRequest_91 rfl ?_
                    refine xd_callS C w hz hml hl.1 xk_SF_118 (cSF_checkArgument_ok l D cA tz I ad (σ)) rfl rfl (Nat.le_of_ble_eq_true rfl) (by decide) (by decide) dSF_checkRequest_95 (fun H locs w => ?_)
                    refine W.eq (g2 := F0 m 98 ls []) rfl ?_
                    exact absurd (by unfold xp_sound; grind) hbd
        · skip
          refine lv_iload_n hx hb dSF_checkRequest_28 rfl (lv_at hl 0 rfl) ?_
          refine lv_iconst (v := nI 3) hx hb dSF_checkRequest_29 xk_i3 ?_
          refine lv_icmp_ne hx hb dSF_checkRequest_30 rfl (fun hh10 => ?_) (fun hh10 => ?_)
          · skip
            refine lv_iconst (v := nI 4) hx hb dSF_checkRequest_37 xk_i4 ?_
            refine lv_istore_n (lv' := [(3, .int (nI 4)), (0, .int x), (1, .int y), (2, .int z)]) hx hb dSF_checkRequest_38 rfl hl (by decide) rfl (fun ls hl => ?_)
            refine lv_iload_n hx hb dSF_checkRequest_39 rfl (lv_at hl 2 rfl) ?_
            refine lv_if_lt hx hb dSF_checkRequest_40 rfl (fun hh11 => ?_) (fun hh11 => ?_)
            · skip
              refine lv_iconst (v := nI 0) hx hb dSF_checkRequest_53 xk_i0 ?_
              exact xth_callS C w hz hml hl.1 hlk hout xk_SF_118 (tSF_checkArgument l htr D cA tz I ad (σ)) rfl rfl (Nat.le_of_ble_eq_true rfl) (by decide) (by decide) dSF_checkRequest_54
            · skip
              refine lv_iload_n hx hb dSF_checkRequest_43 rfl (lv_at hl 2 rfl) ?_
              refine lv_bipush (v := nI 64) hx hb dSF_checkRequest_44 xk_b64 ?_
              refine lv_icmp_ge hx hb dSF_checkRequest_46 rfl (fun hh12 => ?_) (fun hh12 => ?_)
              · skip
                refine lv_iconst (v := nI 0) hx hb dSF_checkRequest_53 xk_i0 ?_
                exact xth_callS C w hz hml hl.1 hlk hout xk_SF_118 (tSF_checkArgument l htr D cA tz I ad (σ)) rfl rfl (Nat.le_of_ble_eq_true rfl) (by decide) (by decide) dSF_checkRequest_54
              · skip
                refine lv_iconst (v := nI 1) hx hb dSF_checkRequest_49 xk_i1 ?_
                refine lv_goto hx hb dSF_checkRequest_50 rfl ?_
                refine xd_callS C w hz hml hl.1 xk_SF_118 (cSF_checkArgument_ok l D cA tz I ad (σ)) rfl rfl (Nat.le_of_ble_eq_true rfl) (by decide) (by decide) dSF_checkRequest_54 (fun H locs w => ?_)
                refine W.eq (g2 := F0 m 57 ls []) rfl ?_
                refine lv_iload_n hx hb dSF_checkRequest_57 rfl (lv_at hl 3 rfl) ?_
                refine lv_iconst (v := nI 1) hx hb dSF_checkRequest_58 xk_i1 ?_
                refine lv_icmp_lt hx hb dSF_checkRequest_59 rfl (fun hh13 => ?_) (fun hh13 => ?_)
                · skip
                  refine lv_iconst (v := nI 0) hx hb dSF_checkRequest_71 xk_i0 ?_
                  exact xth_callS C w hz hml hl.1 hlk hout xk_SF_118 (tSF_checkArgument l htr D cA tz I ad (σ)) rfl rfl (Nat.le_of_ble_eq_true rfl) (by decide) (by decide) dSF_checkRequest_72
                · skip
                  refine lv_iload_n hx hb dSF_checkRequest_62 rfl (lv_at hl 3 rfl) ?_
                  refine lv_iload_n hx hb dSF_checkRequest_63 rfl (lv_at hl 0 rfl) ?_
                  refine lv_icmp_gt hx hb dSF_checkRequest_64 rfl (fun hh14 => ?_) (fun hh14 => ?_)
                  · skip
                    refine lv_iconst (v := nI 0) hx hb dSF_checkRequest_71 xk_i0 ?_
                    exact xth_callS C w hz hml hl.1 hlk hout xk_SF_118 (tSF_checkArgument l htr D cA tz I ad (σ)) rfl rfl (Nat.le_of_ble_eq_true rfl) (by decide) (by decide) dSF_checkRequest_72
                  · skip
                    refine lv_iconst (v := nI 1) hx hb dSF_checkRequest_67 xk_i1 ?_
                    refine lv_goto hx hb dSF_checkRequest_68 rfl ?_
                    refine xd_callS C w hz hml hl.1 xk_SF_118 (cSF_checkArgument_ok l D cA tz I ad (σ)) rfl rfl (Nat.le_of_ble_eq_true rfl) (by decide) (by decide) dSF_checkRequest_72 (fun H locs w => ?_)
                    refine W.eq (g2 := F0 m 75 ls []) rfl ?_
                    refine lv_iload_n hx hb dSF_checkRequest_75 rfl (lv_at hl 2 rfl) ?_
                    refine lv_bipush (v := nI 16) hx hb dSF_checkRequest_76 xk_b16 ?_
                    refine lv_idiv hx hb dSF_checkRequest_78 (by decide) ?_
                    refine lv_iload_n hx hb dSF_checkRequest_79 rfl (lv_at hl 2 rfl) ?_
                    refine lv_iload_n hx hb dSF_checkRequest_80 rfl (lv_at hl 3 rfl) ?_
                    refine lv_iadd hx hb dSF_checkRequest_81 ?_
                    refine lv_iconst (v := nI 1) hx hb dSF_checkRequest_82 xk_i1 ?_
                    refine lv_isub hx hb dSF_checkRequest_83 ?_
                    refine lv_bipush (v := nI 16) hx hb dSF_checkRequest_84 xk_b16 ?_
                    refine lv_idiv hx hb dSF_checkRequest_86 (by decide) ?_
                    refine lv_icmp_ne hx hb dSF_checkRequest_87 rfl (fun hh15 => ?_) (fun hh15 => ?_)
                    · skip
                      refine lv_iconst (v := nI 0) hx hb dSF_checkRequest_94 xk_i0 ?_
                      exact xth_callS C w hz hml hl.1 hlk hout xk_SF_118 (tSF_checkArgument l htr D cA tz I ad (σ)) rfl rfl (Nat.le_of_ble_eq_true rfl) (by decide) (by decide) dSF_checkRequest_95
                    · skip
                      refine lv_iconst (v := nI 1) hx hb dSF_checkRequest_90 xk_i1 ?_
                      refine lv_goto hx hb dSF_checkRequest_91 rfl ?_
                      refine xd_callS C w hz hml hl.1 xk_SF_118 (cSF_checkArgument_ok l D cA tz I ad (σ)) rfl rfl (Nat.le_of_ble_eq_true rfl) (by decide) (by decide) dSF_checkRequest_95 (fun H locs w => ?_)
                      refine W.eq (g2 := F0 m 98 ls []) rfl ?_
                      exact absurd (by unfold xp_sound; grind) hbd
          · skip
            refine lv_iconst (v := nI 1) hx hb dSF_checkRequest_33 xk_i1 ?_
            refine lv_goto hx hb dSF_checkRequest_34 rfl ?_
            refine lv_istore_n (lv' := [(3, .int (nI 1)), (0, .int x), (1, .int y), (2, .int z)]) hx hb dSF_checkRequest_38 rfl hl (by decide) rfl (fun ls hl => ?_)
            refine lv_iload_n hx hb dSF_checkRequest_39 rfl (lv_at hl 2 rfl) ?_
            refine lv_if_lt hx hb dSF_checkRequest_40 rfl (fun hh16 => ?_) (fun hh16 => ?_)
            · skip
              refine lv_iconst (v := nI 0) hx hb dSF_checkRequest_53 xk_i0 ?_
              exact xth_callS C w hz hml hl.1 hlk hout xk_SF_118 (tSF_checkArgument l htr D cA tz I ad (σ)) rfl rfl (Nat.le_of_ble_eq_true rfl) (by decide) (by decide) dSF_checkRequest_54
            · skip
              refine lv_iload_n hx hb dSF_checkRequest_43 rfl (lv_at hl 2 rfl) ?_
              refine lv_bipush (v := nI 64) hx hb dSF_checkRequest_44 xk_b64 ?_
              refine lv_icmp_ge hx hb dSF_checkRequest_46 rfl (fun hh17 => ?_) (fun hh17 => ?_)
              · skip
                refine lv_iconst (v := nI 0) hx hb dSF_checkRequest_53 xk_i0 ?_
                exact xth_callS C w hz hml hl.1 hlk hout xk_SF_118 (tSF_checkArgument l htr D cA tz I ad (σ)) rfl rfl (Nat.le_of_ble_eq_true rfl) (by decide) (by decide) dSF_checkRequest_54
              · skip
                refine lv_iconst (v := nI 1) hx hb dSF_checkRequest_49 xk_i1 ?_
                refine lv_goto hx hb dSF_checkRequest_50 rfl ?_
                refine xd_callS C w hz hml hl.1 xk_SF_118 (cSF_checkArgument_ok l D cA tz I ad (σ)) rfl rfl (Nat.le_of_ble_eq_true rfl) (by decide) (by decide) dSF_checkRequest_54 (fun H locs w => ?_)
                refine W.eq (g2 := F0 m 57 ls []) rfl ?_
                refine lv_iload_n hx hb dSF_checkRequest_57 rfl (lv_at hl 3 rfl) ?_
                refine lv_iconst (v := nI 1) hx hb dSF_checkRequest_58 xk_i1 ?_
                refine lv_icmp_lt hx hb dSF_checkRequest_59 rfl (fun hh18 => ?_) (fun hh18 => ?_)
                · skip
                  refine lv_iconst (v := nI 0) hx hb dSF_checkRequest_71 xk_i0 ?_
                  exact xth_callS C w hz hml hl.1 hlk hout xk_SF_118 (tSF_checkArgument l htr D cA tz I ad (σ)) rfl rfl (Nat.le_of_ble_eq_true rfl) (by decide) (by decide) dSF_checkRequest_72
                · skip
                  refine lv_iload_n hx hb dSF_checkRequest_62 rfl (lv_at hl 3 rfl) ?_
                  refine lv_iload_n hx hb dSF_checkRequest_63 rfl (lv_at hl 0 rfl) ?_
                  refine lv_icmp_gt hx hb dSF_checkRequest_64 rfl (fun hh19 => ?_) (fun hh19 => ?_)
                  · skip
                    refine lv_iconst (v := nI 0) hx hb dSF_checkRequest_71 xk_i0 ?_
                    exact xth_callS C w hz hml hl.1 hlk hout xk_SF_118 (tSF_checkArgument l htr D cA tz I ad (σ)) rfl rfl (Nat.le_of_ble_eq_true rfl) (by decide) (by decide) dSF_checkRequest_72
                  · skip
                    refine lv_iconst (v := nI 1) hx hb dSF_checkRequest_67 xk_i1 ?_
                    refine lv_goto hx hb dSF_checkRequest_68 rfl ?_
                    refine xd_callS C w hz hml hl.1 xk_SF_118 (cSF_checkArgument_ok l D cA tz I ad (σ)) rfl rfl (Nat.le_of_ble_eq_true rfl) (by decide) (by decide) dSF_checkRequest_72 (fun H locs w => ?_)
                    refine W.eq (g2 := F0 m 75 ls []) rfl ?_
                    refine lv_iload_n hx hb dSF_checkRequest_75 rfl (lv_at hl 2 rfl) ?_
                    refine lv_bipush (v := nI 16) hx hb dSF_checkRequest_76 xk_b16 ?_
                    refine lv_idiv hx hb dSF_checkRequest_78 (by decide) ?_
                    refine lv_iload_n hx hb dSF_checkRequest_79 rfl (lv_at hl 2 rfl) ?_
                    refine lv_iload_n hx hb dSF_checkRequest_80 rfl (lv_at hl 3 rfl) ?_
                    refine lv_iadd hx hb dSF_checkRequest_81 ?_
                    refine lv_iconst (v := nI 1) hx hb dSF_checkRequest_82 xk_i1 ?_
                    refine lv_isub hx hb dSF_checkRequest_83 ?_
                    refine lv_bipush (v := nI 16) hx hb dSF_checkRequest_84 xk_b16 ?_
                    refine lv_idiv hx hb dSF_checkRequest_86 (by decide) ?_
                    refine lv_icmp_ne hx hb dSF_checkRequest_87 rfl (fun hh20 => ?_) (fun hh20 => ?_)
                    · skip
                      refine lv_iconst (v := nI 0) hx hb dSF_checkRequest_94 xk_i0 ?_
                      exact xth_callS C w hz hml hl.1 hlk hout xk_SF_118 (tSF_checkArgument l htr D cA tz I ad (σ)) rfl rfl (Nat.le_of_ble_eq_true rfl) (by decide) (by decide) dSF_checkRequest_95
                    · skip
                      refine lv_iconst (v := nI 1) hx hb dSF_checkRequest_90 xk_i1 ?_
                      refine lv_goto hx hb dSF_checkRequest_91 rfl ?_
                      refine xd_callS C w hz hml hl.1 xk_SF_118 (cSF_checkArgument_ok l D cA tz I ad (σ)) rfl rfl (Nat.le_of_ble_eq_true rfl) (by decide) (by decide) dSF_checkRequest_95 (fun H locs w => ?_)
                      refine W.eq (g2 := F0 m 98 ls []) rfl ?_
                      exact absurd (by unfold xp_sound; grind) hbd
      · skip
        exact absurd (by unfold xp_sound; grind) hbd
set_option maxRecDepth 100000 in
set_option maxHeartbeats 4000000 in
theorem t2SF_issue (l : Launch) (htr : l.stackTraces = false) (D : va_G) (cA : Nat → ClassId) (tz : Nat) (I : List (Nat × Nat)) (ad : Nat → Nat → Nat) (σ : xMem) (a b : Nat) (x y z : Int32) (ha : a < 4) (hb4 : b < 4) (hbd : ¬ xp_sound x y z) : xTh l ySF_issue bSF_issue 7 none 8 [.ref (ad 5 0), .int (nI a), .int x, .int y, .int z, .int (nI b)] D cA tz I ad σ "java/lang/IllegalArgumentException" := by
  refine xth_of (by decide) (by simp [lg_sl, Value.category]) ?_
  intro p e s m args below meth c A ls C hlk hml hout hl w hz
  obtain ⟨hx, hb, hown, hts⟩ := id C
  have hl : lv_has ls 7 [(0, .ref (ad 5 0)), (1, .int (nI a)), (2, .int x), (3, .int y), (4, .int z), (5, .int (nI b))] := hl
  refine lv_iload_n hx hb dSF_issue_0 rfl (lv_at hl 1 rfl) ?_
  refine lv_iconst (v := nI 4) hx hb dSF_issue_1 xk_i4 ?_
  refine xd_callS C w hz hml hl.1 xk_SF_57 (cSF_checkIndex_ok l D cA tz I ad σ a 4 (by omega) (by decide)) rfl rfl (Nat.le_of_ble_eq_true rfl) (by decide) (by decide) dSF_issue_2 (fun H locs w => ?_)
  refine W.eq (g2 := F0 m 5 ls []) rfl ?_
  refine lv_iload hx hb dSF_issue_5 (lv_at hl 5 rfl) ?_
  refine lv_iconst (v := nI 4) hx hb dSF_issue_7 xk_i4 ?_
  refine xd_callS C w hz hml hl.1 xk_SF_57 (cSF_checkIndex_ok l D cA tz I ad σ b 4 (by omega) (by decide)) rfl rfl (Nat.le_of_ble_eq_true rfl) (by decide) (by decide) dSF_issue_8 (fun H locs w => ?_)
  refine W.eq (g2 := F0 m 11 ls []) rfl ?_
  refine lv_iload_n hx hb dSF_issue_11 rfl (lv_at hl 2 rfl) ?_
  refine lv_iload_n hx hb dSF_issue_12 rfl (lv_at hl 3 rfl) ?_
  refine lv_iload hx hb dSF_issue_13 (lv_at hl 4 rfl) ?_
  exact xth_callS C w hz hml hl.1 hlk hout xk_SF_60 (tSF_checkRequest l htr D cA tz I ad σ x y z hbd) rfl rfl (Nat.le_of_ble_eq_true rfl) (by decide) (by decide) dSF_issue_15
set_option maxRecDepth 100000 in
set_option maxHeartbeats 4000000 in
theorem t3SF_issue_bar (l : Launch) (htr : l.stackTraces = false) (D : va_G) (cA : Nat → ClassId) (tz : Nat) (I : List (Nat × Nat)) (ad : Nat → Nat → Nat) (σ : xMem) (a b : Nat) (y z : Int32) (hI : xI I) (h6 : σ 6 0 0 = nI 16) (ha : a < 4) (hb4 : b < 4) (hbd : ¬ σ 0 (4 * a + b) 3 = 0) : xTh l ySF_issue bSF_issue 7 none 7 [.ref (ad 5 0), .int (nI a), .int (nI 4), .int y, .int z, .int (nI b)] D cA tz I ad σ "java/lang/IllegalStateException" := by
  refine xth_of (by decide) (by simp [lg_sl, Value.category]) ?_
  intro p e s m args below meth c A ls C hlk hml hout hl w hz
  obtain ⟨hx, hb, hown, hts⟩ := id C
  have hl : lv_has ls 7 [(0, .ref (ad 5 0)), (1, .int (nI a)), (2, .int (nI 4)), (3, .int y), (4, .int z), (5, .int (nI b))] := hl
  refine lv_iload_n hx hb dSF_issue_0 rfl (lv_at hl 1 rfl) ?_
  refine lv_iconst (v := nI 4) hx hb dSF_issue_1 xk_i4 ?_
  refine xd_callS C w hz hml hl.1 xk_SF_57 (cSF_checkIndex_ok l D cA tz I ad σ a 4 (by omega) (by decide)) rfl rfl (Nat.le_of_ble_eq_true rfl) (by decide) (by decide) dSF_issue_2 (fun H locs w => ?_)
  refine W.eq (g2 := F0 m 5 ls []) rfl ?_
  refine lv_iload hx hb dSF_issue_5 (lv_at hl 5 rfl) ?_
  refine lv_iconst (v := nI 4) hx hb dSF_issue_7 xk_i4 ?_
  refine xd_callS C w hz hml hl.1 xk_SF_57 (cSF_checkIndex_ok l D cA tz I ad σ b 4 (by omega) (by decide)) rfl rfl (Nat.le_of_ble_eq_true rfl) (by decide) (by decide) dSF_issue_8 (fun H locs w => ?_)
  refine W.eq (g2 := F0 m 11 ls []) rfl ?_
  refine lv_iload_n hx hb dSF_issue_11 rfl (lv_at hl 2 rfl) ?_
  refine lv_iload_n hx hb dSF_issue_12 rfl (lv_at hl 3 rfl) ?_
  refine lv_iload hx hb dSF_issue_13 (lv_at hl 4 rfl) ?_
  refine xd_callS C w hz hml hl.1 xk_SF_60 (cSF_checkRequest_bar l D cA tz I ad σ y z) rfl rfl (Nat.le_of_ble_eq_true rfl) (by decide) (by decide) dSF_issue_15 (fun H locs w => ?_)
  refine W.eq (g2 := F0 m 18 ls []) rfl ?_
  refine lv_aload_n hx hb dSF_issue_18 rfl (lv_at hl 0 rfl) ?_
  refine lv_iload_n hx hb dSF_issue_19 rfl (lv_at hl 1 rfl) ?_
  refine lv_iload hx hb dSF_issue_20 (lv_at hl 5 rfl) ?_
  refine xd_callV C w hz hml hl.1 xk_SF_64 (cSF_tagOf l D cA tz I ad σ a b hI h6 (by omega)) (xI5 hI) rfl rfl rfl rfl (Nat.le_of_ble_eq_true rfl) (by decide) (by decide) dSF_issue_22 (fun H locs w => ?_)
  refine W.eq (g2 := F0 m 25 ls [.ref (ad 0 (4 * a + b))]) rfl ?_
  refine lv_astore (lv' := [(6, .ref (ad 0 (4 * a + b))), (0, .ref (ad 5 0)), (1, .int (nI a)), (2, .int (nI 4)), (3, .int y), (4, .int z), (5, .int (nI b))]) hx hb dSF_issue_25 hl (by decide) rfl (fun ls hl => ?_)
  refine lv_aload hx hb dSF_issue_27 (lv_at hl 0 rfl) ?_
  refine xg_SF_68 C w (xI0 hI (by omega)) dSF_issue_29 ?_
  refine lv_if_ne hx hb dSF_issue_32 rfl (fun hh1 => ?_) (fun hh1 => absurd hh1 hbd)
  refine lv_iconst (v := nI 0) hx hb dSF_issue_39 xk_i0 ?_
  exact xth_callS C w hz hml hl.1 hlk hout xk_SF_71 (tSF_checkState l htr D cA tz I ad (σ)) rfl rfl (Nat.le_of_ble_eq_true rfl) (by decide) (by decide) dSF_issue_40
set_option maxRecDepth 100000 in
set_option maxHeartbeats 4000000 in
theorem t3SF_issue (l : Launch) (htr : l.stackTraces = false) (D : va_G) (cA : Nat → ClassId) (tz : Nat) (I : List (Nat × Nat)) (ad : Nat → Nat → Nat) (σ : xMem) (a b k q n : Nat) (hI : xI I) (h6 : σ 6 0 0 = nI 16) (h7 : σ 7 0 0 = nI 3) (ha : a < 4) (hb4 : b < 4) (hk4 : k < 4) (h64 : q < 64) (h1n : 1 ≤ n) (hn4 : n ≤ 4) (hn1 : k = 2 ∨ k = 3 → n ≤ 1) (hdv : q / 16 = (q + n - 1) / 16) (hbd : ¬ (σ 0 (4 * a + b) 3 = 0 ∧ (k = 2 → ¬ xp_some σ (nI a) ∧ ¬ xp_wait σ a (nI 2)) ∧ (k = 3 → (q < 48 ∧ σ 2 (q / 16) 3 = nI a) ∧ ¬ xp_wait σ a (nI 3)))) : xTh l ySF_issue bSF_issue 7 none 7 [.ref (ad 5 0), .int (nI a), .int (nI k), .int (nI q), .int (nI n), .int (nI b)] D cA tz I ad σ "java/lang/IllegalStateException" := by
  refine xth_of (by decide) (by simp [lg_sl, Value.category]) ?_
  intro p e s m args below meth c A ls C hlk hml hout hl w hz
  obtain ⟨hx, hb, hown, hts⟩ := id C
  have hl : lv_has ls 7 [(0, .ref (ad 5 0)), (1, .int (nI a)), (2, .int (nI k)), (3, .int (nI q)), (4, .int (nI n)), (5, .int (nI b))] := hl
  refine lv_iload_n hx hb dSF_issue_0 rfl (lv_at hl 1 rfl) ?_
  refine lv_iconst (v := nI 4) hx hb dSF_issue_1 xk_i4 ?_
  refine xd_callS C w hz hml hl.1 xk_SF_57 (cSF_checkIndex_ok l D cA tz I ad σ a 4 (by omega) (by decide)) rfl rfl (Nat.le_of_ble_eq_true rfl) (by decide) (by decide) dSF_issue_2 (fun H locs w => ?_)
  refine W.eq (g2 := F0 m 5 ls []) rfl ?_
  refine lv_iload hx hb dSF_issue_5 (lv_at hl 5 rfl) ?_
  refine lv_iconst (v := nI 4) hx hb dSF_issue_7 xk_i4 ?_
  refine xd_callS C w hz hml hl.1 xk_SF_57 (cSF_checkIndex_ok l D cA tz I ad σ b 4 (by omega) (by decide)) rfl rfl (Nat.le_of_ble_eq_true rfl) (by decide) (by decide) dSF_issue_8 (fun H locs w => ?_)
  refine W.eq (g2 := F0 m 11 ls []) rfl ?_
  refine lv_iload_n hx hb dSF_issue_11 rfl (lv_at hl 2 rfl) ?_
  refine lv_iload_n hx hb dSF_issue_12 rfl (lv_at hl 3 rfl) ?_
  refine lv_iload hx hb dSF_issue_13 (lv_at hl 4 rfl) ?_
  refine xd_callS C w hz hml hl.1 xk_SF_60 (cSF_checkRequest_ok l D cA tz I ad σ k q n hk4 h64 h1n hn4 hn1 hdv) rfl rfl (Nat.le_of_ble_eq_true rfl) (by decide) (by decide) dSF_issue_15 (fun H locs w => ?_)
  refine W.eq (g2 := F0 m 18 ls []) rfl ?_
  refine lv_aload_n hx hb dSF_issue_18 rfl (lv_at hl 0 rfl) ?_
  refine lv_iload_n hx hb dSF_issue_19 rfl (lv_at hl 1 rfl) ?_
  refine lv_iload hx hb dSF_issue_20 (lv_at hl 5 rfl) ?_
  refine xd_callV C w hz hml hl.1 xk_SF_64 (cSF_tagOf l D cA tz I ad σ a b hI h6 (by omega)) (xI5 hI) rfl rfl rfl rfl (Nat.le_of_ble_eq_true rfl) (by decide) (by decide) dSF_issue_22 (fun H locs w => ?_)
  refine W.eq (g2 := F0 m 25 ls [.ref (ad 0 (4 * a + b))]) rfl ?_
  refine lv_astore (lv' := [(6, .ref (ad 0 (4 * a + b))), (0, .ref (ad 5 0)), (1, .int (nI a)), (2, .int (nI k)), (3, .int (nI q)), (4, .int (nI n)), (5, .int (nI b))]) hx hb dSF_issue_25 hl (by decide) rfl (fun ls hl => ?_)
  refine lv_aload hx hb dSF_issue_27 (lv_at hl 0 rfl) ?_
  refine xg_SF_68 C w (xI0 hI (by omega)) dSF_issue_29 ?_
  refine lv_if_ne hx hb dSF_issue_32 rfl (fun hh1 => ?_) (fun hh1 => ?_)
  · skip
    refine lv_iconst (v := nI 0) hx hb dSF_issue_39 xk_i0 ?_
    exact xth_callS C w hz hml hl.1 hlk hout xk_SF_71 (tSF_checkState l htr D cA tz I ad (σ)) rfl rfl (Nat.le_of_ble_eq_true rfl) (by decide) (by decide) dSF_issue_40
  · skip
    refine lv_iconst (v := nI 1) hx hb dSF_issue_35 xk_i1 ?_
    refine lv_goto hx hb dSF_issue_36 rfl ?_
    refine xd_callS C w hz hml hl.1 xk_SF_71 (cSF_checkState_ok l D cA tz I ad (σ)) rfl rfl (Nat.le_of_ble_eq_true rfl) (by decide) (by decide) dSF_issue_40 (fun H locs w => ?_)
    refine W.eq (g2 := F0 m 43 ls []) rfl ?_
    refine lv_iload_n hx hb dSF_issue_43 rfl (lv_at hl 3 rfl) ?_
    refine lv_iconst (v := nI 2) hx hb dSF_issue_44 xk_i2 ?_
    refine lv_icmp_ne hx hb dSF_issue_45 rfl (fun hh2 => ?_) (fun hh2 => ?_)
    · skip
      refine lv_iload_n hx hb dSF_issue_73 rfl (lv_at hl 3 rfl) ?_
      refine lv_iconst (v := nI 3) hx hb dSF_issue_74 xk_i3 ?_
      refine lv_icmp_ne hx hb dSF_issue_75 rfl (fun hh3 => ?_) (fun hh3 => ?_)
      · skip
        exact absurd (by have q2 := nI_eq (a := k) (b := 2) (by omega) (by decide); have q3 := nI_eq (a := k) (b := 3) (by omega) (by decide); grind) hbd
      · skip
        refine lv_aload_n hx hb dSF_issue_78 rfl (lv_at hl 1 rfl) ?_
        refine lv_iload_n hx hb dSF_issue_79 rfl (lv_at hl 2 rfl) ?_
        refine lv_iload_n hx hb dSF_issue_80 rfl (lv_at hl 4 rfl) ?_
        refine xd_callV C w hz hml hl.1 xk_SF_83 (cSF_holdsTargetOf l D cA tz I ad σ (nI a) q hI h7 h64) (xI5 hI) rfl rfl rfl rfl (Nat.le_of_ble_eq_true rfl) (by decide) (by decide) dSF_issue_81 (fun H locs w => ?_)
        refine W.eq (g2 := F0 m 84 ls [.int (xb (q < 48 ∧ σ 2 (q / 16) 3 = nI a))]) rfl ?_
        refine xz_ifeq hx hb dSF_issue_84 rfl (fun hh4 => ?_) (fun hh4 => ?_)
        · skip
          refine lv_iconst (v := nI 0) hx hb dSF_issue_100 xk_i0 ?_
          exact xth_callS C w hz hml hl.1 hlk hout xk_SF_71 (tSF_checkState l htr D cA tz I ad (σ)) rfl rfl (Nat.le_of_ble_eq_true rfl) (by decide) (by decide) dSF_issue_101
        · skip
          refine lv_aload_n hx hb dSF_issue_87 rfl (lv_at hl 1 rfl) ?_
          refine lv_iload_n hx hb dSF_issue_88 rfl (lv_at hl 2 rfl) ?_
          refine lv_iconst (v := nI 3) hx hb dSF_issue_89 xk_i3 ?_
          refine xd_callV C w hz hml hl.1 xk_SF_79 (cSF_hasWaiting l D cA tz I ad σ a (nI 3) hI h6 ha) (xI5 hI) rfl rfl rfl rfl (Nat.le_of_ble_eq_true rfl) (by decide) (by decide) dSF_issue_90 (fun H locs w => ?_)
          refine W.eq (g2 := F0 m 93 ls [.int (xb (xp_wait σ a (nI 3)))]) rfl ?_
          refine xz_ifne hx hb dSF_issue_93 rfl (fun hh5 => ?_) (fun hh5 => ?_)
          · skip
            refine lv_iconst (v := nI 0) hx hb dSF_issue_100 xk_i0 ?_
            exact xth_callS C w hz hml hl.1 hlk hout xk_SF_71 (tSF_checkState l htr D cA tz I ad (σ)) rfl rfl (Nat.le_of_ble_eq_true rfl) (by decide) (by decide) dSF_issue_101
          · skip
            refine lv_iconst (v := nI 1) hx hb dSF_issue_96 xk_i1 ?_
            refine lv_goto hx hb dSF_issue_97 rfl ?_
            refine xd_callS C w hz hml hl.1 xk_SF_71 (cSF_checkState_ok l D cA tz I ad (σ)) rfl rfl (Nat.le_of_ble_eq_true rfl) (by decide) (by decide) dSF_issue_101 (fun H locs w => ?_)
            refine W.eq (g2 := F0 m 104 ls []) rfl ?_
            exact absurd (by have q2 := nI_eq (a := k) (b := 2) (by omega) (by decide); have q3 := nI_eq (a := k) (b := 3) (by omega) (by decide); grind) hbd
    · skip
      refine lv_aload_n hx hb dSF_issue_48 rfl (lv_at hl 1 rfl) ?_
      refine lv_iload_n hx hb dSF_issue_49 rfl (lv_at hl 2 rfl) ?_
      refine xd_callV C w hz hml hl.1 xk_SF_75 (cSF_holdsSome l D cA tz I ad σ (nI a) hI h7) (xI5 hI) rfl rfl rfl rfl (Nat.le_of_ble_eq_true rfl) (by decide) (by decide) dSF_issue_50 (fun H locs w => ?_)
      refine W.eq (g2 := F0 m 53 ls [.int (xb (xp_some σ (nI a)))]) rfl ?_
      refine xz_ifne hx hb dSF_issue_53 rfl (fun hh6 => ?_) (fun hh6 => ?_)
      · skip
        refine lv_iconst (v := nI 0) hx hb dSF_issue_69 xk_i0 ?_
        exact xth_callS C w hz hml hl.1 hlk hout xk_SF_71 (tSF_checkState l htr D cA tz I ad (σ)) rfl rfl (Nat.le_of_ble_eq_true rfl) (by decide) (by decide) dSF_issue_70
      · skip
        refine lv_aload_n hx hb dSF_issue_56 rfl (lv_at hl 1 rfl) ?_
        refine lv_iload_n hx hb dSF_issue_57 rfl (lv_at hl 2 rfl) ?_
        refine lv_iconst (v := nI 2) hx hb dSF_issue_58 xk_i2 ?_
        refine xd_callV C w hz hml hl.1 xk_SF_79 (cSF_hasWaiting l D cA tz I ad σ a (nI 2) hI h6 ha) (xI5 hI) rfl rfl rfl rfl (Nat.le_of_ble_eq_true rfl) (by decide) (by decide) dSF_issue_59 (fun H locs w => ?_)
        refine W.eq (g2 := F0 m 62 ls [.int (xb (xp_wait σ a (nI 2)))]) rfl ?_
        refine xz_ifne hx hb dSF_issue_62 rfl (fun hh7 => ?_) (fun hh7 => ?_)
        · skip
          refine lv_iconst (v := nI 0) hx hb dSF_issue_69 xk_i0 ?_
          exact xth_callS C w hz hml hl.1 hlk hout xk_SF_71 (tSF_checkState l htr D cA tz I ad (σ)) rfl rfl (Nat.le_of_ble_eq_true rfl) (by decide) (by decide) dSF_issue_70
        · skip
          refine lv_iconst (v := nI 1) hx hb dSF_issue_65 xk_i1 ?_
          refine lv_goto hx hb dSF_issue_66 rfl ?_
          refine xd_callS C w hz hml hl.1 xk_SF_71 (cSF_checkState_ok l D cA tz I ad (σ)) rfl rfl (Nat.le_of_ble_eq_true rfl) (by decide) (by decide) dSF_issue_70 (fun H locs w => ?_)
          refine W.eq (g2 := F0 m 73 ls []) rfl ?_
          refine lv_iload_n hx hb dSF_issue_73 rfl (lv_at hl 3 rfl) ?_
          refine lv_iconst (v := nI 3) hx hb dSF_issue_74 xk_i3 ?_
          refine lv_icmp_ne hx hb dSF_issue_75 rfl (fun hh8 => ?_) (fun hh8 => ?_)
          · skip
            exact absurd (by have q2 := nI_eq (a := k) (b := 2) (by omega) (by decide); have q3 := nI_eq (a := k) (b := 3) (by omega) (by decide); grind) hbd
          · skip
            refine lv_aload_n hx hb dSF_issue_78 rfl (lv_at hl 1 rfl) ?_
            refine lv_iload_n hx hb dSF_issue_79 rfl (lv_at hl 2 rfl) ?_
            refine lv_iload_n hx hb dSF_issue_80 rfl (lv_at hl 4 rfl) ?_
            refine xd_callV C w hz hml hl.1 xk_SF_83 (cSF_holdsTargetOf l D cA tz I ad σ (nI a) q hI h7 h64) (xI5 hI) rfl rfl rfl rfl (Nat.le_of_ble_eq_true rfl) (by decide) (by decide) dSF_issue_81 (fun H locs w => ?_)
            refine W.eq (g2 := F0 m 84 ls [.int (xb (q < 48 ∧ σ 2 (q / 16) 3 = nI a))]) rfl ?_
            refine xz_ifeq hx hb dSF_issue_84 rfl (fun hh9 => ?_) (fun hh9 => ?_)
            · skip
              refine lv_iconst (v := nI 0) hx hb dSF_issue_100 xk_i0 ?_
              exact xth_callS C w hz hml hl.1 hlk hout xk_SF_71 (tSF_checkState l htr D cA tz I ad (σ)) rfl rfl (Nat.le_of_ble_eq_true rfl) (by decide) (by decide) dSF_issue_101
            · skip
              refine lv_aload_n hx hb dSF_issue_87 rfl (lv_at hl 1 rfl) ?_
              refine lv_iload_n hx hb dSF_issue_88 rfl (lv_at hl 2 rfl) ?_
              refine lv_iconst (v := nI 3) hx hb dSF_issue_89 xk_i3 ?_
              refine xd_callV C w hz hml hl.1 xk_SF_79 (cSF_hasWaiting l D cA tz I ad σ a (nI 3) hI h6 ha) (xI5 hI) rfl rfl rfl rfl (Nat.le_of_ble_eq_true rfl) (by decide) (by decide) dSF_issue_90 (fun H locs w => ?_)
              refine W.eq (g2 := F0 m 93 ls [.int (xb (xp_wait σ a (nI 3)))]) rfl ?_
              refine xz_ifne hx hb dSF_issue_93 rfl (fun hh10 => ?_) (fun hh10 => ?_)
              · skip
                refine lv_iconst (v := nI 0) hx hb dSF_issue_100 xk_i0 ?_
                exact xth_callS C w hz hml hl.1 hlk hout xk_SF_71 (tSF_checkState l htr D cA tz I ad (σ)) rfl rfl (Nat.le_of_ble_eq_true rfl) (by decide) (by decide) dSF_issue_101
              · skip
                refine lv_iconst (v := nI 1) hx hb dSF_issue_96 xk_i1 ?_
                refine lv_goto hx hb dSF_issue_97 rfl ?_
                refine xd_callS C w hz hml hl.1 xk_SF_71 (cSF_checkState_ok l D cA tz I ad (σ)) rfl rfl (Nat.le_of_ble_eq_true rfl) (by decide) (by decide) dSF_issue_101 (fun H locs w => ?_)
                refine W.eq (g2 := F0 m 104 ls []) rfl ?_
                exact absurd (by have q2 := nI_eq (a := k) (b := 2) (by omega) (by decide); have q3 := nI_eq (a := k) (b := 3) (by omega) (by decide); grind) hbd
set_option maxRecDepth 100000 in
set_option maxHeartbeats 4000000 in
theorem t2SF_word (l : Launch) (htr : l.stackTraces = false) (D : va_G) (cA : Nat → ClassId) (tz : Nat) (I : List (Nat × Nat)) (ad : Nat → Nat → Nat) (σ : xMem) (a b i : Nat) (hI : xI I) (h6 : σ 6 0 0 = nI 16) (ha : a < 4) (hb4 : b < 4) (hi4 : i < 4) (hbd : ¬ (σ 0 (4 * a + b) 3 = nI 3 ∧ xp_read σ (4 * a + b) ∧ nI i < σ 0 (4 * a + b) 6)) : xTh l ySF_word bSF_word 5 (some .int) 7 [.ref (ad 5 0), .int (nI a), .int (nI b), .int (nI i)] D cA tz I ad σ "java/lang/IllegalStateException" := by
  refine xth_of (by decide) (by simp [lg_sl, Value.category]) ?_
  intro p e s m args below meth c A ls C hlk hml hout hl w hz
  obtain ⟨hx, hb, hown, hts⟩ := id C
  have hl : lv_has ls 5 [(0, .ref (ad 5 0)), (1, .int (nI a)), (2, .int (nI b)), (3, .int (nI i))] := hl
  refine lv_iload_n hx hb dSF_word_0 rfl (lv_at hl 1 rfl) ?_
  refine lv_iconst (v := nI 4) hx hb dSF_word_1 xk_i4 ?_
  refine xd_callS C w hz hml hl.1 xk_SF_57 (cSF_checkIndex_ok l D cA tz I ad σ a 4 (by omega) (by decide)) rfl rfl (Nat.le_of_ble_eq_true rfl) (by decide) (by decide) dSF_word_2 (fun H locs w => ?_)
  refine W.eq (g2 := F0 m 5 ls []) rfl ?_
  refine lv_iload_n hx hb dSF_word_5 rfl (lv_at hl 2 rfl) ?_
  refine lv_iconst (v := nI 4) hx hb dSF_word_6 xk_i4 ?_
  refine xd_callS C w hz hml hl.1 xk_SF_57 (cSF_checkIndex_ok l D cA tz I ad σ b 4 (by omega) (by decide)) rfl rfl (Nat.le_of_ble_eq_true rfl) (by decide) (by decide) dSF_word_7 (fun H locs w => ?_)
  refine W.eq (g2 := F0 m 10 ls []) rfl ?_
  refine lv_iload_n hx hb dSF_word_10 rfl (lv_at hl 3 rfl) ?_
  refine lv_iconst (v := nI 4) hx hb dSF_word_11 xk_i4 ?_
  refine xd_callS C w hz hml hl.1 xk_SF_57 (cSF_checkIndex_ok l D cA tz I ad σ i 4 (by omega) (by decide)) rfl rfl (Nat.le_of_ble_eq_true rfl) (by decide) (by decide) dSF_word_12 (fun H locs w => ?_)
  refine W.eq (g2 := F0 m 15 ls []) rfl ?_
  refine lv_aload_n hx hb dSF_word_15 rfl (lv_at hl 0 rfl) ?_
  refine lv_iload_n hx hb dSF_word_16 rfl (lv_at hl 1 rfl) ?_
  refine lv_iload_n hx hb dSF_word_17 rfl (lv_at hl 2 rfl) ?_
  refine xd_callV C w hz hml hl.1 xk_SF_64 (cSF_tagOf l D cA tz I ad σ a b hI h6 (by omega)) (xI5 hI) rfl rfl rfl rfl (Nat.le_of_ble_eq_true rfl) (by decide) (by decide) dSF_word_18 (fun H locs w => ?_)
  refine W.eq (g2 := F0 m 21 ls [.ref (ad 0 (4 * a + b))]) rfl ?_
  refine lv_astore (lv' := [(4, .ref (ad 0 (4 * a + b))), (0, .ref (ad 5 0)), (1, .int (nI a)), (2, .int (nI b)), (3, .int (nI i))]) hx hb dSF_word_21 hl (by decide) rfl (fun ls hl => ?_)
  refine lv_aload hx hb dSF_word_23 (lv_at hl 0 rfl) ?_
  refine xg_SF_68 C w (xI0 hI (by omega)) dSF_word_25 ?_
  refine lv_iconst (v := nI 3) hx hb dSF_word_28 xk_i3 ?_
  refine lv_icmp_ne hx hb dSF_word_29 rfl (fun hh1 => ?_) (fun hh1 => ?_)
  · skip
    refine lv_iconst (v := nI 0) hx hb dSF_word_53 xk_i0 ?_
    exact xth_callS C w hz hml hl.1 hlk hout xk_SF_71 (tSF_checkState l htr D cA tz I ad (σ)) rfl rfl (Nat.le_of_ble_eq_true rfl) (by decide) (by decide) dSF_word_54
  · skip
    refine lv_aload hx hb dSF_word_32 (lv_at hl 0 rfl) ?_
    refine xd_callV C w hz hml hl.1 xk_SF_125 (cTG_isReading l D cA tz I ad σ (4 * a + b) hI (by omega)) (xI0 hI (by omega)) rfl rfl rfl rfl (Nat.le_of_ble_eq_true rfl) (by decide) (by decide) dSF_word_34 (fun H locs w => ?_)
    refine W.eq (g2 := F0 m 37 ls [.int (xb (xp_read σ (4 * a + b)))]) rfl ?_
    refine xz_ifeq hx hb dSF_word_37 rfl (fun hh2 => ?_) (fun hh2 => ?_)
    · skip
      refine lv_iconst (v := nI 0) hx hb dSF_word_53 xk_i0 ?_
      exact xth_callS C w hz hml hl.1 hlk hout xk_SF_71 (tSF_checkState l htr D cA tz I ad (σ)) rfl rfl (Nat.le_of_ble_eq_true rfl) (by decide) (by decide) dSF_word_54
    · skip
      refine lv_iload_n hx hb dSF_word_40 rfl (lv_at hl 4 rfl) ?_
      refine lv_aload hx hb dSF_word_41 (lv_at hl 0 rfl) ?_
      refine xg_SF_129 C w (xI0 hI (by omega)) dSF_word_43 ?_
      refine lv_icmp_ge hx hb dSF_word_46 rfl (fun hh3 => ?_) (fun hh3 => ?_)
      · skip
        refine lv_iconst (v := nI 0) hx hb dSF_word_53 xk_i0 ?_
        exact xth_callS C w hz hml hl.1 hlk hout xk_SF_71 (tSF_checkState l htr D cA tz I ad (σ)) rfl rfl (Nat.le_of_ble_eq_true rfl) (by decide) (by decide) dSF_word_54
      · skip
        refine lv_iconst (v := nI 1) hx hb dSF_word_49 xk_i1 ?_
        refine lv_goto hx hb dSF_word_50 rfl ?_
        refine xd_callS C w hz hml hl.1 xk_SF_71 (cSF_checkState_ok l D cA tz I ad (σ)) rfl rfl (Nat.le_of_ble_eq_true rfl) (by decide) (by decide) dSF_word_54 (fun H locs w => ?_)
        refine W.eq (g2 := F0 m 57 ls []) rfl ?_
        exact absurd (by have q := @Int32.not_le; grind) hbd
set_option maxRecDepth 100000 in
set_option maxHeartbeats 4000000 in
theorem t2SF_take (l : Launch) (htr : l.stackTraces = false) (D : va_G) (cA : Nat → ClassId) (tz : Nat) (I : List (Nat × Nat)) (ad : Nat → Nat → Nat) (σ : xMem) (a b : Nat) (hI : xI I) (h6 : σ 6 0 0 = nI 16) (ha : a < 4) (hb4 : b < 4) (hbd : ¬ (σ 0 (4 * a + b) 3 = nI 3 ∨ σ 0 (4 * a + b) 3 = nI 4)) : xTh l ySF_take bSF_take 5 (some .boolean) 7 [.ref (ad 5 0), .int (nI a), .int (nI b)] D cA tz I ad σ "java/lang/IllegalStateException" := by
  refine xth_of (by decide) (by simp [lg_sl, Value.category]) ?_
  intro p e s m args below meth c A ls C hlk hml hout hl w hz
  obtain ⟨hx, hb, hown, hts⟩ := id C
  have hl : lv_has ls 5 [(0, .ref (ad 5 0)), (1, .int (nI a)), (2, .int (nI b))] := hl
  refine lv_iload_n hx hb dSF_take_0 rfl (lv_at hl 1 rfl) ?_
  refine lv_iconst (v := nI 4) hx hb dSF_take_1 xk_i4 ?_
  refine xd_callS C w hz hml hl.1 xk_SF_57 (cSF_checkIndex_ok l D cA tz I ad σ a 4 (by omega) (by decide)) rfl rfl (Nat.le_of_ble_eq_true rfl) (by decide) (by decide) dSF_take_2 (fun H locs w => ?_)
  refine W.eq (g2 := F0 m 5 ls []) rfl ?_
  refine lv_iload_n hx hb dSF_take_5 rfl (lv_at hl 2 rfl) ?_
  refine lv_iconst (v := nI 4) hx hb dSF_take_6 xk_i4 ?_
  refine xd_callS C w hz hml hl.1 xk_SF_57 (cSF_checkIndex_ok l D cA tz I ad σ b 4 (by omega) (by decide)) rfl rfl (Nat.le_of_ble_eq_true rfl) (by decide) (by decide) dSF_take_7 (fun H locs w => ?_)
  refine W.eq (g2 := F0 m 10 ls []) rfl ?_
  refine lv_aload_n hx hb dSF_take_10 rfl (lv_at hl 0 rfl) ?_
  refine lv_iload_n hx hb dSF_take_11 rfl (lv_at hl 1 rfl) ?_
  refine lv_iload_n hx hb dSF_take_12 rfl (lv_at hl 2 rfl) ?_
  refine xd_callV C w hz hml hl.1 xk_SF_64 (cSF_tagOf l D cA tz I ad σ a b hI h6 (by omega)) (xI5 hI) rfl rfl rfl rfl (Nat.le_of_ble_eq_true rfl) (by decide) (by decide) dSF_take_13 (fun H locs w => ?_)
  refine W.eq (g2 := F0 m 16 ls [.ref (ad 0 (4 * a + b))]) rfl ?_
  refine lv_astore_n (lv' := [(3, .ref (ad 0 (4 * a + b))), (0, .ref (ad 5 0)), (1, .int (nI a)), (2, .int (nI b))]) hx hb dSF_take_16 rfl hl (by decide) rfl (fun ls hl => ?_)
  refine lv_aload_n hx hb dSF_take_17 rfl (lv_at hl 0 rfl) ?_
  refine xg_SF_68 C w (xI0 hI (by omega)) dSF_take_18 ?_
  refine lv_iconst (v := nI 3) hx hb dSF_take_21 xk_i3 ?_
  refine lv_icmp_eq hx hb dSF_take_22 rfl (fun hh1 => ?_) (fun hh1 => ?_)
  · skip
    refine lv_iconst (v := nI 1) hx hb dSF_take_33 xk_i1 ?_
    refine lv_goto hx hb dSF_take_34 rfl ?_
    refine xd_callS C w hz hml hl.1 xk_SF_71 (cSF_checkState_ok l D cA tz I ad (σ)) rfl rfl (Nat.le_of_ble_eq_true rfl) (by decide) (by decide) dSF_take_38 (fun H locs w => ?_)
    refine W.eq (g2 := F0 m 41 ls []) rfl ?_
    exact absurd (by grind) hbd
  · skip
    refine lv_aload_n hx hb dSF_take_25 rfl (lv_at hl 0 rfl) ?_
    refine xg_SF_68 C w (xI0 hI (by omega)) dSF_take_26 ?_
    refine lv_iconst (v := nI 4) hx hb dSF_take_29 xk_i4 ?_
    refine lv_icmp_ne hx hb dSF_take_30 rfl (fun hh2 => ?_) (fun hh2 => ?_)
    · skip
      refine lv_iconst (v := nI 0) hx hb dSF_take_37 xk_i0 ?_
      exact xth_callS C w hz hml hl.1 hlk hout xk_SF_71 (tSF_checkState l htr D cA tz I ad (σ)) rfl rfl (Nat.le_of_ble_eq_true rfl) (by decide) (by decide) dSF_take_38
    · skip
      refine lv_iconst (v := nI 1) hx hb dSF_take_33 xk_i1 ?_
      refine lv_goto hx hb dSF_take_34 rfl ?_
      refine xd_callS C w hz hml hl.1 xk_SF_71 (cSF_checkState_ok l D cA tz I ad (σ)) rfl rfl (Nat.le_of_ble_eq_true rfl) (by decide) (by decide) dSF_take_38 (fun H locs w => ?_)
      refine W.eq (g2 := F0 m 41 ls []) rfl ?_
      exact absurd (by grind) hbd
set_option maxRecDepth 100000 in
set_option maxHeartbeats 4000000 in
theorem t2SF_base (l : Launch) (htr : l.stackTraces = false) (D : va_G) (cA : Nat → ClassId) (tz : Nat) (I : List (Nat × Nat)) (ad : Nat → Nat → Nat) (σ : xMem) (a : Nat) (y : Int32) (ha : a < 4) (hbd : ¬ (¬ y < 0 ∧ ¬ nI 2 < y)) : xTh l ySF_base bSF_base 3 none 7 [.ref (ad 5 0), .int (nI a), .int y] D cA tz I ad σ "java/lang/IllegalArgumentException" := by
  refine xth_of (by decide) (by simp [lg_sl, Value.category]) ?_
  intro p e s m args below meth c A ls C hlk hml hout hl w hz
  obtain ⟨hx, hb, hown, hts⟩ := id C
  have hl : lv_has ls 3 [(0, .ref (ad 5 0)), (1, .int (nI a)), (2, .int y)] := hl
  refine lv_iload_n hx hb dSF_base_0 rfl (lv_at hl 1 rfl) ?_
  refine lv_iconst (v := nI 4) hx hb dSF_base_1 xk_i4 ?_
  refine xd_callS C w hz hml hl.1 xk_SF_57 (cSF_checkIndex_ok l D cA tz I ad σ a 4 (by omega) (by decide)) rfl rfl (Nat.le_of_ble_eq_true rfl) (by decide) (by decide) dSF_base_2 (fun H locs w => ?_)
  refine W.eq (g2 := F0 m 5 ls []) rfl ?_
  refine lv_iload_n hx hb dSF_base_5 rfl (lv_at hl 2 rfl) ?_
  refine lv_if_lt hx hb dSF_base_6 rfl (fun hh1 => ?_) (fun hh1 => ?_)
  · skip
    refine lv_iconst (v := nI 0) hx hb dSF_base_18 xk_i0 ?_
    exact xth_callS C w hz hml hl.1 hlk hout xk_SF_118 (tSF_checkArgument l htr D cA tz I ad (σ)) rfl rfl (Nat.le_of_ble_eq_true rfl) (by decide) (by decide) dSF_base_19
  · skip
    refine lv_iload_n hx hb dSF_base_9 rfl (lv_at hl 2 rfl) ?_
    refine lv_iconst (v := nI 2) hx hb dSF_base_10 xk_i2 ?_
    refine lv_icmp_gt hx hb dSF_base_11 rfl (fun hh2 => ?_) (fun hh2 => ?_)
    · skip
      refine lv_iconst (v := nI 0) hx hb dSF_base_18 xk_i0 ?_
      exact xth_callS C w hz hml hl.1 hlk hout xk_SF_118 (tSF_checkArgument l htr D cA tz I ad (σ)) rfl rfl (Nat.le_of_ble_eq_true rfl) (by decide) (by decide) dSF_base_19
    · skip
      refine lv_iconst (v := nI 1) hx hb dSF_base_14 xk_i1 ?_
      refine lv_goto hx hb dSF_base_15 rfl ?_
      refine xd_callS C w hz hml hl.1 xk_SF_118 (cSF_checkArgument_ok l D cA tz I ad (σ)) rfl rfl (Nat.le_of_ble_eq_true rfl) (by decide) (by decide) dSF_base_19 (fun H locs w => ?_)
      refine W.eq (g2 := F0 m 22 ls []) rfl ?_
      exact absurd (by grind) hbd
set_option maxRecDepth 100000 in
set_option maxHeartbeats 4000000 in
theorem t1SF_cycles (l : Launch) (htr : l.stackTraces = false) (D : va_G) (cA : Nat → ClassId) (tz : Nat) (I : List (Nat × Nat)) (ad : Nat → Nat → Nat) (σ : xMem) (x : Int32) (hbd : ¬ (¬ x < nI 1 ∧ ¬ nI 100 < x)) : xTh l ySF_cycles bSF_cycles 4 (some .int) 7 [.ref (ad 5 0), .int x] D cA tz I ad σ "java/lang/IllegalArgumentException" := by
  refine xth_of (by decide) (by simp [lg_sl, Value.category]) ?_
  intro p e s m args below meth c A ls C hlk hml hout hl w hz
  obtain ⟨hx, hb, hown, hts⟩ := id C
  have hl : lv_has ls 4 [(0, .ref (ad 5 0)), (1, .int x)] := hl
  refine lv_iload_n hx hb dSF_cycles_0 rfl (lv_at hl 1 rfl) ?_
  refine lv_iconst (v := nI 1) hx hb dSF_cycles_1 xk_i1 ?_
  refine lv_icmp_lt hx hb dSF_cycles_2 rfl (fun hh1 => ?_) (fun hh1 => ?_)
  · skip
    refine lv_iconst (v := nI 0) hx hb dSF_cycles_15 xk_i0 ?_
    exact xth_callS C w hz hml hl.1 hlk hout xk_SF_118 (tSF_checkArgument l htr D cA tz I ad (σ)) rfl rfl (Nat.le_of_ble_eq_true rfl) (by decide) (by decide) dSF_cycles_16
  · skip
    refine lv_iload_n hx hb dSF_cycles_5 rfl (lv_at hl 1 rfl) ?_
    refine lv_bipush (v := nI 100) hx hb dSF_cycles_6 xk_b100 ?_
    refine lv_icmp_gt hx hb dSF_cycles_8 rfl (fun hh2 => ?_) (fun hh2 => ?_)
    · skip
      refine lv_iconst (v := nI 0) hx hb dSF_cycles_15 xk_i0 ?_
      exact xth_callS C w hz hml hl.1 hlk hout xk_SF_118 (tSF_checkArgument l htr D cA tz I ad (σ)) rfl rfl (Nat.le_of_ble_eq_true rfl) (by decide) (by decide) dSF_cycles_16
    · skip
      refine lv_iconst (v := nI 1) hx hb dSF_cycles_11 xk_i1 ?_
      refine lv_goto hx hb dSF_cycles_12 rfl ?_
      refine xd_callS C w hz hml hl.1 xk_SF_118 (cSF_checkArgument_ok l D cA tz I ad (σ)) rfl rfl (Nat.le_of_ble_eq_true rfl) (by decide) (by decide) dSF_cycles_16 (fun H locs w => ?_)
      refine W.eq (g2 := F0 m 19 ls []) rfl ?_
      exact absurd (by grind) hbd
