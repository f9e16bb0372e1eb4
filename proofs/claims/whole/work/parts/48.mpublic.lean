/-! The reference's public methods. -/
theorem cMD_refused0 (l : Launch) (D : va_G) (cA : Nat → ClassId) (tz : Nat) (I : List (Nat × Nat)) (ad : Nat → Nat → Nat) (σ : xMem) (hJ : xJ I) : xD l yMD_refused bMD_refused 2 (some .boolean) 1 [.ref (ad 20 0), .int (nI 0)] D cA tz I ad σ (some (.int (nI 0))) (xu3 σ 20 0 0 (nI 0)) := by
  have h := cMD_refused l D cA tz I ad σ (nI 0) hJ
  rw [xb_f (by decide)] at h
  exact h
theorem cMD_refused1 (l : Launch) (D : va_G) (cA : Nat → ClassId) (tz : Nat) (I : List (Nat × Nat)) (ad : Nat → Nat → Nat) (σ : xMem) (hJ : xJ I) : xD l yMD_refused bMD_refused 2 (some .boolean) 1 [.ref (ad 20 0), .int (nI 1)] D cA tz I ad σ (some (.int (nI 1))) (xu3 σ 20 0 0 (nI 1)) := by
  have h := cMD_refused l D cA tz I ad σ (nI 1) hJ
  rw [xb_t (by decide)] at h
  exact h
theorem cMD_refused2 (l : Launch) (D : va_G) (cA : Nat → ClassId) (tz : Nat) (I : List (Nat × Nat)) (ad : Nat → Nat → Nat) (σ : xMem) (hJ : xJ I) : xD l yMD_refused bMD_refused 2 (some .boolean) 1 [.ref (ad 20 0), .int (nI 2)] D cA tz I ad σ (some (.int (nI 1))) (xu3 σ 20 0 0 (nI 2)) := by
  have h := cMD_refused l D cA tz I ad σ (nI 2) hJ
  rw [xb_t (by decide)] at h
  exact h
theorem cMD_refused3 (l : Launch) (D : va_G) (cA : Nat → ClassId) (tz : Nat) (I : List (Nat × Nat)) (ad : Nat → Nat → Nat) (σ : xMem) (hJ : xJ I) : xD l yMD_refused bMD_refused 2 (some .boolean) 1 [.ref (ad 20 0), .int (nI 3)] D cA tz I ad σ (some (.int (nI 1))) (xu3 σ 20 0 0 (nI 3)) := by
  have h := cMD_refused l D cA tz I ad σ (nI 3) hJ
  rw [xb_t (by decide)] at h
  exact h
theorem mf_cr_f0 (σ : xMem) (x : Int32) : mf_cr (xu3 σ 20 0 0 (nI 0)) x 16 = mf_cr σ x 16 := by
  have h : ∀ i, mf_cr (xu3 σ 20 0 0 (nI 0)) x i = mf_cr σ x i := by
    intro i
    induction i with
    | zero => rfl
    | succ i ih =>
      show (if _ then _ else _) = if _ then _ else _
      rw [ih]
      rfl
  exact h 16
set_option maxRecDepth 100000 in
set_option maxHeartbeats 4000000 in
theorem cMD_data_ok (l : Launch) (D : va_G) (cA : Nat → ClassId) (tz : Nat) (I : List (Nat × Nat)) (ad : Nat → Nat → Nat) (σ : xMem) (a b : Nat) (x : Int32) (hJ : xJ I) (ha : a < 4) (hb4 : b < 4) : xD l yMD_data bMD_data 4 none 2 [.ref (ad 20 0), .int (nI a), .int (nI b), .int x] D cA tz I ad σ none (xu3 (xu3 σ 20 0 0 (nI 0)) 22 0 (4 * a + b) x) := by
  refine xd_of (by decide) (by simp [lg_sl, Value.category]) ?_
  intro p e s m args below meth c A ls C hr hlk hml hl w hz
  obtain ⟨hx, hb, hown, hts⟩ := id C
  have hl : lv_has ls 4 [(0, .ref (ad 20 0)), (1, .int (nI a)), (2, .int (nI b)), (3, .int x)] := hl
  have hina : xp_in (nI a) (nI 4) := xp_in_n (by omega) (by decide)
  have hinb : xp_in (nI b) (nI 4) := xp_in_n (by omega) (by decide)
  refine lv_aload_n hx hb dMD_data_0 rfl (lv_at hl 0 rfl) ?_
  refine lv_iload_n hx hb dMD_data_1 rfl (lv_at hl 1 rfl) ?_
  refine lv_iconst (v := nI 4) hx hb dMD_data_2 xk_i4 ?_
  refine xd_callS C w hz hml hl.1 xk_MD_69 (cMD_isIn l D cA tz I ad (σ) (nI a) (nI 4)) rfl rfl (Nat.le_of_ble_eq_true rfl) (by decide) (by decide) dMD_data_3 (fun H locs w => ?_)
  refine W.eq (g2 := F0 m 6 ls [.int (xb (xp_in (nI a) (nI 4))), .ref (ad 20 0)]) rfl ?_
  refine xz_ifeq hx hb dMD_data_6 rfl (fun hh1 => ?_) (fun hh1 => ?_)
  · skip
    refine lv_iconst (v := nI 1) hx hb dMD_data_21 xk_i1 ?_
    exfalso
    first | contradiction | grind
  · skip
    refine lv_iload_n hx hb dMD_data_9 rfl (lv_at hl 2 rfl) ?_
    refine lv_iconst (v := nI 4) hx hb dMD_data_10 xk_i4 ?_
    refine xd_callS C w hz hml hl.1 xk_MD_69 (cMD_isIn l D cA tz I ad (σ) (nI b) (nI 4)) rfl rfl (Nat.le_of_ble_eq_true rfl) (by decide) (by decide) dMD_data_11 (fun H locs w => ?_)
    refine W.eq (g2 := F0 m 14 ls [.int (xb (xp_in (nI b) (nI 4))), .ref (ad 20 0)]) rfl ?_
    refine xz_ifeq hx hb dMD_data_14 rfl (fun hh2 => ?_) (fun hh2 => ?_)
    · skip
      refine lv_iconst (v := nI 1) hx hb dMD_data_21 xk_i1 ?_
      exfalso
      first | contradiction | grind
    · skip
      refine lv_iconst (v := nI 0) hx hb dMD_data_17 xk_i0 ?_
      refine lv_goto hx hb dMD_data_18 rfl ?_
      refine xd_callV C w hz hml hl.1 xk_MD_73 (cMD_refused0 l D cA tz I ad (σ) hJ) (xJ20 hJ) rfl rfl rfl rfl (Nat.le_of_ble_eq_true rfl) (by decide) (by decide) dMD_data_22 (fun H locs w => ?_)
      refine W.eq (g2 := F0 m 25 ls [.int (nI 0)]) rfl ?_
      refine lv_if_ne hx hb dMD_data_25 rfl (fun hq => absurd nI_0 hq) (fun _ => ?_)
      refine lv_aload_n hx hb dMD_data_28 rfl (lv_at hl 0 rfl) ?_
      refine xg_MD_13 C w (xJ20 hJ) dMD_data_29 ?_
      refine lv_iconst (v := nI 4) hx hb dMD_data_32 xk_i4 ?_
      refine lv_iload_n hx hb dMD_data_33 rfl (lv_at hl 1 rfl) ?_
      refine xn_mul hx hb dMD_data_34 ?_
      refine lv_iload_n hx hb dMD_data_35 rfl (lv_at hl 2 rfl) ?_
      refine xn_add hx hb dMD_data_36 ?_
      refine lv_iload_n hx hb dMD_data_37 rfl (lv_at hl 3 rfl) ?_
      refine xs_iast C w (xJ22 hJ) (fun _ => rfl) ((4 * a) + b) rfl (by omega) (by decide) dMD_data_38 (fun H locs w => ?_)
      exact xd_vret C w hr hlk dMD_data_39 rfl
set_option maxRecDepth 100000 in
set_option maxHeartbeats 4000000 in
theorem cMD_data_no (l : Launch) (D : va_G) (cA : Nat → ClassId) (tz : Nat) (I : List (Nat × Nat)) (ad : Nat → Nat → Nat) (σ : xMem) (x y z : Int32) (hJ : xJ I) (hn : ¬ (xp_in x (nI 4) ∧ xp_in y (nI 4))) : xD l yMD_data bMD_data 4 none 2 [.ref (ad 20 0), .int x, .int y, .int z] D cA tz I ad σ none (xu3 σ 20 0 0 (nI 1)) := by
  refine xd_of (by decide) (by simp [lg_sl, Value.category]) ?_
  intro p e s m args below meth c A ls C hr hlk hml hl w hz
  obtain ⟨hx, hb, hown, hts⟩ := id C
  have hl : lv_has ls 4 [(0, .ref (ad 20 0)), (1, .int x), (2, .int y), (3, .int z)] := hl
  refine lv_aload_n hx hb dMD_data_0 rfl (lv_at hl 0 rfl) ?_
  refine lv_iload_n hx hb dMD_data_1 rfl (lv_at hl 1 rfl) ?_
  refine lv_iconst (v := nI 4) hx hb dMD_data_2 xk_i4 ?_
  refine xd_callS C w hz hml hl.1 xk_MD_69 (cMD_isIn l D cA tz I ad (σ) x (nI 4)) rfl rfl (Nat.le_of_ble_eq_true rfl) (by decide) (by decide) dMD_data_3 (fun H locs w => ?_)
  refine W.eq (g2 := F0 m 6 ls [.int (xb (xp_in x (nI 4))), .ref (ad 20 0)]) rfl ?_
  refine xz_ifeq hx hb dMD_data_6 rfl (fun hh1 => ?_) (fun hh1 => ?_)
  · skip
    refine lv_iconst (v := nI 1) hx hb dMD_data_21 xk_i1 ?_
    refine xd_callV C w hz hml hl.1 xk_MD_73 (cMD_refused1 l D cA tz I ad (σ) hJ) (xJ20 hJ) rfl rfl rfl rfl (Nat.le_of_ble_eq_true rfl) (by decide) (by decide) dMD_data_22 (fun H locs w => ?_)
    refine W.eq (g2 := F0 m 25 ls [.int (nI 1)]) rfl ?_
    refine lv_if_ne hx hb dMD_data_25 rfl (fun _ => ?_) (fun hq => absurd hq (by decide))
    exact xd_vret C w hr hlk dMD_data_39 rfl
  · skip
    refine lv_iload_n hx hb dMD_data_9 rfl (lv_at hl 2 rfl) ?_
    refine lv_iconst (v := nI 4) hx hb dMD_data_10 xk_i4 ?_
    refine xd_callS C w hz hml hl.1 xk_MD_69 (cMD_isIn l D cA tz I ad (σ) y (nI 4)) rfl rfl (Nat.le_of_ble_eq_true rfl) (by decide) (by decide) dMD_data_11 (fun H locs w => ?_)
    refine W.eq (g2 := F0 m 14 ls [.int (xb (xp_in y (nI 4))), .ref (ad 20 0)]) rfl ?_
    refine xz_ifeq hx hb dMD_data_14 rfl (fun hh2 => ?_) (fun hh2 => ?_)
    · skip
      refine lv_iconst (v := nI 1) hx hb dMD_data_21 xk_i1 ?_
      refine xd_callV C w hz hml hl.1 xk_MD_73 (cMD_refused1 l D cA tz I ad (σ) hJ) (xJ20 hJ) rfl rfl rfl rfl (Nat.le_of_ble_eq_true rfl) (by decide) (by decide) dMD_data_22 (fun H locs w => ?_)
      refine W.eq (g2 := F0 m 25 ls [.int (nI 1)]) rfl ?_
      refine lv_if_ne hx hb dMD_data_25 rfl (fun _ => ?_) (fun hq => absurd hq (by decide))
      exact xd_vret C w hr hlk dMD_data_39 rfl
    · skip
      refine lv_iconst (v := nI 0) hx hb dMD_data_17 xk_i0 ?_
      refine lv_goto hx hb dMD_data_18 rfl ?_
      exfalso
      first | contradiction | grind
set_option maxRecDepth 100000 in
set_option maxHeartbeats 4000000 in
theorem cMD_ready_ok (l : Launch) (D : va_G) (cA : Nat → ClassId) (tz : Nat) (I : List (Nat × Nat)) (ad : Nat → Nat → Nat) (σ : xMem) (a : Nat) (x : Int32) (hJ : xJ I) (ha : a < 3) (hx2 : x = nI 0 ∨ x = nI 1) : xD l yMD_ready bMD_ready 3 none 2 [.ref (ad 20 0), .int (nI a), .int x] D cA tz I ad σ none (xu3 (xu3 σ 20 0 0 (nI 0)) 24 0 a x) := by
  refine xd_of (by decide) (by simp [lg_sl, Value.category]) ?_
  intro p e s m args below meth c A ls C hr hlk hml hl w hz
  obtain ⟨hx, hb, hown, hts⟩ := id C
  have hl : lv_has ls 3 [(0, .ref (ad 20 0)), (1, .int (nI a)), (2, .int x)] := hl
  have hina : xp_in (nI a) (nI 3) := xp_in_n (by omega) (by decide)
  refine lv_aload_n hx hb dMD_ready_0 rfl (lv_at hl 0 rfl) ?_
  refine lv_iload_n hx hb dMD_ready_1 rfl (lv_at hl 1 rfl) ?_
  refine lv_iconst (v := nI 3) hx hb dMD_ready_2 xk_i3 ?_
  refine xd_callS C w hz hml hl.1 xk_MD_69 (cMD_isIn l D cA tz I ad (σ) (nI a) (nI 3)) rfl rfl (Nat.le_of_ble_eq_true rfl) (by decide) (by decide) dMD_ready_3 (fun H locs w => ?_)
  refine W.eq (g2 := F0 m 6 ls [.int (xb (xp_in (nI a) (nI 3))), .ref (ad 20 0)]) rfl ?_
  refine xz_ifeq hx hb dMD_ready_6 rfl (fun hh1 => ?_) (fun hh1 => ?_)
  · skip
    refine lv_iconst (v := nI 1) hx hb dMD_ready_13 xk_i1 ?_
    exfalso
    first | contradiction | grind
  · skip
    refine lv_iconst (v := nI 0) hx hb dMD_ready_9 xk_i0 ?_
    refine lv_goto hx hb dMD_ready_10 rfl ?_
    refine xd_callV C w hz hml hl.1 xk_MD_73 (cMD_refused0 l D cA tz I ad (σ) hJ) (xJ20 hJ) rfl rfl rfl rfl (Nat.le_of_ble_eq_true rfl) (by decide) (by decide) dMD_ready_14 (fun H locs w => ?_)
    refine W.eq (g2 := F0 m 17 ls [.int (nI 0)]) rfl ?_
    refine lv_if_ne hx hb dMD_ready_17 rfl (fun hq => absurd nI_0 hq) (fun _ => ?_)
    refine lv_aload_n hx hb dMD_ready_20 rfl (lv_at hl 0 rfl) ?_
    refine xg_MD_19 C w (xJ20 hJ) dMD_ready_21 ?_
    refine lv_iload_n hx hb dMD_ready_24 rfl (lv_at hl 1 rfl) ?_
    refine lv_iload_n hx hb dMD_ready_25 rfl (lv_at hl 2 rfl) ?_
    refine xs_zast C w (xJ24 hJ) (fun _ => rfl) hx2 a rfl (by omega) (by decide) dMD_ready_26 (fun H locs w => ?_)
    exact xd_vret C w hr hlk dMD_ready_27 rfl
set_option maxRecDepth 100000 in
set_option maxHeartbeats 4000000 in
theorem cMD_ready_no (l : Launch) (D : va_G) (cA : Nat → ClassId) (tz : Nat) (I : List (Nat × Nat)) (ad : Nat → Nat → Nat) (σ : xMem) (x y : Int32) (hJ : xJ I) (hn : ¬ xp_in x (nI 3)) : xD l yMD_ready bMD_ready 3 none 2 [.ref (ad 20 0), .int x, .int y] D cA tz I ad σ none (xu3 σ 20 0 0 (nI 1)) := by
  refine xd_of (by decide) (by simp [lg_sl, Value.category]) ?_
  intro p e s m args below meth c A ls C hr hlk hml hl w hz
  obtain ⟨hx, hb, hown, hts⟩ := id C
  have hl : lv_has ls 3 [(0, .ref (ad 20 0)), (1, .int x), (2, .int y)] := hl
  refine lv_aload_n hx hb dMD_ready_0 rfl (lv_at hl 0 rfl) ?_
  refine lv_iload_n hx hb dMD_ready_1 rfl (lv_at hl 1 rfl) ?_
  refine lv_iconst (v := nI 3) hx hb dMD_ready_2 xk_i3 ?_
  refine xd_callS C w hz hml hl.1 xk_MD_69 (cMD_isIn l D cA tz I ad (σ) x (nI 3)) rfl rfl (Nat.le_of_ble_eq_true rfl) (by decide) (by decide) dMD_ready_3 (fun H locs w => ?_)
  refine W.eq (g2 := F0 m 6 ls [.int (xb (xp_in x (nI 3))), .ref (ad 20 0)]) rfl ?_
  refine xz_ifeq hx hb dMD_ready_6 rfl (fun hh1 => ?_) (fun hh1 => ?_)
  · skip
    refine lv_iconst (v := nI 1) hx hb dMD_ready_13 xk_i1 ?_
    refine xd_callV C w hz hml hl.1 xk_MD_73 (cMD_refused1 l D cA tz I ad (σ) hJ) (xJ20 hJ) rfl rfl rfl rfl (Nat.le_of_ble_eq_true rfl) (by decide) (by decide) dMD_ready_14 (fun H locs w => ?_)
    refine W.eq (g2 := F0 m 17 ls [.int (nI 1)]) rfl ?_
    refine lv_if_ne hx hb dMD_ready_17 rfl (fun _ => ?_) (fun hq => absurd hq (by decide))
    exact xd_vret C w hr hlk dMD_ready_27 rfl
  · skip
    refine lv_iconst (v := nI 0) hx hb dMD_ready_9 xk_i0 ?_
    refine lv_goto hx hb dMD_ready_10 rfl ?_
    exfalso
    first | contradiction | grind
set_option maxRecDepth 100000 in
set_option maxHeartbeats 4000000 in
theorem cMD_time (l : Launch) (D : va_G) (cA : Nat → ClassId) (tz : Nat) (I : List (Nat × Nat)) (ad : Nat → Nat → Nat) (σ : xMem) (hJ : xJ I) : xD l yMD_time bMD_time 1 (some .int) 1 [.ref (ad 20 0)] D cA tz I ad σ (some (.int (σ 20 0 20))) (xu3 σ 20 0 0 (nI 0)) := by
  refine xd_of (by decide) (by simp [lg_sl, Value.category]) ?_
  intro p e s m args below meth c A ls C hr hlk hml hl w hz
  obtain ⟨hx, hb, hown, hts⟩ := id C
  have hl : lv_has ls 1 [(0, .ref (ad 20 0))] := hl
  refine lv_aload_n hx hb dMD_time_0 rfl (lv_at hl 0 rfl) ?_
  refine lv_iconst (v := nI 0) hx hb dMD_time_1 xk_i0 ?_
  refine xp_MD_66 C w (xJ20 hJ) dMD_time_2 (fun H locs w => ?_)
  refine lv_aload_n hx hb dMD_time_5 rfl (lv_at hl 0 rfl) ?_
  refine xg_MD_98 C w (xJ20 hJ) dMD_time_6 ?_
  refine xn_eq (y := σ 20 0 20) (by simp [xu3, xw_u2, va_up]) ?_
  exact xd_iret C w hr hlk dMD_time_9 (rfl) rfl
set_option maxRecDepth 100000 in
set_option maxHeartbeats 4000000 in
theorem cMD_served (l : Launch) (D : va_G) (cA : Nat → ClassId) (tz : Nat) (I : List (Nat × Nat)) (ad : Nat → Nat → Nat) (σ : xMem) (hJ : xJ I) : xD l yMD_served bMD_served 1 (some .int) 1 [.ref (ad 20 0)] D cA tz I ad σ (some (.int (σ 20 0 21))) (xu3 σ 20 0 0 (nI 0)) := by
  refine xd_of (by decide) (by simp [lg_sl, Value.category]) ?_
  intro p e s m args below meth c A ls C hr hlk hml hl w hz
  obtain ⟨hx, hb, hown, hts⟩ := id C
  have hl : lv_has ls 1 [(0, .ref (ad 20 0))] := hl
  refine lv_aload_n hx hb dMD_served_0 rfl (lv_at hl 0 rfl) ?_
  refine lv_iconst (v := nI 0) hx hb dMD_served_1 xk_i0 ?_
  refine xp_MD_66 C w (xJ20 hJ) dMD_served_2 (fun H locs w => ?_)
  refine lv_aload_n hx hb dMD_served_5 rfl (lv_at hl 0 rfl) ?_
  refine xg_MD_95 C w (xJ20 hJ) dMD_served_6 ?_
  refine xn_eq (y := σ 20 0 21) (by simp [xu3, xw_u2, va_up]) ?_
  exact xd_iret C w hr hlk dMD_served_9 (rfl) rfl
set_option maxRecDepth 100000 in
set_option maxHeartbeats 4000000 in
theorem cMD_thrown (l : Launch) (D : va_G) (cA : Nat → ClassId) (tz : Nat) (I : List (Nat × Nat)) (ad : Nat → Nat → Nat) (σ : xMem) (hJ : xJ I) : xD l yMD_thrown bMD_thrown 1 (some .int) 1 [.ref (ad 20 0)] D cA tz I ad σ (some (.int (σ 20 0 0))) σ := by
  refine xd_of (by decide) (by simp [lg_sl, Value.category]) ?_
  intro p e s m args below meth c A ls C hr hlk hml hl w hz
  obtain ⟨hx, hb, hown, hts⟩ := id C
  have hl : lv_has ls 1 [(0, .ref (ad 20 0))] := hl
  refine lv_aload_n hx hb dMD_thrown_0 rfl (lv_at hl 0 rfl) ?_
  refine xg_MD_66 C w (xJ20 hJ) dMD_thrown_1 ?_
  exact xd_iret C w hr hlk dMD_thrown_4 (rfl) rfl
set_option maxRecDepth 100000 in
set_option maxHeartbeats 4000000 in
theorem cMD_state_ok (l : Launch) (D : va_G) (cA : Nat → ClassId) (tz : Nat) (I : List (Nat × Nat)) (ad : Nat → Nat → Nat) (σ : xMem) (a b : Nat) (hJ : xJ I) (ha : a < 4) (hb4 : b < 4) : xD l yMD_state bMD_state 3 (some .int) 2 [.ref (ad 20 0), .int (nI a), .int (nI b)] D cA tz I ad σ (some (.int (σ 26 0 (4 * a + b)))) (xu3 σ 20 0 0 (nI 0)) := by
  refine xd_of (by decide) (by simp [lg_sl, Value.category]) ?_
  intro p e s m args below meth c A ls C hr hlk hml hl w hz
  obtain ⟨hx, hb, hown, hts⟩ := id C
  have hl : lv_has ls 3 [(0, .ref (ad 20 0)), (1, .int (nI a)), (2, .int (nI b))] := hl
  have hina : xp_in (nI a) (nI 4) := xp_in_n (by omega) (by decide)
  have hinb : xp_in (nI b) (nI 4) := xp_in_n (by omega) (by decide)
  refine lv_aload_n hx hb dMD_state_0 rfl (lv_at hl 0 rfl) ?_
  refine lv_iload_n hx hb dMD_state_1 rfl (lv_at hl 1 rfl) ?_
  refine lv_iconst (v := nI 4) hx hb dMD_state_2 xk_i4 ?_
  refine xd_callS C w hz hml hl.1 xk_MD_69 (cMD_isIn l D cA tz I ad (σ) (nI a) (nI 4)) rfl rfl (Nat.le_of_ble_eq_true rfl) (by decide) (by decide) dMD_state_3 (fun H locs w => ?_)
  refine W.eq (g2 := F0 m 6 ls [.int (xb (xp_in (nI a) (nI 4))), .ref (ad 20 0)]) rfl ?_
  refine xz_ifeq hx hb dMD_state_6 rfl (fun hh1 => ?_) (fun hh1 => ?_)
  · skip
    refine lv_iconst (v := nI 1) hx hb dMD_state_21 xk_i1 ?_
    exfalso
    first | contradiction | grind
  · skip
    refine lv_iload_n hx hb dMD_state_9 rfl (lv_at hl 2 rfl) ?_
    refine lv_iconst (v := nI 4) hx hb dMD_state_10 xk_i4 ?_
    refine xd_callS C w hz hml hl.1 xk_MD_69 (cMD_isIn l D cA tz I ad (σ) (nI b) (nI 4)) rfl rfl (Nat.le_of_ble_eq_true rfl) (by decide) (by decide) dMD_state_11 (fun H locs w => ?_)
    refine W.eq (g2 := F0 m 14 ls [.int (xb (xp_in (nI b) (nI 4))), .ref (ad 20 0)]) rfl ?_
    refine xz_ifeq hx hb dMD_state_14 rfl (fun hh2 => ?_) (fun hh2 => ?_)
    · skip
      refine lv_iconst (v := nI 1) hx hb dMD_state_21 xk_i1 ?_
      exfalso
      first | contradiction | grind
    · skip
      refine lv_iconst (v := nI 0) hx hb dMD_state_17 xk_i0 ?_
      refine lv_goto hx hb dMD_state_18 rfl ?_
      refine xd_callV C w hz hml hl.1 xk_MD_73 (cMD_refused0 l D cA tz I ad (σ) hJ) (xJ20 hJ) rfl rfl rfl rfl (Nat.le_of_ble_eq_true rfl) (by decide) (by decide) dMD_state_22 (fun H locs w => ?_)
      refine W.eq (g2 := F0 m 25 ls [.int (nI 0)]) rfl ?_
      refine lv_if_eq hx hb dMD_state_25 rfl (fun _ => ?_) (fun hq => absurd nI_0 hq)
      refine lv_aload_n hx hb dMD_state_32 rfl (lv_at hl 0 rfl) ?_
      refine xg_MD_26 C w (xJ20 hJ) dMD_state_33 ?_
      refine lv_iconst (v := nI 4) hx hb dMD_state_36 xk_i4 ?_
      refine lv_iload_n hx hb dMD_state_37 rfl (lv_at hl 1 rfl) ?_
      refine xn_mul hx hb dMD_state_38 ?_
      refine lv_iload_n hx hb dMD_state_39 rfl (lv_at hl 2 rfl) ?_
      refine xn_add hx hb dMD_state_40 ?_
      refine xr_iald C w (xJ26 hJ) rfl 0 rfl ((4 * a) + b) rfl (by omega) (by decide) dMD_state_41 ?_
      refine xn_eq (y := σ 26 0 ((4 * a) + b)) (by simp [xu3, xw_u2, va_up]) ?_
      exact xd_iret C w hr hlk dMD_state_42 (rfl) rfl
set_option maxRecDepth 100000 in
set_option maxHeartbeats 4000000 in
theorem cMD_state_no (l : Launch) (D : va_G) (cA : Nat → ClassId) (tz : Nat) (I : List (Nat × Nat)) (ad : Nat → Nat → Nat) (σ : xMem) (x y : Int32) (hJ : xJ I) (hn : ¬ (xp_in x (nI 4) ∧ xp_in y (nI 4))) : xD l yMD_state bMD_state 3 (some .int) 2 [.ref (ad 20 0), .int x, .int y] D cA tz I ad σ (some (.int (nI 0))) (xu3 σ 20 0 0 (nI 1)) := by
  refine xd_of (by decide) (by simp [lg_sl, Value.category]) ?_
  intro p e s m args below meth c A ls C hr hlk hml hl w hz
  obtain ⟨hx, hb, hown, hts⟩ := id C
  have hl : lv_has ls 3 [(0, .ref (ad 20 0)), (1, .int x), (2, .int y)] := hl
  refine lv_aload_n hx hb dMD_state_0 rfl (lv_at hl 0 rfl) ?_
  refine lv_iload_n hx hb dMD_state_1 rfl (lv_at hl 1 rfl) ?_
  refine lv_iconst (v := nI 4) hx hb dMD_state_2 xk_i4 ?_
  refine xd_callS C w hz hml hl.1 xk_MD_69 (cMD_isIn l D cA tz I ad (σ) x (nI 4)) rfl rfl (Nat.le_of_ble_eq_true rfl) (by decide) (by decide) dMD_state_3 (fun H locs w => ?_)
  refine W.eq (g2 := F0 m 6 ls [.int (xb (xp_in x (nI 4))), .ref (ad 20 0)]) rfl ?_
  refine xz_ifeq hx hb dMD_state_6 rfl (fun hh1 => ?_) (fun hh1 => ?_)
  · skip
    refine lv_iconst (v := nI 1) hx hb dMD_state_21 xk_i1 ?_
    refine xd_callV C w hz hml hl.1 xk_MD_73 (cMD_refused1 l D cA tz I ad (σ) hJ) (xJ20 hJ) rfl rfl rfl rfl (Nat.le_of_ble_eq_true rfl) (by decide) (by decide) dMD_state_22 (fun H locs w => ?_)
    refine W.eq (g2 := F0 m 25 ls [.int (nI 1)]) rfl ?_
    refine lv_if_eq hx hb dMD_state_25 rfl (fun hq => absurd hq (by decide)) (fun _ => ?_)
    refine lv_iconst (v := nI 0) hx hb dMD_state_28 xk_i0 ?_
    refine lv_goto hx hb dMD_state_29 rfl ?_
    exact xd_iret C w hr hlk dMD_state_42 (rfl) rfl
  · skip
    refine lv_iload_n hx hb dMD_state_9 rfl (lv_at hl 2 rfl) ?_
    refine lv_iconst (v := nI 4) hx hb dMD_state_10 xk_i4 ?_
    refine xd_callS C w hz hml hl.1 xk_MD_69 (cMD_isIn l D cA tz I ad (σ) y (nI 4)) rfl rfl (Nat.le_of_ble_eq_true rfl) (by decide) (by decide) dMD_state_11 (fun H locs w => ?_)
    refine W.eq (g2 := F0 m 14 ls [.int (xb (xp_in y (nI 4))), .ref (ad 20 0)]) rfl ?_
    refine xz_ifeq hx hb dMD_state_14 rfl (fun hh2 => ?_) (fun hh2 => ?_)
    · skip
      refine lv_iconst (v := nI 1) hx hb dMD_state_21 xk_i1 ?_
      refine xd_callV C w hz hml hl.1 xk_MD_73 (cMD_refused1 l D cA tz I ad (σ) hJ) (xJ20 hJ) rfl rfl rfl rfl (Nat.le_of_ble_eq_true rfl) (by decide) (by decide) dMD_state_22 (fun H locs w => ?_)
      refine W.eq (g2 := F0 m 25 ls [.int (nI 1)]) rfl ?_
      refine lv_if_eq hx hb dMD_state_25 rfl (fun hq => absurd hq (by decide)) (fun _ => ?_)
      refine lv_iconst (v := nI 0) hx hb dMD_state_28 xk_i0 ?_
      refine lv_goto hx hb dMD_state_29 rfl ?_
      exact xd_iret C w hr hlk dMD_state_42 (rfl) rfl
    · skip
      refine lv_iconst (v := nI 0) hx hb dMD_state_17 xk_i0 ?_
      refine lv_goto hx hb dMD_state_18 rfl ?_
      exfalso
      first | contradiction | grind
set_option maxRecDepth 100000 in
set_option maxHeartbeats 4000000 in
theorem cMD_word_ok (l : Launch) (D : va_G) (cA : Nat → ClassId) (tz : Nat) (I : List (Nat × Nat)) (ad : Nat → Nat → Nat) (σ : xMem) (a b i : Nat) (hJ : xJ I) (ha : a < 4) (hb4 : b < 4) (hi4 : i < 4) (hs : σ 26 0 (4 * a + b) = nI 3 ∧ (σ 27 0 (4 * a + b) = 0 ∨ σ 27 0 (4 * a + b) = nI 2) ∧ nI i < σ 29 0 (4 * a + b)) : xD l yMD_word bMD_word 7 (some .int) 2 [.ref (ad 20 0), .int (nI a), .int (nI b), .int (nI i)] D cA tz I ad σ (some (.int (σ 34 0 (4 * (4 * a + b) + i)))) (xu3 σ 20 0 0 (nI 0)) := by
  refine xd_of (by decide) (by simp [lg_sl, Value.category]) ?_
  intro p e s m args below meth c A ls C hr hlk hml hl w hz
  obtain ⟨hx, hb, hown, hts⟩ := id C
  have hl : lv_has ls 7 [(0, .ref (ad 20 0)), (1, .int (nI a)), (2, .int (nI b)), (3, .int (nI i))] := hl
  have hina : xp_in (nI a) (nI 4) := xp_in_n (by omega) (by decide)
  have hinb : xp_in (nI b) (nI 4) := xp_in_n (by omega) (by decide)
  have hini : xp_in (nI i) (nI 4) := xp_in_n (by omega) (by decide)
  have q3 := @Int32.not_lt
  have q4 := @Int32.not_le
  refine lv_iload_n hx hb dMD_word_0 rfl (lv_at hl 1 rfl) ?_
  refine lv_iconst (v := nI 4) hx hb dMD_word_1 xk_i4 ?_
  refine xd_callS C w hz hml hl.1 xk_MD_69 (cMD_isIn l D cA tz I ad (σ) (nI a) (nI 4)) rfl rfl (Nat.le_of_ble_eq_true rfl) (by decide) (by decide) dMD_word_2 (fun H locs w => ?_)
  refine W.eq (g2 := F0 m 5 ls [.int (xb (xp_in (nI a) (nI 4)))]) rfl ?_
  refine xz_ifeq hx hb dMD_word_5 rfl (fun hh1 => ?_) (fun hh1 => ?_)
  · skip
    exfalso
    first | contradiction | grind
  · skip
    refine lv_iload_n hx hb dMD_word_8 rfl (lv_at hl 2 rfl) ?_
    refine lv_iconst (v := nI 4) hx hb dMD_word_9 xk_i4 ?_
    refine xd_callS C w hz hml hl.1 xk_MD_69 (cMD_isIn l D cA tz I ad (σ) (nI b) (nI 4)) rfl rfl (Nat.le_of_ble_eq_true rfl) (by decide) (by decide) dMD_word_10 (fun H locs w => ?_)
    refine W.eq (g2 := F0 m 13 ls [.int (xb (xp_in (nI b) (nI 4)))]) rfl ?_
    refine xz_ifeq hx hb dMD_word_13 rfl (fun hh2 => ?_) (fun hh2 => ?_)
    · skip
      exfalso
      first | contradiction | grind
    · skip
      refine lv_iload_n hx hb dMD_word_16 rfl (lv_at hl 3 rfl) ?_
      refine lv_iconst (v := nI 4) hx hb dMD_word_17 xk_i4 ?_
      refine xd_callS C w hz hml hl.1 xk_MD_69 (cMD_isIn l D cA tz I ad (σ) (nI i) (nI 4)) rfl rfl (Nat.le_of_ble_eq_true rfl) (by decide) (by decide) dMD_word_18 (fun H locs w => ?_)
      refine W.eq (g2 := F0 m 21 ls [.int (xb (xp_in (nI i) (nI 4)))]) rfl ?_
      refine xz_ifeq hx hb dMD_word_21 rfl (fun hh3 => ?_) (fun hh3 => ?_)
      · skip
        exfalso
        first | contradiction | grind
      · skip
        refine lv_iconst (v := nI 1) hx hb dMD_word_24 xk_i1 ?_
        refine lv_goto hx hb dMD_word_25 rfl ?_
        refine lv_istore (lv' := [(4, .int (nI 1)), (0, .ref (ad 20 0)), (1, .int (nI a)), (2, .int (nI b)), (3, .int (nI i))]) hx hb dMD_word_29 hl (by decide) rfl (fun ls hl => ?_)
        refine lv_iload hx hb dMD_word_31 (lv_at hl 0 rfl) ?_
        refine lv_if_eq hx hb dMD_word_33 rfl (fun hq => absurd hq (by decide)) (fun _ => ?_)
        refine lv_iconst (v := nI 4) hx hb dMD_word_36 xk_i4 ?_
        refine lv_iload_n hx hb dMD_word_37 rfl (lv_at hl 2 rfl) ?_
        refine xn_mul hx hb dMD_word_38 ?_
        refine lv_iload_n hx hb dMD_word_39 rfl (lv_at hl 3 rfl) ?_
        refine xn_add hx hb dMD_word_40 ?_
        refine lv_goto hx hb dMD_word_41 rfl ?_
        refine lv_istore (lv' := [(5, .int (nI ((4 * a) + b))), (4, .int (nI 1)), (0, .ref (ad 20 0)), (1, .int (nI a)), (2, .int (nI b)), (3, .int (nI i))]) hx hb dMD_word_45 hl (by decide) rfl (fun ls hl => ?_)
        refine lv_aload_n hx hb dMD_word_47 rfl (lv_at hl 2 rfl) ?_
        refine xg_MD_26 C w (xJ20 hJ) dMD_word_48 ?_
        refine lv_iload hx hb dMD_word_51 (lv_at hl 0 rfl) ?_
        refine xr_iald C w (xJ26 hJ) rfl 0 rfl ((4 * a) + b) rfl (by omega) (by decide) dMD_word_53 ?_
        refine lv_iconst (v := nI 3) hx hb dMD_word_54 xk_i3 ?_
        refine lv_icmp_ne hx hb dMD_word_55 rfl (fun hh4 => ?_) (fun hh4 => ?_)
        · skip
          refine lv_iconst (v := nI 0) hx hb dMD_word_94 xk_i0 ?_
          refine lv_istore (lv' := [(6, .int (nI 0)), (5, .int (nI ((4 * a) + b))), (4, .int (nI 1)), (0, .ref (ad 20 0)), (1, .int (nI a)), (2, .int (nI b)), (3, .int (nI i))]) hx hb dMD_word_95 hl (by decide) rfl (fun ls hl => ?_)
          refine lv_aload_n hx hb dMD_word_97 rfl (lv_at hl 3 rfl) ?_
          refine lv_iload hx hb dMD_word_98 (lv_at hl 2 rfl) ?_
          refine lv_if_ne hx hb dMD_word_100 rfl (fun _ => ?_) (fun hq => absurd hq (by decide))
          refine lv_iload hx hb dMD_word_107 (lv_at hl 0 rfl) ?_
          refine lv_if_ne hx hb dMD_word_109 rfl (fun hq => absurd nI_0 hq) (fun _ => ?_)
          refine lv_iconst (v := nI 2) hx hb dMD_word_112 xk_i2 ?_
          refine lv_goto hx hb dMD_word_113 rfl ?_
          exfalso
          first | contradiction | grind
        · skip
          refine lv_aload_n hx hb dMD_word_58 rfl (lv_at hl 2 rfl) ?_
          refine xg_MD_29 C w (xJ20 hJ) dMD_word_59 ?_
          refine lv_iload hx hb dMD_word_62 (lv_at hl 0 rfl) ?_
          refine xr_iald C w (xJ27 hJ) rfl 0 rfl ((4 * a) + b) rfl (by omega) (by decide) dMD_word_64 ?_
          refine lv_if_eq hx hb dMD_word_65 rfl (fun hh5 => ?_) (fun hh5 => ?_)
          · skip
            refine lv_iload_n hx hb dMD_word_79 rfl (lv_at hl 5 rfl) ?_
            refine lv_aload_n hx hb dMD_word_80 rfl (lv_at hl 2 rfl) ?_
            refine xg_MD_35 C w (xJ20 hJ) dMD_word_81 ?_
            refine lv_iload hx hb dMD_word_84 (lv_at hl 0 rfl) ?_
            refine xr_iald C w (xJ29 hJ) rfl 0 rfl ((4 * a) + b) rfl (by omega) (by decide) dMD_word_86 ?_
            refine lv_icmp_ge hx hb dMD_word_87 rfl (fun hh6 => ?_) (fun hh6 => ?_)
            · skip
              refine lv_iconst (v := nI 0) hx hb dMD_word_94 xk_i0 ?_
              refine lv_istore (lv' := [(6, .int (nI 0)), (5, .int (nI ((4 * a) + b))), (4, .int (nI 1)), (0, .ref (ad 20 0)), (1, .int (nI a)), (2, .int (nI b)), (3, .int (nI i))]) hx hb dMD_word_95 hl (by decide) rfl (fun ls hl => ?_)
              refine lv_aload_n hx hb dMD_word_97 rfl (lv_at hl 3 rfl) ?_
              refine lv_iload hx hb dMD_word_98 (lv_at hl 2 rfl) ?_
              refine lv_if_ne hx hb dMD_word_100 rfl (fun _ => ?_) (fun hq => absurd hq (by decide))
              refine lv_iload hx hb dMD_word_107 (lv_at hl 0 rfl) ?_
              refine lv_if_ne hx hb dMD_word_109 rfl (fun hq => absurd nI_0 hq) (fun _ => ?_)
              refine lv_iconst (v := nI 2) hx hb dMD_word_112 xk_i2 ?_
              refine lv_goto hx hb dMD_word_113 rfl ?_
              exfalso
              first | contradiction | grind
            · skip
              refine lv_iconst (v := nI 1) hx hb dMD_word_90 xk_i1 ?_
              refine lv_goto hx hb dMD_word_91 rfl ?_
              refine lv_istore (lv' := [(6, .int (nI 1)), (5, .int (nI ((4 * a) + b))), (4, .int (nI 1)), (0, .ref (ad 20 0)), (1, .int (nI a)), (2, .int (nI b)), (3, .int (nI i))]) hx hb dMD_word_95 hl (by decide) rfl (fun ls hl => ?_)
              refine lv_aload_n hx hb dMD_word_97 rfl (lv_at hl 3 rfl) ?_
              refine lv_iload hx hb dMD_word_98 (lv_at hl 2 rfl) ?_
              refine lv_if_ne hx hb dMD_word_100 rfl (fun _ => ?_) (fun hq => absurd hq (by decide))
              refine lv_iload hx hb dMD_word_107 (lv_at hl 0 rfl) ?_
              refine lv_if_ne hx hb dMD_word_109 rfl (fun _ => ?_) (fun hq => absurd hq (by decide))
              refine lv_iconst (v := nI 0) hx hb dMD_word_116 xk_i0 ?_
              refine xd_callV C w hz hml hl.1 xk_MD_73 (cMD_refused0 l D cA tz I ad (σ) hJ) (xJ20 hJ) rfl rfl rfl rfl (Nat.le_of_ble_eq_true rfl) (by decide) (by decide) dMD_word_117 (fun H locs w => ?_)
              refine W.eq (g2 := F0 m 120 ls [.int (nI 0)]) rfl ?_
              refine lv_if_eq hx hb dMD_word_120 rfl (fun _ => ?_) (fun hq => absurd nI_0 hq)
              refine lv_aload_n hx hb dMD_word_127 rfl (lv_at hl 3 rfl) ?_
              refine xg_MD_50 C w (xJ20 hJ) dMD_word_128 ?_
              refine lv_iconst (v := nI 4) hx hb dMD_word_131 xk_i4 ?_
              refine lv_iload hx hb dMD_word_132 (lv_at hl 1 rfl) ?_
              refine xn_mul hx hb dMD_word_134 ?_
              refine lv_iload_n hx hb dMD_word_135 rfl (lv_at hl 6 rfl) ?_
              refine xn_add hx hb dMD_word_136 ?_
              refine xr_iald C w (xJ34 hJ) rfl 0 rfl ((4 * ((4 * a) + b)) + i) rfl (by omega) (by decide) dMD_word_137 ?_
              refine xn_eq (y := σ 34 0 ((4 * ((4 * a) + b)) + i)) (by simp [xu3, xw_u2, va_up]) ?_
              exact xd_iret C w hr hlk dMD_word_138 (rfl) rfl
          · skip
            refine lv_aload_n hx hb dMD_word_68 rfl (lv_at hl 2 rfl) ?_
            refine xg_MD_29 C w (xJ20 hJ) dMD_word_69 ?_
            refine lv_iload hx hb dMD_word_72 (lv_at hl 0 rfl) ?_
            refine xr_iald C w (xJ27 hJ) rfl 0 rfl ((4 * a) + b) rfl (by omega) (by decide) dMD_word_74 ?_
            refine lv_iconst (v := nI 2) hx hb dMD_word_75 xk_i2 ?_
            refine lv_icmp_ne hx hb dMD_word_76 rfl (fun hh7 => ?_) (fun hh7 => ?_)
            · skip
              refine lv_iconst (v := nI 0) hx hb dMD_word_94 xk_i0 ?_
              refine lv_istore (lv' := [(6, .int (nI 0)), (5, .int (nI ((4 * a) + b))), (4, .int (nI 1)), (0, .ref (ad 20 0)), (1, .int (nI a)), (2, .int (nI b)), (3, .int (nI i))]) hx hb dMD_word_95 hl (by decide) rfl (fun ls hl => ?_)
              refine lv_aload_n hx hb dMD_word_97 rfl (lv_at hl 3 rfl) ?_
              refine lv_iload hx hb dMD_word_98 (lv_at hl 2 rfl) ?_
              refine lv_if_ne hx hb dMD_word_100 rfl (fun _ => ?_) (fun hq => absurd hq (by decide))
              refine lv_iload hx hb dMD_word_107 (lv_at hl 0 rfl) ?_
              refine lv_if_ne hx hb dMD_word_109 rfl (fun hq => absurd nI_0 hq) (fun _ => ?_)
              refine lv_iconst (v := nI 2) hx hb dMD_word_112 xk_i2 ?_
              refine lv_goto hx hb dMD_word_113 rfl ?_
              exfalso
              first | contradiction | grind
            · skip
              refine lv_iload_n hx hb dMD_word_79 rfl (lv_at hl 5 rfl) ?_
              refine lv_aload_n hx hb dMD_word_80 rfl (lv_at hl 2 rfl) ?_
              refine xg_MD_35 C w (xJ20 hJ) dMD_word_81 ?_
              refine lv_iload hx hb dMD_word_84 (lv_at hl 0 rfl) ?_
              refine xr_iald C w (xJ29 hJ) rfl 0 rfl ((4 * a) + b) rfl (by omega) (by decide) dMD_word_86 ?_
              refine lv_icmp_ge hx hb dMD_word_87 rfl (fun hh8 => ?_) (fun hh8 => ?_)
              · skip
                refine lv_iconst (v := nI 0) hx hb dMD_word_94 xk_i0 ?_
                refine lv_istore (lv' := [(6, .int (nI 0)), (5, .int (nI ((4 * a) + b))), (4, .int (nI 1)), (0, .ref (ad 20 0)), (1, .int (nI a)), (2, .int (nI b)), (3, .int (nI i))]) hx hb dMD_word_95 hl (by decide) rfl (fun ls hl => ?_)
                refine lv_aload_n hx hb dMD_word_97 rfl (lv_at hl 3 rfl) ?_
                refine lv_iload hx hb dMD_word_98 (lv_at hl 2 rfl) ?_
                refine lv_if_ne hx hb dMD_word_100 rfl (fun _ => ?_) (fun hq => absurd hq (by decide))
                refine lv_iload hx hb dMD_word_107 (lv_at hl 0 rfl) ?_
                refine lv_if_ne hx hb dMD_word_109 rfl (fun hq => absurd nI_0 hq) (fun _ => ?_)
                refine lv_iconst (v := nI 2) hx hb dMD_word_112 xk_i2 ?_
                refine lv_goto hx hb dMD_word_113 rfl ?_
                exfalso
                first | contradiction | grind
              · skip
                refine lv_iconst (v := nI 1) hx hb dMD_word_90 xk_i1 ?_
                refine lv_goto hx hb dMD_word_91 rfl ?_
                refine lv_istore (lv' := [(6, .int (nI 1)), (5, .int (nI ((4 * a) + b))), (4, .int (nI 1)), (0, .ref (ad 20 0)), (1, .int (nI a)), (2, .int (nI b)), (3, .int (nI i))]) hx hb dMD_word_95 hl (by decide) rfl (fun ls hl => ?_)
                refine lv_aload_n hx hb dMD_word_97 rfl (lv_at hl 3 rfl) ?_
                refine lv_iload hx hb dMD_word_98 (lv_at hl 2 rfl) ?_
                refine lv_if_ne hx hb dMD_word_100 rfl (fun _ => ?_) (fun hq => absurd hq (by decide))
                refine lv_iload hx hb dMD_word_107 (lv_at hl 0 rfl) ?_
                refine lv_if_ne hx hb dMD_word_109 rfl (fun _ => ?_) (fun hq => absurd hq (by decide))
                refine lv_iconst (v := nI 0) hx hb dMD_word_116 xk_i0 ?_
                refine xd_callV C w hz hml hl.1 xk_MD_73 (cMD_refused0 l D cA tz I ad (σ) hJ) (xJ20 hJ) rfl rfl rfl rfl (Nat.le_of_ble_eq_true rfl) (by decide) (by decide) dMD_word_117 (fun H locs w => ?_)
                refine W.eq (g2 := F0 m 120 ls [.int (nI 0)]) rfl ?_
                refine lv_if_eq hx hb dMD_word_120 rfl (fun _ => ?_) (fun hq => absurd nI_0 hq)
                refine lv_aload_n hx hb dMD_word_127 rfl (lv_at hl 3 rfl) ?_
                refine xg_MD_50 C w (xJ20 hJ) dMD_word_128 ?_
                refine lv_iconst (v := nI 4) hx hb dMD_word_131 xk_i4 ?_
                refine lv_iload hx hb dMD_word_132 (lv_at hl 1 rfl) ?_
                refine xn_mul hx hb dMD_word_134 ?_
                refine lv_iload_n hx hb dMD_word_135 rfl (lv_at hl 6 rfl) ?_
                refine xn_add hx hb dMD_word_136 ?_
                refine xr_iald C w (xJ34 hJ) rfl 0 rfl ((4 * ((4 * a) + b)) + i) rfl (by omega) (by decide) dMD_word_137 ?_
                refine xn_eq (y := σ 34 0 ((4 * ((4 * a) + b)) + i)) (by simp [xu3, xw_u2, va_up]) ?_
                exact xd_iret C w hr hlk dMD_word_138 (rfl) rfl
set_option maxRecDepth 100000 in
set_option maxHeartbeats 4000000 in
theorem cMD_word_no2 (l : Launch) (D : va_G) (cA : Nat → ClassId) (tz : Nat) (I : List (Nat × Nat)) (ad : Nat → Nat → Nat) (σ : xMem) (a b i : Nat) (hJ : xJ I) (ha : a < 4) (hb4 : b < 4) (hi4 : i < 4) (hs : ¬ (σ 26 0 (4 * a + b) = nI 3 ∧ (σ 27 0 (4 * a + b) = 0 ∨ σ 27 0 (4 * a + b) = nI 2) ∧ nI i < σ 29 0 (4 * a + b))) : xD l yMD_word bMD_word 7 (some .int) 2 [.ref (ad 20 0), .int (nI a), .int (nI b), .int (nI i)] D cA tz I ad σ (some (.int (nI 0))) (xu3 σ 20 0 0 (nI 2)) := by
  refine xd_of (by decide) (by simp [lg_sl, Value.category]) ?_
  intro p e s m args below meth c A ls C hr hlk hml hl w hz
  obtain ⟨hx, hb, hown, hts⟩ := id C
  have hl : lv_has ls 7 [(0, .ref (ad 20 0)), (1, .int (nI a)), (2, .int (nI b)), (3, .int (nI i))] := hl
  have hina : xp_in (nI a) (nI 4) := xp_in_n (by omega) (by decide)
  have hinb : xp_in (nI b) (nI 4) := xp_in_n (by omega) (by decide)
  have hini : xp_in (nI i) (nI 4) := xp_in_n (by omega) (by decide)
  have q3 := @Int32.not_lt
  have q4 := @Int32.not_le
  refine lv_iload_n hx hb dMD_word_0 rfl (lv_at hl 1 rfl) ?_
  refine lv_iconst (v := nI 4) hx hb dMD_word_1 xk_i4 ?_
  refine xd_callS C w hz hml hl.1 xk_MD_69 (cMD_isIn l D cA tz I ad (σ) (nI a) (nI 4)) rfl rfl (Nat.le_of_ble_eq_true rfl) (by decide) (by decide) dMD_word_2 (fun H locs w => ?_)
  refine W.eq (g2 := F0 m 5 ls [.int (xb (xp_in (nI a) (nI 4)))]) rfl ?_
  refine xz_ifeq hx hb dMD_word_5 rfl (fun hh1 => ?_) (fun hh1 => ?_)
  · skip
    exfalso
    first | contradiction | grind
  · skip
    refine lv_iload_n hx hb dMD_word_8 rfl (lv_at hl 2 rfl) ?_
    refine lv_iconst (v := nI 4) hx hb dMD_word_9 xk_i4 ?_
    refine xd_callS C w hz hml hl.1 xk_MD_69 (cMD_isIn l D cA tz I ad (σ) (nI b) (nI 4)) rfl rfl (Nat.le_of_ble_eq_true rfl) (by decide) (by decide) dMD_word_10 (fun H locs w => ?_)
    refine W.eq (g2 := F0 m 13 ls [.int (xb (xp_in (nI b) (nI 4)))]) rfl ?_
    refine xz_ifeq hx hb dMD_word_13 rfl (fun hh2 => ?_) (fun hh2 => ?_)
    · skip
      exfalso
      first | contradiction | grind
    · skip
      refine lv_iload_n hx hb dMD_word_16 rfl (lv_at hl 3 rfl) ?_
      refine lv_iconst (v := nI 4) hx hb dMD_word_17 xk_i4 ?_
      refine xd_callS C w hz hml hl.1 xk_MD_69 (cMD_isIn l D cA tz I ad (σ) (nI i) (nI 4)) rfl rfl (Nat.le_of_ble_eq_true rfl) (by decide) (by decide) dMD_word_18 (fun H locs w => ?_)
      refine W.eq (g2 := F0 m 21 ls [.int (xb (xp_in (nI i) (nI 4)))]) rfl ?_
      refine xz_ifeq hx hb dMD_word_21 rfl (fun hh3 => ?_) (fun hh3 => ?_)
      · skip
        exfalso
        first | contradiction | grind
      · skip
        refine lv_iconst (v := nI 1) hx hb dMD_word_24 xk_i1 ?_
        refine lv_goto hx hb dMD_word_25 rfl ?_
        refine lv_istore (lv' := [(4, .int (nI 1)), (0, .ref (ad 20 0)), (1, .int (nI a)), (2, .int (nI b)), (3, .int (nI i))]) hx hb dMD_word_29 hl (by decide) rfl (fun ls hl => ?_)
        refine lv_iload hx hb dMD_word_31 (lv_at hl 0 rfl) ?_
        refine lv_if_eq hx hb dMD_word_33 rfl (fun hq => absurd hq (by decide)) (fun _ => ?_)
        refine lv_iconst (v := nI 4) hx hb dMD_word_36 xk_i4 ?_
        refine lv_iload_n hx hb dMD_word_37 rfl (lv_at hl 2 rfl) ?_
        refine xn_mul hx hb dMD_word_38 ?_
        refine lv_iload_n hx hb dMD_word_39 rfl (lv_at hl 3 rfl) ?_
        refine xn_add hx hb dMD_word_40 ?_
        refine lv_goto hx hb dMD_word_41 rfl ?_
        refine lv_istore (lv' := [(5, .int (nI ((4 * a) + b))), (4, .int (nI 1)), (0, .ref (ad 20 0)), (1, .int (nI a)), (2, .int (nI b)), (3, .int (nI i))]) hx hb dMD_word_45 hl (by decide) rfl (fun ls hl => ?_)
        refine lv_aload_n hx hb dMD_word_47 rfl (lv_at hl 2 rfl) ?_
        refine xg_MD_26 C w (xJ20 hJ) dMD_word_48 ?_
        refine lv_iload hx hb dMD_word_51 (lv_at hl 0 rfl) ?_
        refine xr_iald C w (xJ26 hJ) rfl 0 rfl ((4 * a) + b) rfl (by omega) (by decide) dMD_word_53 ?_
        refine lv_iconst (v := nI 3) hx hb dMD_word_54 xk_i3 ?_
        refine lv_icmp_ne hx hb dMD_word_55 rfl (fun hh4 => ?_) (fun hh4 => ?_)
        · skip
          refine lv_iconst (v := nI 0) hx hb dMD_word_94 xk_i0 ?_
          refine lv_istore (lv' := [(6, .int (nI 0)), (5, .int (nI ((4 * a) + b))), (4, .int (nI 1)), (0, .ref (ad 20 0)), (1, .int (nI a)), (2, .int (nI b)), (3, .int (nI i))]) hx hb dMD_word_95 hl (by decide) rfl (fun ls hl => ?_)
          refine lv_aload_n hx hb dMD_word_97 rfl (lv_at hl 3 rfl) ?_
          refine lv_iload hx hb dMD_word_98 (lv_at hl 2 rfl) ?_
          refine lv_if_ne hx hb dMD_word_100 rfl (fun _ => ?_) (fun hq => absurd hq (by decide))
          refine lv_iload hx hb dMD_word_107 (lv_at hl 0 rfl) ?_
          refine lv_if_ne hx hb dMD_word_109 rfl (fun hq => absurd nI_0 hq) (fun _ => ?_)
          refine lv_iconst (v := nI 2) hx hb dMD_word_112 xk_i2 ?_
          refine lv_goto hx hb dMD_word_113 rfl ?_
          refine xd_callV C w hz hml hl.1 xk_MD_73 (cMD_refused2 l D cA tz I ad (σ) hJ) (xJ20 hJ) rfl rfl rfl rfl (Nat.le_of_ble_eq_true rfl) (by decide) (by decide) dMD_word_117 (fun H locs w => ?_)
          refine W.eq (g2 := F0 m 120 ls [.int (nI 1)]) rfl ?_
          refine lv_if_eq hx hb dMD_word_120 rfl (fun hq => absurd hq (by decide)) (fun _ => ?_)
          refine lv_iconst (v := nI 0) hx hb dMD_word_123 xk_i0 ?_
          refine lv_goto hx hb dMD_word_124 rfl ?_
          exact xd_iret C w hr hlk dMD_word_138 (rfl) rfl
        · skip
          refine lv_aload_n hx hb dMD_word_58 rfl (lv_at hl 2 rfl) ?_
          refine xg_MD_29 C w (xJ20 hJ) dMD_word_59 ?_
          refine lv_iload hx hb dMD_word_62 (lv_at hl 0 rfl) ?_
          refine xr_iald C w (xJ27 hJ) rfl 0 rfl ((4 * a) + b) rfl (by omega) (by decide) dMD_word_64 ?_
          refine lv_if_eq hx hb dMD_word_65 rfl (fun hh5 => ?_) (fun hh5 => ?_)
          · skip
            refine lv_iload_n hx hb dMD_word_79 rfl (lv_at hl 5 rfl) ?_
            refine lv_aload_n hx hb dMD_word_80 rfl (lv_at hl 2 rfl) ?_
            refine xg_MD_35 C w (xJ20 hJ) dMD_word_81 ?_
            refine lv_iload hx hb dMD_word_84 (lv_at hl 0 rfl) ?_
            refine xr_iald C w (xJ29 hJ) rfl 0 rfl ((4 * a) + b) rfl (by omega) (by decide) dMD_word_86 ?_
            refine lv_icmp_ge hx hb dMD_word_87 rfl (fun hh6 => ?_) (fun hh6 => ?_)
            · skip
              refine lv_iconst (v := nI 0) hx hb dMD_word_94 xk_i0 ?_
              refine lv_istore (lv' := [(6, .int (nI 0)), (5, .int (nI ((4 * a) + b))), (4, .int (nI 1)), (0, .ref (ad 20 0)), (1, .int (nI a)), (2, .int (nI b)), (3, .int (nI i))]) hx hb dMD_word_95 hl (by decide) rfl (fun ls hl => ?_)
              refine lv_aload_n hx hb dMD_word_97 rfl (lv_at hl 3 rfl) ?_
              refine lv_iload hx hb dMD_word_98 (lv_at hl 2 rfl) ?_
              refine lv_if_ne hx hb dMD_word_100 rfl (fun _ => ?_) (fun hq => absurd hq (by decide))
              refine lv_iload hx hb dMD_word_107 (lv_at hl 0 rfl) ?_
              refine lv_if_ne hx hb dMD_word_109 rfl (fun hq => absurd nI_0 hq) (fun _ => ?_)
              refine lv_iconst (v := nI 2) hx hb dMD_word_112 xk_i2 ?_
              refine lv_goto hx hb dMD_word_113 rfl ?_
              refine xd_callV C w hz hml hl.1 xk_MD_73 (cMD_refused2 l D cA tz I ad (σ) hJ) (xJ20 hJ) rfl rfl rfl rfl (Nat.le_of_ble_eq_true rfl) (by decide) (by decide) dMD_word_117 (fun H locs w => ?_)
              refine W.eq (g2 := F0 m 120 ls [.int (nI 1)]) rfl ?_
              refine lv_if_eq hx hb dMD_word_120 rfl (fun hq => absurd hq (by decide)) (fun _ => ?_)
              refine lv_iconst (v := nI 0) hx hb dMD_word_123 xk_i0 ?_
              refine lv_goto hx hb dMD_word_124 rfl ?_
              exact xd_iret C w hr hlk dMD_word_138 (rfl) rfl
            · skip
              refine lv_iconst (v := nI 1) hx hb dMD_word_90 xk_i1 ?_
              refine lv_goto hx hb dMD_word_91 rfl ?_
              refine lv_istore (lv' := [(6, .int (nI 1)), (5, .int (nI ((4 * a) + b))), (4, .int (nI 1)), (0, .ref (ad 20 0)), (1, .int (nI a)), (2, .int (nI b)), (3, .int (nI i))]) hx hb dMD_word_95 hl (by decide) rfl (fun ls hl => ?_)
              refine lv_aload_n hx hb dMD_word_97 rfl (lv_at hl 3 rfl) ?_
              refine lv_iload hx hb dMD_word_98 (lv_at hl 2 rfl) ?_
              refine lv_if_ne hx hb dMD_word_100 rfl (fun _ => ?_) (fun hq => absurd hq (by decide))
              refine lv_iload hx hb dMD_word_107 (lv_at hl 0 rfl) ?_
              refine lv_if_ne hx hb dMD_word_109 rfl (fun _ => ?_) (fun hq => absurd hq (by decide))
              refine lv_iconst (v := nI 0) hx hb dMD_word_116 xk_i0 ?_
              exfalso
              first | contradiction | grind
          · skip
            refine lv_aload_n hx hb dMD_word_68 rfl (lv_at hl 2 rfl) ?_
            refine xg_MD_29 C w (xJ20 hJ) dMD_word_69 ?_
            refine lv_iload hx hb dMD_word_72 (lv_at hl 0 rfl) ?_
            refine xr_iald C w (xJ27 hJ) rfl 0 rfl ((4 * a) + b) rfl (by omega) (by decide) dMD_word_74 ?_
            refine lv_iconst (v := nI 2) hx hb dMD_word_75 xk_i2 ?_
            refine lv_icmp_ne hx hb dMD_word_76 rfl (fun hh7 => ?_) (fun hh7 => ?_)
            · skip
              refine lv_iconst (v := nI 0) hx hb dMD_word_94 xk_i0 ?_
              refine lv_istore (lv' := [(6, .int (nI 0)), (5, .int (nI ((4 * a) + b))), (4, .int (nI 1)), (0, .ref (ad 20 0)), (1, .int (nI a)), (2, .int (nI b)), (3, .int (nI i))]) hx hb dMD_word_95 hl (by decide) rfl (fun ls hl => ?_)
              refine lv_aload_n hx hb dMD_word_97 rfl (lv_at hl 3 rfl) ?_
              refine lv_iload hx hb dMD_word_98 (lv_at hl 2 rfl) ?_
              refine lv_if_ne hx hb dMD_word_100 rfl (fun _ => ?_) (fun hq => absurd hq (by decide))
              refine lv_iload hx hb dMD_word_107 (lv_at hl 0 rfl) ?_
              refine lv_if_ne hx hb dMD_word_109 rfl (fun hq => absurd nI_0 hq) (fun _ => ?_)
              refine lv_iconst (v := nI 2) hx hb dMD_word_112 xk_i2 ?_
              refine lv_goto hx hb dMD_word_113 rfl ?_
              refine xd_callV C w hz hml hl.1 xk_MD_73 (cMD_refused2 l D cA tz I ad (σ) hJ) (xJ20 hJ) rfl rfl rfl rfl (Nat.le_of_ble_eq_true rfl) (by decide) (by decide) dMD_word_117 (fun H locs w => ?_)
              refine W.eq (g2 := F0 m 120 ls [.int (nI 1)]) rfl ?_
              refine lv_if_eq hx hb dMD_word_120 rfl (fun hq => absurd hq (by decide)) (fun _ => ?_)
              refine lv_iconst (v := nI 0) hx hb dMD_word_123 xk_i0 ?_
              refine lv_goto hx hb dMD_word_124 rfl ?_
              exact xd_iret C w hr hlk dMD_word_138 (rfl) rfl
            · skip
              refine lv_iload_n hx hb dMD_word_79 rfl (lv_at hl 5 rfl) ?_
              refine lv_aload_n hx hb dMD_word_80 rfl (lv_at hl 2 rfl) ?_
              refine xg_MD_35 C w (xJ20 hJ) dMD_word_81 ?_
              refine lv_iload hx hb dMD_word_84 (lv_at hl 0 rfl) ?_
              refine xr_iald C w (xJ29 hJ) rfl 0 rfl ((4 * a) + b) rfl (by omega) (by decide) dMD_word_86 ?_
              refine lv_icmp_ge hx hb dMD_word_87 rfl (fun hh8 => ?_) (fun hh8 => ?_)
              · skip
                refine lv_iconst (v := nI 0) hx hb dMD_word_94 xk_i0 ?_
                refine lv_istore (lv' := [(6, .int (nI 0)), (5, .int (nI ((4 * a) + b))), (4, .int (nI 1)), (0, .ref (ad 20 0)), (1, .int (nI a)), (2, .int (nI b)), (3, .int (nI i))]) hx hb dMD_word_95 hl (by decide) rfl (fun ls hl => ?_)
                refine lv_aload_n hx hb dMD_word_97 rfl (lv_at hl 3 rfl) ?_
                refine lv_iload hx hb dMD_word_98 (lv_at hl 2 rfl) ?_
                refine lv_if_ne hx hb dMD_word_100 rfl (fun _ => ?_) (fun hq => absurd hq (by decide))
                refine lv_iload hx hb dMD_word_107 (lv_at hl 0 rfl) ?_
                refine lv_if_ne hx hb dMD_word_109 rfl (fun hq => absurd nI_0 hq) (fun _ => ?_)
                refine lv_iconst (v := nI 2) hx hb dMD_word_112 xk_i2 ?_
                refine lv_goto hx hb dMD_word_113 rfl ?_
                refine xd_callV C w hz hml hl.1 xk_MD_73 (cMD_refused2 l D cA tz I ad (σ) hJ) (xJ20 hJ) rfl rfl rfl rfl (Nat.le_of_ble_eq_true rfl) (by decide) (by decide) dMD_word_117 (fun H locs w => ?_)
                refine W.eq (g2 := F0 m 120 ls [.int (nI 1)]) rfl ?_
                refine lv_if_eq hx hb dMD_word_120 rfl (fun hq => absurd hq (by decide)) (fun _ => ?_)
                refine lv_iconst (v := nI 0) hx hb dMD_word_123 xk_i0 ?_
                refine lv_goto hx hb dMD_word_124 rfl ?_
                exact xd_iret C w hr hlk dMD_word_138 (rfl) rfl
              · skip
                refine lv_iconst (v := nI 1) hx hb dMD_word_90 xk_i1 ?_
                refine lv_goto hx hb dMD_word_91 rfl ?_
                refine lv_istore (lv' := [(6, .int (nI 1)), (5, .int (nI ((4 * a) + b))), (4, .int (nI 1)), (0, .ref (ad 20 0)), (1, .int (nI a)), (2, .int (nI b)), (3, .int (nI i))]) hx hb dMD_word_95 hl (by decide) rfl (fun ls hl => ?_)
                refine lv_aload_n hx hb dMD_word_97 rfl (lv_at hl 3 rfl) ?_
                refine lv_iload hx hb dMD_word_98 (lv_at hl 2 rfl) ?_
                refine lv_if_ne hx hb dMD_word_100 rfl (fun _ => ?_) (fun hq => absurd hq (by decide))
                refine lv_iload hx hb dMD_word_107 (lv_at hl 0 rfl) ?_
                refine lv_if_ne hx hb dMD_word_109 rfl (fun _ => ?_) (fun hq => absurd hq (by decide))
                refine lv_iconst (v := nI 0) hx hb dMD_word_116 xk_i0 ?_
                exfalso
                first | contradiction | grind
set_option maxRecDepth 100000 in
set_option maxHeartbeats 4000000 in
theorem cMD_word_no (l : Launch) (D : va_G) (cA : Nat → ClassId) (tz : Nat) (I : List (Nat × Nat)) (ad : Nat → Nat → Nat) (σ : xMem) (x y z : Int32) (hJ : xJ I) (hn : ¬ (xp_in x (nI 4) ∧ xp_in y (nI 4) ∧ xp_in z (nI 4))) : xD l yMD_word bMD_word 7 (some .int) 2 [.ref (ad 20 0), .int x, .int y, .int z] D cA tz I ad σ (some (.int (nI 0))) (xu3 σ 20 0 0 (nI 1)) := by
  refine xd_of (by decide) (by simp [lg_sl, Value.category]) ?_
  intro p e s m args below meth c A ls C hr hlk hml hl w hz
  obtain ⟨hx, hb, hown, hts⟩ := id C
  have hl : lv_has ls 7 [(0, .ref (ad 20 0)), (1, .int x), (2, .int y), (3, .int z)] := hl
  refine lv_iload_n hx hb dMD_word_0 rfl (lv_at hl 1 rfl) ?_
  refine lv_iconst (v := nI 4) hx hb dMD_word_1 xk_i4 ?_
  refine xd_callS C w hz hml hl.1 xk_MD_69 (cMD_isIn l D cA tz I ad (σ) x (nI 4)) rfl rfl (Nat.le_of_ble_eq_true rfl) (by decide) (by decide) dMD_word_2 (fun H locs w => ?_)
  refine W.eq (g2 := F0 m 5 ls [.int (xb (xp_in x (nI 4)))]) rfl ?_
  refine xz_ifeq hx hb dMD_word_5 rfl (fun hh1 => ?_) (fun hh1 => ?_)
  · skip
    refine lv_iconst (v := nI 0) hx hb dMD_word_28 xk_i0 ?_
    refine lv_istore (lv' := [(4, .int (nI 0)), (0, .ref (ad 20 0)), (1, .int x), (2, .int y), (3, .int z)]) hx hb dMD_word_29 hl (by decide) rfl (fun ls hl => ?_)
    refine lv_iload hx hb dMD_word_31 (lv_at hl 0 rfl) ?_
    refine lv_if_eq hx hb dMD_word_33 rfl (fun _ => ?_) (fun hq => absurd nI_0 hq)
    refine lv_iconst (v := nI 0) hx hb dMD_word_44 xk_i0 ?_
    refine lv_istore (lv' := [(5, .int (nI 0)), (4, .int (nI 0)), (0, .ref (ad 20 0)), (1, .int x), (2, .int y), (3, .int z)]) hx hb dMD_word_45 hl (by decide) rfl (fun ls hl => ?_)
    refine lv_aload_n hx hb dMD_word_47 rfl (lv_at hl 2 rfl) ?_
    refine xg_MD_26 C w (xJ20 hJ) dMD_word_48 ?_
    refine lv_iload hx hb dMD_word_51 (lv_at hl 0 rfl) ?_
    refine xr_iald C w (xJ26 hJ) rfl 0 rfl 0 rfl (by omega) (by decide) dMD_word_53 ?_
    refine lv_iconst (v := nI 3) hx hb dMD_word_54 xk_i3 ?_
    refine lv_icmp_ne hx hb dMD_word_55 rfl (fun hh2 => ?_) (fun hh2 => ?_)
    · skip
      refine lv_iconst (v := nI 0) hx hb dMD_word_94 xk_i0 ?_
      refine lv_istore (lv' := [(6, .int (nI 0)), (5, .int (nI 0)), (4, .int (nI 0)), (0, .ref (ad 20 0)), (1, .int x), (2, .int y), (3, .int z)]) hx hb dMD_word_95 hl (by decide) rfl (fun ls hl => ?_)
      refine lv_aload_n hx hb dMD_word_97 rfl (lv_at hl 3 rfl) ?_
      refine lv_iload hx hb dMD_word_98 (lv_at hl 2 rfl) ?_
      refine lv_if_ne hx hb dMD_word_100 rfl (fun hq => absurd nI_0 hq) (fun _ => ?_)
      refine lv_iconst (v := nI 1) hx hb dMD_word_103 xk_i1 ?_
      refine lv_goto hx hb dMD_word_104 rfl ?_
      refine xd_callV C w hz hml hl.1 xk_MD_73 (cMD_refused1 l D cA tz I ad (σ) hJ) (xJ20 hJ) rfl rfl rfl rfl (Nat.le_of_ble_eq_true rfl) (by decide) (by decide) dMD_word_117 (fun H locs w => ?_)
      refine W.eq (g2 := F0 m 120 ls [.int (nI 1)]) rfl ?_
      refine lv_if_eq hx hb dMD_word_120 rfl (fun hq => absurd hq (by decide)) (fun _ => ?_)
      refine lv_iconst (v := nI 0) hx hb dMD_word_123 xk_i0 ?_
      refine lv_goto hx hb dMD_word_124 rfl ?_
      exact xd_iret C w hr hlk dMD_word_138 (rfl) rfl
    · skip
      refine lv_aload_n hx hb dMD_word_58 rfl (lv_at hl 2 rfl) ?_
      refine xg_MD_29 C w (xJ20 hJ) dMD_word_59 ?_
      refine lv_iload hx hb dMD_word_62 (lv_at hl 0 rfl) ?_
      refine xr_iald C w (xJ27 hJ) rfl 0 rfl 0 rfl (by omega) (by decide) dMD_word_64 ?_
      refine lv_if_eq hx hb dMD_word_65 rfl (fun hh3 => ?_) (fun hh3 => ?_)
      · skip
        refine lv_iload_n hx hb dMD_word_79 rfl (lv_at hl 5 rfl) ?_
        refine lv_aload_n hx hb dMD_word_80 rfl (lv_at hl 2 rfl) ?_
        refine xg_MD_35 C w (xJ20 hJ) dMD_word_81 ?_
        refine lv_iload hx hb dMD_word_84 (lv_at hl 0 rfl) ?_
        refine xr_iald C w (xJ29 hJ) rfl 0 rfl 0 rfl (by omega) (by decide) dMD_word_86 ?_
        refine lv_icmp_ge hx hb dMD_word_87 rfl (fun hh4 => ?_) (fun hh4 => ?_)
        · skip
          refine lv_iconst (v := nI 0) hx hb dMD_word_94 xk_i0 ?_
          refine lv_istore (lv' := [(6, .int (nI 0)), (5, .int (nI 0)), (4, .int (nI 0)), (0, .ref (ad 20 0)), (1, .int x), (2, .int y), (3, .int z)]) hx hb dMD_word_95 hl (by decide) rfl (fun ls hl => ?_)
          refine lv_aload_n hx hb dMD_word_97 rfl (lv_at hl 3 rfl) ?_
          refine lv_iload hx hb dMD_word_98 (lv_at hl 2 rfl) ?_
          refine lv_if_ne hx hb dMD_word_100 rfl (fun hq => absurd nI_0 hq) (fun _ => ?_)
          refine lv_iconst (v := nI 1) hx hb dMD_word_103 xk_i1 ?_
          refine lv_goto hx hb dMD_word_104 rfl ?_
          refine xd_callV C w hz hml hl.1 xk_MD_73 (cMD_refused1 l D cA tz I ad (σ) hJ) (xJ20 hJ) rfl rfl rfl rfl (Nat.le_of_ble_eq_true rfl) (by decide) (by decide) dMD_word_117 (fun H locs w => ?_)
          refine W.eq (g2 := F0 m 120 ls [.int (nI 1)]) rfl ?_
          refine lv_if_eq hx hb dMD_word_120 rfl (fun hq => absurd hq (by decide)) (fun _ => ?_)
          refine lv_iconst (v := nI 0) hx hb dMD_word_123 xk_i0 ?_
          refine lv_goto hx hb dMD_word_124 rfl ?_
          exact xd_iret C w hr hlk dMD_word_138 (rfl) rfl
        · skip
          refine lv_iconst (v := nI 1) hx hb dMD_word_90 xk_i1 ?_
          refine lv_goto hx hb dMD_word_91 rfl ?_
          refine lv_istore (lv' := [(6, .int (nI 1)), (5, .int (nI 0)), (4, .int (nI 0)), (0, .ref (ad 20 0)), (1, .int x), (2, .int y), (3, .int z)]) hx hb dMD_word_95 hl (by decide) rfl (fun ls hl => ?_)
          refine lv_aload_n hx hb dMD_word_97 rfl (lv_at hl 3 rfl) ?_
          refine lv_iload hx hb dMD_word_98 (lv_at hl 2 rfl) ?_
          refine lv_if_ne hx hb dMD_word_100 rfl (fun hq => absurd nI_0 hq) (fun _ => ?_)
          refine lv_iconst (v := nI 1) hx hb dMD_word_103 xk_i1 ?_
          refine lv_goto hx hb dMD_word_104 rfl ?_
          refine xd_callV C w hz hml hl.1 xk_MD_73 (cMD_refused1 l D cA tz I ad (σ) hJ) (xJ20 hJ) rfl rfl rfl rfl (Nat.le_of_ble_eq_true rfl) (by decide) (by decide) dMD_word_117 (fun H locs w => ?_)
          refine W.eq (g2 := F0 m 120 ls [.int (nI 1)]) rfl ?_
          refine lv_if_eq hx hb dMD_word_120 rfl (fun hq => absurd hq (by decide)) (fun _ => ?_)
          refine lv_iconst (v := nI 0) hx hb dMD_word_123 xk_i0 ?_
          refine lv_goto hx hb dMD_word_124 rfl ?_
          exact xd_iret C w hr hlk dMD_word_138 (rfl) rfl
      · skip
        refine lv_aload_n hx hb dMD_word_68 rfl (lv_at hl 2 rfl) ?_
        refine xg_MD_29 C w (xJ20 hJ) dMD_word_69 ?_
        refine lv_iload hx hb dMD_word_72 (lv_at hl 0 rfl) ?_
        refine xr_iald C w (xJ27 hJ) rfl 0 rfl 0 rfl (by omega) (by decide) dMD_word_74 ?_
        refine lv_iconst (v := nI 2) hx hb dMD_word_75 xk_i2 ?_
        refine lv_icmp_ne hx hb dMD_word_76 rfl (fun hh5 => ?_) (fun hh5 => ?_)
        · skip
          refine lv_iconst (v := nI 0) hx hb dMD_word_94 xk_i0 ?_
          refine lv_istore (lv' := [(6, .int (nI 0)), (5, .int (nI 0)), (4, .int (nI 0)), (0, .ref (ad 20 0)), (1, .int x), (2, .int y), (3, .int z)]) hx hb dMD_word_95 hl (by decide) rfl (fun ls hl => ?_)
          refine lv_aload_n hx hb dMD_word_97 rfl (lv_at hl 3 rfl) ?_
          refine lv_iload hx hb dMD_word_98 (lv_at hl 2 rfl) ?_
          refine lv_if_ne hx hb dMD_word_100 rfl (fun hq => absurd nI_0 hq) (fun _ => ?_)
          refine lv_iconst (v := nI 1) hx hb dMD_word_103 xk_i1 ?_
          refine lv_goto hx hb dMD_word_104 rfl ?_
          refine xd_callV C w hz hml hl.1 xk_MD_73 (cMD_refused1 l D cA tz I ad (σ) hJ) (xJ20 hJ) rfl rfl rfl rfl (Nat.le_of_ble_eq_true rfl) (by decide) (by decide) dMD_word_117 (fun H locs w => ?_)
          refine W.eq (g2 := F0 m 120 ls [.int (nI 1)]) rfl ?_
          refine lv_if_eq hx hb dMD_word_120 rfl (fun hq => absurd hq (by decide)) (fun _ => ?_)
          refine lv_iconst (v := nI 0) hx hb dMD_word_123 xk_i0 ?_
          refine lv_goto hx hb dMD_word_124 rfl ?_
          exact xd_iret C w hr hlk dMD_word_138 (rfl) rfl
        · skip
          refine lv_iload_n hx hb dMD_word_79 rfl (lv_at hl 5 rfl) ?_
          refine lv_aload_n hx hb dMD_word_80 rfl (lv_at hl 2 rfl) ?_
          refine xg_MD_35 C w (xJ20 hJ) dMD_word_81 ?_
          refine lv_iload hx hb dMD_word_84 (lv_at hl 0 rfl) ?_
          refine xr_iald C w (xJ29 hJ) rfl 0 rfl 0 rfl (by omega) (by decide) dMD_word_86 ?_
          refine lv_icmp_ge hx hb dMD_word_87 rfl (fun hh6 => ?_) (fun hh6 => ?_)
          · skip
            refine lv_iconst (v := nI 0) hx hb dMD_word_94 xk_i0 ?_
            refine lv_istore (lv' := [(6, .int (nI 0)), (5, .int (nI 0)), (4, .int (nI 0)), (0, .ref (ad 20 0)), (1, .int x), (2, .int y), (3, .int z)]) hx hb dMD_word_95 hl (by decide) rfl (fun ls hl => ?_)
            refine lv_aload_n hx hb dMD_word_97 rfl (lv_at hl 3 rfl) ?_
            refine lv_iload hx hb dMD_word_98 (lv_at hl 2 rfl) ?_
            refine lv_if_ne hx hb dMD_word_100 rfl (fun hq => absurd nI_0 hq) (fun _ => ?_)
            refine lv_iconst (v := nI 1) hx hb dMD_word_103 xk_i1 ?_
            refine lv_goto hx hb dMD_word_104 rfl ?_
            refine xd_callV C w hz hml hl.1 xk_MD_73 (cMD_refused1 l D cA tz I ad (σ) hJ) (xJ20 hJ) rfl rfl rfl rfl (Nat.le_of_ble_eq_true rfl) (by decide) (by decide) dMD_word_117 (fun H locs w => ?_)
            refine W.eq (g2 := F0 m 120 ls [.int (nI 1)]) rfl ?_
            refine lv_if_eq hx hb dMD_word_120 rfl (fun hq => absurd hq (by decide)) (fun _ => ?_)
            refine lv_iconst (v := nI 0) hx hb dMD_word_123 xk_i0 ?_
            refine lv_goto hx hb dMD_word_124 rfl ?_
            exact xd_iret C w hr hlk dMD_word_138 (rfl) rfl
          · skip
            refine lv_iconst (v := nI 1) hx hb dMD_word_90 xk_i1 ?_
            refine lv_goto hx hb dMD_word_91 rfl ?_
            refine lv_istore (lv' := [(6, .int (nI 1)), (5, .int (nI 0)), (4, .int (nI 0)), (0, .ref (ad 20 0)), (1, .int x), (2, .int y), (3, .int z)]) hx hb dMD_word_95 hl (by decide) rfl (fun ls hl => ?_)
            refine lv_aload_n hx hb dMD_word_97 rfl (lv_at hl 3 rfl) ?_
            refine lv_iload hx hb dMD_word_98 (lv_at hl 2 rfl) ?_
            refine lv_if_ne hx hb dMD_word_100 rfl (fun hq => absurd nI_0 hq) (fun _ => ?_)
            refine lv_iconst (v := nI 1) hx hb dMD_word_103 xk_i1 ?_
            refine lv_goto hx hb dMD_word_104 rfl ?_
            refine xd_callV C w hz hml hl.1 xk_MD_73 (cMD_refused1 l D cA tz I ad (σ) hJ) (xJ20 hJ) rfl rfl rfl rfl (Nat.le_of_ble_eq_true rfl) (by decide) (by decide) dMD_word_117 (fun H locs w => ?_)
            refine W.eq (g2 := F0 m 120 ls [.int (nI 1)]) rfl ?_
            refine lv_if_eq hx hb dMD_word_120 rfl (fun hq => absurd hq (by decide)) (fun _ => ?_)
            refine lv_iconst (v := nI 0) hx hb dMD_word_123 xk_i0 ?_
            refine lv_goto hx hb dMD_word_124 rfl ?_
            exact xd_iret C w hr hlk dMD_word_138 (rfl) rfl
  · skip
    refine lv_iload_n hx hb dMD_word_8 rfl (lv_at hl 2 rfl) ?_
    refine lv_iconst (v := nI 4) hx hb dMD_word_9 xk_i4 ?_
    refine xd_callS C w hz hml hl.1 xk_MD_69 (cMD_isIn l D cA tz I ad (σ) y (nI 4)) rfl rfl (Nat.le_of_ble_eq_true rfl) (by decide) (by decide) dMD_word_10 (fun H locs w => ?_)
    refine W.eq (g2 := F0 m 13 ls [.int (xb (xp_in y (nI 4)))]) rfl ?_
    refine xz_ifeq hx hb dMD_word_13 rfl (fun hh7 => ?_) (fun hh7 => ?_)
    · skip
      refine lv_iconst (v := nI 0) hx hb dMD_word_28 xk_i0 ?_
      refine lv_istore (lv' := [(4, .int (nI 0)), (0, .ref (ad 20 0)), (1, .int x), (2, .int y), (3, .int z)]) hx hb dMD_word_29 hl (by decide) rfl (fun ls hl => ?_)
      refine lv_iload hx hb dMD_word_31 (lv_at hl 0 rfl) ?_
      refine lv_if_eq hx hb dMD_word_33 rfl (fun _ => ?_) (fun hq => absurd nI_0 hq)
      refine lv_iconst (v := nI 0) hx hb dMD_word_44 xk_i0 ?_
      refine lv_istore (lv' := [(5, .int (nI 0)), (4, .int (nI 0)), (0, .ref (ad 20 0)), (1, .int x), (2, .int y), (3, .int z)]) hx hb dMD_word_45 hl (by decide) rfl (fun ls hl => ?_)
      refine lv_aload_n hx hb dMD_word_47 rfl (lv_at hl 2 rfl) ?_
      refine xg_MD_26 C w (xJ20 hJ) dMD_word_48 ?_
      refine lv_iload hx hb dMD_word_51 (lv_at hl 0 rfl) ?_
      refine xr_iald C w (xJ26 hJ) rfl 0 rfl 0 rfl (by omega) (by decide) dMD_word_53 ?_
      refine lv_iconst (v := nI 3) hx hb dMD_word_54 xk_i3 ?_
      refine lv_icmp_ne hx hb dMD_word_55 rfl (fun hh8 => ?_) (fun hh8 => ?_)
      · skip
        refine lv_iconst (v := nI 0) hx hb dMD_word_94 xk_i0 ?_
        refine lv_istore (lv' := [(6, .int (nI 0)), (5, .int (nI 0)), (4, .int (nI 0)), (0, .ref (ad 20 0)), (1, .int x), (2, .int y), (3, .int z)]) hx hb dMD_word_95 hl (by decide) rfl (fun ls hl => ?_)
        refine lv_aload_n hx hb dMD_word_97 rfl (lv_at hl 3 rfl) ?_
        refine lv_iload hx hb dMD_word_98 (lv_at hl 2 rfl) ?_
        refine lv_if_ne hx hb dMD_word_100 rfl (fun hq => absurd nI_0 hq) (fun _ => ?_)
        refine lv_iconst (v := nI 1) hx hb dMD_word_103 xk_i1 ?_
        refine lv_goto hx hb dMD_word_104 rfl ?_
        refine xd_callV C w hz hml hl.1 xk_MD_73 (cMD_refused1 l D cA tz I ad (σ) hJ) (xJ20 hJ) rfl rfl rfl rfl (Nat.le_of_ble_eq_true rfl) (by decide) (by decide) dMD_word_117 (fun H locs w => ?_)
        refine W.eq (g2 := F0 m 120 ls [.int (nI 1)]) rfl ?_
        refine lv_if_eq hx hb dMD_word_120 rfl (fun hq => absurd hq (by decide)) (fun _ => ?_)
        refine lv_iconst (v := nI 0) hx hb dMD_word_123 xk_i0 ?_
        refine lv_goto hx hb dMD_word_124 rfl ?_
        exact xd_iret C w hr hlk dMD_word_138 (rfl) rfl
      · skip
        refine lv_aload_n hx hb dMD_word_58 rfl (lv_at hl 2 rfl) ?_
        refine xg_MD_29 C w (xJ20 hJ) dMD_word_59 ?_
        refine lv_iload hx hb dMD_word_62 (lv_at hl 0 rfl) ?_
        refine xr_iald C w (xJ27 hJ) rfl 0 rfl 0 rfl (by omega) (by decide) dMD_word_64 ?_
        refine lv_if_eq hx hb dMD_word_65 rfl (fun hh9 => ?_) (fun hh9 => ?_)
        · skip
          refine lv_iload_n hx hb dMD_word_79 rfl (lv_at hl 5 rfl) ?_
          refine lv_aload_n hx hb dMD_word_80 rfl (lv_at hl 2 rfl) ?_
          refine xg_MD_35 C w (xJ20 hJ) dMD_word_81 ?_
          refine lv_iload hx hb dMD_word_84 (lv_at hl 0 rfl) ?_
          refine xr_iald C w (xJ29 hJ) rfl 0 rfl 0 rfl (by omega) (by decide) dMD_word_86 ?_
          refine lv_icmp_ge hx hb dMD_word_87 rfl (fun hh10 => ?_) (fun hh10 => ?_)
          · skip
            refine lv_iconst (v := nI 0) hx hb dMD_word_94 xk_i0 ?_
            refine lv_istore (lv' := [(6, .int (nI 0)), (5, .int (nI 0)), (4, .int (nI 0)), (0, .ref (ad 20 0)), (1, .int x), (2, .int y), (3, .int z)]) hx hb dMD_word_95 hl (by decide) rfl (fun ls hl => ?_)
            refine lv_aload_n hx hb dMD_word_97 rfl (lv_at hl 3 rfl) ?_
            refine lv_iload hx hb dMD_word_98 (lv_at hl 2 rfl) ?_
            refine lv_if_ne hx hb dMD_word_100 rfl (fun hq => absurd nI_0 hq) (fun _ => ?_)
            refine lv_iconst (v := nI 1) hx hb dMD_word_103 xk_i1 ?_
            refine lv_goto hx hb dMD_word_104 rfl ?_
            refine xd_callV C w hz hml hl.1 xk_MD_73 (cMD_refused1 l D cA tz I ad (σ) hJ) (xJ20 hJ) rfl rfl rfl rfl (Nat.le_of_ble_eq_true rfl) (by decide) (by decide) dMD_word_117 (fun H locs w => ?_)
            refine W.eq (g2 := F0 m 120 ls [.int (nI 1)]) rfl ?_
            refine lv_if_eq hx hb dMD_word_120 rfl (fun hq => absurd hq (by decide)) (fun _ => ?_)
            refine lv_iconst (v := nI 0) hx hb dMD_word_123 xk_i0 ?_
            refine lv_goto hx hb dMD_word_124 rfl ?_
            exact xd_iret C w hr hlk dMD_word_138 (rfl) rfl
          · skip
            refine lv_iconst (v := nI 1) hx hb dMD_word_90 xk_i1 ?_
            refine lv_goto hx hb dMD_word_91 rfl ?_
            refine lv_istore (lv' := [(6, .int (nI 1)), (5, .int (nI 0)), (4, .int (nI 0)), (0, .ref (ad 20 0)), (1, .int x), (2, .int y), (3, .int z)]) hx hb dMD_word_95 hl (by decide) rfl (fun ls hl => ?_)
            refine lv_aload_n hx hb dMD_word_97 rfl (lv_at hl 3 rfl) ?_
            refine lv_iload hx hb dMD_word_98 (lv_at hl 2 rfl) ?_
            refine lv_if_ne hx hb dMD_word_100 rfl (fun hq => absurd nI_0 hq) (fun _ => ?_)
            refine lv_iconst (v := nI 1) hx hb dMD_word_103 xk_i1 ?_
            refine lv_goto hx hb dMD_word_104 rfl ?_
            refine xd_callV C w hz hml hl.1 xk_MD_73 (cMD_refused1 l D cA tz I ad (σ) hJ) (xJ20 hJ) rfl rfl rfl rfl (Nat.le_of_ble_eq_true rfl) (by decide) (by decide) dMD_word_117 (fun H locs w => ?_)
            refine W.eq (g2 := F0 m 120 ls [.int (nI 1)]) rfl ?_
            refine lv_if_eq hx hb dMD_word_120 rfl (fun hq => absurd hq (by decide)) (fun _ => ?_)
            refine lv_iconst (v := nI 0) hx hb dMD_word_123 xk_i0 ?_
            refine lv_goto hx hb dMD_word_124 rfl ?_
            exact xd_iret C w hr hlk dMD_word_138 (rfl) rfl
        · skip
          refine lv_aload_n hx hb dMD_word_68 rfl (lv_at hl 2 rfl) ?_
          refine xg_MD_29 C w (xJ20 hJ) dMD_word_69 ?_
          refine lv_iload hx hb dMD_word_72 (lv_at hl 0 rfl) ?_
          refine xr_iald C w (xJ27 hJ) rfl 0 rfl 0 rfl (by omega) (by decide) dMD_word_74 ?_
          refine lv_iconst (v := nI 2) hx hb dMD_word_75 xk_i2 ?_
          refine lv_icmp_ne hx hb dMD_word_76 rfl (fun hh11 => ?_) (fun hh11 => ?_)
          · skip
            refine lv_iconst (v := nI 0) hx hb dMD_word_94 xk_i0 ?_
            refine lv_istore (lv' := [(6, .int (nI 0)), (5, .int (nI 0)), (4, .int (nI 0)), (0, .ref (ad 20 0)), (1, .int x), (2, .int y), (3, .int z)]) hx hb dMD_word_95 hl (by decide) rfl (fun ls hl => ?_)
            refine lv_aload_n hx hb dMD_word_97 rfl (lv_at hl 3 rfl) ?_
            refine lv_iload hx hb dMD_word_98 (lv_at hl 2 rfl) ?_
            refine lv_if_ne hx hb dMD_word_100 rfl (fun hq => absurd nI_0 hq) (fun _ => ?_)
            refine lv_iconst (v := nI 1) hx hb dMD_word_103 xk_i1 ?_
            refine lv_goto hx hb dMD_word_104 rfl ?_
            refine xd_callV C w hz hml hl.1 xk_MD_73 (cMD_refused1 l D cA tz I ad (σ) hJ) (xJ20 hJ) rfl rfl rfl rfl (Nat.le_of_ble_eq_true rfl) (by decide) (by decide) dMD_word_117 (fun H locs w => ?_)
            refine W.eq (g2 := F0 m 120 ls [.int (nI 1)]) rfl ?_
            refine lv_if_eq hx hb dMD_word_120 rfl (fun hq => absurd hq (by decide)) (fun _ => ?_)
            refine lv_iconst (v := nI 0) hx hb dMD_word_123 xk_i0 ?_
            refine lv_goto hx hb dMD_word_124 rfl ?_
            exact xd_iret C w hr hlk dMD_word_138 (rfl) rfl
          · skip
            refine lv_iload_n hx hb dMD_word_79 rfl (lv_at hl 5 rfl) ?_
            refine lv_aload_n hx hb dMD_word_80 rfl (lv_at hl 2 rfl) ?_
            refine xg_MD_35 C w (xJ20 hJ) dMD_word_81 ?_
            refine lv_iload hx hb dMD_word_84 (lv_at hl 0 rfl) ?_
            refine xr_iald C w (xJ29 hJ) rfl 0 rfl 0 rfl (by omega) (by decide) dMD_word_86 ?_
            refine lv_icmp_ge hx hb dMD_word_87 rfl (fun hh12 => ?_) (fun hh12 => ?_)
            · skip
              refine lv_iconst (v := nI 0) hx hb dMD_word_94 xk_i0 ?_
              refine lv_istore (lv' := [(6, .int (nI 0)), (5, .int (nI 0)), (4, .int (nI 0)), (0, .ref (ad 20 0)), (1, .int x), (2, .int y), (3, .int z)]) hx hb dMD_word_95 hl (by decide) rfl (fun ls hl => ?_)
              refine lv_aload_n hx hb dMD_word_97 rfl (lv_at hl 3 rfl) ?_
              refine lv_iload hx hb dMD_word_98 (lv_at hl 2 rfl) ?_
              refine lv_if_ne hx hb dMD_word_100 rfl (fun hq => absurd nI_0 hq) (fun _ => ?_)
              refine lv_iconst (v := nI 1) hx hb dMD_word_103 xk_i1 ?_
              refine lv_goto hx hb dMD_word_104 rfl ?_
              refine xd_callV C w hz hml hl.1 xk_MD_73 (cMD_refused1 l D cA tz I ad (σ) hJ) (xJ20 hJ) rfl rfl rfl rfl (Nat.le_of_ble_eq_true rfl) (by decide) (by decide) dMD_word_117 (fun H locs w => ?_)
              refine W.eq (g2 := F0 m 120 ls [.int (nI 1)]) rfl ?_
              refine lv_if_eq hx hb dMD_word_120 rfl (fun hq => absurd hq (by decide)) (fun _ => ?_)
              refine lv_iconst (v := nI 0) hx hb dMD_word_123 xk_i0 ?_
              refine lv_goto hx hb dMD_word_124 rfl ?_
              exact xd_iret C w hr hlk dMD_word_138 (rfl) rfl
            · skip
              refine lv_iconst (v := nI 1) hx hb dMD_word_90 xk_i1 ?_
              refine lv_goto hx hb dMD_word_91 rfl ?_
              refine lv_istore (lv' := [(6, .int (nI 1)), (5, .int (nI 0)), (4, .int (nI 0)), (0, .ref (ad 20 0)), (1, .int x), (2, .int y), (3, .int z)]) hx hb dMD_word_95 hl (by decide) rfl (fun ls hl => ?_)
              refine lv_aload_n hx hb dMD_word_97 rfl (lv_at hl 3 rfl) ?_
              refine lv_iload hx hb dMD_word_98 (lv_at hl 2 rfl) ?_
              refine lv_if_ne hx hb dMD_word_100 rfl (fun hq => absurd nI_0 hq) (fun _ => ?_)
              refine lv_iconst (v := nI 1) hx hb dMD_word_103 xk_i1 ?_
              refine lv_goto hx hb dMD_word_104 rfl ?_
              refine xd_callV C w hz hml hl.1 xk_MD_73 (cMD_refused1 l D cA tz I ad (σ) hJ) (xJ20 hJ) rfl rfl rfl rfl (Nat.le_of_ble_eq_true rfl) (by decide) (by decide) dMD_word_117 (fun H locs w => ?_)
              refine W.eq (g2 := F0 m 120 ls [.int (nI 1)]) rfl ?_
              refine lv_if_eq hx hb dMD_word_120 rfl (fun hq => absurd hq (by decide)) (fun _ => ?_)
              refine lv_iconst (v := nI 0) hx hb dMD_word_123 xk_i0 ?_
              refine lv_goto hx hb dMD_word_124 rfl ?_
              exact xd_iret C w hr hlk dMD_word_138 (rfl) rfl
    · skip
      refine lv_iload_n hx hb dMD_word_16 rfl (lv_at hl 3 rfl) ?_
      refine lv_iconst (v := nI 4) hx hb dMD_word_17 xk_i4 ?_
      refine xd_callS C w hz hml hl.1 xk_MD_69 (cMD_isIn l D cA tz I ad (σ) z (nI 4)) rfl rfl (Nat.le_of_ble_eq_true rfl) (by decide) (by decide) dMD_word_18 (fun H locs w => ?_)
      refine W.eq (g2 := F0 m 21 ls [.int (xb (xp_in z (nI 4)))]) rfl ?_
      refine xz_ifeq hx hb dMD_word_21 rfl (fun hh13 => ?_) (fun hh13 => ?_)
      · skip
        refine lv_iconst (v := nI 0) hx hb dMD_word_28 xk_i0 ?_
        refine lv_istore (lv' := [(4, .int (nI 0)), (0, .ref (ad 20 0)), (1, .int x), (2, .int y), (3, .int z)]) hx hb dMD_word_29 hl (by decide) rfl (fun ls hl => ?_)
        refine lv_iload hx hb dMD_word_31 (lv_at hl 0 rfl) ?_
        refine lv_if_eq hx hb dMD_word_33 rfl (fun _ => ?_) (fun hq => absurd nI_0 hq)
        refine lv_iconst (v := nI 0) hx hb dMD_word_44 xk_i0 ?_
        refine lv_istore (lv' := [(5, .int (nI 0)), (4, .int (nI 0)), (0, .ref (ad 20 0)), (1, .int x), (2, .int y), (3, .int z)]) hx hb dMD_word_45 hl (by decide) rfl (fun ls hl => ?_)
        refine lv_aload_n hx hb dMD_word_47 rfl (lv_at hl 2 rfl) ?_
        refine xg_MD_26 C w (xJ20 hJ) dMD_word_48 ?_
        refine lv_iload hx hb dMD_word_51 (lv_at hl 0 rfl) ?_
        refine xr_iald C w (xJ26 hJ) rfl 0 rfl 0 rfl (by omega) (by decide) dMD_word_53 ?_
        refine lv_iconst (v := nI 3) hx hb dMD_word_54 xk_i3 ?_
        refine lv_icmp_ne hx hb dMD_word_55 rfl (fun hh14 => ?_) (fun hh14 => ?_)
        · skip
          refine lv_iconst (v := nI 0) hx hb dMD_word_94 xk_i0 ?_
          refine lv_istore (lv' := [(6, .int (nI 0)), (5, .int (nI 0)), (4, .int (nI 0)), (0, .ref (ad 20 0)), (1, .int x), (2, .int y), (3, .int z)]) hx hb dMD_word_95 hl (by decide) rfl (fun ls hl => ?_)
          refine lv_aload_n hx hb dMD_word_97 rfl (lv_at hl 3 rfl) ?_
          refine lv_iload hx hb dMD_word_98 (lv_at hl 2 rfl) ?_
          refine lv_if_ne hx hb dMD_word_100 rfl (fun hq => absurd nI_0 hq) (fun _ => ?_)
          refine lv_iconst (v := nI 1) hx hb dMD_word_103 xk_i1 ?_
          refine lv_goto hx hb dMD_word_104 rfl ?_
          refine xd_callV C w hz hml hl.1 xk_MD_73 (cMD_refused1 l D cA tz I ad (σ) hJ) (xJ20 hJ) rfl rfl rfl rfl (Nat.le_of_ble_eq_true rfl) (by decide) (by decide) dMD_word_117 (fun H locs w => ?_)
          refine W.eq (g2 := F0 m 120 ls [.int (nI 1)]) rfl ?_
          refine lv_if_eq hx hb dMD_word_120 rfl (fun hq => absurd hq (by decide)) (fun _ => ?_)
          refine lv_iconst (v := nI 0) hx hb dMD_word_123 xk_i0 ?_
          refine lv_goto hx hb dMD_word_124 rfl ?_
          exact xd_iret C w hr hlk dMD_word_138 (rfl) rfl
        · skip
          refine lv_aload_n hx hb dMD_word_58 rfl (lv_at hl 2 rfl) ?_
          refine xg_MD_29 C w (xJ20 hJ) dMD_word_59 ?_
          refine lv_iload hx hb dMD_word_62 (lv_at hl 0 rfl) ?_
          refine xr_iald C w (xJ27 hJ) rfl 0 rfl 0 rfl (by omega) (by decide) dMD_word_64 ?_
          refine lv_if_eq hx hb dMD_word_65 rfl (fun hh15 => ?_) (fun hh15 => ?_)
          · skip
            refine lv_iload_n hx hb dMD_word_79 rfl (lv_at hl 5 rfl) ?_
            refine lv_aload_n hx hb dMD_word_80 rfl (lv_at hl 2 rfl) ?_
            refine xg_MD_35 C w (xJ20 hJ) dMD_word_81 ?_
            refine lv_iload hx hb dMD_word_84 (lv_at hl 0 rfl) ?_
            refine xr_iald C w (xJ29 hJ) rfl 0 rfl 0 rfl (by omega) (by decide) dMD_word_86 ?_
            refine lv_icmp_ge hx hb dMD_word_87 rfl (fun hh16 => ?_) (fun hh16 => ?_)
            · skip
              refine lv_iconst (v := nI 0) hx hb dMD_word_94 xk_i0 ?_
              refine lv_istore (lv' := [(6, .int (nI 0)), (5, .int (nI 0)), (4, .int (nI 0)), (0, .ref (ad 20 0)), (1, .int x), (2, .int y), (3, .int z)]) hx hb dMD_word_95 hl (by decide) rfl (fun ls hl => ?_)
              refine lv_aload_n hx hb dMD_word_97 rfl (lv_at hl 3 rfl) ?_
              refine lv_iload hx hb dMD_word_98 (lv_at hl 2 rfl) ?_
              refine lv_if_ne hx hb dMD_word_100 rfl (fun hq => absurd nI_0 hq) (fun _ => ?_)
              refine lv_iconst (v := nI 1) hx hb dMD_word_103 xk_i1 ?_
              refine lv_goto hx hb dMD_word_104 rfl ?_
              refine xd_callV C w hz hml hl.1 xk_MD_73 (cMD_refused1 l D cA tz I ad (σ) hJ) (xJ20 hJ) rfl rfl rfl rfl (Nat.le_of_ble_eq_true rfl) (by decide) (by decide) dMD_word_117 (fun H locs w => ?_)
              refine W.eq (g2 := F0 m 120 ls [.int (nI 1)]) rfl ?_
              refine lv_if_eq hx hb dMD_word_120 rfl (fun hq => absurd hq (by decide)) (fun _ => ?_)
              refine lv_iconst (v := nI 0) hx hb dMD_word_123 xk_i0 ?_
              refine lv_goto hx hb dMD_word_124 rfl ?_
              exact xd_iret C w hr hlk dMD_word_138 (rfl) rfl
            · skip
              refine lv_iconst (v := nI 1) hx hb dMD_word_90 xk_i1 ?_
              refine lv_goto hx hb dMD_word_91 rfl ?_
              refine lv_istore (lv' := [(6, .int (nI 1)), (5, .int (nI 0)), (4, .int (nI 0)), (0, .ref (ad 20 0)), (1, .int x), (2, .int y), (3, .int z)]) hx hb dMD_word_95 hl (by decide) rfl (fun ls hl => ?_)
              refine lv_aload_n hx hb dMD_word_97 rfl (lv_at hl 3 rfl) ?_
              refine lv_iload hx hb dMD_word_98 (lv_at hl 2 rfl) ?_
              refine lv_if_ne hx hb dMD_word_100 rfl (fun hq => absurd nI_0 hq) (fun _ => ?_)
              refine lv_iconst (v := nI 1) hx hb dMD_word_103 xk_i1 ?_
              refine lv_goto hx hb dMD_word_104 rfl ?_
              refine xd_callV C w hz hml hl.1 xk_MD_73 (cMD_refused1 l D cA tz I ad (σ) hJ) (xJ20 hJ) rfl rfl rfl rfl (Nat.le_of_ble_eq_true rfl) (by decide) (by decide) dMD_word_117 (fun H locs w => ?_)
              refine W.eq (g2 := F0 m 120 ls [.int (nI 1)]) rfl ?_
              refine lv_if_eq hx hb dMD_word_120 rfl (fun hq => absurd hq (by decide)) (fun _ => ?_)
              refine lv_iconst (v := nI 0) hx hb dMD_word_123 xk_i0 ?_
              refine lv_goto hx hb dMD_word_124 rfl ?_
              exact xd_iret C w hr hlk dMD_word_138 (rfl) rfl
          · skip
            refine lv_aload_n hx hb dMD_word_68 rfl (lv_at hl 2 rfl) ?_
            refine xg_MD_29 C w (xJ20 hJ) dMD_word_69 ?_
            refine lv_iload hx hb dMD_word_72 (lv_at hl 0 rfl) ?_
            refine xr_iald C w (xJ27 hJ) rfl 0 rfl 0 rfl (by omega) (by decide) dMD_word_74 ?_
            refine lv_iconst (v := nI 2) hx hb dMD_word_75 xk_i2 ?_
            refine lv_icmp_ne hx hb dMD_word_76 rfl (fun hh17 => ?_) (fun hh17 => ?_)
            · skip
              refine lv_iconst (v := nI 0) hx hb dMD_word_94 xk_i0 ?_
              refine lv_istore (lv' := [(6, .int (nI 0)), (5, .int (nI 0)), (4, .int (nI 0)), (0, .ref (ad 20 0)), (1, .int x), (2, .int y), (3, .int z)]) hx hb dMD_word_95 hl (by decide) rfl (fun ls hl => ?_)
              refine lv_aload_n hx hb dMD_word_97 rfl (lv_at hl 3 rfl) ?_
              refine lv_iload hx hb dMD_word_98 (lv_at hl 2 rfl) ?_
              refine lv_if_ne hx hb dMD_word_100 rfl (fun hq => absurd nI_0 hq) (fun _ => ?_)
              refine lv_iconst (v := nI 1) hx hb dMD_word_103 xk_i1 ?_
              refine lv_goto hx hb dMD_word_104 rfl ?_
              refine xd_callV C w hz hml hl.1 xk_MD_73 (cMD_refused1 l D cA tz I ad (σ) hJ) (xJ20 hJ) rfl rfl rfl rfl (Nat.le_of_ble_eq_true rfl) (by decide) (by decide) dMD_word_117 (fun H locs w => ?_)
              refine W.eq (g2 := F0 m 120 ls [.int (nI 1)]) rfl ?_
              refine lv_if_eq hx hb dMD_word_120 rfl (fun hq => absurd hq (by decide)) (fun _ => ?_)
              refine lv_iconst (v := nI 0) hx hb dMD_word_123 xk_i0 ?_
              refine lv_goto hx hb dMD_word_124 rfl ?_
              exact xd_iret C w hr hlk dMD_word_138 (rfl) rfl
            · skip
              refine lv_iload_n hx hb dMD_word_79 rfl (lv_at hl 5 rfl) ?_
              refine lv_aload_n hx hb dMD_word_80 rfl (lv_at hl 2 rfl) ?_
              refine xg_MD_35 C w (xJ20 hJ) dMD_word_81 ?_
              refine lv_iload hx hb dMD_word_84 (lv_at hl 0 rfl) ?_
              refine xr_iald C w (xJ29 hJ) rfl 0 rfl 0 rfl (by omega) (by decide) dMD_word_86 ?_
              refine lv_icmp_ge hx hb dMD_word_87 rfl (fun hh18 => ?_) (fun hh18 => ?_)
              · skip
                refine lv_iconst (v := nI 0) hx hb dMD_word_94 xk_i0 ?_
                refine lv_istore (lv' := [(6, .int (nI 0)), (5, .int (nI 0)), (4, .int (nI 0)), (0, .ref (ad 20 0)), (1, .int x), (2, .int y), (3, .int z)]) hx hb dMD_word_95 hl (by decide) rfl (fun ls hl => ?_)
                refine lv_aload_n hx hb dMD_word_97 rfl (lv_at hl 3 rfl) ?_
                refine lv_iload hx hb dMD_word_98 (lv_at hl 2 rfl) ?_
                refine lv_if_ne hx hb dMD_word_100 rfl (fun hq => absurd nI_0 hq) (fun _ => ?_)
                refine lv_iconst (v := nI 1) hx hb dMD_word_103 xk_i1 ?_
                refine lv_goto hx hb dMD_word_104 rfl ?_
                refine xd_callV C w hz hml hl.1 xk_MD_73 (cMD_refused1 l D cA tz I ad (σ) hJ) (xJ20 hJ) rfl rfl rfl rfl (Nat.le_of_ble_eq_true rfl) (by decide) (by decide) dMD_word_117 (fun H locs w => ?_)
                refine W.eq (g2 := F0 m 120 ls [.int (nI 1)]) rfl ?_
                refine lv_if_eq hx hb dMD_word_120 rfl (fun hq => absurd hq (by decide)) (fun _ => ?_)
                refine lv_iconst (v := nI 0) hx hb dMD_word_123 xk_i0 ?_
                refine lv_goto hx hb dMD_word_124 rfl ?_
                exact xd_iret C w hr hlk dMD_word_138 (rfl) rfl
              · skip
                refine lv_iconst (v := nI 1) hx hb dMD_word_90 xk_i1 ?_
                refine lv_goto hx hb dMD_word_91 rfl ?_
                refine lv_istore (lv' := [(6, .int (nI 1)), (5, .int (nI 0)), (4, .int (nI 0)), (0, .ref (ad 20 0)), (1, .int x), (2, .int y), (3, .int z)]) hx hb dMD_word_95 hl (by decide) rfl (fun ls hl => ?_)
                refine lv_aload_n hx hb dMD_word_97 rfl (lv_at hl 3 rfl) ?_
                refine lv_iload hx hb dMD_word_98 (lv_at hl 2 rfl) ?_
                refine lv_if_ne hx hb dMD_word_100 rfl (fun hq => absurd nI_0 hq) (fun _ => ?_)
                refine lv_iconst (v := nI 1) hx hb dMD_word_103 xk_i1 ?_
                refine lv_goto hx hb dMD_word_104 rfl ?_
                refine xd_callV C w hz hml hl.1 xk_MD_73 (cMD_refused1 l D cA tz I ad (σ) hJ) (xJ20 hJ) rfl rfl rfl rfl (Nat.le_of_ble_eq_true rfl) (by decide) (by decide) dMD_word_117 (fun H locs w => ?_)
                refine W.eq (g2 := F0 m 120 ls [.int (nI 1)]) rfl ?_
                refine lv_if_eq hx hb dMD_word_120 rfl (fun hq => absurd hq (by decide)) (fun _ => ?_)
                refine lv_iconst (v := nI 0) hx hb dMD_word_123 xk_i0 ?_
                refine lv_goto hx hb dMD_word_124 rfl ?_
                exact xd_iret C w hr hlk dMD_word_138 (rfl) rfl
      · skip
        exfalso
        first | contradiction | grind
set_option maxRecDepth 100000 in
set_option maxHeartbeats 4000000 in
theorem cMD_take_ok (l : Launch) (D : va_G) (cA : Nat → ClassId) (tz : Nat) (I : List (Nat × Nat)) (ad : Nat → Nat → Nat) (σ : xMem) (a b : Nat) (hJ : xJ I) (ha : a < 4) (hb4 : b < 4) (hs : σ 26 0 (4 * a + b) = nI 3 ∨ σ 26 0 (4 * a + b) = nI 4) : xD l yMD_take bMD_take 6 (some .boolean) 2 [.ref (ad 20 0), .int (nI a), .int (nI b)] D cA tz I ad σ (some (.int (xb (σ 26 0 (4 * a + b) = nI 3)))) (xu3 (xu3 σ 20 0 0 (nI 0)) 26 0 (4 * a + b) (nI 0)) := by
  refine xd_of (by decide) (by simp [lg_sl, Value.category]) ?_
  intro p e s m args below meth c A ls C hr hlk hml hl w hz
  obtain ⟨hx, hb, hown, hts⟩ := id C
  have hl : lv_has ls 6 [(0, .ref (ad 20 0)), (1, .int (nI a)), (2, .int (nI b))] := hl
  have hina : xp_in (nI a) (nI 4) := xp_in_n (by omega) (by decide)
  have hinb : xp_in (nI b) (nI 4) := xp_in_n (by omega) (by decide)
  refine lv_iload_n hx hb dMD_take_0 rfl (lv_at hl 1 rfl) ?_
  refine lv_iconst (v := nI 4) hx hb dMD_take_1 xk_i4 ?_
  refine xd_callS C w hz hml hl.1 xk_MD_69 (cMD_isIn l D cA tz I ad (σ) (nI a) (nI 4)) rfl rfl (Nat.le_of_ble_eq_true rfl) (by decide) (by decide) dMD_take_2 (fun H locs w => ?_)
  refine W.eq (g2 := F0 m 5 ls [.int (xb (xp_in (nI a) (nI 4)))]) rfl ?_
  refine xz_ifeq hx hb dMD_take_5 rfl (fun hh1 => ?_) (fun hh1 => ?_)
  · skip
    exfalso
    first | contradiction | grind
  · skip
    refine lv_iload_n hx hb dMD_take_8 rfl (lv_at hl 2 rfl) ?_
    refine lv_iconst (v := nI 4) hx hb dMD_take_9 xk_i4 ?_
    refine xd_callS C w hz hml hl.1 xk_MD_69 (cMD_isIn l D cA tz I ad (σ) (nI b) (nI 4)) rfl rfl (Nat.le_of_ble_eq_true rfl) (by decide) (by decide) dMD_take_10 (fun H locs w => ?_)
    refine W.eq (g2 := F0 m 13 ls [.int (xb (xp_in (nI b) (nI 4)))]) rfl ?_
    refine xz_ifeq hx hb dMD_take_13 rfl (fun hh2 => ?_) (fun hh2 => ?_)
    · skip
      exfalso
      first | contradiction | grind
    · skip
      refine lv_iconst (v := nI 1) hx hb dMD_take_16 xk_i1 ?_
      refine lv_goto hx hb dMD_take_17 rfl ?_
      refine lv_istore_n (lv' := [(3, .int (nI 1)), (0, .ref (ad 20 0)), (1, .int (nI a)), (2, .int (nI b))]) hx hb dMD_take_21 rfl hl (by decide) rfl (fun ls hl => ?_)
      refine lv_iload_n hx hb dMD_take_22 rfl (lv_at hl 0 rfl) ?_
      refine lv_if_eq hx hb dMD_take_23 rfl (fun hq => absurd hq (by decide)) (fun _ => ?_)
      refine lv_iconst (v := nI 4) hx hb dMD_take_26 xk_i4 ?_
      refine lv_iload_n hx hb dMD_take_27 rfl (lv_at hl 2 rfl) ?_
      refine xn_mul hx hb dMD_take_28 ?_
      refine lv_iload_n hx hb dMD_take_29 rfl (lv_at hl 3 rfl) ?_
      refine xn_add hx hb dMD_take_30 ?_
      refine lv_goto hx hb dMD_take_31 rfl ?_
      refine lv_istore (lv' := [(4, .int (nI ((4 * a) + b))), (3, .int (nI 1)), (0, .ref (ad 20 0)), (1, .int (nI a)), (2, .int (nI b))]) hx hb dMD_take_35 hl (by decide) rfl (fun ls hl => ?_)
      refine lv_aload_n hx hb dMD_take_37 rfl (lv_at hl 2 rfl) ?_
      refine lv_iload_n hx hb dMD_take_38 rfl (lv_at hl 1 rfl) ?_
      refine lv_if_ne hx hb dMD_take_39 rfl (fun _ => ?_) (fun hq => absurd hq (by decide))
      refine lv_aload_n hx hb dMD_take_46 rfl (lv_at hl 2 rfl) ?_
      refine xg_MD_26 C w (xJ20 hJ) dMD_take_47 ?_
      refine lv_iload hx hb dMD_take_50 (lv_at hl 0 rfl) ?_
      refine xr_iald C w (xJ26 hJ) rfl 0 rfl ((4 * a) + b) rfl (by omega) (by decide) dMD_take_52 ?_
      refine lv_iconst (v := nI 3) hx hb dMD_take_53 xk_i3 ?_
      refine lv_icmp_eq hx hb dMD_take_54 rfl (fun hh3 => ?_) (fun hh3 => ?_)
      · skip
        refine lv_iconst (v := nI 0) hx hb dMD_take_72 xk_i0 ?_
        refine xd_callV C w hz hml hl.1 xk_MD_73 (cMD_refused0 l D cA tz I ad (σ) hJ) (xJ20 hJ) rfl rfl rfl rfl (Nat.le_of_ble_eq_true rfl) (by decide) (by decide) dMD_take_73 (fun H locs w => ?_)
        refine W.eq (g2 := F0 m 76 ls [.int (nI 0)]) rfl ?_
        refine lv_if_eq hx hb dMD_take_76 rfl (fun _ => ?_) (fun hq => absurd nI_0 hq)
        refine lv_aload_n hx hb dMD_take_81 rfl (lv_at hl 2 rfl) ?_
        refine xg_MD_26 C w (xJ20 hJ) dMD_take_82 ?_
        refine lv_iload hx hb dMD_take_85 (lv_at hl 0 rfl) ?_
        refine xr_iald C w (xJ26 hJ) rfl 0 rfl ((4 * a) + b) rfl (by omega) (by decide) dMD_take_87 ?_
        refine xn_eq (y := σ 26 0 ((4 * a) + b)) (by simp [xu3, xw_u2, va_up]) ?_
        refine lv_iconst (v := nI 3) hx hb dMD_take_88 xk_i3 ?_
        refine lv_icmp_ne hx hb dMD_take_89 rfl (fun hh4 => ?_) (fun hh4 => ?_)
        · skip
          refine lv_iconst (v := nI 0) hx hb dMD_take_96 xk_i0 ?_
          refine lv_istore (lv' := [(5, .int (nI 0)), (4, .int (nI ((4 * a) + b))), (3, .int (nI 1)), (0, .ref (ad 20 0)), (1, .int (nI a)), (2, .int (nI b))]) hx hb dMD_take_97 hl (by decide) rfl (fun ls hl => ?_)
          refine lv_aload_n hx hb dMD_take_99 rfl (lv_at hl 3 rfl) ?_
          refine xg_MD_26 C w (xJ20 hJ) dMD_take_100 ?_
          refine lv_iload hx hb dMD_take_103 (lv_at hl 1 rfl) ?_
          refine lv_iconst (v := nI 0) hx hb dMD_take_105 xk_i0 ?_
          refine xs_iast C w (xJ26 hJ) (fun _ => rfl) ((4 * a) + b) rfl (by omega) (by decide) dMD_take_106 (fun H locs w => ?_)
          refine lv_iload hx hb dMD_take_107 (lv_at hl 0 rfl) ?_
          exact xd_zf C w hr hlk dMD_take_109 (by grind) rfl
        · skip
          refine lv_iconst (v := nI 1) hx hb dMD_take_92 xk_i1 ?_
          refine lv_goto hx hb dMD_take_93 rfl ?_
          refine lv_istore (lv' := [(5, .int (nI 1)), (4, .int (nI ((4 * a) + b))), (3, .int (nI 1)), (0, .ref (ad 20 0)), (1, .int (nI a)), (2, .int (nI b))]) hx hb dMD_take_97 hl (by decide) rfl (fun ls hl => ?_)
          refine lv_aload_n hx hb dMD_take_99 rfl (lv_at hl 3 rfl) ?_
          refine xg_MD_26 C w (xJ20 hJ) dMD_take_100 ?_
          refine lv_iload hx hb dMD_take_103 (lv_at hl 1 rfl) ?_
          refine lv_iconst (v := nI 0) hx hb dMD_take_105 xk_i0 ?_
          refine xs_iast C w (xJ26 hJ) (fun _ => rfl) ((4 * a) + b) rfl (by omega) (by decide) dMD_take_106 (fun H locs w => ?_)
          refine lv_iload hx hb dMD_take_107 (lv_at hl 0 rfl) ?_
          exact xd_zt C w hr hlk dMD_take_109 (by grind) rfl
      · skip
        refine lv_aload_n hx hb dMD_take_57 rfl (lv_at hl 2 rfl) ?_
        refine xg_MD_26 C w (xJ20 hJ) dMD_take_58 ?_
        refine lv_iload hx hb dMD_take_61 (lv_at hl 0 rfl) ?_
        refine xr_iald C w (xJ26 hJ) rfl 0 rfl ((4 * a) + b) rfl (by omega) (by decide) dMD_take_63 ?_
        refine lv_iconst (v := nI 4) hx hb dMD_take_64 xk_i4 ?_
        refine lv_icmp_eq hx hb dMD_take_65 rfl (fun hh5 => ?_) (fun hh5 => ?_)
        · skip
          refine lv_iconst (v := nI 0) hx hb dMD_take_72 xk_i0 ?_
          refine xd_callV C w hz hml hl.1 xk_MD_73 (cMD_refused0 l D cA tz I ad (σ) hJ) (xJ20 hJ) rfl rfl rfl rfl (Nat.le_of_ble_eq_true rfl) (by decide) (by decide) dMD_take_73 (fun H locs w => ?_)
          refine W.eq (g2 := F0 m 76 ls [.int (nI 0)]) rfl ?_
          refine lv_if_eq hx hb dMD_take_76 rfl (fun _ => ?_) (fun hq => absurd nI_0 hq)
          refine lv_aload_n hx hb dMD_take_81 rfl (lv_at hl 2 rfl) ?_
          refine xg_MD_26 C w (xJ20 hJ) dMD_take_82 ?_
          refine lv_iload hx hb dMD_take_85 (lv_at hl 0 rfl) ?_
          refine xr_iald C w (xJ26 hJ) rfl 0 rfl ((4 * a) + b) rfl (by omega) (by decide) dMD_take_87 ?_
          refine xn_eq (y := σ 26 0 ((4 * a) + b)) (by simp [xu3, xw_u2, va_up]) ?_
          refine lv_iconst (v := nI 3) hx hb dMD_take_88 xk_i3 ?_
          refine lv_icmp_ne hx hb dMD_take_89 rfl (fun hh6 => ?_) (fun hh6 => ?_)
          · skip
            refine lv_iconst (v := nI 0) hx hb dMD_take_96 xk_i0 ?_
            refine lv_istore (lv' := [(5, .int (nI 0)), (4, .int (nI ((4 * a) + b))), (3, .int (nI 1)), (0, .ref (ad 20 0)), (1, .int (nI a)), (2, .int (nI b))]) hx hb dMD_take_97 hl (by decide) rfl (fun ls hl => ?_)
            refine lv_aload_n hx hb dMD_take_99 rfl (lv_at hl 3 rfl) ?_
            refine xg_MD_26 C w (xJ20 hJ) dMD_take_100 ?_
            refine lv_iload hx hb dMD_take_103 (lv_at hl 1 rfl) ?_
            refine lv_iconst (v := nI 0) hx hb dMD_take_105 xk_i0 ?_
            refine xs_iast C w (xJ26 hJ) (fun _ => rfl) ((4 * a) + b) rfl (by omega) (by decide) dMD_take_106 (fun H locs w => ?_)
            refine lv_iload hx hb dMD_take_107 (lv_at hl 0 rfl) ?_
            exact xd_zf C w hr hlk dMD_take_109 (by grind) rfl
          · skip
            refine lv_iconst (v := nI 1) hx hb dMD_take_92 xk_i1 ?_
            refine lv_goto hx hb dMD_take_93 rfl ?_
            refine lv_istore (lv' := [(5, .int (nI 1)), (4, .int (nI ((4 * a) + b))), (3, .int (nI 1)), (0, .ref (ad 20 0)), (1, .int (nI a)), (2, .int (nI b))]) hx hb dMD_take_97 hl (by decide) rfl (fun ls hl => ?_)
            refine lv_aload_n hx hb dMD_take_99 rfl (lv_at hl 3 rfl) ?_
            refine xg_MD_26 C w (xJ20 hJ) dMD_take_100 ?_
            refine lv_iload hx hb dMD_take_103 (lv_at hl 1 rfl) ?_
            refine lv_iconst (v := nI 0) hx hb dMD_take_105 xk_i0 ?_
            refine xs_iast C w (xJ26 hJ) (fun _ => rfl) ((4 * a) + b) rfl (by omega) (by decide) dMD_take_106 (fun H locs w => ?_)
            refine lv_iload hx hb dMD_take_107 (lv_at hl 0 rfl) ?_
            exact xd_zt C w hr hlk dMD_take_109 (by grind) rfl
        · skip
          refine lv_iconst (v := nI 2) hx hb dMD_take_68 xk_i2 ?_
          refine lv_goto hx hb dMD_take_69 rfl ?_
          exfalso
          first | contradiction | grind
set_option maxRecDepth 100000 in
set_option maxHeartbeats 4000000 in
theorem cMD_take_no2 (l : Launch) (D : va_G) (cA : Nat → ClassId) (tz : Nat) (I : List (Nat × Nat)) (ad : Nat → Nat → Nat) (σ : xMem) (a b : Nat) (hJ : xJ I) (ha : a < 4) (hb4 : b < 4) (hs : ¬ (σ 26 0 (4 * a + b) = nI 3 ∨ σ 26 0 (4 * a + b) = nI 4)) : xD l yMD_take bMD_take 6 (some .boolean) 2 [.ref (ad 20 0), .int (nI a), .int (nI b)] D cA tz I ad σ (some (.int (xb False))) (xu3 σ 20 0 0 (nI 2)) := by
  refine xd_of (by decide) (by simp [lg_sl, Value.category]) ?_
  intro p e s m args below meth c A ls C hr hlk hml hl w hz
  obtain ⟨hx, hb, hown, hts⟩ := id C
  have hl : lv_has ls 6 [(0, .ref (ad 20 0)), (1, .int (nI a)), (2, .int (nI b))] := hl
  have hina : xp_in (nI a) (nI 4) := xp_in_n (by omega) (by decide)
  have hinb : xp_in (nI b) (nI 4) := xp_in_n (by omega) (by decide)
  refine lv_iload_n hx hb dMD_take_0 rfl (lv_at hl 1 rfl) ?_
  refine lv_iconst (v := nI 4) hx hb dMD_take_1 xk_i4 ?_
  refine xd_callS C w hz hml hl.1 xk_MD_69 (cMD_isIn l D cA tz I ad (σ) (nI a) (nI 4)) rfl rfl (Nat.le_of_ble_eq_true rfl) (by decide) (by decide) dMD_take_2 (fun H locs w => ?_)
  refine W.eq (g2 := F0 m 5 ls [.int (xb (xp_in (nI a) (nI 4)))]) rfl ?_
  refine xz_ifeq hx hb dMD_take_5 rfl (fun hh1 => ?_) (fun hh1 => ?_)
  · skip
    exfalso
    first | contradiction | grind
  · skip
    refine lv_iload_n hx hb dMD_take_8 rfl (lv_at hl 2 rfl) ?_
    refine lv_iconst (v := nI 4) hx hb dMD_take_9 xk_i4 ?_
    refine xd_callS C w hz hml hl.1 xk_MD_69 (cMD_isIn l D cA tz I ad (σ) (nI b) (nI 4)) rfl rfl (Nat.le_of_ble_eq_true rfl) (by decide) (by decide) dMD_take_10 (fun H locs w => ?_)
    refine W.eq (g2 := F0 m 13 ls [.int (xb (xp_in (nI b) (nI 4)))]) rfl ?_
    refine xz_ifeq hx hb dMD_take_13 rfl (fun hh2 => ?_) (fun hh2 => ?_)
    · skip
      exfalso
      first | contradiction | grind
    · skip
      refine lv_iconst (v := nI 1) hx hb dMD_take_16 xk_i1 ?_
      refine lv_goto hx hb dMD_take_17 rfl ?_
      refine lv_istore_n (lv' := [(3, .int (nI 1)), (0, .ref (ad 20 0)), (1, .int (nI a)), (2, .int (nI b))]) hx hb dMD_take_21 rfl hl (by decide) rfl (fun ls hl => ?_)
      refine lv_iload_n hx hb dMD_take_22 rfl (lv_at hl 0 rfl) ?_
      refine lv_if_eq hx hb dMD_take_23 rfl (fun hq => absurd hq (by decide)) (fun _ => ?_)
      refine lv_iconst (v := nI 4) hx hb dMD_take_26 xk_i4 ?_
      refine lv_iload_n hx hb dMD_take_27 rfl (lv_at hl 2 rfl) ?_
      refine xn_mul hx hb dMD_take_28 ?_
      refine lv_iload_n hx hb dMD_take_29 rfl (lv_at hl 3 rfl) ?_
      refine xn_add hx hb dMD_take_30 ?_
      refine lv_goto hx hb dMD_take_31 rfl ?_
      refine lv_istore (lv' := [(4, .int (nI ((4 * a) + b))), (3, .int (nI 1)), (0, .ref (ad 20 0)), (1, .int (nI a)), (2, .int (nI b))]) hx hb dMD_take_35 hl (by decide) rfl (fun ls hl => ?_)
      refine lv_aload_n hx hb dMD_take_37 rfl (lv_at hl 2 rfl) ?_
      refine lv_iload_n hx hb dMD_take_38 rfl (lv_at hl 1 rfl) ?_
      refine lv_if_ne hx hb dMD_take_39 rfl (fun _ => ?_) (fun hq => absurd hq (by decide))
      refine lv_aload_n hx hb dMD_take_46 rfl (lv_at hl 2 rfl) ?_
      refine xg_MD_26 C w (xJ20 hJ) dMD_take_47 ?_
      refine lv_iload hx hb dMD_take_50 (lv_at hl 0 rfl) ?_
      refine xr_iald C w (xJ26 hJ) rfl 0 rfl ((4 * a) + b) rfl (by omega) (by decide) dMD_take_52 ?_
      refine lv_iconst (v := nI 3) hx hb dMD_take_53 xk_i3 ?_
      refine lv_icmp_eq hx hb dMD_take_54 rfl (fun hh3 => ?_) (fun hh3 => ?_)
      · skip
        refine lv_iconst (v := nI 0) hx hb dMD_take_72 xk_i0 ?_
        exfalso
        first | contradiction | grind
      · skip
        refine lv_aload_n hx hb dMD_take_57 rfl (lv_at hl 2 rfl) ?_
        refine xg_MD_26 C w (xJ20 hJ) dMD_take_58 ?_
        refine lv_iload hx hb dMD_take_61 (lv_at hl 0 rfl) ?_
        refine xr_iald C w (xJ26 hJ) rfl 0 rfl ((4 * a) + b) rfl (by omega) (by decide) dMD_take_63 ?_
        refine lv_iconst (v := nI 4) hx hb dMD_take_64 xk_i4 ?_
        refine lv_icmp_eq hx hb dMD_take_65 rfl (fun hh4 => ?_) (fun hh4 => ?_)
        · skip
          refine lv_iconst (v := nI 0) hx hb dMD_take_72 xk_i0 ?_
          exfalso
          first | contradiction | grind
        · skip
          refine lv_iconst (v := nI 2) hx hb dMD_take_68 xk_i2 ?_
          refine lv_goto hx hb dMD_take_69 rfl ?_
          refine xd_callV C w hz hml hl.1 xk_MD_73 (cMD_refused2 l D cA tz I ad (σ) hJ) (xJ20 hJ) rfl rfl rfl rfl (Nat.le_of_ble_eq_true rfl) (by decide) (by decide) dMD_take_73 (fun H locs w => ?_)
          refine W.eq (g2 := F0 m 76 ls [.int (nI 1)]) rfl ?_
          refine lv_if_eq hx hb dMD_take_76 rfl (fun hq => absurd hq (by decide)) (fun _ => ?_)
          refine lv_iconst (v := nI 0) hx hb dMD_take_79 xk_i0 ?_
          exact xd_zf C w hr hlk dMD_take_80 (id) rfl
set_option maxRecDepth 100000 in
set_option maxHeartbeats 4000000 in
theorem cMD_take_no (l : Launch) (D : va_G) (cA : Nat → ClassId) (tz : Nat) (I : List (Nat × Nat)) (ad : Nat → Nat → Nat) (σ : xMem) (x y : Int32) (hJ : xJ I) (hn : ¬ (xp_in x (nI 4) ∧ xp_in y (nI 4))) : xD l yMD_take bMD_take 6 (some .boolean) 2 [.ref (ad 20 0), .int x, .int y] D cA tz I ad σ (some (.int (xb False))) (xu3 σ 20 0 0 (nI 1)) := by
  refine xd_of (by decide) (by simp [lg_sl, Value.category]) ?_
  intro p e s m args below meth c A ls C hr hlk hml hl w hz
  obtain ⟨hx, hb, hown, hts⟩ := id C
  have hl : lv_has ls 6 [(0, .ref (ad 20 0)), (1, .int x), (2, .int y)] := hl
  refine lv_iload_n hx hb dMD_take_0 rfl (lv_at hl 1 rfl) ?_
  refine lv_iconst (v := nI 4) hx hb dMD_take_1 xk_i4 ?_
  refine xd_callS C w hz hml hl.1 xk_MD_69 (cMD_isIn l D cA tz I ad (σ) x (nI 4)) rfl rfl (Nat.le_of_ble_eq_true rfl) (by decide) (by decide) dMD_take_2 (fun H locs w => ?_)
  refine W.eq (g2 := F0 m 5 ls [.int (xb (xp_in x (nI 4)))]) rfl ?_
  refine xz_ifeq hx hb dMD_take_5 rfl (fun hh1 => ?_) (fun hh1 => ?_)
  · skip
    refine lv_iconst (v := nI 0) hx hb dMD_take_20 xk_i0 ?_
    refine lv_istore_n (lv' := [(3, .int (nI 0)), (0, .ref (ad 20 0)), (1, .int x), (2, .int y)]) hx hb dMD_take_21 rfl hl (by decide) rfl (fun ls hl => ?_)
    refine lv_iload_n hx hb dMD_take_22 rfl (lv_at hl 0 rfl) ?_
    refine lv_if_eq hx hb dMD_take_23 rfl (fun _ => ?_) (fun hq => absurd nI_0 hq)
    refine lv_iconst (v := nI 0) hx hb dMD_take_34 xk_i0 ?_
    refine lv_istore (lv' := [(4, .int (nI 0)), (3, .int (nI 0)), (0, .ref (ad 20 0)), (1, .int x), (2, .int y)]) hx hb dMD_take_35 hl (by decide) rfl (fun ls hl => ?_)
    refine lv_aload_n hx hb dMD_take_37 rfl (lv_at hl 2 rfl) ?_
    refine lv_iload_n hx hb dMD_take_38 rfl (lv_at hl 1 rfl) ?_
    refine lv_if_ne hx hb dMD_take_39 rfl (fun hq => absurd nI_0 hq) (fun _ => ?_)
    refine lv_iconst (v := nI 1) hx hb dMD_take_42 xk_i1 ?_
    refine lv_goto hx hb dMD_take_43 rfl ?_
    refine xd_callV C w hz hml hl.1 xk_MD_73 (cMD_refused1 l D cA tz I ad (σ) hJ) (xJ20 hJ) rfl rfl rfl rfl (Nat.le_of_ble_eq_true rfl) (by decide) (by decide) dMD_take_73 (fun H locs w => ?_)
    refine W.eq (g2 := F0 m 76 ls [.int (nI 1)]) rfl ?_
    refine lv_if_eq hx hb dMD_take_76 rfl (fun hq => absurd hq (by decide)) (fun _ => ?_)
    refine lv_iconst (v := nI 0) hx hb dMD_take_79 xk_i0 ?_
    exact xd_zf C w hr hlk dMD_take_80 (id) rfl
  · skip
    refine lv_iload_n hx hb dMD_take_8 rfl (lv_at hl 2 rfl) ?_
    refine lv_iconst (v := nI 4) hx hb dMD_take_9 xk_i4 ?_
    refine xd_callS C w hz hml hl.1 xk_MD_69 (cMD_isIn l D cA tz I ad (σ) y (nI 4)) rfl rfl (Nat.le_of_ble_eq_true rfl) (by decide) (by decide) dMD_take_10 (fun H locs w => ?_)
    refine W.eq (g2 := F0 m 13 ls [.int (xb (xp_in y (nI 4)))]) rfl ?_
    refine xz_ifeq hx hb dMD_take_13 rfl (fun hh2 => ?_) (fun hh2 => ?_)
    · skip
      refine lv_iconst (v := nI 0) hx hb dMD_take_20 xk_i0 ?_
      refine lv_istore_n (lv' := [(3, .int (nI 0)), (0, .ref (ad 20 0)), (1, .int x), (2, .int y)]) hx hb dMD_take_21 rfl hl (by decide) rfl (fun ls hl => ?_)
      refine lv_iload_n hx hb dMD_take_22 rfl (lv_at hl 0 rfl) ?_
      refine lv_if_eq hx hb dMD_take_23 rfl (fun _ => ?_) (fun hq => absurd nI_0 hq)
      refine lv_iconst (v := nI 0) hx hb dMD_take_34 xk_i0 ?_
      refine lv_istore (lv' := [(4, .int (nI 0)), (3, .int (nI 0)), (0, .ref (ad 20 0)), (1, .int x), (2, .int y)]) hx hb dMD_take_35 hl (by decide) rfl (fun ls hl => ?_)
      refine lv_aload_n hx hb dMD_take_37 rfl (lv_at hl 2 rfl) ?_
      refine lv_iload_n hx hb dMD_take_38 rfl (lv_at hl 1 rfl) ?_
      refine lv_if_ne hx hb dMD_take_39 rfl (fun hq => absurd nI_0 hq) (fun _ => ?_)
      refine lv_iconst (v := nI 1) hx hb dMD_take_42 xk_i1 ?_
      refine lv_goto hx hb dMD_take_43 rfl ?_
      refine xd_callV C w hz hml hl.1 xk_MD_73 (cMD_refused1 l D cA tz I ad (σ) hJ) (xJ20 hJ) rfl rfl rfl rfl (Nat.le_of_ble_eq_true rfl) (by decide) (by decide) dMD_take_73 (fun H locs w => ?_)
      refine W.eq (g2 := F0 m 76 ls [.int (nI 1)]) rfl ?_
      refine lv_if_eq hx hb dMD_take_76 rfl (fun hq => absurd hq (by decide)) (fun _ => ?_)
      refine lv_iconst (v := nI 0) hx hb dMD_take_79 xk_i0 ?_
      exact xd_zf C w hr hlk dMD_take_80 (id) rfl
    · skip
      exfalso
      first | contradiction | grind
set_option maxRecDepth 100000 in
set_option maxHeartbeats 4000000 in
theorem cMD_base_ok (l : Launch) (D : va_G) (cA : Nat → ClassId) (tz : Nat) (I : List (Nat × Nat)) (ad : Nat → Nat → Nat) (σ : xMem) (a b : Nat) (hJ : xJ I) (ha : a < 4) (hb3 : b < 3) : xD l yMD_base bMD_base 3 none 2 [.ref (ad 20 0), .int (nI a), .int (nI b)] D cA tz I ad σ none (xu3 (xu3 σ 20 0 0 (nI 0)) 23 0 a (nI b)) := by
  refine xd_of (by decide) (by simp [lg_sl, Value.category]) ?_
  intro p e s m args below meth c A ls C hr hlk hml hl w hz
  obtain ⟨hx, hb, hown, hts⟩ := id C
  have hl : lv_has ls 3 [(0, .ref (ad 20 0)), (1, .int (nI a)), (2, .int (nI b))] := hl
  have hina : xp_in (nI a) (nI 4) := xp_in_n (by omega) (by decide)
  have hinb : xp_in (nI b) (nI 3) := xp_in_n (by omega) (by decide)
  refine lv_aload_n hx hb dMD_base_0 rfl (lv_at hl 0 rfl) ?_
  refine lv_iload_n hx hb dMD_base_1 rfl (lv_at hl 1 rfl) ?_
  refine lv_iconst (v := nI 4) hx hb dMD_base_2 xk_i4 ?_
  refine xd_callS C w hz hml hl.1 xk_MD_69 (cMD_isIn l D cA tz I ad (σ) (nI a) (nI 4)) rfl rfl (Nat.le_of_ble_eq_true rfl) (by decide) (by decide) dMD_base_3 (fun H locs w => ?_)
  refine W.eq (g2 := F0 m 6 ls [.int (xb (xp_in (nI a) (nI 4))), .ref (ad 20 0)]) rfl ?_
  refine xz_ifne hx hb dMD_base_6 rfl (fun hh1 => ?_) (fun hh1 => ?_)
  · skip
    refine lv_iload_n hx hb dMD_base_13 rfl (lv_at hl 2 rfl) ?_
    refine lv_iconst (v := nI 3) hx hb dMD_base_14 xk_i3 ?_
    refine xd_callS C w hz hml hl.1 xk_MD_69 (cMD_isIn l D cA tz I ad (σ) (nI b) (nI 3)) rfl rfl (Nat.le_of_ble_eq_true rfl) (by decide) (by decide) dMD_base_15 (fun H locs w => ?_)
    refine W.eq (g2 := F0 m 18 ls [.int (xb (xp_in (nI b) (nI 3))), .ref (ad 20 0)]) rfl ?_
    refine xz_ifne hx hb dMD_base_18 rfl (fun hh2 => ?_) (fun hh2 => ?_)
    · skip
      refine lv_iconst (v := nI 0) hx hb dMD_base_25 xk_i0 ?_
      refine xd_callV C w hz hml hl.1 xk_MD_73 (cMD_refused0 l D cA tz I ad (σ) hJ) (xJ20 hJ) rfl rfl rfl rfl (Nat.le_of_ble_eq_true rfl) (by decide) (by decide) dMD_base_26 (fun H locs w => ?_)
      refine W.eq (g2 := F0 m 29 ls [.int (nI 0)]) rfl ?_
      refine lv_if_ne hx hb dMD_base_29 rfl (fun hq => absurd nI_0 hq) (fun _ => ?_)
      refine lv_aload_n hx hb dMD_base_32 rfl (lv_at hl 0 rfl) ?_
      refine xg_MD_16 C w (xJ20 hJ) dMD_base_33 ?_
      refine lv_iload_n hx hb dMD_base_36 rfl (lv_at hl 1 rfl) ?_
      refine lv_iload_n hx hb dMD_base_37 rfl (lv_at hl 2 rfl) ?_
      refine xs_iast C w (xJ23 hJ) (fun _ => rfl) a rfl (by omega) (by decide) dMD_base_38 (fun H locs w => ?_)
      exact xd_vret C w hr hlk dMD_base_39 rfl
    · skip
      refine lv_iconst (v := nI 2) hx hb dMD_base_21 xk_i2 ?_
      refine lv_goto hx hb dMD_base_22 rfl ?_
      exfalso
      first | contradiction | grind
  · skip
    refine lv_iconst (v := nI 1) hx hb dMD_base_9 xk_i1 ?_
    refine lv_goto hx hb dMD_base_10 rfl ?_
    exfalso
    first | contradiction | grind
set_option maxRecDepth 100000 in
set_option maxHeartbeats 4000000 in
theorem cMD_base_no2 (l : Launch) (D : va_G) (cA : Nat → ClassId) (tz : Nat) (I : List (Nat × Nat)) (ad : Nat → Nat → Nat) (σ : xMem) (a : Nat) (x : Int32) (hJ : xJ I) (ha : a < 4) (hn : ¬ xp_in x (nI 3)) : xD l yMD_base bMD_base 3 none 2 [.ref (ad 20 0), .int (nI a), .int x] D cA tz I ad σ none (xu3 σ 20 0 0 (nI 2)) := by
  refine xd_of (by decide) (by simp [lg_sl, Value.category]) ?_
  intro p e s m args below meth c A ls C hr hlk hml hl w hz
  obtain ⟨hx, hb, hown, hts⟩ := id C
  have hl : lv_has ls 3 [(0, .ref (ad 20 0)), (1, .int (nI a)), (2, .int x)] := hl
  have hina : xp_in (nI a) (nI 4) := xp_in_n (by omega) (by decide)
  refine lv_aload_n hx hb dMD_base_0 rfl (lv_at hl 0 rfl) ?_
  refine lv_iload_n hx hb dMD_base_1 rfl (lv_at hl 1 rfl) ?_
  refine lv_iconst (v := nI 4) hx hb dMD_base_2 xk_i4 ?_
  refine xd_callS C w hz hml hl.1 xk_MD_69 (cMD_isIn l D cA tz I ad (σ) (nI a) (nI 4)) rfl rfl (Nat.le_of_ble_eq_true rfl) (by decide) (by decide) dMD_base_3 (fun H locs w => ?_)
  refine W.eq (g2 := F0 m 6 ls [.int (xb (xp_in (nI a) (nI 4))), .ref (ad 20 0)]) rfl ?_
  refine xz_ifne hx hb dMD_base_6 rfl (fun hh1 => ?_) (fun hh1 => ?_)
  · skip
    refine lv_iload_n hx hb dMD_base_13 rfl (lv_at hl 2 rfl) ?_
    refine lv_iconst (v := nI 3) hx hb dMD_base_14 xk_i3 ?_
    refine xd_callS C w hz hml hl.1 xk_MD_69 (cMD_isIn l D cA tz I ad (σ) x (nI 3)) rfl rfl (Nat.le_of_ble_eq_true rfl) (by decide) (by decide) dMD_base_15 (fun H locs w => ?_)
    refine W.eq (g2 := F0 m 18 ls [.int (xb (xp_in x (nI 3))), .ref (ad 20 0)]) rfl ?_
    refine xz_ifne hx hb dMD_base_18 rfl (fun hh2 => ?_) (fun hh2 => ?_)
    · skip
      refine lv_iconst (v := nI 0) hx hb dMD_base_25 xk_i0 ?_
      exfalso
      first | contradiction | grind
    · skip
      refine lv_iconst (v := nI 2) hx hb dMD_base_21 xk_i2 ?_
      refine lv_goto hx hb dMD_base_22 rfl ?_
      refine xd_callV C w hz hml hl.1 xk_MD_73 (cMD_refused2 l D cA tz I ad (σ) hJ) (xJ20 hJ) rfl rfl rfl rfl (Nat.le_of_ble_eq_true rfl) (by decide) (by decide) dMD_base_26 (fun H locs w => ?_)
      refine W.eq (g2 := F0 m 29 ls [.int (nI 1)]) rfl ?_
      refine lv_if_ne hx hb dMD_base_29 rfl (fun _ => ?_) (fun hq => absurd hq (by decide))
      exact xd_vret C w hr hlk dMD_base_39 rfl
  · skip
    refine lv_iconst (v := nI 1) hx hb dMD_base_9 xk_i1 ?_
    refine lv_goto hx hb dMD_base_10 rfl ?_
    exfalso
    first | contradiction | grind
set_option maxRecDepth 100000 in
set_option maxHeartbeats 4000000 in
theorem cMD_base_no (l : Launch) (D : va_G) (cA : Nat → ClassId) (tz : Nat) (I : List (Nat × Nat)) (ad : Nat → Nat → Nat) (σ : xMem) (x y : Int32) (hJ : xJ I) (hn : ¬ xp_in x (nI 4)) : xD l yMD_base bMD_base 3 none 2 [.ref (ad 20 0), .int x, .int y] D cA tz I ad σ none (xu3 σ 20 0 0 (nI 1)) := by
  refine xd_of (by decide) (by simp [lg_sl, Value.category]) ?_
  intro p e s m args below meth c A ls C hr hlk hml hl w hz
  obtain ⟨hx, hb, hown, hts⟩ := id C
  have hl : lv_has ls 3 [(0, .ref (ad 20 0)), (1, .int x), (2, .int y)] := hl
  refine lv_aload_n hx hb dMD_base_0 rfl (lv_at hl 0 rfl) ?_
  refine lv_iload_n hx hb dMD_base_1 rfl (lv_at hl 1 rfl) ?_
  refine lv_iconst (v := nI 4) hx hb dMD_base_2 xk_i4 ?_
  refine xd_callS C w hz hml hl.1 xk_MD_69 (cMD_isIn l D cA tz I ad (σ) x (nI 4)) rfl rfl (Nat.le_of_ble_eq_true rfl) (by decide) (by decide) dMD_base_3 (fun H locs w => ?_)
  refine W.eq (g2 := F0 m 6 ls [.int (xb (xp_in x (nI 4))), .ref (ad 20 0)]) rfl ?_
  refine xz_ifne hx hb dMD_base_6 rfl (fun hh1 => ?_) (fun hh1 => ?_)
  · skip
    refine lv_iload_n hx hb dMD_base_13 rfl (lv_at hl 2 rfl) ?_
    refine lv_iconst (v := nI 3) hx hb dMD_base_14 xk_i3 ?_
    refine xd_callS C w hz hml hl.1 xk_MD_69 (cMD_isIn l D cA tz I ad (σ) y (nI 3)) rfl rfl (Nat.le_of_ble_eq_true rfl) (by decide) (by decide) dMD_base_15 (fun H locs w => ?_)
    refine W.eq (g2 := F0 m 18 ls [.int (xb (xp_in y (nI 3))), .ref (ad 20 0)]) rfl ?_
    refine xz_ifne hx hb dMD_base_18 rfl (fun hh2 => ?_) (fun hh2 => ?_)
    · skip
      refine lv_iconst (v := nI 0) hx hb dMD_base_25 xk_i0 ?_
      exfalso
      first | contradiction | grind
    · skip
      refine lv_iconst (v := nI 2) hx hb dMD_base_21 xk_i2 ?_
      refine lv_goto hx hb dMD_base_22 rfl ?_
      exfalso
      first | contradiction | grind
  · skip
    refine lv_iconst (v := nI 1) hx hb dMD_base_9 xk_i1 ?_
    refine lv_goto hx hb dMD_base_10 rfl ?_
    refine xd_callV C w hz hml hl.1 xk_MD_73 (cMD_refused1 l D cA tz I ad (σ) hJ) (xJ20 hJ) rfl rfl rfl rfl (Nat.le_of_ble_eq_true rfl) (by decide) (by decide) dMD_base_26 (fun H locs w => ?_)
    refine W.eq (g2 := F0 m 29 ls [.int (nI 1)]) rfl ?_
    refine lv_if_ne hx hb dMD_base_29 rfl (fun _ => ?_) (fun hq => absurd hq (by decide))
    exact xd_vret C w hr hlk dMD_base_39 rfl
set_option maxRecDepth 100000 in
set_option maxHeartbeats 4000000 in
theorem cMD_credits_ok (l : Launch) (D : va_G) (cA : Nat → ClassId) (tz : Nat) (I : List (Nat × Nat)) (ad : Nat → Nat → Nat) (σ : xMem) (a : Nat) (hJ : xJ I) (ha : a < 3) : xD l yMD_credits bMD_credits 2 (some .int) 3 [.ref (ad 20 0), .int (nI a)] D cA tz I ad σ (some (.int (mf_cr σ (nI a) 16))) (xu3 σ 20 0 0 (nI 0)) := by
  refine xd_of (by decide) (by simp [lg_sl, Value.category]) ?_
  intro p e s m args below meth c A ls C hr hlk hml hl w hz
  obtain ⟨hx, hb, hown, hts⟩ := id C
  have hl : lv_has ls 2 [(0, .ref (ad 20 0)), (1, .int (nI a))] := hl
  have hina : xp_in (nI a) (nI 3) := xp_in_n (by omega) (by decide)
  refine lv_aload_n hx hb dMD_credits_0 rfl (lv_at hl 0 rfl) ?_
  refine lv_iload_n hx hb dMD_credits_1 rfl (lv_at hl 1 rfl) ?_
  refine lv_iconst (v := nI 3) hx hb dMD_credits_2 xk_i3 ?_
  refine xd_callS C w hz hml hl.1 xk_MD_69 (cMD_isIn l D cA tz I ad (σ) (nI a) (nI 3)) rfl rfl (Nat.le_of_ble_eq_true rfl) (by decide) (by decide) dMD_credits_3 (fun H locs w => ?_)
  refine W.eq (g2 := F0 m 6 ls [.int (xb (xp_in (nI a) (nI 3))), .ref (ad 20 0)]) rfl ?_
  refine xz_ifeq hx hb dMD_credits_6 rfl (fun hh1 => ?_) (fun hh1 => ?_)
  · skip
    refine lv_iconst (v := nI 1) hx hb dMD_credits_13 xk_i1 ?_
    exfalso
    first | contradiction | grind
  · skip
    refine lv_iconst (v := nI 0) hx hb dMD_credits_9 xk_i0 ?_
    refine lv_goto hx hb dMD_credits_10 rfl ?_
    refine xd_callV C w hz hml hl.1 xk_MD_73 (cMD_refused0 l D cA tz I ad (σ) hJ) (xJ20 hJ) rfl rfl rfl rfl (Nat.le_of_ble_eq_true rfl) (by decide) (by decide) dMD_credits_14 (fun H locs w => ?_)
    refine W.eq (g2 := F0 m 17 ls [.int (nI 0)]) rfl ?_
    refine lv_if_eq hx hb dMD_credits_17 rfl (fun _ => ?_) (fun hq => absurd nI_0 hq)
    refine lv_aload_n hx hb dMD_credits_24 rfl (lv_at hl 0 rfl) ?_
    refine lv_iload_n hx hb dMD_credits_25 rfl (lv_at hl 1 rfl) ?_
    refine xd_callV C w hz hml hl.1 xk_MD_110 (cMD_creditsOf l D cA tz I ad (xu3 σ 20 0 0 (nI 0)) (nI a) hJ) (xJ20 hJ) rfl rfl rfl rfl (Nat.le_of_ble_eq_true rfl) (by decide) (by decide) dMD_credits_26 (fun H locs w => ?_)
    refine W.eq (g2 := F0 m 29 ls [.int (mf_cr (xu3 σ 20 0 0 (nI 0)) (nI a) 16)]) rfl ?_
    exact xd_iret C w hr hlk dMD_credits_29 (mf_cr_f0 σ (nI a)) rfl
set_option maxRecDepth 100000 in
set_option maxHeartbeats 4000000 in
theorem cMD_credits_no (l : Launch) (D : va_G) (cA : Nat → ClassId) (tz : Nat) (I : List (Nat × Nat)) (ad : Nat → Nat → Nat) (σ : xMem) (x : Int32) (hJ : xJ I) (hn : ¬ xp_in x (nI 3)) : xD l yMD_credits bMD_credits 2 (some .int) 3 [.ref (ad 20 0), .int x] D cA tz I ad σ (some (.int (nI 0))) (xu3 σ 20 0 0 (nI 1)) := by
  refine xd_of (by decide) (by simp [lg_sl, Value.category]) ?_
  intro p e s m args below meth c A ls C hr hlk hml hl w hz
  obtain ⟨hx, hb, hown, hts⟩ := id C
  have hl : lv_has ls 2 [(0, .ref (ad 20 0)), (1, .int x)] := hl
  refine lv_aload_n hx hb dMD_credits_0 rfl (lv_at hl 0 rfl) ?_
  refine lv_iload_n hx hb dMD_credits_1 rfl (lv_at hl 1 rfl) ?_
  refine lv_iconst (v := nI 3) hx hb dMD_credits_2 xk_i3 ?_
  refine xd_callS C w hz hml hl.1 xk_MD_69 (cMD_isIn l D cA tz I ad (σ) x (nI 3)) rfl rfl (Nat.le_of_ble_eq_true rfl) (by decide) (by decide) dMD_credits_3 (fun H locs w => ?_)
  refine W.eq (g2 := F0 m 6 ls [.int (xb (xp_in x (nI 3))), .ref (ad 20 0)]) rfl ?_
  refine xz_ifeq hx hb dMD_credits_6 rfl (fun hh1 => ?_) (fun hh1 => ?_)
  · skip
    refine lv_iconst (v := nI 1) hx hb dMD_credits_13 xk_i1 ?_
    refine xd_callV C w hz hml hl.1 xk_MD_73 (cMD_refused1 l D cA tz I ad (σ) hJ) (xJ20 hJ) rfl rfl rfl rfl (Nat.le_of_ble_eq_true rfl) (by decide) (by decide) dMD_credits_14 (fun H locs w => ?_)
    refine W.eq (g2 := F0 m 17 ls [.int (nI 1)]) rfl ?_
    refine lv_if_eq hx hb dMD_credits_17 rfl (fun hq => absurd hq (by decide)) (fun _ => ?_)
    refine lv_iconst (v := nI 0) hx hb dMD_credits_20 xk_i0 ?_
    refine lv_goto hx hb dMD_credits_21 rfl ?_
    exact xd_iret C w hr hlk dMD_credits_29 (rfl) rfl
  · skip
    refine lv_iconst (v := nI 0) hx hb dMD_credits_9 xk_i0 ?_
    refine lv_goto hx hb dMD_credits_10 rfl ?_
    exfalso
    first | contradiction | grind
set_option maxRecDepth 100000 in
set_option maxHeartbeats 4000000 in
theorem cMD_holder_ok (l : Launch) (D : va_G) (cA : Nat → ClassId) (tz : Nat) (I : List (Nat × Nat)) (ad : Nat → Nat → Nat) (σ : xMem) (a : Nat) (hJ : xJ I) (ha : a < 3) : xD l yMD_holder bMD_holder 2 (some .int) 3 [.ref (ad 20 0), .int (nI a)] D cA tz I ad σ (some (.int (σ 25 0 a))) (xu3 σ 20 0 0 (nI 0)) := by
  refine xd_of (by decide) (by simp [lg_sl, Value.category]) ?_
  intro p e s m args below meth c A ls C hr hlk hml hl w hz
  obtain ⟨hx, hb, hown, hts⟩ := id C
  have hl : lv_has ls 2 [(0, .ref (ad 20 0)), (1, .int (nI a))] := hl
  have hina : xp_in (nI a) (nI 3) := xp_in_n (by omega) (by decide)
  refine lv_aload_n hx hb dMD_holder_0 rfl (lv_at hl 0 rfl) ?_
  refine lv_iload_n hx hb dMD_holder_1 rfl (lv_at hl 1 rfl) ?_
  refine lv_iconst (v := nI 3) hx hb dMD_holder_2 xk_i3 ?_
  refine xd_callS C w hz hml hl.1 xk_MD_69 (cMD_isIn l D cA tz I ad (σ) (nI a) (nI 3)) rfl rfl (Nat.le_of_ble_eq_true rfl) (by decide) (by decide) dMD_holder_3 (fun H locs w => ?_)
  refine W.eq (g2 := F0 m 6 ls [.int (xb (xp_in (nI a) (nI 3))), .ref (ad 20 0)]) rfl ?_
  refine xz_ifeq hx hb dMD_holder_6 rfl (fun hh1 => ?_) (fun hh1 => ?_)
  · skip
    refine lv_iconst (v := nI 1) hx hb dMD_holder_13 xk_i1 ?_
    exfalso
    first | contradiction | grind
  · skip
    refine lv_iconst (v := nI 0) hx hb dMD_holder_9 xk_i0 ?_
    refine lv_goto hx hb dMD_holder_10 rfl ?_
    refine xd_callV C w hz hml hl.1 xk_MD_73 (cMD_refused0 l D cA tz I ad (σ) hJ) (xJ20 hJ) rfl rfl rfl rfl (Nat.le_of_ble_eq_true rfl) (by decide) (by decide) dMD_holder_14 (fun H locs w => ?_)
    refine W.eq (g2 := F0 m 17 ls [.int (nI 0)]) rfl ?_
    refine lv_if_eq hx hb dMD_holder_17 rfl (fun _ => ?_) (fun hq => absurd nI_0 hq)
    refine lv_aload_n hx hb dMD_holder_24 rfl (lv_at hl 0 rfl) ?_
    refine xg_MD_23 C w (xJ20 hJ) dMD_holder_25 ?_
    refine lv_iload_n hx hb dMD_holder_28 rfl (lv_at hl 1 rfl) ?_
    refine xr_iald C w (xJ25 hJ) rfl 0 rfl a rfl (by omega) (by decide) dMD_holder_29 ?_
    refine xn_eq (y := σ 25 0 a) (by simp [xu3, xw_u2, va_up]) ?_
    exact xd_iret C w hr hlk dMD_holder_30 (rfl) rfl
set_option maxRecDepth 100000 in
set_option maxHeartbeats 4000000 in
theorem cMD_holder_no (l : Launch) (D : va_G) (cA : Nat → ClassId) (tz : Nat) (I : List (Nat × Nat)) (ad : Nat → Nat → Nat) (σ : xMem) (x : Int32) (hJ : xJ I) (hn : ¬ xp_in x (nI 3)) : xD l yMD_holder bMD_holder 2 (some .int) 3 [.ref (ad 20 0), .int x] D cA tz I ad σ (some (.int (nI 0))) (xu3 σ 20 0 0 (nI 1)) := by
  refine xd_of (by decide) (by simp [lg_sl, Value.category]) ?_
  intro p e s m args below meth c A ls C hr hlk hml hl w hz
  obtain ⟨hx, hb, hown, hts⟩ := id C
  have hl : lv_has ls 2 [(0, .ref (ad 20 0)), (1, .int x)] := hl
  refine lv_aload_n hx hb dMD_holder_0 rfl (lv_at hl 0 rfl) ?_
  refine lv_iload_n hx hb dMD_holder_1 rfl (lv_at hl 1 rfl) ?_
  refine lv_iconst (v := nI 3) hx hb dMD_holder_2 xk_i3 ?_
  refine xd_callS C w hz hml hl.1 xk_MD_69 (cMD_isIn l D cA tz I ad (σ) x (nI 3)) rfl rfl (Nat.le_of_ble_eq_true rfl) (by decide) (by decide) dMD_holder_3 (fun H locs w => ?_)
  refine W.eq (g2 := F0 m 6 ls [.int (xb (xp_in x (nI 3))), .ref (ad 20 0)]) rfl ?_
  refine xz_ifeq hx hb dMD_holder_6 rfl (fun hh1 => ?_) (fun hh1 => ?_)
  · skip
    refine lv_iconst (v := nI 1) hx hb dMD_holder_13 xk_i1 ?_
    refine xd_callV C w hz hml hl.1 xk_MD_73 (cMD_refused1 l D cA tz I ad (σ) hJ) (xJ20 hJ) rfl rfl rfl rfl (Nat.le_of_ble_eq_true rfl) (by decide) (by decide) dMD_holder_14 (fun H locs w => ?_)
    refine W.eq (g2 := F0 m 17 ls [.int (nI 1)]) rfl ?_
    refine lv_if_eq hx hb dMD_holder_17 rfl (fun hq => absurd hq (by decide)) (fun _ => ?_)
    refine lv_iconst (v := nI 0) hx hb dMD_holder_20 xk_i0 ?_
    refine lv_goto hx hb dMD_holder_21 rfl ?_
    exact xd_iret C w hr hlk dMD_holder_30 (rfl) rfl
  · skip
    refine lv_iconst (v := nI 0) hx hb dMD_holder_9 xk_i0 ?_
    refine lv_goto hx hb dMD_holder_10 rfl ?_
    exfalso
    first | contradiction | grind
set_option maxRecDepth 100000 in
set_option maxHeartbeats 4000000 in
theorem cMD_memory_ok (l : Launch) (D : va_G) (cA : Nat → ClassId) (tz : Nat) (I : List (Nat × Nat)) (ad : Nat → Nat → Nat) (σ : xMem) (a : Nat) (hJ : xJ I) (ha : a < 48) : xD l yMD_memory bMD_memory 2 (some .int) 3 [.ref (ad 20 0), .int (nI a)] D cA tz I ad σ (some (.int (σ 21 0 a))) (xu3 σ 20 0 0 (nI 0)) := by
  refine xd_of (by decide) (by simp [lg_sl, Value.category]) ?_
  intro p e s m args below meth c A ls C hr hlk hml hl w hz
  obtain ⟨hx, hb, hown, hts⟩ := id C
  have hl : lv_has ls 2 [(0, .ref (ad 20 0)), (1, .int (nI a))] := hl
  have hina : xp_in (nI a) (nI 48) := xp_in_n (by omega) (by decide)
  refine lv_aload_n hx hb dMD_memory_0 rfl (lv_at hl 0 rfl) ?_
  refine lv_iload_n hx hb dMD_memory_1 rfl (lv_at hl 1 rfl) ?_
  refine lv_bipush (v := nI 48) hx hb dMD_memory_2 xk_b48 ?_
  refine xd_callS C w hz hml hl.1 xk_MD_69 (cMD_isIn l D cA tz I ad (σ) (nI a) (nI 48)) rfl rfl (Nat.le_of_ble_eq_true rfl) (by decide) (by decide) dMD_memory_4 (fun H locs w => ?_)
  refine W.eq (g2 := F0 m 7 ls [.int (xb (xp_in (nI a) (nI 48))), .ref (ad 20 0)]) rfl ?_
  refine xz_ifeq hx hb dMD_memory_7 rfl (fun hh1 => ?_) (fun hh1 => ?_)
  · skip
    refine lv_iconst (v := nI 1) hx hb dMD_memory_14 xk_i1 ?_
    exfalso
    first | contradiction | grind
  · skip
    refine lv_iconst (v := nI 0) hx hb dMD_memory_10 xk_i0 ?_
    refine lv_goto hx hb dMD_memory_11 rfl ?_
    refine xd_callV C w hz hml hl.1 xk_MD_73 (cMD_refused0 l D cA tz I ad (σ) hJ) (xJ20 hJ) rfl rfl rfl rfl (Nat.le_of_ble_eq_true rfl) (by decide) (by decide) dMD_memory_15 (fun H locs w => ?_)
    refine W.eq (g2 := F0 m 18 ls [.int (nI 0)]) rfl ?_
    refine lv_if_eq hx hb dMD_memory_18 rfl (fun _ => ?_) (fun hq => absurd nI_0 hq)
    refine lv_aload_n hx hb dMD_memory_25 rfl (lv_at hl 0 rfl) ?_
    refine xg_MD_7 C w (xJ20 hJ) dMD_memory_26 ?_
    refine lv_iload_n hx hb dMD_memory_29 rfl (lv_at hl 1 rfl) ?_
    refine xr_iald C w (xJ21 hJ) rfl 0 rfl a rfl (by omega) (by decide) dMD_memory_30 ?_
    refine xn_eq (y := σ 21 0 a) (by simp [xu3, xw_u2, va_up]) ?_
    exact xd_iret C w hr hlk dMD_memory_31 (rfl) rfl
set_option maxRecDepth 100000 in
set_option maxHeartbeats 4000000 in
theorem cMD_memory_no (l : Launch) (D : va_G) (cA : Nat → ClassId) (tz : Nat) (I : List (Nat × Nat)) (ad : Nat → Nat → Nat) (σ : xMem) (x : Int32) (hJ : xJ I) (hn : ¬ xp_in x (nI 48)) : xD l yMD_memory bMD_memory 2 (some .int) 3 [.ref (ad 20 0), .int x] D cA tz I ad σ (some (.int (nI 0))) (xu3 σ 20 0 0 (nI 1)) := by
  refine xd_of (by decide) (by simp [lg_sl, Value.category]) ?_
  intro p e s m args below meth c A ls C hr hlk hml hl w hz
  obtain ⟨hx, hb, hown, hts⟩ := id C
  have hl : lv_has ls 2 [(0, .ref (ad 20 0)), (1, .int x)] := hl
  refine lv_aload_n hx hb dMD_memory_0 rfl (lv_at hl 0 rfl) ?_
  refine lv_iload_n hx hb dMD_memory_1 rfl (lv_at hl 1 rfl) ?_
  refine lv_bipush (v := nI 48) hx hb dMD_memory_2 xk_b48 ?_
  refine xd_callS C w hz hml hl.1 xk_MD_69 (cMD_isIn l D cA tz I ad (σ) x (nI 48)) rfl rfl (Nat.le_of_ble_eq_true rfl) (by decide) (by decide) dMD_memory_4 (fun H locs w => ?_)
  refine W.eq (g2 := F0 m 7 ls [.int (xb (xp_in x (nI 48))), .ref (ad 20 0)]) rfl ?_
  refine xz_ifeq hx hb dMD_memory_7 rfl (fun hh1 => ?_) (fun hh1 => ?_)
  · skip
    refine lv_iconst (v := nI 1) hx hb dMD_memory_14 xk_i1 ?_
    refine xd_callV C w hz hml hl.1 xk_MD_73 (cMD_refused1 l D cA tz I ad (σ) hJ) (xJ20 hJ) rfl rfl rfl rfl (Nat.le_of_ble_eq_true rfl) (by decide) (by decide) dMD_memory_15 (fun H locs w => ?_)
    refine W.eq (g2 := F0 m 18 ls [.int (nI 1)]) rfl ?_
    refine lv_if_eq hx hb dMD_memory_18 rfl (fun hq => absurd hq (by decide)) (fun _ => ?_)
    refine lv_iconst (v := nI 0) hx hb dMD_memory_21 xk_i0 ?_
    refine lv_goto hx hb dMD_memory_22 rfl ?_
    exact xd_iret C w hr hlk dMD_memory_31 (rfl) rfl
  · skip
    refine lv_iconst (v := nI 0) hx hb dMD_memory_10 xk_i0 ?_
    refine lv_goto hx hb dMD_memory_11 rfl ?_
    exfalso
    first | contradiction | grind
set_option maxRecDepth 100000 in
set_option maxHeartbeats 4000000 in
theorem cMD_service_ok (l : Launch) (D : va_G) (cA : Nat → ClassId) (tz : Nat) (I : List (Nat × Nat)) (ad : Nat → Nat → Nat) (σ : xMem) (ns a b : Nat) (hJ : xJ I) (hns : σ 20 0 21 = nI ns) (hn6 : ns < 600) (ha : a < ns) (hb6 : b < 6) : xD l yMD_service bMD_service 3 (some .int) 2 [.ref (ad 20 0), .int (nI a), .int (nI b)] D cA tz I ad σ (some (.int (σ 36 0 (6 * a + b)))) (xu3 σ 20 0 0 (nI 0)) := by
  refine xd_of (by decide) (by simp [lg_sl, Value.category]) ?_
  intro p e s m args below meth c A ls C hr hlk hml hl w hz
  obtain ⟨hx, hb, hown, hts⟩ := id C
  have hl : lv_has ls 3 [(0, .ref (ad 20 0)), (1, .int (nI a)), (2, .int (nI b))] := hl
  have hina : xp_in (nI a) (nI ns) := xp_in_n (by omega) (by omega)
  have hinb : xp_in (nI b) (nI 6) := xp_in_n (by omega) (by decide)
  refine lv_aload_n hx hb dMD_service_0 rfl (lv_at hl 0 rfl) ?_
  refine lv_iload_n hx hb dMD_service_1 rfl (lv_at hl 1 rfl) ?_
  refine lv_aload_n hx hb dMD_service_2 rfl (lv_at hl 0 rfl) ?_
  refine xg_MD_95 C w (xJ20 hJ) dMD_service_3 ?_
  refine xn_eq (y := nI ns) hns ?_
  refine xd_callS C w hz hml hl.1 xk_MD_69 (cMD_isIn l D cA tz I ad (σ) (nI a) (nI ns)) rfl rfl (Nat.le_of_ble_eq_true rfl) (by decide) (by decide) dMD_service_6 (fun H locs w => ?_)
  refine W.eq (g2 := F0 m 9 ls [.int (xb (xp_in (nI a) (nI ns))), .ref (ad 20 0)]) rfl ?_
  refine xz_ifne hx hb dMD_service_9 rfl (fun hh1 => ?_) (fun hh1 => ?_)
  · skip
    refine lv_iload_n hx hb dMD_service_16 rfl (lv_at hl 2 rfl) ?_
    refine lv_bipush (v := nI 6) hx hb dMD_service_17 xk_b6 ?_
    refine xd_callS C w hz hml hl.1 xk_MD_69 (cMD_isIn l D cA tz I ad (σ) (nI b) (nI 6)) rfl rfl (Nat.le_of_ble_eq_true rfl) (by decide) (by decide) dMD_service_19 (fun H locs w => ?_)
    refine W.eq (g2 := F0 m 22 ls [.int (xb (xp_in (nI b) (nI 6))), .ref (ad 20 0)]) rfl ?_
    refine xz_ifne hx hb dMD_service_22 rfl (fun hh2 => ?_) (fun hh2 => ?_)
    · skip
      refine lv_iconst (v := nI 0) hx hb dMD_service_29 xk_i0 ?_
      refine xd_callV C w hz hml hl.1 xk_MD_73 (cMD_refused0 l D cA tz I ad (σ) hJ) (xJ20 hJ) rfl rfl rfl rfl (Nat.le_of_ble_eq_true rfl) (by decide) (by decide) dMD_service_30 (fun H locs w => ?_)
      refine W.eq (g2 := F0 m 33 ls [.int (nI 0)]) rfl ?_
      refine lv_if_eq hx hb dMD_service_33 rfl (fun _ => ?_) (fun hq => absurd nI_0 hq)
      refine lv_aload_n hx hb dMD_service_40 rfl (lv_at hl 0 rfl) ?_
      refine xg_MD_63 C w (xJ20 hJ) dMD_service_41 ?_
      refine lv_bipush (v := nI 6) hx hb dMD_service_44 xk_b6 ?_
      refine lv_iload_n hx hb dMD_service_46 rfl (lv_at hl 1 rfl) ?_
      refine xn_mul hx hb dMD_service_47 ?_
      refine lv_iload_n hx hb dMD_service_48 rfl (lv_at hl 2 rfl) ?_
      refine xn_add hx hb dMD_service_49 ?_
      refine xr_iald C w (xJ36 hJ) rfl 0 rfl ((6 * a) + b) rfl (by omega) (by decide) dMD_service_50 ?_
      refine xn_eq (y := σ 36 0 ((6 * a) + b)) (by simp [xu3, xw_u2, va_up]) ?_
      exact xd_iret C w hr hlk dMD_service_51 (rfl) rfl
    · skip
      refine lv_iconst (v := nI 2) hx hb dMD_service_25 xk_i2 ?_
      refine lv_goto hx hb dMD_service_26 rfl ?_
      exfalso
      first | contradiction | grind
  · skip
    refine lv_iconst (v := nI 1) hx hb dMD_service_12 xk_i1 ?_
    refine lv_goto hx hb dMD_service_13 rfl ?_
    exfalso
    first | contradiction | grind
set_option maxRecDepth 100000 in
set_option maxHeartbeats 4000000 in
theorem cMD_service_no2 (l : Launch) (D : va_G) (cA : Nat → ClassId) (tz : Nat) (I : List (Nat × Nat)) (ad : Nat → Nat → Nat) (σ : xMem) (ns a : Nat) (x : Int32) (hJ : xJ I) (hns : σ 20 0 21 = nI ns) (hn6 : ns < 600) (ha : a < ns) (hn : ¬ xp_in x (nI 6)) : xD l yMD_service bMD_service 3 (some .int) 2 [.ref (ad 20 0), .int (nI a), .int x] D cA tz I ad σ (some (.int (nI 0))) (xu3 σ 20 0 0 (nI 2)) := by
  refine xd_of (by decide) (by simp [lg_sl, Value.category]) ?_
  intro p e s m args below meth c A ls C hr hlk hml hl w hz
  obtain ⟨hx, hb, hown, hts⟩ := id C
  have hl : lv_has ls 3 [(0, .ref (ad 20 0)), (1, .int (nI a)), (2, .int x)] := hl
  have hina : xp_in (nI a) (nI ns) := xp_in_n (by omega) (by omega)
  refine lv_aload_n hx hb dMD_service_0 rfl (lv_at hl 0 rfl) ?_
  refine lv_iload_n hx hb dMD_service_1 rfl (lv_at hl 1 rfl) ?_
  refine lv_aload_n hx hb dMD_service_2 rfl (lv_at hl 0 rfl) ?_
  refine xg_MD_95 C w (xJ20 hJ) dMD_service_3 ?_
  refine xn_eq (y := nI ns) hns ?_
  refine xd_callS C w hz hml hl.1 xk_MD_69 (cMD_isIn l D cA tz I ad (σ) (nI a) (nI ns)) rfl rfl (Nat.le_of_ble_eq_true rfl) (by decide) (by decide) dMD_service_6 (fun H locs w => ?_)
  refine W.eq (g2 := F0 m 9 ls [.int (xb (xp_in (nI a) (nI ns))), .ref (ad 20 0)]) rfl ?_
  refine xz_ifne hx hb dMD_service_9 rfl (fun hh1 => ?_) (fun hh1 => ?_)
  · skip
    refine lv_iload_n hx hb dMD_service_16 rfl (lv_at hl 2 rfl) ?_
    refine lv_bipush (v := nI 6) hx hb dMD_service_17 xk_b6 ?_
    refine xd_callS C w hz hml hl.1 xk_MD_69 (cMD_isIn l D cA tz I ad (σ) x (nI 6)) rfl rfl (Nat.le_of_ble_eq_true rfl) (by decide) (by decide) dMD_service_19 (fun H locs w => ?_)
    refine W.eq (g2 := F0 m 22 ls [.int (xb (xp_in x (nI 6))), .ref (ad 20 0)]) rfl ?_
    refine xz_ifne hx hb dMD_service_22 rfl (fun hh2 => ?_) (fun hh2 => ?_)
    · skip
      refine lv_iconst (v := nI 0) hx hb dMD_service_29 xk_i0 ?_
      exfalso
      first | contradiction | grind
    · skip
      refine lv_iconst (v := nI 2) hx hb dMD_service_25 xk_i2 ?_
      refine lv_goto hx hb dMD_service_26 rfl ?_
      refine xd_callV C w hz hml hl.1 xk_MD_73 (cMD_refused2 l D cA tz I ad (σ) hJ) (xJ20 hJ) rfl rfl rfl rfl (Nat.le_of_ble_eq_true rfl) (by decide) (by decide) dMD_service_30 (fun H locs w => ?_)
      refine W.eq (g2 := F0 m 33 ls [.int (nI 1)]) rfl ?_
      refine lv_if_eq hx hb dMD_service_33 rfl (fun hq => absurd hq (by decide)) (fun _ => ?_)
      refine lv_iconst (v := nI 0) hx hb dMD_service_36 xk_i0 ?_
      refine lv_goto hx hb dMD_service_37 rfl ?_
      exact xd_iret C w hr hlk dMD_service_51 (rfl) rfl
  · skip
    refine lv_iconst (v := nI 1) hx hb dMD_service_12 xk_i1 ?_
    refine lv_goto hx hb dMD_service_13 rfl ?_
    exfalso
    first | contradiction | grind
set_option maxRecDepth 100000 in
set_option maxHeartbeats 4000000 in
theorem cMD_service_no (l : Launch) (D : va_G) (cA : Nat → ClassId) (tz : Nat) (I : List (Nat × Nat)) (ad : Nat → Nat → Nat) (σ : xMem) (ns : Nat) (x y : Int32) (hJ : xJ I) (hns : σ 20 0 21 = nI ns) (hn6 : ns < 600) (hn : ¬ xp_in x (nI ns)) : xD l yMD_service bMD_service 3 (some .int) 2 [.ref (ad 20 0), .int x, .int y] D cA tz I ad σ (some (.int (nI 0))) (xu3 σ 20 0 0 (nI 1)) := by
  refine xd_of (by decide) (by simp [lg_sl, Value.category]) ?_
  intro p e s m args below meth c A ls C hr hlk hml hl w hz
  obtain ⟨hx, hb, hown, hts⟩ := id C
  have hl : lv_has ls 3 [(0, .ref (ad 20 0)), (1, .int x), (2, .int y)] := hl
  refine lv_aload_n hx hb dMD_service_0 rfl (lv_at hl 0 rfl) ?_
  refine lv_iload_n hx hb dMD_service_1 rfl (lv_at hl 1 rfl) ?_
  refine lv_aload_n hx hb dMD_service_2 rfl (lv_at hl 0 rfl) ?_
  refine xg_MD_95 C w (xJ20 hJ) dMD_service_3 ?_
  refine xn_eq (y := nI ns) hns ?_
  refine xd_callS C w hz hml hl.1 xk_MD_69 (cMD_isIn l D cA tz I ad (σ) x (nI ns)) rfl rfl (Nat.le_of_ble_eq_true rfl) (by decide) (by decide) dMD_service_6 (fun H locs w => ?_)
  refine W.eq (g2 := F0 m 9 ls [.int (xb (xp_in x (nI ns))), .ref (ad 20 0)]) rfl ?_
  refine xz_ifne hx hb dMD_service_9 rfl (fun hh1 => ?_) (fun hh1 => ?_)
  · skip
    refine lv_iload_n hx hb dMD_service_16 rfl (lv_at hl 2 rfl) ?_
    refine lv_bipush (v := nI 6) hx hb dMD_service_17 xk_b6 ?_
    refine xd_callS C w hz hml hl.1 xk_MD_69 (cMD_isIn l D cA tz I ad (σ) y (nI 6)) rfl rfl (Nat.le_of_ble_eq_true rfl) (by decide) (by decide) dMD_service_19 (fun H locs w => ?_)
    refine W.eq (g2 := F0 m 22 ls [.int (xb (xp_in y (nI 6))), .ref (ad 20 0)]) rfl ?_
    refine xz_ifne hx hb dMD_service_22 rfl (fun hh2 => ?_) (fun hh2 => ?_)
    · skip
      refine lv_iconst (v := nI 0) hx hb dMD_service_29 xk_i0 ?_
      exfalso
      first | contradiction | grind
    · skip
      refine lv_iconst (v := nI 2) hx hb dMD_service_25 xk_i2 ?_
      refine lv_goto hx hb dMD_service_26 rfl ?_
      exfalso
      first | contradiction | grind
  · skip
    refine lv_iconst (v := nI 1) hx hb dMD_service_12 xk_i1 ?_
    refine lv_goto hx hb dMD_service_13 rfl ?_
    refine xd_callV C w hz hml hl.1 xk_MD_73 (cMD_refused1 l D cA tz I ad (σ) hJ) (xJ20 hJ) rfl rfl rfl rfl (Nat.le_of_ble_eq_true rfl) (by decide) (by decide) dMD_service_30 (fun H locs w => ?_)
    refine W.eq (g2 := F0 m 33 ls [.int (nI 1)]) rfl ?_
    refine lv_if_eq hx hb dMD_service_33 rfl (fun hq => absurd hq (by decide)) (fun _ => ?_)
    refine lv_iconst (v := nI 0) hx hb dMD_service_36 xk_i0 ?_
    refine lv_goto hx hb dMD_service_37 rfl ?_
    exact xd_iret C w hr hlk dMD_service_51 (rfl) rfl
set_option maxRecDepth 100000 in
set_option maxHeartbeats 4000000 in
theorem cMD_waits_no (l : Launch) (D : va_G) (cA : Nat → ClassId) (tz : Nat) (I : List (Nat × Nat)) (ad : Nat → Nat → Nat) (σ : xMem) (x : Int32) (hJ : xJ I) (hn : ¬ xp_in x (nI 4)) : xD l yMD_waits bMD_waits 5 (some .int) 2 [.ref (ad 20 0), .int x] D cA tz I ad σ (some (.int (nI 0))) (xu3 σ 20 0 0 (nI 1)) := by
  refine xd_of (by decide) (by simp [lg_sl, Value.category]) ?_
  intro p e s m args below meth c A ls C hr hlk hml hl w hz
  obtain ⟨hx, hb, hown, hts⟩ := id C
  have hl : lv_has ls 5 [(0, .ref (ad 20 0)), (1, .int x)] := hl
  refine lv_aload_n hx hb dMD_waits_0 rfl (lv_at hl 0 rfl) ?_
  refine lv_iload_n hx hb dMD_waits_1 rfl (lv_at hl 1 rfl) ?_
  refine lv_iconst (v := nI 4) hx hb dMD_waits_2 xk_i4 ?_
  refine xd_callS C w hz hml hl.1 xk_MD_69 (cMD_isIn l D cA tz I ad (σ) x (nI 4)) rfl rfl (Nat.le_of_ble_eq_true rfl) (by decide) (by decide) dMD_waits_3 (fun H locs w => ?_)
  refine W.eq (g2 := F0 m 6 ls [.int (xb (xp_in x (nI 4))), .ref (ad 20 0)]) rfl ?_
  refine xz_ifeq hx hb dMD_waits_6 rfl (fun hh1 => ?_) (fun hh1 => ?_)
  · skip
    refine lv_iconst (v := nI 1) hx hb dMD_waits_13 xk_i1 ?_
    refine xd_callV C w hz hml hl.1 xk_MD_73 (cMD_refused1 l D cA tz I ad (σ) hJ) (xJ20 hJ) rfl rfl rfl rfl (Nat.le_of_ble_eq_true rfl) (by decide) (by decide) dMD_waits_14 (fun H locs w => ?_)
    refine W.eq (g2 := F0 m 17 ls [.int (nI 1)]) rfl ?_
    refine lv_if_eq hx hb dMD_waits_17 rfl (fun hq => absurd hq (by decide)) (fun _ => ?_)
    refine lv_iconst (v := nI 0) hx hb dMD_waits_20 xk_i0 ?_
    exact xd_iret C w hr hlk dMD_waits_21 (rfl) rfl
  · skip
    refine lv_iconst (v := nI 0) hx hb dMD_waits_9 xk_i0 ?_
    refine lv_goto hx hb dMD_waits_10 rfl ?_
    exfalso
    first | contradiction | grind
set_option maxRecDepth 100000 in
set_option maxHeartbeats 4000000 in
theorem cMD_waits_ok (l : Launch) (D : va_G) (cA : Nat → ClassId) (tz : Nat) (I : List (Nat × Nat)) (ad : Nat → Nat → Nat) (σ : xMem) (a : Nat) (hJ : xJ I) (ha : a < 4) : xD l yMD_waits bMD_waits 5 (some .int) 2 [.ref (ad 20 0), .int (nI a)] D cA tz I ad σ (some (.int (mf_wait σ (mf_wts σ a 4)))) (xu3 σ 20 0 0 (nI 0)) := by
  refine xd_of (by decide) (by simp [lg_sl, Value.category]) ?_
  intro p e s m args below meth c A ls C hr hlk hml hl w hz
  obtain ⟨hx, hb, hown, hts⟩ := id C
  have hl : lv_has ls 5 [(0, .ref (ad 20 0)), (1, .int (nI a))] := hl
  have hina : xp_in (nI a) (nI 4) := xp_in_n (by omega) (by decide)
  refine lv_aload_n hx hb dMD_waits_0 rfl (lv_at hl 0 rfl) ?_
  refine lv_iload_n hx hb dMD_waits_1 rfl (lv_at hl 1 rfl) ?_
  refine lv_iconst (v := nI 4) hx hb dMD_waits_2 xk_i4 ?_
  refine xd_callS C w hz hml hl.1 xk_MD_69 (cMD_isIn l D cA tz I ad (σ) (nI a) (nI 4)) rfl rfl (Nat.le_of_ble_eq_true rfl) (by decide) (by decide) dMD_waits_3 (fun H locs w => ?_)
  refine W.eq (g2 := F0 m 6 ls [.int (xb (xp_in (nI a) (nI 4))), .ref (ad 20 0)]) rfl ?_
  refine xz_ifeq hx hb dMD_waits_6 rfl (fun hh1 => ?_) (fun hh1 => ?_)
  · skip
    refine lv_iconst (v := nI 1) hx hb dMD_waits_13 xk_i1 ?_
    exfalso
    first | contradiction | grind
  · skip
    refine lv_iconst (v := nI 0) hx hb dMD_waits_9 xk_i0 ?_
    refine lv_goto hx hb dMD_waits_10 rfl ?_
    refine xd_callV C w hz hml hl.1 xk_MD_73 (cMD_refused0 l D cA tz I ad (σ) hJ) (xJ20 hJ) rfl rfl rfl rfl (Nat.le_of_ble_eq_true rfl) (by decide) (by decide) dMD_waits_14 (fun H locs w => ?_)
    refine W.eq (g2 := F0 m 17 ls [.int (nI 0)]) rfl ?_
    refine lv_if_eq hx hb dMD_waits_17 rfl (fun _ => ?_) (fun hq => absurd nI_0 hq)
    refine lv_iconst (v := -1) hx hb dMD_waits_22 xk_im1 ?_
    refine lv_istore_n (lv' := [(2, .int (-1)), (0, .ref (ad 20 0)), (1, .int (nI a))]) hx hb dMD_waits_23 rfl hl (by decide) rfl (fun ls hl => ?_)
    have hl : lv_has ls 5 [(2, .int (xoi (mf_wts (xu3 σ 20 0 0 (nI 0)) a 0))), (0, .ref (ad 20 0)), (1, .int (nI a))] := hl
    refine lv_iconst (v := nI 0) hx hb dMD_waits_24 xk_i0 ?_
    refine lv_istore_n (lv' := [(3, .int (nI 0)), (2, .int (xoi (mf_wts (xu3 σ 20 0 0 (nI 0)) a 0))), (0, .ref (ad 20 0)), (1, .int (nI a))]) hx hb dMD_waits_25 rfl hl (by decide) rfl (fun ls hl => ?_)
    refine xl_up (Wg := fun H locs ls => W p l e _ s m args below meth c H locs _ _ _ (F0 m 26 ls [])) (K := fun i H locs ls => xr_W xCl (xT cA) D I ad (xc cA tz ad (xu3 σ 20 0 0 (nI 0))) A s H locs ∧ lv_has ls 5 [(0, .ref (ad 20 0)), (1, .int (nI a)), (2, .int (xoi (mf_wts (xu3 σ 20 0 0 (nI 0)) a i))), (3, .int (nI i))]) 4 ?_ ?_ 0 _ _ _ (by omega) ⟨w, lv_sub hl [2, 3, 1, 0] rfl⟩
    · skip
      intro H locs ls ⟨w, hl⟩
      refine lv_iload_n hx hb dMD_waits_26 rfl (lv_at hl 3 rfl) ?_
      refine lv_iconst (v := nI 4) hx hb dMD_waits_27 xk_i4 ?_
      refine lv_icmp_ge hx hb dMD_waits_28 rfl (fun _ => ?_) (fun hq => absurd (nI_le (by omega) (by omega)) hq)
      rcases hbe : mf_wts (xu3 σ 20 0 0 (nI 0)) a 4 with _ | b
      · skip
        have hl : lv_has ls 5 [(0, .ref (ad 20 0)), (1, .int (nI a)), (2, .int (-1)), (3, .int (nI 4))] := by rw [hbe] at hl; exact hl
        refine lv_iload_n hx hb dMD_waits_82 rfl (lv_at hl 2 rfl) ?_
        refine lv_if_ge hx hb dMD_waits_83 rfl (fun hq => absurd hq (by decide)) (fun _ => ?_)
        refine lv_iconst (v := -1) hx hb dMD_waits_86 xk_im1 ?_
        refine lv_goto hx hb dMD_waits_87 rfl ?_
        exact xd_iret C w hr hlk dMD_waits_96 (show _ = mf_wait σ (mf_wts σ a 4) by rw [show mf_wts σ a 4 = none from hbe]; rfl) rfl
      · skip
        have hl : lv_has ls 5 [(0, .ref (ad 20 0)), (1, .int (nI a)), (2, .int (nI b)), (3, .int (nI 4))] := by rw [hbe] at hl; exact hl
        have hb16 := mf_wts_lt ha (by omega) hbe
        refine lv_iload_n hx hb dMD_waits_82 rfl (lv_at hl 2 rfl) ?_
        refine lv_if_ge hx hb dMD_waits_83 rfl (fun _ => ?_) (fun hq => absurd (nI_pos' (by omega)) hq)
        refine lv_aload_n hx hb dMD_waits_90 rfl (lv_at hl 0 rfl) ?_
        refine xg_MD_38 C w (xJ20 hJ) dMD_waits_91 ?_
        refine lv_iload_n hx hb dMD_waits_94 rfl (lv_at hl 2 rfl) ?_
        refine xr_iald C w (xJ30 hJ) rfl 0 rfl b rfl (by omega) (by decide) dMD_waits_95 ?_
        refine xn_eq (y := σ 30 0 b) (by simp [xu3, xw_u2, va_up]) ?_
        exact xd_iret C w hr hlk dMD_waits_96 (show _ = mf_wait σ (mf_wts σ a 4) by rw [show mf_wts σ a 4 = some b from hbe]; rfl) rfl
    · skip
      intro i H locs ls hii ⟨w, hl⟩ ihi
      refine lv_iload_n hx hb dMD_waits_26 rfl (lv_at hl 3 rfl) ?_
      refine lv_iconst (v := nI 4) hx hb dMD_waits_27 xk_i4 ?_
      refine lv_icmp_ge hx hb dMD_waits_28 rfl (fun hq => absurd hq (nI_ge (by omega) (by omega))) (fun _ => ?_)
      refine lv_iconst (v := nI 4) hx hb dMD_waits_31 xk_i4 ?_
      refine lv_iload_n hx hb dMD_waits_32 rfl (lv_at hl 1 rfl) ?_
      refine xn_mul hx hb dMD_waits_33 ?_
      refine lv_iload_n hx hb dMD_waits_34 rfl (lv_at hl 3 rfl) ?_
      refine xn_add hx hb dMD_waits_35 ?_
      refine lv_istore (lv' := [(4, .int (nI ((4 * a) + i))), (0, .ref (ad 20 0)), (1, .int (nI a)), (2, .int (xoi (mf_wts (xu3 σ 20 0 0 (nI 0)) a i))), (3, .int (nI i))]) hx hb dMD_waits_36 hl (by decide) rfl (fun ls hl => ?_)
      refine lv_aload_n hx hb dMD_waits_38 rfl (lv_at hl 1 rfl) ?_
      refine xg_MD_26 C w (xJ20 hJ) dMD_waits_39 ?_
      refine lv_iload hx hb dMD_waits_42 (lv_at hl 0 rfl) ?_
      refine xr_iald C w (xJ26 hJ) rfl 0 rfl ((4 * a) + i) rfl (by omega) (by decide) dMD_waits_44 ?_
      refine xn_eq (y := σ 26 0 ((4 * a) + i)) (by simp [xu3, xw_u2, va_up]) ?_
      refine lv_iconst (v := nI 1) hx hb dMD_waits_45 xk_i1 ?_
      refine lv_icmp_ne hx hb dMD_waits_46 rfl (fun hh2 => ?_) (fun hh2 => ?_)
      · skip
        refine lv_iload_n hx hb dMD_waits_74 rfl (lv_at hl 3 rfl) ?_
        refine xn_eq (y := xoi (mf_wts (xu3 σ 20 0 0 (nI 0)) a (i + 1))) (congrArg xoi (show mf_wts (xu3 σ 20 0 0 (nI 0)) a i = mf_wts (xu3 σ 20 0 0 (nI 0)) a (i + 1) by rw [mf_wts_s]; unfold xf_step; rw [xif_f (fun z => absurd z.1 (by assumption))])) ?_
        refine lv_istore_n (lv' := [(2, .int (xoi (mf_wts (xu3 σ 20 0 0 (nI 0)) a (i + 1)))), (4, .int (nI ((4 * a) + i))), (0, .ref (ad 20 0)), (1, .int (nI a)), (3, .int (nI i))]) hx hb dMD_waits_75 rfl hl (by decide) rfl (fun ls hl => ?_)
        refine lv_iinc (lv' := [(3, .int (nI (i + 1))), (2, .int (xoi (mf_wts (xu3 σ 20 0 0 (nI 0)) a (i + 1)))), (4, .int (nI ((4 * a) + i))), (0, .ref (ad 20 0)), (1, .int (nI a))]) hx hb dMD_waits_76 hl (k := 4) rfl (xn_inc _) (by decide) rfl (fun ls hl => ?_)
        refine lv_goto hx hb dMD_waits_79 rfl ?_
        exact ihi _ _ _ ⟨w, lv_sub hl [3, 4, 1, 0] rfl⟩
      · skip
        rcases hbe : mf_wts (xu3 σ 20 0 0 (nI 0)) a i with _ | b
        · skip
          have hl : lv_has ls 5 [(4, .int (nI ((4 * a) + i))), (0, .ref (ad 20 0)), (1, .int (nI a)), (2, .int (-1)), (3, .int (nI i))] := by rw [hbe] at hl; exact hl
          refine lv_iload_n hx hb dMD_waits_49 rfl (lv_at hl 3 rfl) ?_
          refine lv_if_lt hx hb dMD_waits_50 rfl (fun _ => ?_) (fun hq => absurd (by decide) hq)
          refine lv_iload hx hb dMD_waits_69 (lv_at hl 0 rfl) ?_
          refine lv_goto hx hb dMD_waits_71 rfl ?_
          refine xn_eq (y := xoi (mf_wts (xu3 σ 20 0 0 (nI 0)) a (i + 1))) (show nI (4 * a + i) = xoi (mf_wts (xu3 σ 20 0 0 (nI 0)) a (i + 1)) by rw [mf_wts_s]; unfold xf_step; rw [xif_t ⟨by assumption, fun x hx => (by rw [hbe] at hx; cases hx)⟩]; rfl) ?_
          refine lv_istore_n (lv' := [(2, .int (xoi (mf_wts (xu3 σ 20 0 0 (nI 0)) a (i + 1)))), (4, .int (nI ((4 * a) + i))), (0, .ref (ad 20 0)), (1, .int (nI a)), (3, .int (nI i))]) hx hb dMD_waits_75 rfl hl (by decide) rfl (fun ls hl => ?_)
          refine lv_iinc (lv' := [(3, .int (nI (i + 1))), (2, .int (xoi (mf_wts (xu3 σ 20 0 0 (nI 0)) a (i + 1)))), (4, .int (nI ((4 * a) + i))), (0, .ref (ad 20 0)), (1, .int (nI a))]) hx hb dMD_waits_76 hl (k := 4) rfl (xn_inc _) (by decide) rfl (fun ls hl => ?_)
          refine lv_goto hx hb dMD_waits_79 rfl ?_
          exact ihi _ _ _ ⟨w, lv_sub hl [3, 4, 1, 0] rfl⟩
        · skip
          have hl : lv_has ls 5 [(4, .int (nI ((4 * a) + i))), (0, .ref (ad 20 0)), (1, .int (nI a)), (2, .int (nI b)), (3, .int (nI i))] := by rw [hbe] at hl; exact hl
          have hb16 := mf_wts_lt ha (by omega) hbe
          refine lv_iload_n hx hb dMD_waits_49 rfl (lv_at hl 3 rfl) ?_
          refine lv_if_lt hx hb dMD_waits_50 rfl (fun hq => absurd hq (nI_pos (by omega))) (fun _ => ?_)
          refine lv_aload_n hx hb dMD_waits_53 rfl (lv_at hl 1 rfl) ?_
          refine xg_MD_41 C w (xJ20 hJ) dMD_waits_54 ?_
          refine lv_iload hx hb dMD_waits_57 (lv_at hl 0 rfl) ?_
          refine xr_iald C w (xJ31 hJ) rfl 0 rfl ((4 * a) + i) rfl (by omega) (by decide) dMD_waits_59 ?_
          refine xn_eq (y := σ 31 0 ((4 * a) + i)) (by simp [xu3, xw_u2, va_up]) ?_
          refine lv_aload_n hx hb dMD_waits_60 rfl (lv_at hl 1 rfl) ?_
          refine xg_MD_41 C w (xJ20 hJ) dMD_waits_61 ?_
          refine lv_iload_n hx hb dMD_waits_64 rfl (lv_at hl 3 rfl) ?_
          refine xr_iald C w (xJ31 hJ) rfl 0 rfl b rfl (by omega) (by decide) dMD_waits_65 ?_
          refine xn_eq (y := σ 31 0 b) (by simp [xu3, xw_u2, va_up]) ?_
          refine lv_icmp_ge hx hb dMD_waits_66 rfl (fun hh3 => ?_) (fun hh3 => ?_)
          · skip
            refine lv_iload_n hx hb dMD_waits_74 rfl (lv_at hl 3 rfl) ?_
            refine xn_eq (y := xoi (mf_wts (xu3 σ 20 0 0 (nI 0)) a (i + 1))) (show nI b = xoi (mf_wts (xu3 σ 20 0 0 (nI 0)) a (i + 1)) by rw [mf_wts_s]; unfold xf_step; rw [xif_f (fun z => absurd (z.2 b hbe) (Int32.not_lt.mpr (by assumption))), hbe]; rfl) ?_
            refine lv_istore_n (lv' := [(2, .int (xoi (mf_wts (xu3 σ 20 0 0 (nI 0)) a (i + 1)))), (4, .int (nI ((4 * a) + i))), (0, .ref (ad 20 0)), (1, .int (nI a)), (3, .int (nI i))]) hx hb dMD_waits_75 rfl hl (by decide) rfl (fun ls hl => ?_)
            refine lv_iinc (lv' := [(3, .int (nI (i + 1))), (2, .int (xoi (mf_wts (xu3 σ 20 0 0 (nI 0)) a (i + 1)))), (4, .int (nI ((4 * a) + i))), (0, .ref (ad 20 0)), (1, .int (nI a))]) hx hb dMD_waits_76 hl (k := 4) rfl (xn_inc _) (by decide) rfl (fun ls hl => ?_)
            refine lv_goto hx hb dMD_waits_79 rfl ?_
            exact ihi _ _ _ ⟨w, lv_sub hl [3, 4, 1, 0] rfl⟩
          · skip
            refine lv_iload hx hb dMD_waits_69 (lv_at hl 0 rfl) ?_
            refine lv_goto hx hb dMD_waits_71 rfl ?_
            refine xn_eq (y := xoi (mf_wts (xu3 σ 20 0 0 (nI 0)) a (i + 1))) (show nI (4 * a + i) = xoi (mf_wts (xu3 σ 20 0 0 (nI 0)) a (i + 1)) by rw [mf_wts_s]; unfold xf_step; rw [xif_t ⟨by assumption, fun x hx => (by rw [hbe] at hx; cases hx; exact Int32.not_le.mp (by assumption))⟩]; rfl) ?_
            refine lv_istore_n (lv' := [(2, .int (xoi (mf_wts (xu3 σ 20 0 0 (nI 0)) a (i + 1)))), (4, .int (nI ((4 * a) + i))), (0, .ref (ad 20 0)), (1, .int (nI a)), (3, .int (nI i))]) hx hb dMD_waits_75 rfl hl (by decide) rfl (fun ls hl => ?_)
            refine lv_iinc (lv' := [(3, .int (nI (i + 1))), (2, .int (xoi (mf_wts (xu3 σ 20 0 0 (nI 0)) a (i + 1)))), (4, .int (nI ((4 * a) + i))), (0, .ref (ad 20 0)), (1, .int (nI a))]) hx hb dMD_waits_76 hl (k := 4) rfl (xn_inc _) (by decide) rfl (fun ls hl => ?_)
            refine lv_goto hx hb dMD_waits_79 rfl ?_
            exact ihi _ _ _ ⟨w, lv_sub hl [3, 4, 1, 0] rfl⟩
set_option maxRecDepth 100000 in
set_option maxHeartbeats 4000000 in
theorem cMD_reset_no (l : Launch) (D : va_G) (cA : Nat → ClassId) (tz : Nat) (I : List (Nat × Nat)) (ad : Nat → Nat → Nat) (σ : xMem) (x : Int32) (hJ : xJ I) (hn : ¬ xp_in x (nI 4)) : xD l yMD_reset bMD_reset 5 (some .int) 2 [.ref (ad 20 0), .int x] D cA tz I ad σ (some (.int (nI 0))) (xu3 σ 20 0 0 (nI 1)) := by
  refine xd_of (by decide) (by simp [lg_sl, Value.category]) ?_
  intro p e s m args below meth c A ls C hr hlk hml hl w hz
  obtain ⟨hx, hb, hown, hts⟩ := id C
  have hl : lv_has ls 5 [(0, .ref (ad 20 0)), (1, .int x)] := hl
  refine lv_aload_n hx hb dMD_reset_0 rfl (lv_at hl 0 rfl) ?_
  refine lv_iload_n hx hb dMD_reset_1 rfl (lv_at hl 1 rfl) ?_
  refine lv_iconst (v := nI 4) hx hb dMD_reset_2 xk_i4 ?_
  refine xd_callS C w hz hml hl.1 xk_MD_69 (cMD_isIn l D cA tz I ad (σ) x (nI 4)) rfl rfl (Nat.le_of_ble_eq_true rfl) (by decide) (by decide) dMD_reset_3 (fun H locs w => ?_)
  refine W.eq (g2 := F0 m 6 ls [.int (xb (xp_in x (nI 4))), .ref (ad 20 0)]) rfl ?_
  refine xz_ifeq hx hb dMD_reset_6 rfl (fun hh1 => ?_) (fun hh1 => ?_)
  · skip
    refine lv_iconst (v := nI 1) hx hb dMD_reset_13 xk_i1 ?_
    refine xd_callV C w hz hml hl.1 xk_MD_73 (cMD_refused1 l D cA tz I ad (σ) hJ) (xJ20 hJ) rfl rfl rfl rfl (Nat.le_of_ble_eq_true rfl) (by decide) (by decide) dMD_reset_14 (fun H locs w => ?_)
    refine W.eq (g2 := F0 m 17 ls [.int (nI 1)]) rfl ?_
    refine lv_if_eq hx hb dMD_reset_17 rfl (fun hq => absurd hq (by decide)) (fun _ => ?_)
    refine lv_iconst (v := nI 0) hx hb dMD_reset_20 xk_i0 ?_
    exact xd_iret C w hr hlk dMD_reset_21 (rfl) rfl
  · skip
    refine lv_iconst (v := nI 0) hx hb dMD_reset_9 xk_i0 ?_
    refine lv_goto hx hb dMD_reset_10 rfl ?_
    exfalso
    first | contradiction | grind
set_option maxRecDepth 100000 in
set_option maxHeartbeats 4000000 in
theorem cMD_reset_ok (l : Launch) (D : va_G) (cA : Nat → ClassId) (tz : Nat) (I : List (Nat × Nat)) (ad : Nat → Nat → Nat) (σ : xMem) (a : Nat) (hJ : xJ I) (ha : a < 4) : xD l yMD_reset bMD_reset 5 (some .int) 2 [.ref (ad 20 0), .int (nI a)] D cA tz I ad σ (some (.int (nI (mf_cnt σ a 4)))) (mf_rel (mf_rst (xu3 σ 20 0 0 (nI 0)) a 4) (nI a) 3) := by
  refine xd_of (by decide) (by simp [lg_sl, Value.category]) ?_
  intro p e s m args below meth c A ls C hr hlk hml hl w hz
  obtain ⟨hx, hb, hown, hts⟩ := id C
  have hl : lv_has ls 5 [(0, .ref (ad 20 0)), (1, .int (nI a))] := hl
  have hina : xp_in (nI a) (nI 4) := xp_in_n (by omega) (by decide)
  refine lv_aload_n hx hb dMD_reset_0 rfl (lv_at hl 0 rfl) ?_
  refine lv_iload_n hx hb dMD_reset_1 rfl (lv_at hl 1 rfl) ?_
  refine lv_iconst (v := nI 4) hx hb dMD_reset_2 xk_i4 ?_
  refine xd_callS C w hz hml hl.1 xk_MD_69 (cMD_isIn l D cA tz I ad (σ) (nI a) (nI 4)) rfl rfl (Nat.le_of_ble_eq_true rfl) (by decide) (by decide) dMD_reset_3 (fun H locs w => ?_)
  refine W.eq (g2 := F0 m 6 ls [.int (xb (xp_in (nI a) (nI 4))), .ref (ad 20 0)]) rfl ?_
  refine xz_ifeq hx hb dMD_reset_6 rfl (fun hh1 => ?_) (fun hh1 => ?_)
  · skip
    refine lv_iconst (v := nI 1) hx hb dMD_reset_13 xk_i1 ?_
    exfalso
    first | contradiction | grind
  · skip
    refine lv_iconst (v := nI 0) hx hb dMD_reset_9 xk_i0 ?_
    refine lv_goto hx hb dMD_reset_10 rfl ?_
    refine xd_callV C w hz hml hl.1 xk_MD_73 (cMD_refused0 l D cA tz I ad (σ) hJ) (xJ20 hJ) rfl rfl rfl rfl (Nat.le_of_ble_eq_true rfl) (by decide) (by decide) dMD_reset_14 (fun H locs w => ?_)
    refine W.eq (g2 := F0 m 17 ls [.int (nI 0)]) rfl ?_
    refine lv_if_eq hx hb dMD_reset_17 rfl (fun _ => ?_) (fun hq => absurd nI_0 hq)
    refine lv_iconst (v := nI 0) hx hb dMD_reset_22 xk_i0 ?_
    refine lv_istore_n (lv' := [(2, .int (nI 0)), (0, .ref (ad 20 0)), (1, .int (nI a))]) hx hb dMD_reset_23 rfl hl (by decide) rfl (fun ls hl => ?_)
    have hl : lv_has ls 5 [(2, .int (nI (mf_cnt (xu3 σ 20 0 0 (nI 0)) a 0))), (0, .ref (ad 20 0)), (1, .int (nI a))] := hl
    refine lv_iconst (v := nI 0) hx hb dMD_reset_24 xk_i0 ?_
    refine lv_istore_n (lv' := [(3, .int (nI 0)), (2, .int (nI (mf_cnt (xu3 σ 20 0 0 (nI 0)) a 0))), (0, .ref (ad 20 0)), (1, .int (nI a))]) hx hb dMD_reset_25 rfl hl (by decide) rfl (fun ls hl => ?_)
    refine xl_up (Wg := fun H locs ls => W p l e _ s m args below meth c H locs _ _ _ (F0 m 26 ls [])) (K := fun i H locs ls => xr_W xCl (xT cA) D I ad (xc cA tz ad (mf_rst (xu3 σ 20 0 0 (nI 0)) a i)) A s H locs ∧ lv_has ls 5 [(0, .ref (ad 20 0)), (1, .int (nI a)), (2, .int (nI (mf_cnt (xu3 σ 20 0 0 (nI 0)) a i))), (3, .int (nI i))]) 4 ?_ ?_ 0 _ _ _ (by omega) ⟨by rw [mf_rst_0]; exact w, lv_sub hl [2, 3, 1, 0] rfl⟩
    · skip
      intro H locs ls ⟨w, hl⟩
      refine lv_iload_n hx hb dMD_reset_26 rfl (lv_at hl 3 rfl) ?_
      refine lv_iconst (v := nI 4) hx hb dMD_reset_27 xk_i4 ?_
      refine lv_icmp_ge hx hb dMD_reset_28 rfl (fun _ => ?_) (fun hq => absurd (nI_le (by omega) (by omega)) hq)
      refine lv_iconst (v := nI 0) hx hb dMD_reset_66 xk_i0 ?_
      refine lv_istore_n (lv' := [(3, .int (nI 0)), (0, .ref (ad 20 0)), (1, .int (nI a)), (2, .int (nI (mf_cnt (xu3 σ 20 0 0 (nI 0)) a 4)))]) hx hb dMD_reset_67 rfl hl (by decide) rfl (fun ls hl => ?_)
      refine xl_up (Wg := fun H locs ls => W p l e _ s m args below meth c H locs _ _ _ (F0 m 68 ls [])) (K := fun i H locs ls => xr_W xCl (xT cA) D I ad (xc cA tz ad (mf_rel (mf_rst (xu3 σ 20 0 0 (nI 0)) a 4) (nI a) i)) A s H locs ∧ lv_has ls 5 [(0, .ref (ad 20 0)), (1, .int (nI a)), (2, .int (nI (mf_cnt (xu3 σ 20 0 0 (nI 0)) a 4))), (3, .int (nI i))]) 3 ?_ ?_ 0 _ _ _ (by omega) ⟨by rw [mf_rel_0]; exact w, lv_sub hl [1, 2, 3, 0] rfl⟩
      · skip
        intro H locs ls ⟨w, hl⟩
        refine lv_iload_n hx hb dMD_reset_68 rfl (lv_at hl 3 rfl) ?_
        refine lv_iconst (v := nI 3) hx hb dMD_reset_69 xk_i3 ?_
        refine lv_icmp_ge hx hb dMD_reset_70 rfl (fun _ => ?_) (fun hq => absurd (nI_le (by omega) (by omega)) hq)
        refine lv_iload_n hx hb dMD_reset_105 rfl (lv_at hl 2 rfl) ?_
        exact xd_iret C w hr hlk dMD_reset_106 (rfl) rfl
      · skip
        intro i H locs ls hii ⟨w, hl⟩ ihi
        refine lv_iload_n hx hb dMD_reset_68 rfl (lv_at hl 3 rfl) ?_
        refine lv_iconst (v := nI 3) hx hb dMD_reset_69 xk_i3 ?_
        refine lv_icmp_ge hx hb dMD_reset_70 rfl (fun hq => absurd hq (nI_ge (by omega) (by omega))) (fun _ => ?_)
        refine lv_aload_n hx hb dMD_reset_73 rfl (lv_at hl 0 rfl) ?_
        refine xg_MD_23 C w (xJ20 hJ) dMD_reset_74 ?_
        refine lv_iload_n hx hb dMD_reset_77 rfl (lv_at hl 3 rfl) ?_
        refine lv_aload_n hx hb dMD_reset_78 rfl (lv_at hl 0 rfl) ?_
        refine xg_MD_23 C w (xJ20 hJ) dMD_reset_79 ?_
        refine lv_iload_n hx hb dMD_reset_82 rfl (lv_at hl 3 rfl) ?_
        refine xr_iald C w (xJ25 hJ) rfl 0 rfl i rfl (by omega) (by decide) dMD_reset_83 ?_
        refine lv_iload_n hx hb dMD_reset_84 rfl (lv_at hl 1 rfl) ?_
        refine lv_icmp_ne hx hb dMD_reset_85 rfl (fun hh2 => ?_) (fun hh2 => ?_)
        · skip
          refine lv_aload_n hx hb dMD_reset_92 rfl (lv_at hl 0 rfl) ?_
          refine xg_MD_23 C w (xJ20 hJ) dMD_reset_93 ?_
          refine lv_iload_n hx hb dMD_reset_96 rfl (lv_at hl 3 rfl) ?_
          refine xr_iald C w (xJ25 hJ) rfl 0 rfl i rfl (by omega) (by decide) dMD_reset_97 ?_
          refine xs_iast C w (xJ25 hJ) (fun _ => rfl) i rfl (by omega) (by decide) dMD_reset_98 (fun H locs w => ?_)
          refine lv_iinc (lv' := [(3, .int (nI (i + 1))), (0, .ref (ad 20 0)), (1, .int (nI a)), (2, .int (nI (mf_cnt (xu3 σ 20 0 0 (nI 0)) a 4)))]) hx hb dMD_reset_99 hl (k := 3) rfl (xn_inc _) (by decide) rfl (fun ls hl => ?_)
          refine lv_goto hx hb dMD_reset_102 rfl ?_
          exact ihi _ _ _ ⟨mf_rel_f hh2 ▸ w, lv_sub hl [1, 2, 3, 0] rfl⟩
        · skip
          refine lv_iconst (v := -1) hx hb dMD_reset_88 xk_im1 ?_
          refine lv_goto hx hb dMD_reset_89 rfl ?_
          refine xs_iast C w (xJ25 hJ) (fun _ => rfl) i rfl (by omega) (by decide) dMD_reset_98 (fun H locs w => ?_)
          refine lv_iinc (lv' := [(3, .int (nI (i + 1))), (0, .ref (ad 20 0)), (1, .int (nI a)), (2, .int (nI (mf_cnt (xu3 σ 20 0 0 (nI 0)) a 4)))]) hx hb dMD_reset_99 hl (k := 3) rfl (xn_inc _) (by decide) rfl (fun ls hl => ?_)
          refine lv_goto hx hb dMD_reset_102 rfl ?_
          exact ihi _ _ _ ⟨mf_rel_t hh2 ▸ w, lv_sub hl [1, 2, 3, 0] rfl⟩
    · skip
      intro i H locs ls hii ⟨w, hl⟩ ihi
      refine lv_iload_n hx hb dMD_reset_26 rfl (lv_at hl 3 rfl) ?_
      refine lv_iconst (v := nI 4) hx hb dMD_reset_27 xk_i4 ?_
      refine lv_icmp_ge hx hb dMD_reset_28 rfl (fun hq => absurd hq (nI_ge (by omega) (by omega))) (fun _ => ?_)
      refine lv_iconst (v := nI 4) hx hb dMD_reset_31 xk_i4 ?_
      refine lv_iload_n hx hb dMD_reset_32 rfl (lv_at hl 1 rfl) ?_
      refine xn_mul hx hb dMD_reset_33 ?_
      refine lv_iload_n hx hb dMD_reset_34 rfl (lv_at hl 3 rfl) ?_
      refine xn_add hx hb dMD_reset_35 ?_
      refine lv_istore (lv' := [(4, .int (nI ((4 * a) + i))), (0, .ref (ad 20 0)), (1, .int (nI a)), (2, .int (nI (mf_cnt (xu3 σ 20 0 0 (nI 0)) a i))), (3, .int (nI i))]) hx hb dMD_reset_36 hl (by decide) rfl (fun ls hl => ?_)
      refine lv_aload_n hx hb dMD_reset_38 rfl (lv_at hl 1 rfl) ?_
      refine xg_MD_26 C w (xJ20 hJ) dMD_reset_39 ?_
      refine lv_iload hx hb dMD_reset_42 (lv_at hl 0 rfl) ?_
      refine xr_iald C w (xJ26 hJ) rfl 0 rfl ((4 * a) + i) rfl (by omega) (by decide) dMD_reset_44 ?_
      refine lv_iconst (v := nI 1) hx hb dMD_reset_45 xk_i1 ?_
      refine lv_icmp_ne hx hb dMD_reset_46 rfl (fun hh3 => ?_) (fun hh3 => ?_)
      · skip
        have hl : lv_has ls 5 [(4, .int (nI ((4 * a) + i))), (0, .ref (ad 20 0)), (1, .int (nI a)), (2, .int (nI (mf_cnt (xu3 σ 20 0 0 (nI 0)) a (i + 1)))), (3, .int (nI i))] := by rw [← mf_cnt_f hh3]; exact hl
        refine lv_iinc (lv' := [(3, .int (nI (i + 1))), (4, .int (nI ((4 * a) + i))), (0, .ref (ad 20 0)), (1, .int (nI a)), (2, .int (nI (mf_cnt (xu3 σ 20 0 0 (nI 0)) a (i + 1))))]) hx hb dMD_reset_60 hl (k := 4) rfl (xn_inc _) (by decide) rfl (fun ls hl => ?_)
        refine lv_goto hx hb dMD_reset_63 rfl ?_
        exact ihi _ _ _ ⟨mf_rst_f hh3 ▸ w, lv_sub hl [2, 3, 4, 0] rfl⟩
      · skip
        refine lv_aload_n hx hb dMD_reset_49 rfl (lv_at hl 1 rfl) ?_
        refine xg_MD_26 C w (xJ20 hJ) dMD_reset_50 ?_
        refine lv_iload hx hb dMD_reset_53 (lv_at hl 0 rfl) ?_
        refine lv_iconst (v := nI 0) hx hb dMD_reset_55 xk_i0 ?_
        refine xs_iast C w (xJ26 hJ) (fun _ => rfl) ((4 * a) + i) rfl (by omega) (by decide) dMD_reset_56 (fun H locs w => ?_)
        refine lv_iinc (lv' := [(2, .int (nI (mf_cnt (xu3 σ 20 0 0 (nI 0)) a i + 1))), (4, .int (nI ((4 * a) + i))), (0, .ref (ad 20 0)), (1, .int (nI a)), (3, .int (nI i))]) hx hb dMD_reset_57 hl (k := 3) rfl (xn_inc _) (by decide) rfl (fun ls hl => ?_)
        have hl : lv_has ls 5 [(2, .int (nI (mf_cnt (xu3 σ 20 0 0 (nI 0)) a (i + 1)))), (4, .int (nI ((4 * a) + i))), (0, .ref (ad 20 0)), (1, .int (nI a)), (3, .int (nI i))] := by rw [← mf_cnt_t hh3]; exact hl
        refine lv_iinc (lv' := [(3, .int (nI (i + 1))), (2, .int (nI (mf_cnt (xu3 σ 20 0 0 (nI 0)) a (i + 1)))), (4, .int (nI ((4 * a) + i))), (0, .ref (ad 20 0)), (1, .int (nI a))]) hx hb dMD_reset_60 hl (k := 4) rfl (xn_inc _) (by decide) rfl (fun ls hl => ?_)
        refine lv_goto hx hb dMD_reset_63 rfl ?_
        exact ihi _ _ _ ⟨mf_rst_t hh3 ▸ w, lv_sub hl [3, 4, 1, 0] rfl⟩
