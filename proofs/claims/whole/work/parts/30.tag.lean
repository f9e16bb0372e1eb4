/-! Tag. -/
set_option maxRecDepth 100000 in
set_option maxHeartbeats 4000000 in
theorem cTG_isOpen (l : Launch) (D : va_G) (cA : Nat → ClassId) (tz : Nat) (I : List (Nat × Nat)) (ad : Nat → Nat → Nat) (σ : xMem) (k : Nat) (hI : xI I) (hk : k < 16) : xD l yTG_isOpen bTG_isOpen 1 (some .boolean) 1 [.ref (ad 0 k)] D cA tz I ad σ (some (.int (xb (xp_open σ k)))) σ := by
  refine xd_of (by decide) (by simp [lg_sl, Value.category]) ?_
  intro p e s m args below meth c A ls C hr hlk hml hl w hz
  obtain ⟨hx, hb, hown, hts⟩ := id C
  have hl : lv_has ls 1 [(0, .ref (ad 0 k))] := hl
  refine lv_aload_n hx hb dTG_isOpen_0 rfl (lv_at hl 0 rfl) ?_
  refine xg_TG_15 C w (xI0 hI (by omega)) dTG_isOpen_1 ?_
  refine lv_iconst (v := nI 1) hx hb dTG_isOpen_4 xk_i1 ?_
  refine lv_icmp_eq hx hb dTG_isOpen_5 rfl (fun hh1 => ?_) (fun hh1 => ?_)
  · skip
    refine lv_iconst (v := nI 1) hx hb dTG_isOpen_16 xk_i1 ?_
    refine lv_goto hx hb dTG_isOpen_17 rfl ?_
    exact xd_zt C w hr hlk dTG_isOpen_21 (by unfold xp_open; grind [nI_0]) rfl
  · skip
    refine lv_aload_n hx hb dTG_isOpen_8 rfl (lv_at hl 0 rfl) ?_
    refine xg_TG_15 C w (xI0 hI (by omega)) dTG_isOpen_9 ?_
    refine lv_iconst (v := nI 2) hx hb dTG_isOpen_12 xk_i2 ?_
    refine lv_icmp_ne hx hb dTG_isOpen_13 rfl (fun hh2 => ?_) (fun hh2 => ?_)
    · skip
      refine lv_iconst (v := nI 0) hx hb dTG_isOpen_20 xk_i0 ?_
      exact xd_zf C w hr hlk dTG_isOpen_21 (by unfold xp_open; grind [nI_0]) rfl
    · skip
      refine lv_iconst (v := nI 1) hx hb dTG_isOpen_16 xk_i1 ?_
      refine lv_goto hx hb dTG_isOpen_17 rfl ?_
      exact xd_zt C w hr hlk dTG_isOpen_21 (by unfold xp_open; grind [nI_0]) rfl
set_option maxRecDepth 100000 in
set_option maxHeartbeats 4000000 in
theorem cTG_isReading (l : Launch) (D : va_G) (cA : Nat → ClassId) (tz : Nat) (I : List (Nat × Nat)) (ad : Nat → Nat → Nat) (σ : xMem) (k : Nat) (hI : xI I) (hk : k < 16) : xD l yTG_isReading bTG_isReading 1 (some .boolean) 1 [.ref (ad 0 k)] D cA tz I ad σ (some (.int (xb (xp_read σ k)))) σ := by
  refine xd_of (by decide) (by simp [lg_sl, Value.category]) ?_
  intro p e s m args below meth c A ls C hr hlk hml hl w hz
  obtain ⟨hx, hb, hown, hts⟩ := id C
  have hl : lv_has ls 1 [(0, .ref (ad 0 k))] := hl
  refine lv_aload_n hx hb dTG_isReading_0 rfl (lv_at hl 0 rfl) ?_
  refine xg_TG_19 C w (xI0 hI (by omega)) dTG_isReading_1 ?_
  refine lv_if_eq hx hb dTG_isReading_4 rfl (fun hh1 => ?_) (fun hh1 => ?_)
  · skip
    refine lv_iconst (v := nI 1) hx hb dTG_isReading_15 xk_i1 ?_
    refine lv_goto hx hb dTG_isReading_16 rfl ?_
    exact xd_zt C w hr hlk dTG_isReading_20 (by unfold xp_read; grind [nI_0]) rfl
  · skip
    refine lv_aload_n hx hb dTG_isReading_7 rfl (lv_at hl 0 rfl) ?_
    refine xg_TG_19 C w (xI0 hI (by omega)) dTG_isReading_8 ?_
    refine lv_iconst (v := nI 2) hx hb dTG_isReading_11 xk_i2 ?_
    refine lv_icmp_ne hx hb dTG_isReading_12 rfl (fun hh2 => ?_) (fun hh2 => ?_)
    · skip
      refine lv_iconst (v := nI 0) hx hb dTG_isReading_19 xk_i0 ?_
      exact xd_zf C w hr hlk dTG_isReading_20 (by unfold xp_read; grind [nI_0]) rfl
    · skip
      refine lv_iconst (v := nI 1) hx hb dTG_isReading_15 xk_i1 ?_
      refine lv_goto hx hb dTG_isReading_16 rfl ?_
      exact xd_zt C w hr hlk dTG_isReading_20 (by unfold xp_read; grind [nI_0]) rfl
set_option maxRecDepth 100000 in
set_option maxHeartbeats 4000000 in
theorem cTG_isUnmapped (l : Launch) (D : va_G) (cA : Nat → ClassId) (tz : Nat) (I : List (Nat × Nat)) (ad : Nat → Nat → Nat) (σ : xMem) (k : Nat) (hI : xI I) (hk : k < 16) : xD l yTG_isUnmapped bTG_isUnmapped 1 (some .boolean) 1 [.ref (ad 0 k)] D cA tz I ad σ (some (.int (xb (xp_unm σ k)))) σ := by
  refine xd_of (by decide) (by simp [lg_sl, Value.category]) ?_
  intro p e s m args below meth c A ls C hr hlk hml hl w hz
  obtain ⟨hx, hb, hown, hts⟩ := id C
  have hl : lv_has ls 1 [(0, .ref (ad 0 k))] := hl
  refine lv_aload_n hx hb dTG_isUnmapped_0 rfl (lv_at hl 0 rfl) ?_
  refine xg_TG_22 C w (xI0 hI (by omega)) dTG_isUnmapped_1 ?_
  refine lv_bipush (v := nI 48) hx hb dTG_isUnmapped_4 xk_b48 ?_
  refine lv_icmp_lt hx hb dTG_isUnmapped_6 rfl (fun hh1 => ?_) (fun hh1 => ?_)
  · skip
    refine lv_iconst (v := nI 0) hx hb dTG_isUnmapped_13 xk_i0 ?_
    exact xd_zf C w hr hlk dTG_isUnmapped_14 (by unfold xp_unm; grind [nI_0]) rfl
  · skip
    refine lv_iconst (v := nI 1) hx hb dTG_isUnmapped_9 xk_i1 ?_
    refine lv_goto hx hb dTG_isUnmapped_10 rfl ?_
    exact xd_zt C w hr hlk dTG_isUnmapped_14 (by unfold xp_unm; grind [nI_0]) rfl
set_option maxRecDepth 100000 in
set_option maxHeartbeats 4000000 in
theorem cTG_isBefore (l : Launch) (D : va_G) (cA : Nat → ClassId) (tz : Nat) (I : List (Nat × Nat)) (ad : Nat → Nat → Nat) (σ : xMem) (j k : Nat) (hI : xI I) (hj : j < 16) (hk : k < 16) : xD l yTG_isBefore bTG_isBefore 2 (some .boolean) 1 [.ref (ad 0 j), .ref (ad 0 k)] D cA tz I ad σ (some (.int (xb (xp_ord σ j k)))) σ := by
  refine xd_of (by decide) (by simp [lg_sl, Value.category]) ?_
  intro p e s m args below meth c A ls C hr hlk hml hl w hz
  obtain ⟨hx, hb, hown, hts⟩ := id C
  have hl : lv_has ls 2 [(0, .ref (ad 0 j)), (1, .ref (ad 0 k))] := hl
  refine lv_aload_n hx hb dTG_isBefore_0 rfl (lv_at hl 0 rfl) ?_
  refine xg_TG_28 C w (xI0 hI (by omega)) dTG_isBefore_1 ?_
  refine lv_aload_n hx hb dTG_isBefore_4 rfl (lv_at hl 1 rfl) ?_
  refine xg_TG_28 C w (xI0 hI (by omega)) dTG_isBefore_5 ?_
  refine lv_icmp_ge hx hb dTG_isBefore_8 rfl (fun hh1 => ?_) (fun hh1 => ?_)
  · skip
    refine lv_iconst (v := nI 0) hx hb dTG_isBefore_15 xk_i0 ?_
    exact xd_zf C w hr hlk dTG_isBefore_16 (by unfold xp_ord; grind [nI_0]) rfl
  · skip
    refine lv_iconst (v := nI 1) hx hb dTG_isBefore_11 xk_i1 ?_
    refine lv_goto hx hb dTG_isBefore_12 rfl ?_
    exact xd_zt C w hr hlk dTG_isBefore_16 (by unfold xp_ord; grind [nI_0]) rfl
set_option maxRecDepth 100000 in
set_option maxHeartbeats 4000000 in
theorem cTG_overlaps (l : Launch) (D : va_G) (cA : Nat → ClassId) (tz : Nat) (I : List (Nat × Nat)) (ad : Nat → Nat → Nat) (σ : xMem) (j k : Nat) (hI : xI I) (hj : j < 16) (hk : k < 16) : xD l yTG_overlaps bTG_overlaps 2 (some .boolean) 1 [.ref (ad 0 j), .ref (ad 0 k)] D cA tz I ad σ (some (.int (xb (xp_over σ j k)))) σ := by
  refine xd_of (by decide) (by simp [lg_sl, Value.category]) ?_
  intro p e s m args below meth c A ls C hr hlk hml hl w hz
  obtain ⟨hx, hb, hown, hts⟩ := id C
  have hl : lv_has ls 2 [(0, .ref (ad 0 j)), (1, .ref (ad 0 k))] := hl
  refine lv_aload_n hx hb dTG_overlaps_0 rfl (lv_at hl 0 rfl) ?_
  refine xg_TG_22 C w (xI0 hI (by omega)) dTG_overlaps_1 ?_
  refine lv_aload_n hx hb dTG_overlaps_4 rfl (lv_at hl 1 rfl) ?_
  refine xg_TG_22 C w (xI0 hI (by omega)) dTG_overlaps_5 ?_
  refine lv_aload_n hx hb dTG_overlaps_8 rfl (lv_at hl 1 rfl) ?_
  refine xg_TG_25 C w (xI0 hI (by omega)) dTG_overlaps_9 ?_
  refine lv_iadd hx hb dTG_overlaps_12 ?_
  refine lv_icmp_ge hx hb dTG_overlaps_13 rfl (fun hh1 => ?_) (fun hh1 => ?_)
  · skip
    refine lv_iconst (v := nI 0) hx hb dTG_overlaps_36 xk_i0 ?_
    exact xd_zf C w hr hlk dTG_overlaps_37 (by unfold xp_over; grind [nI_0]) rfl
  · skip
    refine lv_aload_n hx hb dTG_overlaps_16 rfl (lv_at hl 1 rfl) ?_
    refine xg_TG_22 C w (xI0 hI (by omega)) dTG_overlaps_17 ?_
    refine lv_aload_n hx hb dTG_overlaps_20 rfl (lv_at hl 0 rfl) ?_
    refine xg_TG_22 C w (xI0 hI (by omega)) dTG_overlaps_21 ?_
    refine lv_aload_n hx hb dTG_overlaps_24 rfl (lv_at hl 0 rfl) ?_
    refine xg_TG_25 C w (xI0 hI (by omega)) dTG_overlaps_25 ?_
    refine lv_iadd hx hb dTG_overlaps_28 ?_
    refine lv_icmp_ge hx hb dTG_overlaps_29 rfl (fun hh2 => ?_) (fun hh2 => ?_)
    · skip
      refine lv_iconst (v := nI 0) hx hb dTG_overlaps_36 xk_i0 ?_
      exact xd_zf C w hr hlk dTG_overlaps_37 (by unfold xp_over; grind [nI_0]) rfl
    · skip
      refine lv_iconst (v := nI 1) hx hb dTG_overlaps_32 xk_i1 ?_
      refine lv_goto hx hb dTG_overlaps_33 rfl ?_
      exact xd_zt C w hr hlk dTG_overlaps_37 (by unfold xp_over; grind [nI_0]) rfl
set_option maxRecDepth 100000 in
set_option maxHeartbeats 4000000 in
theorem cTG_begin (l : Launch) (D : va_G) (cA : Nat → ClassId) (tz : Nat) (I : List (Nat × Nat)) (ad : Nat → Nat → Nat) (σ : xMem) (k : Nat) (a1 a2 a3 a4 : Int32) (hI : xI I) (hk : k < 16) : xD l yTG_begin bTG_begin 5 none 1 [.ref (ad 0 k), .int a1, .int a2, .int a3, .int a4] D cA tz I ad σ none (xu3 (xu3 (xu3 (xu3 (xu3 (xu3 (xu3 (xu3 σ 0 k 3 (nI 1)) 0 k 4 a1) 0 k 5 a2) 0 k 6 a3) 0 k 7 a4) 0 k 8 (nI 0)) 0 k 9 (nI 0)) 0 k 10 (nI 0)) := by
  refine xd_of (by decide) (by simp [lg_sl, Value.category]) ?_
  intro p e s m args below meth c A ls C hr hlk hml hl w hz
  obtain ⟨hx, hb, hown, hts⟩ := id C
  have hl : lv_has ls 5 [(0, .ref (ad 0 k)), (1, .int a1), (2, .int a2), (3, .int a3), (4, .int a4)] := hl
  refine lv_aload_n hx hb dTG_begin_0 rfl (lv_at hl 0 rfl) ?_
  refine lv_iconst (v := nI 1) hx hb dTG_begin_1 xk_i1 ?_
  refine xp_TG_15 C w (xI0 hI (by omega)) dTG_begin_2 (fun H locs w => ?_)
  refine lv_aload_n hx hb dTG_begin_5 rfl (lv_at hl 0 rfl) ?_
  refine lv_iload_n hx hb dTG_begin_6 rfl (lv_at hl 1 rfl) ?_
  refine xp_TG_19 C w (xI0 hI (by omega)) dTG_begin_7 (fun H locs w => ?_)
  refine lv_aload_n hx hb dTG_begin_10 rfl (lv_at hl 0 rfl) ?_
  refine lv_iload_n hx hb dTG_begin_11 rfl (lv_at hl 2 rfl) ?_
  refine xp_TG_22 C w (xI0 hI (by omega)) dTG_begin_12 (fun H locs w => ?_)
  refine lv_aload_n hx hb dTG_begin_15 rfl (lv_at hl 0 rfl) ?_
  refine lv_iload_n hx hb dTG_begin_16 rfl (lv_at hl 3 rfl) ?_
  refine xp_TG_25 C w (xI0 hI (by omega)) dTG_begin_17 (fun H locs w => ?_)
  refine lv_aload_n hx hb dTG_begin_20 rfl (lv_at hl 0 rfl) ?_
  refine lv_iload hx hb dTG_begin_21 (lv_at hl 4 rfl) ?_
  refine xp_TG_28 C w (xI0 hI (by omega)) dTG_begin_23 (fun H locs w => ?_)
  refine lv_aload_n hx hb dTG_begin_26 rfl (lv_at hl 0 rfl) ?_
  refine lv_iconst (v := nI 0) hx hb dTG_begin_27 xk_i0 ?_
  refine xp_TG_31 C w (xI0 hI (by omega)) dTG_begin_28 (fun H locs w => ?_)
  refine lv_aload_n hx hb dTG_begin_31 rfl (lv_at hl 0 rfl) ?_
  refine lv_iconst (v := nI 0) hx hb dTG_begin_32 xk_i0 ?_
  refine xp_TG_34 C w (xI0 hI (by omega)) (by first | exact Or.inl rfl | exact Or.inr rfl) dTG_begin_33 (fun H locs w => ?_)
  refine lv_aload_n hx hb dTG_begin_36 rfl (lv_at hl 0 rfl) ?_
  refine lv_iconst (v := nI 0) hx hb dTG_begin_37 xk_i0 ?_
  refine xp_TG_38 C w (xI0 hI (by omega)) dTG_begin_38 (fun H locs w => ?_)
  exact xd_vret C w hr hlk dTG_begin_41 rfl
