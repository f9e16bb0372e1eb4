/-! Tag.keep, Target, and what SplitFabric asks. -/
set_option maxRecDepth 100000 in
set_option maxHeartbeats 4000000 in
theorem cTG_keep (l : Launch) (D : va_G) (cA : Nat → ClassId) (tz : Nat) (I : List (Nat × Nat)) (ad : Nat → Nat → Nat) (σ : xMem) (k r2 k2 n1 a n : Nat) (hI : xI I) (hk : k < 16) (hI2 : (r2, k2) ∈ I) (hf : ∀ f, xcell cA tz ad r2 k2 f = .inl (cA 0, n1, .inl f)) (hn : σ 0 k 6 = nI n) (h4 : n ≤ 4) (ha : a + n ≤ n1) (h1 : n1 < 2 ^ 31) : xD l yTG_keep bTG_keep 3 none 1 [.ref (ad 0 k), .ref (ad r2 k2), .int (nI a)] D cA tz I ad σ none (xw_u2 σ 1 k (va_cpy (σ r2 k2) (σ 1 k) a 0 n)) := by
  refine xd_of (by decide) (by simp [lg_sl, Value.category]) ?_
  intro p e s m args below meth c A ls C hr hlk hml hl w hz
  obtain ⟨hx, hb, hown, hts⟩ := id C
  have hl : lv_has ls 3 [(0, .ref (ad 0 k)), (1, .ref (ad r2 k2)), (2, .int (nI a))] := hl
  refine lv_aload_n hx hb dTG_keep_0 rfl (lv_at hl 1 rfl) ?_
  refine lv_iload_n hx hb dTG_keep_1 rfl (lv_at hl 2 rfl) ?_
  refine lv_aload_n hx hb dTG_keep_2 rfl (lv_at hl 0 rfl) ?_
  refine xg_TG_9 C w (xI0 hI (by omega)) dTG_keep_3 ?_
  refine lv_iconst (v := nI 0) hx hb dTG_keep_6 xk_i0 ?_
  refine lv_aload_n hx hb dTG_keep_7 rfl (lv_at hl 0 rfl) ?_
  refine xg_TG_25 C w (xI0 hI (by omega)) dTG_keep_8 ?_
  refine xs_copy C w (hml.trans hl.1.symm) hI2 (xI1 hI hk) hf (fun _ => rfl) xk_cp_TG xk_cpN xk_cpS xk_cpI a 0 n rfl rfl hn (by omega) (by omega) (by omega) (by decide) (by decide) (by decide) dTG_keep_11 (fun H locs w => ?_)
  exact xd_vret C w hr hlk dTG_keep_14 rfl
set_option maxRecDepth 100000 in
set_option maxHeartbeats 4000000 in
theorem cTA_join (l : Launch) (D : va_G) (cA : Nat → ClassId) (tz : Nat) (I : List (Nat × Nat)) (ad : Nat → Nat → Nat) (σ : xMem) (t n : Nat) (x : Int32) (hI : xI I) (ht : t < 3) (hn : σ 2 t 1 = nI n) (h4 : n < 4) : xD l yTA_join bTA_join 2 none 1 [.ref (ad 2 t), .int x] D cA tz I ad σ none (xu3 (xu3 σ 3 t n x) 2 t 1 (nI (n + 1))) := by
  refine xd_of (by decide) (by simp [lg_sl, Value.category]) ?_
  intro p e s m args below meth c A ls C hr hlk hml hl w hz
  obtain ⟨hx, hb, hown, hts⟩ := id C
  have hl : lv_has ls 2 [(0, .ref (ad 2 t)), (1, .int x)] := hl
  refine lv_aload_n hx hb dTA_join_0 rfl (lv_at hl 0 rfl) ?_
  refine xg_TA_15 C w (xI2 hI (by omega)) dTA_join_1 ?_
  refine xn_eq (y := nI n) hn ?_
  refine lv_iconst (v := nI 4) hx hb dTA_join_4 xk_i4 ?_
  refine lv_icmp_ge hx hb dTA_join_5 rfl (fun hh1 => absurd hh1 (nI_ge (by omega) (by omega))) (fun hh1 => ?_)
  refine lv_aload_n hx hb dTA_join_8 rfl (lv_at hl 0 rfl) ?_
  refine xg_TA_9 C w (xI2 hI (by omega)) dTA_join_9 ?_
  refine lv_aload_n hx hb dTA_join_12 rfl (lv_at hl 0 rfl) ?_
  refine xg_TA_15 C w (xI2 hI (by omega)) dTA_join_13 ?_
  refine xn_eq (y := nI n) hn ?_
  refine lv_iload_n hx hb dTA_join_16 rfl (lv_at hl 1 rfl) ?_
  refine xs_iast C w (xI3 hI (by omega)) (fun _ => rfl) n rfl (by omega) (by decide) dTA_join_17 (fun H locs w => ?_)
  refine lv_aload_n hx hb dTA_join_18 rfl (lv_at hl 0 rfl) ?_
  refine lv_dup hx hb dTA_join_19 rfl ?_
  refine xg_TA_15 C w (xI2 hI (by omega)) dTA_join_20 ?_
  refine xn_eq (y := σ 2 t 1) (by simp [xu3, xw_u2, va_up]) ?_
  refine xn_eq (y := nI n) hn ?_
  refine lv_iconst (v := nI 1) hx hb dTA_join_23 xk_i1 ?_
  refine xn_add hx hb dTA_join_24 ?_
  refine xp_TA_15 C w (xI2 hI (by omega)) dTA_join_25 (fun H locs w => ?_)
  exact xd_vret C w hr hlk dTA_join_28 rfl
set_option maxRecDepth 100000 in
set_option maxHeartbeats 4000000 in
theorem cTA_leave (l : Launch) (D : va_G) (cA : Nat → ClassId) (tz : Nat) (I : List (Nat × Nat)) (ad : Nat → Nat → Nat) (σ : xMem) (t n : Nat) (hI : xI I) (ht : t < 3) (hn : σ 2 t 1 = nI (n + 1)) (h4 : n < 4) : xD l yTA_leave bTA_leave 2 (some .int) 1 [.ref (ad 2 t)] D cA tz I ad σ (some (.int (σ 3 t 0))) (xw_u2 (xu3 σ 2 t 1 (nI n)) 3 t (va_cpy (σ 3 t) (σ 3 t) 1 0 n)) := by
  refine xd_of (by decide) (by simp [lg_sl, Value.category]) ?_
  intro p e s m args below meth c A ls C hr hlk hml hl w hz
  obtain ⟨hx, hb, hown, hts⟩ := id C
  have hl : lv_has ls 2 [(0, .ref (ad 2 t))] := hl
  refine lv_aload_n hx hb dTA_leave_0 rfl (lv_at hl 0 rfl) ?_
  refine xg_TA_9 C w (xI2 hI (by omega)) dTA_leave_1 ?_
  refine lv_iconst (v := nI 0) hx hb dTA_leave_4 xk_i0 ?_
  refine xr_iald C w (xI3 hI (by omega)) rfl 0 rfl 0 rfl (by omega) (by decide) dTA_leave_5 ?_
  refine lv_istore_n (lv' := [(1, .int (σ 3 t 0)), (0, .ref (ad 2 t))]) hx hb dTA_leave_6 rfl hl (by decide) rfl (fun ls hl => ?_)
  refine lv_aload_n hx hb dTA_leave_7 rfl (lv_at hl 1 rfl) ?_
  refine xg_TA_15 C w (xI2 hI (by omega)) dTA_leave_8 ?_
  refine xn_eq (y := nI (n + 1)) hn ?_
  refine lv_if_le hx hb dTA_leave_11 rfl (fun hh1 => absurd hh1 (nI_nle (by omega) (by omega))) (fun hh1 => ?_)
  refine lv_aload_n hx hb dTA_leave_14 rfl (lv_at hl 1 rfl) ?_
  refine lv_dup hx hb dTA_leave_15 rfl ?_
  refine xg_TA_15 C w (xI2 hI (by omega)) dTA_leave_16 ?_
  refine xn_eq (y := nI (n + 1)) hn ?_
  refine lv_iconst (v := nI 1) hx hb dTA_leave_19 xk_i1 ?_
  refine xn_sub hx hb dTA_leave_20 (by omega) ?_
  refine xp_TA_15 C w (xI2 hI (by omega)) dTA_leave_21 (fun H locs w => ?_)
  refine lv_aload_n hx hb dTA_leave_24 rfl (lv_at hl 1 rfl) ?_
  refine xg_TA_9 C w (xI2 hI (by omega)) dTA_leave_25 ?_
  refine lv_iconst (v := nI 1) hx hb dTA_leave_28 xk_i1 ?_
  refine lv_aload_n hx hb dTA_leave_29 rfl (lv_at hl 1 rfl) ?_
  refine xg_TA_9 C w (xI2 hI (by omega)) dTA_leave_30 ?_
  refine lv_iconst (v := nI 0) hx hb dTA_leave_33 xk_i0 ?_
  refine lv_aload_n hx hb dTA_leave_34 rfl (lv_at hl 1 rfl) ?_
  refine xg_TA_15 C w (xI2 hI (by omega)) dTA_leave_35 ?_
  refine xn_eq (y := nI ((n + 1) - 1)) (by simp [xu3, xw_u2, va_up]) ?_
  refine xs_copy C w (hml.trans hl.1.symm) (xI3 hI ht) (xI3 hI ht) (fun _ => rfl) (fun _ => rfl) xk_cp_TA xk_cpN xk_cpS xk_cpI 1 0 n rfl rfl (by simp [xu3, xw_u2, va_up]) (by omega) (by omega) (by decide) (by decide) (by decide) (by decide) dTA_leave_38 (fun H locs w => ?_)
  refine lv_iload_n hx hb dTA_leave_41 rfl (lv_at hl 0 rfl) ?_
  exact xd_iret C w hr hlk dTA_leave_42 (rfl) rfl
set_option maxRecDepth 100000 in
set_option maxHeartbeats 4000000 in
theorem cSF_tagOf (l : Launch) (D : va_G) (cA : Nat → ClassId) (tz : Nat) (I : List (Nat × Nat)) (ad : Nat → Nat → Nat) (σ : xMem) (a b : Nat) (hI : xI I) (h6 : σ 6 0 0 = nI 16) (hab : 4 * a + b < 16) : xD l ySF_tagOf bSF_tagOf 3 (some (.object "SplitFabric$Tag")) 1 [.ref (ad 5 0), .int (nI a), .int (nI b)] D cA tz I ad σ (some (.ref (ad 0 (4 * a + b)))) σ := by
  refine xd_of (by decide) (by simp [lg_sl, Value.category]) ?_
  intro p e s m args below meth c A ls C hr hlk hml hl w hz
  obtain ⟨hx, hb, hown, hts⟩ := id C
  have hl : lv_has ls 3 [(0, .ref (ad 5 0)), (1, .int (nI a)), (2, .int (nI b))] := hl
  refine lv_aload_n hx hb dSF_tagOf_0 rfl (lv_at hl 0 rfl) ?_
  refine xg_SF_11 C w (xI5 hI) dSF_tagOf_1 ?_
  refine lv_iconst (v := nI 4) hx hb dSF_tagOf_4 xk_i4 ?_
  refine lv_iload_n hx hb dSF_tagOf_5 rfl (lv_at hl 1 rfl) ?_
  refine xn_mul hx hb dSF_tagOf_6 ?_
  refine lv_iload_n hx hb dSF_tagOf_7 rfl (lv_at hl 2 rfl) ?_
  refine xn_add hx hb dSF_tagOf_8 ?_
  refine xa_6 C w (xI6 hI) h6 ((4 * a) + b) rfl (by omega) dSF_tagOf_9 ?_
  exact xd_aret C w hr hlk dSF_tagOf_10 (Or.inr ⟨_, rfl⟩) (rfl) rfl
set_option maxRecDepth 100000 in
set_option maxHeartbeats 4000000 in
theorem cSF_targetOf (l : Launch) (D : va_G) (cA : Nat → ClassId) (tz : Nat) (I : List (Nat × Nat)) (ad : Nat → Nat → Nat) (σ : xMem) (k q : Nat) (hI : xI I) (h7 : σ 7 0 0 = nI 3) (hk : k < 16) (hq : σ 0 k 5 = nI q) (h48 : q < 48) : xD l ySF_targetOf bSF_targetOf 2 (some (.object "SplitFabric$Target")) 1 [.ref (ad 5 0), .ref (ad 0 k)] D cA tz I ad σ (some (.ref (ad 2 (q / 16)))) σ := by
  refine xd_of (by decide) (by simp [lg_sl, Value.category]) ?_
  intro p e s m args below meth c A ls C hr hlk hml hl w hz
  obtain ⟨hx, hb, hown, hts⟩ := id C
  have hl : lv_has ls 2 [(0, .ref (ad 5 0)), (1, .ref (ad 0 k))] := hl
  refine lv_aload_n hx hb dSF_targetOf_0 rfl (lv_at hl 0 rfl) ?_
  refine xg_SF_17 C w (xI5 hI) dSF_targetOf_1 ?_
  refine lv_aload_n hx hb dSF_targetOf_4 rfl (lv_at hl 1 rfl) ?_
  refine xg_SF_170 C w (xI0 hI (by omega)) dSF_targetOf_5 ?_
  refine xn_eq (y := nI q) hq ?_
  refine lv_bipush (v := nI 16) hx hb dSF_targetOf_8 xk_b16 ?_
  refine xn_div hx hb dSF_targetOf_10 (by omega) (by decide) (by decide) ?_
  refine xa_7 C w (xI7 hI) h7 (q / 16) rfl (by omega) dSF_targetOf_11 ?_
  exact xd_aret C w hr hlk dSF_targetOf_12 (Or.inr ⟨_, rfl⟩) (rfl) rfl
set_option maxRecDepth 100000 in
set_option maxHeartbeats 4000000 in
theorem cSF_classOf (l : Launch) (D : va_G) (cA : Nat → ClassId) (tz : Nat) (I : List (Nat × Nat)) (ad : Nat → Nat → Nat) (σ : xMem) (k : Nat) (hI : xI I) (hk : k < 16) (h0 : σ 0 k 0 = nI (k / 4)) : xD l ySF_classOf bSF_classOf 2 (some .int) 1 [.ref (ad 5 0), .ref (ad 0 k)] D cA tz I ad σ (some (.int (xf_class σ k))) σ := by
  refine xd_of (by decide) (by simp [lg_sl, Value.category]) ?_
  intro p e s m args below meth c A ls C hr hlk hml hl w hz
  obtain ⟨hx, hb, hown, hts⟩ := id C
  have hl : lv_has ls 2 [(0, .ref (ad 5 0)), (1, .ref (ad 0 k))] := hl
  refine lv_aload_n hx hb dSF_classOf_0 rfl (lv_at hl 0 rfl) ?_
  refine xg_SF_30 C w (xI5 hI) dSF_classOf_1 ?_
  refine lv_aload_n hx hb dSF_classOf_4 rfl (lv_at hl 1 rfl) ?_
  refine xg_SF_115 C w (xI0 hI (by omega)) dSF_classOf_5 ?_
  refine xn_eq (y := nI (k / 4)) h0 ?_
  refine xr_iald C w (xI10 hI) rfl 0 rfl (k / 4) rfl (by omega) (by decide) dSF_classOf_8 ?_
  refine lv_aload_n hx hb dSF_classOf_9 rfl (lv_at hl 1 rfl) ?_
  refine xg_SF_139 C w (xI0 hI (by omega)) dSF_classOf_10 ?_
  refine lv_bipush (v := nI 16) hx hb dSF_classOf_13 xk_b16 ?_
  refine lv_idiv hx hb dSF_classOf_15 (by decide) ?_
  refine lv_iadd hx hb dSF_classOf_16 ?_
  refine lv_iconst (v := nI 2) hx hb dSF_classOf_17 xk_i2 ?_
  refine va_mmin hx hb (hml.trans hl.1.symm) hown (hts _ xk_mnL) (hts _ xk_mnS) (hts _ xk_mnI) (hts _ xk_mnC) (by decide) (by decide) (by decide) (by decide) dSF_classOf_18 ?_
  exact xd_iret C w hr hlk dSF_classOf_21 (rfl) rfl
set_option maxRecDepth 100000 in
set_option maxHeartbeats 4000000 in
theorem cSF_holdsBack (l : Launch) (D : va_G) (cA : Nat → ClassId) (tz : Nat) (I : List (Nat × Nat)) (ad : Nat → Nat → Nat) (σ : xMem) (j k : Nat) (hI : xI I) (hj : j < 16) (hk : k < 16) : xD l ySF_holdsBack bSF_holdsBack 2 (some .boolean) 2 [.ref (ad 0 j), .ref (ad 0 k)] D cA tz I ad σ (some (.int (xb (xp_back σ j k)))) σ := by
  refine xd_of (by decide) (by simp [lg_sl, Value.category]) ?_
  intro p e s m args below meth c A ls C hr hlk hml hl w hz
  obtain ⟨hx, hb, hown, hts⟩ := id C
  have hl : lv_has ls 2 [(0, .ref (ad 0 j)), (1, .ref (ad 0 k))] := hl
  refine lv_aload_n hx hb dSF_holdsBack_0 rfl (lv_at hl 0 rfl) ?_
  refine xg_SF_173 C w (xI0 hI (by omega)) dSF_holdsBack_1 ?_
  refine lv_iconst (v := nI 4) hx hb dSF_holdsBack_4 xk_i4 ?_
  refine lv_icmp_eq hx hb dSF_holdsBack_5 rfl (fun hh1 => ?_) (fun hh1 => ?_)
  · skip
    refine lv_aload_n hx hb dSF_holdsBack_16 rfl (lv_at hl 0 rfl) ?_
    refine xd_callV C w hz hml hl.1 xk_SF_237 (cTG_isOpen l D cA tz I ad σ j hI hj) (xI0 hI (by omega)) rfl rfl rfl rfl (Nat.le_of_ble_eq_true rfl) (by decide) (by decide) dSF_holdsBack_17 (fun H locs w => ?_)
    refine W.eq (g2 := F0 m 20 ls [.int (xb (xp_open σ j))]) rfl ?_
    exact xd_zret C w hr hlk dSF_holdsBack_20 (xb_congr (by unfold xp_back; grind [nI_0])) rfl
  · skip
    refine lv_aload_n hx hb dSF_holdsBack_8 rfl (lv_at hl 1 rfl) ?_
    refine xg_SF_173 C w (xI0 hI (by omega)) dSF_holdsBack_9 ?_
    refine lv_iconst (v := nI 4) hx hb dSF_holdsBack_12 xk_i4 ?_
    refine lv_icmp_ne hx hb dSF_holdsBack_13 rfl (fun hh2 => ?_) (fun hh2 => ?_)
    · skip
      refine lv_aload_n hx hb dSF_holdsBack_21 rfl (lv_at hl 0 rfl) ?_
      refine xg_SF_68 C w (xI0 hI (by omega)) dSF_holdsBack_22 ?_
      refine lv_iconst (v := nI 1) hx hb dSF_holdsBack_25 xk_i1 ?_
      refine lv_icmp_ne hx hb dSF_holdsBack_26 rfl (fun hh3 => ?_) (fun hh3 => ?_)
      · skip
        refine lv_iconst (v := nI 0) hx hb dSF_holdsBack_41 xk_i0 ?_
        exact xd_zf C w hr hlk dSF_holdsBack_42 (by unfold xp_back; grind [nI_0]) rfl
      · skip
        refine lv_aload_n hx hb dSF_holdsBack_29 rfl (lv_at hl 0 rfl) ?_
        refine lv_aload_n hx hb dSF_holdsBack_30 rfl (lv_at hl 1 rfl) ?_
        refine xd_callV C w hz hml hl.1 xk_SF_240 (cTG_overlaps l D cA tz I ad σ j k hI hj hk) (xI0 hI (by omega)) rfl rfl rfl rfl (Nat.le_of_ble_eq_true rfl) (by decide) (by decide) dSF_holdsBack_31 (fun H locs w => ?_)
        refine W.eq (g2 := F0 m 34 ls [.int (xb (xp_over σ j k))]) rfl ?_
        refine xz_ifeq hx hb dSF_holdsBack_34 rfl (fun hh4 => ?_) (fun hh4 => ?_)
        · skip
          refine lv_iconst (v := nI 0) hx hb dSF_holdsBack_41 xk_i0 ?_
          exact xd_zf C w hr hlk dSF_holdsBack_42 (by unfold xp_back; grind [nI_0]) rfl
        · skip
          refine lv_iconst (v := nI 1) hx hb dSF_holdsBack_37 xk_i1 ?_
          refine lv_goto hx hb dSF_holdsBack_38 rfl ?_
          exact xd_zt C w hr hlk dSF_holdsBack_42 (by unfold xp_back; grind [nI_0]) rfl
    · skip
      refine lv_aload_n hx hb dSF_holdsBack_16 rfl (lv_at hl 0 rfl) ?_
      refine xd_callV C w hz hml hl.1 xk_SF_237 (cTG_isOpen l D cA tz I ad σ j hI hj) (xI0 hI (by omega)) rfl rfl rfl rfl (Nat.le_of_ble_eq_true rfl) (by decide) (by decide) dSF_holdsBack_17 (fun H locs w => ?_)
      refine W.eq (g2 := F0 m 20 ls [.int (xb (xp_open σ j))]) rfl ?_
      exact xd_zret C w hr hlk dSF_holdsBack_20 (xb_congr (by unfold xp_back; grind [nI_0])) rfl
set_option maxRecDepth 100000 in
set_option maxHeartbeats 4000000 in
theorem cSF_isAdmitted (l : Launch) (D : va_G) (cA : Nat → ClassId) (tz : Nat) (I : List (Nat × Nat)) (ad : Nat → Nat → Nat) (σ : xMem) (k q : Nat) (hI : xI I) (h7 : σ 7 0 0 = nI 3) (hk : k < 16) (hq : σ 0 k 5 = nI q) (h48 : q < 48) : xD l ySF_isAdmitted bSF_isAdmitted 4 (some .boolean) 2 [.ref (ad 5 0), .ref (ad 0 k)] D cA tz I ad σ (some (.int (xb (xp_adm σ k (q / 16))))) σ := by
  refine xd_of (by decide) (by simp [lg_sl, Value.category]) ?_
  intro p e s m args below meth c A ls C hr hlk hml hl w hz
  obtain ⟨hx, hb, hown, hts⟩ := id C
  have hl : lv_has ls 4 [(0, .ref (ad 5 0)), (1, .ref (ad 0 k))] := hl
  refine lv_aload_n hx hb dSF_isAdmitted_0 rfl (lv_at hl 0 rfl) ?_
  refine lv_aload_n hx hb dSF_isAdmitted_1 rfl (lv_at hl 1 rfl) ?_
  refine xd_callV C w hz hml hl.1 xk_SF_204 (cSF_targetOf l D cA tz I ad σ k q hI h7 hk hq h48) (xI5 hI) rfl rfl rfl rfl (Nat.le_of_ble_eq_true rfl) (by decide) (by decide) dSF_isAdmitted_2 (fun H locs w => ?_)
  refine W.eq (g2 := F0 m 5 ls [.ref (ad 2 (q / 16))]) rfl ?_
  refine lv_astore_n (lv' := [(2, .ref (ad 2 (q / 16))), (0, .ref (ad 5 0)), (1, .ref (ad 0 k))]) hx hb dSF_isAdmitted_5 rfl hl (by decide) rfl (fun ls hl => ?_)
  refine lv_aload_n hx hb dSF_isAdmitted_6 rfl (lv_at hl 2 rfl) ?_
  refine xg_SF_173 C w (xI0 hI (by omega)) dSF_isAdmitted_7 ?_
  refine lv_iconst (v := nI 3) hx hb dSF_isAdmitted_10 xk_i3 ?_
  refine lv_icmp_ne hx hb dSF_isAdmitted_11 rfl (fun hh1 => ?_) (fun hh1 => ?_)
  · skip
    refine lv_iconst (v := nI 0) hx hb dSF_isAdmitted_29 xk_i0 ?_
    refine lv_istore_n (lv' := [(3, .int (nI 0)), (2, .ref (ad 2 (q / 16))), (0, .ref (ad 5 0)), (1, .ref (ad 0 k))]) hx hb dSF_isAdmitted_30 rfl hl (by decide) rfl (fun ls hl => ?_)
    refine lv_aload_n hx hb dSF_isAdmitted_31 rfl (lv_at hl 1 rfl) ?_
    refine xg_SF_145 C w (xI2 hI (by omega)) dSF_isAdmitted_32 ?_
    refine lv_if_le hx hb dSF_isAdmitted_35 rfl (fun hh2 => ?_) (fun hh2 => ?_)
    · skip
      refine lv_iconst (v := nI 0) hx hb dSF_isAdmitted_54 xk_i0 ?_
      exact xd_zf C w hr hlk dSF_isAdmitted_55 (by unfold xp_adm; grind [nI_0]) rfl
    · skip
      refine lv_aload_n hx hb dSF_isAdmitted_38 rfl (lv_at hl 1 rfl) ?_
      refine xg_SF_142 C w (xI2 hI (by omega)) dSF_isAdmitted_39 ?_
      refine lv_iconst (v := -1) hx hb dSF_isAdmitted_42 xk_im1 ?_
      refine lv_icmp_eq hx hb dSF_isAdmitted_43 rfl (fun hh3 => ?_) (fun hh3 => ?_)
      · skip
        refine lv_iconst (v := nI 1) hx hb dSF_isAdmitted_50 xk_i1 ?_
        refine lv_goto hx hb dSF_isAdmitted_51 rfl ?_
        exact xd_zt C w hr hlk dSF_isAdmitted_55 (by unfold xp_adm; grind [nI_0]) rfl
      · skip
        refine lv_iload_n hx hb dSF_isAdmitted_46 rfl (lv_at hl 0 rfl) ?_
        refine lv_if_eq hx hb dSF_isAdmitted_47 rfl (fun _ => ?_) (fun hq => absurd nI_0 hq)
        refine lv_iconst (v := nI 0) hx hb dSF_isAdmitted_54 xk_i0 ?_
        exact xd_zf C w hr hlk dSF_isAdmitted_55 (by unfold xp_adm; grind [nI_0]) rfl
  · skip
    refine lv_aload_n hx hb dSF_isAdmitted_14 rfl (lv_at hl 0 rfl) ?_
    refine xg_SF_142 C w (xI2 hI (by omega)) dSF_isAdmitted_15 ?_
    refine lv_aload_n hx hb dSF_isAdmitted_18 rfl (lv_at hl 2 rfl) ?_
    refine xg_SF_115 C w (xI0 hI (by omega)) dSF_isAdmitted_19 ?_
    refine lv_icmp_ne hx hb dSF_isAdmitted_22 rfl (fun hh4 => ?_) (fun hh4 => ?_)
    · skip
      refine lv_iconst (v := nI 0) hx hb dSF_isAdmitted_29 xk_i0 ?_
      refine lv_istore_n (lv' := [(3, .int (nI 0)), (2, .ref (ad 2 (q / 16))), (0, .ref (ad 5 0)), (1, .ref (ad 0 k))]) hx hb dSF_isAdmitted_30 rfl hl (by decide) rfl (fun ls hl => ?_)
      refine lv_aload_n hx hb dSF_isAdmitted_31 rfl (lv_at hl 1 rfl) ?_
      refine xg_SF_145 C w (xI2 hI (by omega)) dSF_isAdmitted_32 ?_
      refine lv_if_le hx hb dSF_isAdmitted_35 rfl (fun hh5 => ?_) (fun hh5 => ?_)
      · skip
        refine lv_iconst (v := nI 0) hx hb dSF_isAdmitted_54 xk_i0 ?_
        exact xd_zf C w hr hlk dSF_isAdmitted_55 (by unfold xp_adm; grind [nI_0]) rfl
      · skip
        refine lv_aload_n hx hb dSF_isAdmitted_38 rfl (lv_at hl 1 rfl) ?_
        refine xg_SF_142 C w (xI2 hI (by omega)) dSF_isAdmitted_39 ?_
        refine lv_iconst (v := -1) hx hb dSF_isAdmitted_42 xk_im1 ?_
        refine lv_icmp_eq hx hb dSF_isAdmitted_43 rfl (fun hh6 => ?_) (fun hh6 => ?_)
        · skip
          refine lv_iconst (v := nI 1) hx hb dSF_isAdmitted_50 xk_i1 ?_
          refine lv_goto hx hb dSF_isAdmitted_51 rfl ?_
          exact xd_zt C w hr hlk dSF_isAdmitted_55 (by unfold xp_adm; grind [nI_0]) rfl
        · skip
          refine lv_iload_n hx hb dSF_isAdmitted_46 rfl (lv_at hl 0 rfl) ?_
          refine lv_if_eq hx hb dSF_isAdmitted_47 rfl (fun _ => ?_) (fun hq => absurd nI_0 hq)
          refine lv_iconst (v := nI 0) hx hb dSF_isAdmitted_54 xk_i0 ?_
          exact xd_zf C w hr hlk dSF_isAdmitted_55 (by unfold xp_adm; grind [nI_0]) rfl
    · skip
      refine lv_iconst (v := nI 1) hx hb dSF_isAdmitted_25 xk_i1 ?_
      refine lv_goto hx hb dSF_isAdmitted_26 rfl ?_
      refine lv_istore_n (lv' := [(3, .int (nI 1)), (2, .ref (ad 2 (q / 16))), (0, .ref (ad 5 0)), (1, .ref (ad 0 k))]) hx hb dSF_isAdmitted_30 rfl hl (by decide) rfl (fun ls hl => ?_)
      refine lv_aload_n hx hb dSF_isAdmitted_31 rfl (lv_at hl 1 rfl) ?_
      refine xg_SF_145 C w (xI2 hI (by omega)) dSF_isAdmitted_32 ?_
      refine lv_if_le hx hb dSF_isAdmitted_35 rfl (fun hh7 => ?_) (fun hh7 => ?_)
      · skip
        refine lv_iconst (v := nI 0) hx hb dSF_isAdmitted_54 xk_i0 ?_
        exact xd_zf C w hr hlk dSF_isAdmitted_55 (by unfold xp_adm; grind [nI_0]) rfl
      · skip
        refine lv_aload_n hx hb dSF_isAdmitted_38 rfl (lv_at hl 1 rfl) ?_
        refine xg_SF_142 C w (xI2 hI (by omega)) dSF_isAdmitted_39 ?_
        refine lv_iconst (v := -1) hx hb dSF_isAdmitted_42 xk_im1 ?_
        refine lv_icmp_eq hx hb dSF_isAdmitted_43 rfl (fun hh8 => ?_) (fun hh8 => ?_)
        · skip
          refine lv_iconst (v := nI 1) hx hb dSF_isAdmitted_50 xk_i1 ?_
          refine lv_goto hx hb dSF_isAdmitted_51 rfl ?_
          exact xd_zt C w hr hlk dSF_isAdmitted_55 (by unfold xp_adm; grind [nI_0]) rfl
        · skip
          refine lv_iload_n hx hb dSF_isAdmitted_46 rfl (lv_at hl 0 rfl) ?_
          refine lv_if_eq hx hb dSF_isAdmitted_47 rfl (fun hq => absurd hq (by decide)) (fun _ => ?_)
          refine lv_iconst (v := nI 1) hx hb dSF_isAdmitted_50 xk_i1 ?_
          refine lv_goto hx hb dSF_isAdmitted_51 rfl ?_
          exact xd_zt C w hr hlk dSF_isAdmitted_55 (by unfold xp_adm; grind [nI_0]) rfl
set_option maxRecDepth 100000 in
set_option maxHeartbeats 4000000 in
theorem cSF_goesBefore (l : Launch) (D : va_G) (cA : Nat → ClassId) (tz : Nat) (I : List (Nat × Nat)) (ad : Nat → Nat → Nat) (σ : xMem) (k b : Nat) (hI : xI I) (hk : k < 16) (hb16 : b < 16) (h0 : σ 0 k 0 = nI (k / 4)) (h0b : σ 0 b 0 = nI (b / 4)) : xD l ySF_goesBefore bSF_goesBefore 4 (some .boolean) 2 [.ref (ad 5 0), .ref (ad 0 k), .ref (ad 0 b)] D cA tz I ad σ (some (.int (xb (xp_goes σ k b)))) σ := by
  refine xd_of (by decide) (by simp [lg_sl, Value.category]) ?_
  intro p e s m args below meth c A ls C hr hlk hml hl w hz
  obtain ⟨hx, hb, hown, hts⟩ := id C
  have hl : lv_has ls 4 [(0, .ref (ad 5 0)), (1, .ref (ad 0 k)), (2, .ref (ad 0 b))] := hl
  refine lv_aload_n hx hb dSF_goesBefore_0 rfl (lv_at hl 0 rfl) ?_
  refine lv_aload_n hx hb dSF_goesBefore_1 rfl (lv_at hl 1 rfl) ?_
  refine xd_callV C w hz hml hl.1 xk_SF_218 (cSF_classOf l D cA tz I ad σ k hI hk h0) (xI5 hI) rfl rfl rfl rfl (Nat.le_of_ble_eq_true rfl) (by decide) (by decide) dSF_goesBefore_2 (fun H locs w => ?_)
  refine W.eq (g2 := F0 m 5 ls [.int (xf_class σ k)]) rfl ?_
  refine lv_aload_n hx hb dSF_goesBefore_5 rfl (lv_at hl 0 rfl) ?_
  refine lv_aload_n hx hb dSF_goesBefore_6 rfl (lv_at hl 2 rfl) ?_
  refine xd_callV C w hz hml hl.1 xk_SF_218 (cSF_classOf l D cA tz I ad σ b hI hb16 h0b) (xI5 hI) rfl rfl rfl rfl (Nat.le_of_ble_eq_true rfl) (by decide) (by decide) dSF_goesBefore_7 (fun H locs w => ?_)
  refine W.eq (g2 := F0 m 10 ls [.int (xf_class σ b), .int (xf_class σ k)]) rfl ?_
  refine lv_isub hx hb dSF_goesBefore_10 ?_
  refine lv_istore_n (lv' := [(3, .int ((xf_class σ k) - (xf_class σ b))), (0, .ref (ad 5 0)), (1, .ref (ad 0 k)), (2, .ref (ad 0 b))]) hx hb dSF_goesBefore_11 rfl hl (by decide) rfl (fun ls hl => ?_)
  refine lv_iload_n hx hb dSF_goesBefore_12 rfl (lv_at hl 0 rfl) ?_
  refine lv_if_gt hx hb dSF_goesBefore_13 rfl (fun hh1 => ?_) (fun hh1 => ?_)
  · skip
    refine lv_iconst (v := nI 1) hx hb dSF_goesBefore_39 xk_i1 ?_
    refine lv_goto hx hb dSF_goesBefore_40 rfl ?_
    exact xd_zt C w hr hlk dSF_goesBefore_44 (by unfold xp_goes; grind [nI_0]) rfl
  · skip
    refine lv_iload_n hx hb dSF_goesBefore_16 rfl (lv_at hl 0 rfl) ?_
    refine lv_if_ne hx hb dSF_goesBefore_17 rfl (fun hh2 => ?_) (fun hh2 => ?_)
    · skip
      refine lv_iconst (v := nI 0) hx hb dSF_goesBefore_43 xk_i0 ?_
      exact xd_zf C w hr hlk dSF_goesBefore_44 (by unfold xp_goes; grind [nI_0]) rfl
    · skip
      refine lv_aload_n hx hb dSF_goesBefore_20 rfl (lv_at hl 2 rfl) ?_
      refine xg_SF_115 C w (xI0 hI (by omega)) dSF_goesBefore_21 ?_
      refine lv_aload_n hx hb dSF_goesBefore_24 rfl (lv_at hl 3 rfl) ?_
      refine xg_SF_115 C w (xI0 hI (by omega)) dSF_goesBefore_25 ?_
      refine lv_icmp_ne hx hb dSF_goesBefore_28 rfl (fun hh3 => ?_) (fun hh3 => ?_)
      · skip
        refine lv_iconst (v := nI 0) hx hb dSF_goesBefore_43 xk_i0 ?_
        exact xd_zf C w hr hlk dSF_goesBefore_44 (by unfold xp_goes; grind [nI_0]) rfl
      · skip
        refine lv_aload_n hx hb dSF_goesBefore_31 rfl (lv_at hl 2 rfl) ?_
        refine lv_aload_n hx hb dSF_goesBefore_32 rfl (lv_at hl 3 rfl) ?_
        refine xd_callV C w hz hml hl.1 xk_SF_135 (cTG_isBefore l D cA tz I ad σ k b hI hk hb16) (xI0 hI (by omega)) rfl rfl rfl rfl (Nat.le_of_ble_eq_true rfl) (by decide) (by decide) dSF_goesBefore_33 (fun H locs w => ?_)
        refine W.eq (g2 := F0 m 36 ls [.int (xb (xp_ord σ k b))]) rfl ?_
        refine xz_ifeq hx hb dSF_goesBefore_36 rfl (fun hh4 => ?_) (fun hh4 => ?_)
        · skip
          refine lv_iconst (v := nI 0) hx hb dSF_goesBefore_43 xk_i0 ?_
          exact xd_zf C w hr hlk dSF_goesBefore_44 (by unfold xp_goes; grind [nI_0]) rfl
        · skip
          refine lv_iconst (v := nI 1) hx hb dSF_goesBefore_39 xk_i1 ?_
          refine lv_goto hx hb dSF_goesBefore_40 rfl ?_
          exact xd_zt C w hr hlk dSF_goesBefore_44 (by unfold xp_goes; grind [nI_0]) rfl
set_option maxRecDepth 100000 in
set_option maxHeartbeats 4000000 in
theorem cSF_holdsSome (l : Launch) (D : va_G) (cA : Nat → ClassId) (tz : Nat) (I : List (Nat × Nat)) (ad : Nat → Nat → Nat) (σ : xMem) (x : Int32) (hI : xI I) (h7 : σ 7 0 0 = nI 3) : xD l ySF_holdsSome bSF_holdsSome 3 (some .boolean) 1 [.ref (ad 5 0), .int x] D cA tz I ad σ (some (.int (xb (xp_some σ x)))) σ := by
  refine xd_of (by decide) (by simp [lg_sl, Value.category]) ?_
  intro p e s m args below meth c A ls C hr hlk hml hl w hz
  obtain ⟨hx, hb, hown, hts⟩ := id C
  have hl : lv_has ls 3 [(0, .ref (ad 5 0)), (1, .int x)] := hl
  refine lv_iconst (v := nI 0) hx hb dSF_holdsSome_0 xk_i0 ?_
  refine lv_istore_n (lv' := [(2, .int (nI 0)), (0, .ref (ad 5 0)), (1, .int x)]) hx hb dSF_holdsSome_1 rfl hl (by decide) rfl (fun ls hl => ?_)
  refine xl_up (Wg := fun H locs ls => W p l e _ s m args below meth c H locs _ _ _ (F0 m 2 ls [])) (K := fun i H locs ls => xr_W xCl (xT cA) D I ad (xc cA tz ad σ) A s H locs ∧ lv_has ls 3 [(0, .ref (ad 5 0)), (1, .int x), (2, .int (nI i))] ∧ (∀ j, j < i → ¬ σ 2 j 3 = x)) 3 ?_ ?_ 0 _ _ _ (by omega) ⟨w, lv_sub hl [1, 2, 0] rfl, xl_0⟩
  · skip
    intro H locs ls ⟨w, hl, hn⟩
    refine lv_iload_n hx hb dSF_holdsSome_2 rfl (lv_at hl 2 rfl) ?_
    refine lv_iconst (v := nI 3) hx hb dSF_holdsSome_3 xk_i3 ?_
    refine lv_icmp_ge hx hb dSF_holdsSome_4 rfl (fun _ => ?_) (fun hq => absurd (nI_le (by omega) (by omega)) hq)
    refine lv_iconst (v := nI 0) hx hb dSF_holdsSome_28 xk_i0 ?_
    exact xd_zf C w hr hlk dSF_holdsSome_29 (by rintro ⟨t, ht, h⟩; exact hn t ht h) rfl
  · skip
    intro i H locs ls hii ⟨w, hl, hn⟩ ihi
    refine lv_iload_n hx hb dSF_holdsSome_2 rfl (lv_at hl 2 rfl) ?_
    refine lv_iconst (v := nI 3) hx hb dSF_holdsSome_3 xk_i3 ?_
    refine lv_icmp_ge hx hb dSF_holdsSome_4 rfl (fun hq => absurd hq (nI_ge (by omega) (by omega))) (fun _ => ?_)
    refine lv_aload_n hx hb dSF_holdsSome_7 rfl (lv_at hl 0 rfl) ?_
    refine xg_SF_17 C w (xI5 hI) dSF_holdsSome_8 ?_
    refine lv_iload_n hx hb dSF_holdsSome_11 rfl (lv_at hl 2 rfl) ?_
    refine xa_7 C w (xI7 hI) h7 i rfl (by omega) dSF_holdsSome_12 ?_
    refine xg_SF_142 C w (xI2 hI (by omega)) dSF_holdsSome_13 ?_
    refine lv_iload_n hx hb dSF_holdsSome_16 rfl (lv_at hl 1 rfl) ?_
    refine lv_icmp_ne hx hb dSF_holdsSome_17 rfl (fun hh1 => ?_) (fun hh1 => ?_)
    · skip
      refine lv_iinc (lv' := [(2, .int (nI (i + 1))), (0, .ref (ad 5 0)), (1, .int x)]) hx hb dSF_holdsSome_22 hl (k := 2) rfl (xn_inc _) (by decide) rfl (fun ls hl => ?_)
      refine lv_goto hx hb dSF_holdsSome_25 rfl ?_
      exact ihi _ _ _ ⟨w, lv_sub hl [1, 2, 0] rfl, xl_s hn (by grind)⟩
    · skip
      refine lv_iconst (v := nI 1) hx hb dSF_holdsSome_20 xk_i1 ?_
      exact xd_zt C w hr hlk dSF_holdsSome_21 (⟨i, by omega, by grind⟩) rfl
set_option maxRecDepth 100000 in
set_option maxHeartbeats 4000000 in
theorem cSF_holdsTargetOf (l : Launch) (D : va_G) (cA : Nat → ClassId) (tz : Nat) (I : List (Nat × Nat)) (ad : Nat → Nat → Nat) (σ : xMem) (x : Int32) (q : Nat) (hI : xI I) (h7 : σ 7 0 0 = nI 3) (h64 : q < 64) : xD l ySF_holdsTargetOf bSF_holdsTargetOf 3 (some .boolean) 1 [.ref (ad 5 0), .int x, .int (nI q)] D cA tz I ad σ (some (.int (xb (q < 48 ∧ σ 2 (q / 16) 3 = x)))) σ := by
  refine xd_of (by decide) (by simp [lg_sl, Value.category]) ?_
  intro p e s m args below meth c A ls C hr hlk hml hl w hz
  obtain ⟨hx, hb, hown, hts⟩ := id C
  have hl : lv_has ls 3 [(0, .ref (ad 5 0)), (1, .int x), (2, .int (nI q))] := hl
  refine lv_iload_n hx hb dSF_holdsTargetOf_0 rfl (lv_at hl 2 rfl) ?_
  refine lv_bipush (v := nI 48) hx hb dSF_holdsTargetOf_1 xk_b48 ?_
  refine lv_icmp_ge hx hb dSF_holdsTargetOf_3 rfl (fun hh1 => ?_) (fun hh1 => ?_)
  · skip
    refine lv_iconst (v := nI 0) hx hb dSF_holdsTargetOf_26 xk_i0 ?_
    exact xd_zf C w hr hlk dSF_holdsTargetOf_27 (by grind [nI_leI]) rfl
  · skip
    have h48 : q < 48 := Nat.not_le.mp (fun z => hh1 (nI_le z (by omega)))
    refine lv_aload_n hx hb dSF_holdsTargetOf_6 rfl (lv_at hl 0 rfl) ?_
    refine xg_SF_17 C w (xI5 hI) dSF_holdsTargetOf_7 ?_
    refine lv_iload_n hx hb dSF_holdsTargetOf_10 rfl (lv_at hl 2 rfl) ?_
    refine lv_bipush (v := nI 16) hx hb dSF_holdsTargetOf_11 xk_b16 ?_
    refine xn_div hx hb dSF_holdsTargetOf_13 (by omega) (by decide) (by decide) ?_
    refine xa_7 C w (xI7 hI) h7 (q / 16) rfl (by omega) dSF_holdsTargetOf_14 ?_
    refine xg_SF_142 C w (xI2 hI (by omega)) dSF_holdsTargetOf_15 ?_
    refine lv_iload_n hx hb dSF_holdsTargetOf_18 rfl (lv_at hl 1 rfl) ?_
    refine lv_icmp_ne hx hb dSF_holdsTargetOf_19 rfl (fun hh2 => ?_) (fun hh2 => ?_)
    · skip
      refine lv_iconst (v := nI 0) hx hb dSF_holdsTargetOf_26 xk_i0 ?_
      exact xd_zf C w hr hlk dSF_holdsTargetOf_27 (by grind [nI_leI]) rfl
    · skip
      refine lv_iconst (v := nI 1) hx hb dSF_holdsTargetOf_22 xk_i1 ?_
      refine lv_goto hx hb dSF_holdsTargetOf_23 rfl ?_
      exact xd_zt C w hr hlk dSF_holdsTargetOf_27 (by grind [nI_leI]) rfl
set_option maxRecDepth 100000 in
set_option maxHeartbeats 4000000 in
theorem cSF_hasWaiting (l : Launch) (D : va_G) (cA : Nat → ClassId) (tz : Nat) (I : List (Nat × Nat)) (ad : Nat → Nat → Nat) (σ : xMem) (a : Nat) (x : Int32) (hI : xI I) (h6 : σ 6 0 0 = nI 16) (ha : a < 4) : xD l ySF_hasWaiting bSF_hasWaiting 5 (some .boolean) 2 [.ref (ad 5 0), .int (nI a), .int x] D cA tz I ad σ (some (.int (xb (xp_wait σ a x)))) σ := by
  refine xd_of (by decide) (by simp [lg_sl, Value.category]) ?_
  intro p e s m args below meth c A ls C hr hlk hml hl w hz
  obtain ⟨hx, hb, hown, hts⟩ := id C
  have hl : lv_has ls 5 [(0, .ref (ad 5 0)), (1, .int (nI a)), (2, .int x)] := hl
  refine lv_iconst (v := nI 0) hx hb dSF_hasWaiting_0 xk_i0 ?_
  refine lv_istore_n (lv' := [(3, .int (nI 0)), (0, .ref (ad 5 0)), (1, .int (nI a)), (2, .int x)]) hx hb dSF_hasWaiting_1 rfl hl (by decide) rfl (fun ls hl => ?_)
  refine xl_up (Wg := fun H locs ls => W p l e _ s m args below meth c H locs _ _ _ (F0 m 2 ls [])) (K := fun i H locs ls => xr_W xCl (xT cA) D I ad (xc cA tz ad σ) A s H locs ∧ lv_has ls 5 [(0, .ref (ad 5 0)), (1, .int (nI a)), (2, .int x), (3, .int (nI i))] ∧ (∀ j, j < i → ¬ (σ 0 (4 * a + j) 3 = nI 1 ∧ σ 0 (4 * a + j) 4 = x))) 4 ?_ ?_ 0 _ _ _ (by omega) ⟨w, lv_sub hl [1, 2, 3, 0] rfl, xl_0⟩
  · skip
    intro H locs ls ⟨w, hl, hn⟩
    refine lv_iload_n hx hb dSF_hasWaiting_2 rfl (lv_at hl 3 rfl) ?_
    refine lv_iconst (v := nI 4) hx hb dSF_hasWaiting_3 xk_i4 ?_
    refine lv_icmp_ge hx hb dSF_hasWaiting_4 rfl (fun _ => ?_) (fun hq => absurd (nI_le (by omega) (by omega)) hq)
    refine lv_iconst (v := nI 0) hx hb dSF_hasWaiting_41 xk_i0 ?_
    exact xd_zf C w hr hlk dSF_hasWaiting_42 (by rintro ⟨t, ht, h⟩; exact hn t ht h) rfl
  · skip
    intro i H locs ls hii ⟨w, hl, hn⟩ ihi
    refine lv_iload_n hx hb dSF_hasWaiting_2 rfl (lv_at hl 3 rfl) ?_
    refine lv_iconst (v := nI 4) hx hb dSF_hasWaiting_3 xk_i4 ?_
    refine lv_icmp_ge hx hb dSF_hasWaiting_4 rfl (fun hq => absurd hq (nI_ge (by omega) (by omega))) (fun _ => ?_)
    refine lv_aload_n hx hb dSF_hasWaiting_7 rfl (lv_at hl 0 rfl) ?_
    refine lv_iload_n hx hb dSF_hasWaiting_8 rfl (lv_at hl 1 rfl) ?_
    refine lv_iload_n hx hb dSF_hasWaiting_9 rfl (lv_at hl 3 rfl) ?_
    refine xd_callV C w hz hml hl.1 xk_SF_64 (cSF_tagOf l D cA tz I ad σ a i hI h6 (by omega)) (xI5 hI) rfl rfl rfl rfl (Nat.le_of_ble_eq_true rfl) (by decide) (by decide) dSF_hasWaiting_10 (fun H locs w => ?_)
    refine W.eq (g2 := F0 m 13 ls [.ref (ad 0 (4 * a + i))]) rfl ?_
    refine lv_astore (lv' := [(4, .ref (ad 0 (4 * a + i))), (0, .ref (ad 5 0)), (1, .int (nI a)), (2, .int x), (3, .int (nI i))]) hx hb dSF_hasWaiting_13 hl (by decide) rfl (fun ls hl => ?_)
    refine lv_aload hx hb dSF_hasWaiting_15 (lv_at hl 0 rfl) ?_
    refine xg_SF_68 C w (xI0 hI (by omega)) dSF_hasWaiting_17 ?_
    refine lv_iconst (v := nI 1) hx hb dSF_hasWaiting_20 xk_i1 ?_
    refine lv_icmp_ne hx hb dSF_hasWaiting_21 rfl (fun hh1 => ?_) (fun hh1 => ?_)
    · skip
      refine lv_iinc (lv' := [(3, .int (nI (i + 1))), (4, .ref (ad 0 (4 * a + i))), (0, .ref (ad 5 0)), (1, .int (nI a)), (2, .int x)]) hx hb dSF_hasWaiting_35 hl (k := 4) rfl (xn_inc _) (by decide) rfl (fun ls hl => ?_)
      refine lv_goto hx hb dSF_hasWaiting_38 rfl ?_
      exact ihi _ _ _ ⟨w, lv_sub hl [2, 3, 4, 0] rfl, xl_s hn (by grind)⟩
    · skip
      refine lv_aload hx hb dSF_hasWaiting_24 (lv_at hl 0 rfl) ?_
      refine xg_SF_173 C w (xI0 hI (by omega)) dSF_hasWaiting_26 ?_
      refine lv_iload_n hx hb dSF_hasWaiting_29 rfl (lv_at hl 3 rfl) ?_
      refine lv_icmp_ne hx hb dSF_hasWaiting_30 rfl (fun hh2 => ?_) (fun hh2 => ?_)
      · skip
        refine lv_iinc (lv' := [(3, .int (nI (i + 1))), (4, .ref (ad 0 (4 * a + i))), (0, .ref (ad 5 0)), (1, .int (nI a)), (2, .int x)]) hx hb dSF_hasWaiting_35 hl (k := 4) rfl (xn_inc _) (by decide) rfl (fun ls hl => ?_)
        refine lv_goto hx hb dSF_hasWaiting_38 rfl ?_
        exact ihi _ _ _ ⟨w, lv_sub hl [2, 3, 4, 0] rfl, xl_s hn (by grind)⟩
      · skip
        refine lv_iconst (v := nI 1) hx hb dSF_hasWaiting_33 xk_i1 ?_
        exact xd_zt C w hr hlk dSF_hasWaiting_34 (⟨i, by omega, by grind⟩) rfl
set_option maxRecDepth 100000 in
set_option maxHeartbeats 4000000 in
theorem cSF_isEligible (l : Launch) (D : va_G) (cA : Nat → ClassId) (tz : Nat) (I : List (Nat × Nat)) (ad : Nat → Nat → Nat) (σ : xMem) (k q : Nat) (hI : xI I) (h6 : σ 6 0 0 = nI 16) (h7 : σ 7 0 0 = nI 3) (hk : k < 16) (h0 : σ 0 k 0 = nI (k / 4)) (hq : σ 0 k 5 = nI q) (h64 : q < 64) : xD l ySF_isEligible bSF_isEligible 4 (some .boolean) 3 [.ref (ad 5 0), .ref (ad 0 k)] D cA tz I ad σ (some (.int (xb (xp_elig σ k)))) σ := by
  refine xd_of (by decide) (by simp [lg_sl, Value.category]) ?_
  intro p e s m args below meth c A ls C hr hlk hml hl w hz
  obtain ⟨hx, hb, hown, hts⟩ := id C
  have hl : lv_has ls 4 [(0, .ref (ad 5 0)), (1, .ref (ad 0 k))] := hl
  refine lv_aload_n hx hb dSF_isEligible_0 rfl (lv_at hl 1 rfl) ?_
  refine xg_SF_68 C w (xI0 hI (by omega)) dSF_isEligible_1 ?_
  refine lv_iconst (v := nI 1) hx hb dSF_isEligible_4 xk_i1 ?_
  refine lv_icmp_eq hx hb dSF_isEligible_5 rfl (fun hh1 => ?_) (fun hh1 => ?_)
  · skip
    refine lv_iconst (v := nI 0) hx hb dSF_isEligible_10 xk_i0 ?_
    refine lv_istore_n (lv' := [(2, .int (nI 0)), (0, .ref (ad 5 0)), (1, .ref (ad 0 k))]) hx hb dSF_isEligible_11 rfl hl (by decide) rfl (fun ls hl => ?_)
    refine xl_up (Wg := fun H locs ls => W p l e _ s m args below meth c H locs _ _ _ (F0 m 12 ls [])) (K := fun i H locs ls => xr_W xCl (xT cA) D I ad (xc cA tz ad σ) A s H locs ∧ lv_has ls 4 [(0, .ref (ad 5 0)), (1, .ref (ad 0 k)), (2, .int (nI i))] ∧ (∀ j, j < i → ¬ (xp_ord σ (4 * (k / 4) + j) k ∧ xp_back σ (4 * (k / 4) + j) k))) 4 ?_ ?_ 0 _ _ _ (by omega) ⟨w, lv_sub hl [1, 2, 0] rfl, xl_0⟩
    · skip
      intro H locs ls ⟨w, hl, hn⟩
      refine lv_iload_n hx hb dSF_isEligible_12 rfl (lv_at hl 2 rfl) ?_
      refine lv_iconst (v := nI 4) hx hb dSF_isEligible_13 xk_i4 ?_
      refine lv_icmp_ge hx hb dSF_isEligible_14 rfl (fun _ => ?_) (fun hq => absurd (nI_le (by omega) (by omega)) hq)
      refine lv_aload_n hx hb dSF_isEligible_51 rfl (lv_at hl 1 rfl) ?_
      refine xg_SF_173 C w (xI0 hI (by omega)) dSF_isEligible_52 ?_
      refine lv_iconst (v := nI 4) hx hb dSF_isEligible_55 xk_i4 ?_
      refine lv_icmp_eq hx hb dSF_isEligible_56 rfl (fun hh2 => ?_) (fun hh2 => ?_)
      · skip
        refine lv_iconst (v := nI 1) hx hb dSF_isEligible_74 xk_i1 ?_
        refine lv_goto hx hb dSF_isEligible_75 rfl ?_
        exact xd_zt C w hr hlk dSF_isEligible_79 (by have ht := xf_tgt_of hq h64; unfold xp_elig; grind [nI_0]) rfl
      · skip
        refine lv_aload_n hx hb dSF_isEligible_59 rfl (lv_at hl 1 rfl) ?_
        refine xd_callV C w hz hml hl.1 xk_SF_231 (cTG_isUnmapped l D cA tz I ad σ k hI hk) (xI0 hI (by omega)) rfl rfl rfl rfl (Nat.le_of_ble_eq_true rfl) (by decide) (by decide) dSF_isEligible_60 (fun H locs w => ?_)
        refine W.eq (g2 := F0 m 63 ls [.int (xb (xp_unm σ k))]) rfl ?_
        refine xz_ifne hx hb dSF_isEligible_63 rfl (fun hh3 => ?_) (fun hh3 => ?_)
        · skip
          refine lv_iconst (v := nI 1) hx hb dSF_isEligible_74 xk_i1 ?_
          refine lv_goto hx hb dSF_isEligible_75 rfl ?_
          exact xd_zt C w hr hlk dSF_isEligible_79 (by have ht := xf_tgt_of hq h64; unfold xp_elig; grind [nI_0]) rfl
        · skip
          have h48 : q < 48 := by
            by_cases h : q < 48
            · exact h
            · exact absurd (show xp_unm σ k by unfold xp_unm; rw [hq]; exact nI_le (by omega) (by omega)) hh3
          refine lv_aload_n hx hb dSF_isEligible_66 rfl (lv_at hl 0 rfl) ?_
          refine lv_aload_n hx hb dSF_isEligible_67 rfl (lv_at hl 1 rfl) ?_
          refine xd_callV C w hz hml hl.1 xk_SF_234 (cSF_isAdmitted l D cA tz I ad σ k q hI h7 hk hq h48) (xI5 hI) rfl rfl rfl rfl (Nat.le_of_ble_eq_true rfl) (by decide) (by decide) dSF_isEligible_68 (fun H locs w => ?_)
          refine W.eq (g2 := F0 m 71 ls [.int (xb (xp_adm σ k (q / 16)))]) rfl ?_
          refine xz_ifeq hx hb dSF_isEligible_71 rfl (fun hh4 => ?_) (fun hh4 => ?_)
          · skip
            refine lv_iconst (v := nI 0) hx hb dSF_isEligible_78 xk_i0 ?_
            exact xd_zf C w hr hlk dSF_isEligible_79 (by have ht := xf_tgt_of hq h64; unfold xp_elig; grind [nI_0]) rfl
          · skip
            refine lv_iconst (v := nI 1) hx hb dSF_isEligible_74 xk_i1 ?_
            refine lv_goto hx hb dSF_isEligible_75 rfl ?_
            exact xd_zt C w hr hlk dSF_isEligible_79 (by have ht := xf_tgt_of hq h64; unfold xp_elig; grind [nI_0]) rfl
    · skip
      intro i H locs ls hii ⟨w, hl, hn⟩ ihi
      refine lv_iload_n hx hb dSF_isEligible_12 rfl (lv_at hl 2 rfl) ?_
      refine lv_iconst (v := nI 4) hx hb dSF_isEligible_13 xk_i4 ?_
      refine lv_icmp_ge hx hb dSF_isEligible_14 rfl (fun hq => absurd hq (nI_ge (by omega) (by omega))) (fun _ => ?_)
      refine lv_aload_n hx hb dSF_isEligible_17 rfl (lv_at hl 0 rfl) ?_
      refine lv_aload_n hx hb dSF_isEligible_18 rfl (lv_at hl 1 rfl) ?_
      refine xg_SF_115 C w (xI0 hI (by omega)) dSF_isEligible_19 ?_
      refine xn_eq (y := nI (k / 4)) h0 ?_
      refine lv_iload_n hx hb dSF_isEligible_22 rfl (lv_at hl 2 rfl) ?_
      refine xd_callV C w hz hml hl.1 xk_SF_64 (cSF_tagOf l D cA tz I ad σ (k / 4) i hI h6 (by omega)) (xI5 hI) rfl rfl rfl rfl (Nat.le_of_ble_eq_true rfl) (by decide) (by decide) dSF_isEligible_23 (fun H locs w => ?_)
      refine W.eq (g2 := F0 m 26 ls [.ref (ad 0 (4 * (k / 4) + i))]) rfl ?_
      refine lv_astore_n (lv' := [(3, .ref (ad 0 (4 * (k / 4) + i))), (0, .ref (ad 5 0)), (1, .ref (ad 0 k)), (2, .int (nI i))]) hx hb dSF_isEligible_26 rfl hl (by decide) rfl (fun ls hl => ?_)
      refine lv_aload_n hx hb dSF_isEligible_27 rfl (lv_at hl 0 rfl) ?_
      refine lv_aload_n hx hb dSF_isEligible_28 rfl (lv_at hl 2 rfl) ?_
      refine xd_callV C w hz hml hl.1 xk_SF_135 (cTG_isBefore l D cA tz I ad σ (4 * (k / 4) + i) k hI (by omega) hk) (xI0 hI (by omega)) rfl rfl rfl rfl (Nat.le_of_ble_eq_true rfl) (by decide) (by decide) dSF_isEligible_29 (fun H locs w => ?_)
      refine W.eq (g2 := F0 m 32 ls [.int (xb (xp_ord σ (4 * (k / 4) + i) k))]) rfl ?_
      refine xz_ifeq hx hb dSF_isEligible_32 rfl (fun hh5 => ?_) (fun hh5 => ?_)
      · skip
        refine lv_iinc (lv' := [(2, .int (nI (i + 1))), (3, .ref (ad 0 (4 * (k / 4) + i))), (0, .ref (ad 5 0)), (1, .ref (ad 0 k))]) hx hb dSF_isEligible_45 hl (k := 3) rfl (xn_inc _) (by decide) rfl (fun ls hl => ?_)
        refine lv_goto hx hb dSF_isEligible_48 rfl ?_
        exact ihi _ _ _ ⟨w, lv_sub hl [2, 3, 0] rfl, xl_s hn (by grind)⟩
      · skip
        refine lv_aload_n hx hb dSF_isEligible_35 rfl (lv_at hl 0 rfl) ?_
        refine lv_aload_n hx hb dSF_isEligible_36 rfl (lv_at hl 2 rfl) ?_
        refine xd_callS C w hz hml hl.1 xk_SF_228 (cSF_holdsBack l D cA tz I ad σ (4 * (k / 4) + i) k hI (by omega) hk) rfl rfl (Nat.le_of_ble_eq_true rfl) (by decide) (by decide) dSF_isEligible_37 (fun H locs w => ?_)
        refine W.eq (g2 := F0 m 40 ls [.int (xb (xp_back σ (4 * (k / 4) + i) k))]) rfl ?_
        refine xz_ifeq hx hb dSF_isEligible_40 rfl (fun hh6 => ?_) (fun hh6 => ?_)
        · skip
          refine lv_iinc (lv' := [(2, .int (nI (i + 1))), (3, .ref (ad 0 (4 * (k / 4) + i))), (0, .ref (ad 5 0)), (1, .ref (ad 0 k))]) hx hb dSF_isEligible_45 hl (k := 3) rfl (xn_inc _) (by decide) rfl (fun ls hl => ?_)
          refine lv_goto hx hb dSF_isEligible_48 rfl ?_
          exact ihi _ _ _ ⟨w, lv_sub hl [2, 3, 0] rfl, xl_s hn (by grind)⟩
        · skip
          refine lv_iconst (v := nI 0) hx hb dSF_isEligible_43 xk_i0 ?_
          exact xd_zf C w hr hlk dSF_isEligible_44 (by have ht := xf_tgt_of hq h64; unfold xp_elig; grind [nI_0]) rfl
  · skip
    refine lv_iconst (v := nI 0) hx hb dSF_isEligible_8 xk_i0 ?_
    exact xd_zf C w hr hlk dSF_isEligible_9 (by have ht := xf_tgt_of hq h64; unfold xp_elig; grind [nI_0]) rfl
