/-! What SplitFabric does. -/
set_option maxRecDepth 100000 in
set_option maxHeartbeats 4000000 in
theorem cSF_enter (l : Launch) (D : va_G) (cA : Nat → ClassId) (tz : Nat) (I : List (Nat × Nat)) (ad : Nat → Nat → Nat) (σ : xMem) (k t n : Nat) (hI : xI I) (hk : k < 16) (ht : t < 3) (h0 : σ 0 k 0 = nI (k / 4)) (h1n : σ 0 k 1 = nI (k % 4)) (hn : σ 2 t 1 = nI n) (h4 : n < 4) : xD l ySF_enter bSF_enter 2 none 2 [.ref (ad 0 k), .ref (ad 2 t)] D cA tz I ad σ none (xf_enter σ k t n) := by
  refine xd_of (by decide) (by simp [lg_sl, Value.category]) ?_
  intro p e s m args below meth c A ls C hr hlk hml hl w hz
  obtain ⟨hx, hb, hown, hts⟩ := id C
  have hl : lv_has ls 2 [(0, .ref (ad 0 k)), (1, .ref (ad 2 t))] := hl
  refine lv_aload_n hx hb dSF_enter_0 rfl (lv_at hl 1 rfl) ?_
  refine lv_dup hx hb dSF_enter_1 rfl ?_
  refine xg_SF_145 C w (xI2 hI (by omega)) dSF_enter_2 ?_
  refine lv_iconst (v := nI 1) hx hb dSF_enter_5 xk_i1 ?_
  refine lv_isub hx hb dSF_enter_6 ?_
  refine xp_SF_145 C w (xI2 hI (by omega)) dSF_enter_7 (fun H locs w => ?_)
  refine lv_aload_n hx hb dSF_enter_10 rfl (lv_at hl 1 rfl) ?_
  refine lv_iconst (v := nI 4) hx hb dSF_enter_11 xk_i4 ?_
  refine lv_aload_n hx hb dSF_enter_12 rfl (lv_at hl 0 rfl) ?_
  refine xg_SF_115 C w (xI0 hI (by omega)) dSF_enter_13 ?_
  refine xn_eq (y := σ 0 k 0) (by simp [xu3, xw_u2, va_up]) ?_
  refine xn_eq (y := nI (k / 4)) h0 ?_
  refine xn_mul hx hb dSF_enter_16 ?_
  refine lv_aload_n hx hb dSF_enter_17 rfl (lv_at hl 0 rfl) ?_
  refine xg_SF_247 C w (xI0 hI (by omega)) dSF_enter_18 ?_
  refine xn_eq (y := σ 0 k 1) (by simp [xu3, xw_u2, va_up]) ?_
  refine xn_eq (y := nI (k % 4)) h1n ?_
  refine xn_add hx hb dSF_enter_21 ?_
  refine xn_eq (y := nI k) (congrArg nI (by omega)) ?_
  refine xd_callV C w hz hml hl.1 xk_SF_250 (cTA_join l D cA tz I ad (xu3 σ 2 t 2 (σ 2 t 2 - nI 1)) t n (nI k) hI ht (by simp [xu3, xw_u2, va_up, hn]) h4) (xI2 hI (by omega)) rfl rfl rfl rfl (Nat.le_of_ble_eq_true rfl) (by decide) (by decide) dSF_enter_22 (fun H locs w => ?_)
  refine W.eq (g2 := F0 m 25 ls []) rfl ?_
  refine lv_aload_n hx hb dSF_enter_25 rfl (lv_at hl 0 rfl) ?_
  refine xg_SF_173 C w (xI0 hI (by omega)) dSF_enter_26 ?_
  refine xn_eq (y := σ 0 k 4) (by simp [xu3, xw_u2, va_up]) ?_
  refine lv_iconst (v := nI 2) hx hb dSF_enter_29 xk_i2 ?_
  refine lv_icmp_ne hx hb dSF_enter_30 rfl (fun hh1 => ?_) (fun hh1 => ?_)
  · skip
    refine lv_aload_n hx hb dSF_enter_41 rfl (lv_at hl 0 rfl) ?_
    refine xg_SF_173 C w (xI0 hI (by omega)) dSF_enter_42 ?_
    refine xn_eq (y := σ 0 k 4) (by simp [xu3, xw_u2, va_up]) ?_
    refine lv_iconst (v := nI 3) hx hb dSF_enter_45 xk_i3 ?_
    refine lv_icmp_ne hx hb dSF_enter_46 rfl (fun hh2 => ?_) (fun hh2 => ?_)
    · skip
      exact xd_vret C w hr hlk dSF_enter_54 (by simp only [xf_enter, xif_f hh1, xif_f hh2])
    · skip
      refine lv_aload_n hx hb dSF_enter_49 rfl (lv_at hl 1 rfl) ?_
      refine lv_iconst (v := -1) hx hb dSF_enter_50 xk_im1 ?_
      refine xp_SF_142 C w (xI2 hI (by omega)) dSF_enter_51 (fun H locs w => ?_)
      exact xd_vret C w hr hlk dSF_enter_54 (by simp only [xf_enter, xif_f hh1, xif_t hh2])
  · skip
    refine lv_aload_n hx hb dSF_enter_33 rfl (lv_at hl 1 rfl) ?_
    refine lv_aload_n hx hb dSF_enter_34 rfl (lv_at hl 0 rfl) ?_
    refine xg_SF_115 C w (xI0 hI (by omega)) dSF_enter_35 ?_
    refine xn_eq (y := σ 0 k 0) (by simp [xu3, xw_u2, va_up]) ?_
    refine xn_eq (y := nI (k / 4)) h0 ?_
    refine xp_SF_142 C w (xI2 hI (by omega)) dSF_enter_38 (fun H locs w => ?_)
    refine lv_aload_n hx hb dSF_enter_41 rfl (lv_at hl 0 rfl) ?_
    refine xg_SF_173 C w (xI0 hI (by omega)) dSF_enter_42 ?_
    refine xn_eq (y := σ 0 k 4) (by simp [xu3, xw_u2, va_up]) ?_
    refine lv_iconst (v := nI 3) hx hb dSF_enter_45 xk_i3 ?_
    refine lv_icmp_ne hx hb dSF_enter_46 rfl (fun hh3 => ?_) (fun hh3 => ?_)
    · skip
      exact xd_vret C w hr hlk dSF_enter_54 (by simp only [xf_enter, xif_t hh1, xif_f hh3])
    · skip
      refine lv_aload_n hx hb dSF_enter_49 rfl (lv_at hl 1 rfl) ?_
      refine lv_iconst (v := -1) hx hb dSF_enter_50 xk_im1 ?_
      refine xp_SF_142 C w (xI2 hI (by omega)) dSF_enter_51 (fun H locs w => ?_)
      exact xd_vret C w hr hlk dSF_enter_54 (by simp only [xf_enter, xif_t hh1, xif_t hh3])
set_option maxRecDepth 100000 in
set_option maxHeartbeats 4000000 in
theorem cSF_grant (l : Launch) (D : va_G) (cA : Nat → ClassId) (tz : Nat) (I : List (Nat × Nat)) (ad : Nat → Nat → Nat) (σ : xMem) (k q n : Nat) (hI : xI I) (h7 : σ 7 0 0 = nI 3) (hk : k < 16) (h0 : σ 0 k 0 = nI (k / 4)) (h1n : σ 0 k 1 = nI (k % 4)) (hq : σ 0 k 5 = nI q) (h64 : q < 64) (hn : ¬ σ 0 k 4 = nI 4 → q < 48 → σ 2 (q / 16) 1 = nI n ∧ n < 4) : xD l ySF_grant bSF_grant 2 none 3 [.ref (ad 5 0), .ref (ad 0 k)] D cA tz I ad σ none (xf_grant σ k (q / 16) n) := by
  refine xd_of (by decide) (by simp [lg_sl, Value.category]) ?_
  intro p e s m args below meth c A ls C hr hlk hml hl w hz
  obtain ⟨hx, hb, hown, hts⟩ := id C
  have hl : lv_has ls 2 [(0, .ref (ad 5 0)), (1, .ref (ad 0 k))] := hl
  refine lv_aload_n hx hb dSF_grant_0 rfl (lv_at hl 0 rfl) ?_
  refine lv_aload_n hx hb dSF_grant_1 rfl (lv_at hl 1 rfl) ?_
  refine xg_SF_115 C w (xI0 hI (by omega)) dSF_grant_2 ?_
  refine xn_eq (y := nI (k / 4)) h0 ?_
  refine xp_SF_47 C w (xI5 hI) dSF_grant_5 (fun H locs w => ?_)
  refine lv_aload_n hx hb dSF_grant_8 rfl (lv_at hl 1 rfl) ?_
  refine xg_SF_173 C w (xI0 hI (by omega)) dSF_grant_9 ?_
  refine xn_eq (y := σ 0 k 4) (by simp [xu3, xw_u2, va_up]) ?_
  refine lv_iconst (v := nI 4) hx hb dSF_grant_12 xk_i4 ?_
  refine lv_icmp_ne hx hb dSF_grant_13 rfl (fun hh1 => ?_) (fun hh1 => ?_)
  · skip
    refine lv_aload_n hx hb dSF_grant_24 rfl (lv_at hl 1 rfl) ?_
    refine xd_callV C w hz hml hl.1 xk_SF_231 (cTG_isUnmapped l D cA tz I ad (xu3 σ 5 0 8 (nI (k / 4))) k hI hk) (xI0 hI (by omega)) rfl rfl rfl rfl (Nat.le_of_ble_eq_true rfl) (by decide) (by decide) dSF_grant_25 (fun H locs w => ?_)
    refine W.eq (g2 := F0 m 28 ls [.int (xb (xp_unm σ k))]) rfl ?_
    refine xz_ifeq hx hb dSF_grant_28 rfl (fun hh2 => ?_) (fun hh2 => ?_)
    · skip
      have h48 : q < 48 := Nat.not_le.mp (fun z => hh2 (show nI 48 ≤ σ 0 k 5 by rw [hq]; exact nI_le z (by omega)))
      obtain ⟨hn, h4⟩ := hn hh1 h48
      refine lv_aload_n hx hb dSF_grant_39 rfl (lv_at hl 1 rfl) ?_
      refine lv_iconst (v := nI 2) hx hb dSF_grant_40 xk_i2 ?_
      refine xp_SF_68 C w (xI0 hI (by omega)) dSF_grant_41 (fun H locs w => ?_)
      refine lv_aload_n hx hb dSF_grant_44 rfl (lv_at hl 1 rfl) ?_
      refine lv_aload_n hx hb dSF_grant_45 rfl (lv_at hl 0 rfl) ?_
      refine lv_aload_n hx hb dSF_grant_46 rfl (lv_at hl 1 rfl) ?_
      refine xd_callV C w hz hml hl.1 xk_SF_204 (cSF_targetOf l D cA tz I ad (xu3 (xu3 σ 5 0 8 (nI (k / 4))) 0 k 3 (nI 2)) k q hI h7 hk (by simp [xu3, xw_u2, va_up, hq]) h48) (xI5 hI) rfl rfl rfl rfl (Nat.le_of_ble_eq_true rfl) (by decide) (by decide) dSF_grant_47 (fun H locs w => ?_)
      refine W.eq (g2 := F0 m 50 ls [.ref (ad 2 (q / 16)), .ref (ad 0 k)]) rfl ?_
      refine xd_callS C w hz hml hl.1 xk_SF_243 (cSF_enter l D cA tz I ad (xu3 (xu3 σ 5 0 8 (nI (k / 4))) 0 k 3 (nI 2)) k (q / 16) n hI hk (by omega) (by simp [xu3, xw_u2, va_up, h0]) (by simp [xu3, xw_u2, va_up, h1n]) hn h4) rfl rfl (Nat.le_of_ble_eq_true rfl) (by decide) (by decide) dSF_grant_50 (fun H locs w => ?_)
      refine W.eq (g2 := F0 m 53 ls []) rfl ?_
      exact xd_vret C w hr hlk dSF_grant_53 (by simp only [xf_grant, xif_f hh1, xif_f hh2])
    · skip
      refine lv_aload_n hx hb dSF_grant_31 rfl (lv_at hl 1 rfl) ?_
      refine lv_iconst (v := nI 4) hx hb dSF_grant_32 xk_i4 ?_
      refine xp_SF_68 C w (xI0 hI (by omega)) dSF_grant_33 (fun H locs w => ?_)
      refine lv_goto hx hb dSF_grant_36 rfl ?_
      exact xd_vret C w hr hlk dSF_grant_53 (by simp only [xf_grant, xif_f hh1, xif_t hh2])
  · skip
    refine lv_aload_n hx hb dSF_grant_16 rfl (lv_at hl 1 rfl) ?_
    refine lv_iconst (v := nI 3) hx hb dSF_grant_17 xk_i3 ?_
    refine xp_SF_68 C w (xI0 hI (by omega)) dSF_grant_18 (fun H locs w => ?_)
    refine lv_goto hx hb dSF_grant_21 rfl ?_
    exact xd_vret C w hr hlk dSF_grant_53 (by simp only [xf_grant, xif_t hh1])
set_option maxRecDepth 100000 in
set_option maxHeartbeats 4000000 in
theorem cSF_finish (l : Launch) (D : va_G) (cA : Nat → ClassId) (tz : Nat) (I : List (Nat × Nat)) (ad : Nat → Nat → Nat) (σ : xMem) (k q : Nat) (hI : xI I) (h7 : σ 7 0 0 = nI 3) (hk : k < 16) (hq : σ 0 k 5 = nI q) (h48 : q < 48) : xD l ySF_finish bSF_finish 2 none 2 [.ref (ad 5 0), .ref (ad 0 k)] D cA tz I ad σ none (xf_finish σ k (q / 16)) := by
  refine xd_of (by decide) (by simp [lg_sl, Value.category]) ?_
  intro p e s m args below meth c A ls C hr hlk hml hl w hz
  obtain ⟨hx, hb, hown, hts⟩ := id C
  have hl : lv_has ls 2 [(0, .ref (ad 5 0)), (1, .ref (ad 0 k))] := hl
  refine lv_aload_n hx hb dSF_finish_0 rfl (lv_at hl 1 rfl) ?_
  refine lv_iconst (v := nI 3) hx hb dSF_finish_1 xk_i3 ?_
  refine xp_SF_68 C w (xI0 hI (by omega)) dSF_finish_2 (fun H locs w => ?_)
  refine lv_aload_n hx hb dSF_finish_5 rfl (lv_at hl 0 rfl) ?_
  refine lv_aload_n hx hb dSF_finish_6 rfl (lv_at hl 1 rfl) ?_
  refine xd_callV C w hz hml hl.1 xk_SF_204 (cSF_targetOf l D cA tz I ad (xu3 σ 0 k 3 (nI 3)) k q hI h7 hk (by simp [xu3, xw_u2, va_up, hq]) h48) (xI5 hI) rfl rfl rfl rfl (Nat.le_of_ble_eq_true rfl) (by decide) (by decide) dSF_finish_7 (fun H locs w => ?_)
  refine W.eq (g2 := F0 m 10 ls [.ref (ad 2 (q / 16))]) rfl ?_
  refine lv_dup hx hb dSF_finish_10 rfl ?_
  refine xg_SF_145 C w (xI2 hI (by omega)) dSF_finish_11 ?_
  refine xn_eq (y := σ 2 (q / 16) 2) (by simp [xu3, xw_u2, va_up]) ?_
  refine lv_iconst (v := nI 1) hx hb dSF_finish_14 xk_i1 ?_
  refine lv_iadd hx hb dSF_finish_15 ?_
  refine xp_SF_145 C w (xI2 hI (by omega)) dSF_finish_16 (fun H locs w => ?_)
  exact xd_vret C w hr hlk dSF_finish_19 rfl
set_option maxRecDepth 100000 in
set_option maxHeartbeats 4000000 in
theorem cSF_ageWaiting (l : Launch) (D : va_G) (cA : Nat → ClassId) (tz : Nat) (I : List (Nat × Nat)) (ad : Nat → Nat → Nat) (σ : xMem) (hI : xI I) (h6 : σ 6 0 0 = nI 16) : xD l ySF_ageWaiting bSF_ageWaiting 2 none 1 [.ref (ad 5 0)] D cA tz I ad σ none (xf_age σ 16) := by
  refine xd_of (by decide) (by simp [lg_sl, Value.category]) ?_
  intro p e s m args below meth c A ls C hr hlk hml hl w hz
  obtain ⟨hx, hb, hown, hts⟩ := id C
  have hl : lv_has ls 2 [(0, .ref (ad 5 0))] := hl
  refine lv_iconst (v := nI 0) hx hb dSF_ageWaiting_0 xk_i0 ?_
  refine lv_istore_n (lv' := [(1, .int (nI 0)), (0, .ref (ad 5 0))]) hx hb dSF_ageWaiting_1 rfl hl (by decide) rfl (fun ls hl => ?_)
  refine xl_up (Wg := fun H locs ls => W p l e _ s m args below meth c H locs _ _ _ (F0 m 2 ls [])) (K := fun i H locs ls => xr_W xCl (xT cA) D I ad (xc cA tz ad (xf_age σ i)) A s H locs ∧ lv_has ls 2 [(0, .ref (ad 5 0)), (1, .int (nI i))]) 16 ?_ ?_ 0 _ _ _ (by omega) ⟨by rw [xf_age_0]; exact w, lv_sub hl [1, 0] rfl⟩
  · skip
    intro H locs ls ⟨w, hl⟩
    refine lv_iload_n hx hb dSF_ageWaiting_2 rfl (lv_at hl 1 rfl) ?_
    refine lv_bipush (v := nI 16) hx hb dSF_ageWaiting_3 xk_b16 ?_
    refine lv_icmp_ge hx hb dSF_ageWaiting_5 rfl (fun _ => ?_) (fun hq => absurd (nI_le (by omega) (by omega)) hq)
    exact xd_vret C w hr hlk dSF_ageWaiting_42 rfl
  · skip
    intro i H locs ls hii ⟨w, hl⟩ ihi
    refine lv_iload_n hx hb dSF_ageWaiting_2 rfl (lv_at hl 1 rfl) ?_
    refine lv_bipush (v := nI 16) hx hb dSF_ageWaiting_3 xk_b16 ?_
    refine lv_icmp_ge hx hb dSF_ageWaiting_5 rfl (fun hq => absurd hq (nI_ge (by omega) (by omega))) (fun _ => ?_)
    refine lv_aload_n hx hb dSF_ageWaiting_8 rfl (lv_at hl 0 rfl) ?_
    refine xg_SF_11 C w (xI5 hI) dSF_ageWaiting_9 ?_
    refine lv_iload_n hx hb dSF_ageWaiting_12 rfl (lv_at hl 1 rfl) ?_
    refine xa_6 C w (xI6 hI) h6 i rfl (by omega) dSF_ageWaiting_13 ?_
    refine xg_SF_68 C w (xI0 hI (by omega)) dSF_ageWaiting_14 ?_
    refine lv_iconst (v := nI 1) hx hb dSF_ageWaiting_17 xk_i1 ?_
    refine lv_icmp_ne hx hb dSF_ageWaiting_18 rfl (fun hh1 => ?_) (fun hh1 => ?_)
    · skip
      refine lv_iinc (lv' := [(1, .int (nI (i + 1))), (0, .ref (ad 5 0))]) hx hb dSF_ageWaiting_36 hl (k := 1) rfl (xn_inc _) (by decide) rfl (fun ls hl => ?_)
      refine lv_goto hx hb dSF_ageWaiting_39 rfl ?_
      exact ihi _ _ _ ⟨xf_age_f hh1 ▸ w, lv_sub hl [1, 0] rfl⟩
    · skip
      refine lv_aload_n hx hb dSF_ageWaiting_21 rfl (lv_at hl 0 rfl) ?_
      refine xg_SF_11 C w (xI5 hI) dSF_ageWaiting_22 ?_
      refine lv_iload_n hx hb dSF_ageWaiting_25 rfl (lv_at hl 1 rfl) ?_
      refine xa_6 C w (xI6 hI) h6 i rfl (by omega) dSF_ageWaiting_26 ?_
      refine lv_dup hx hb dSF_ageWaiting_27 rfl ?_
      refine xg_SF_139 C w (xI0 hI (by omega)) dSF_ageWaiting_28 ?_
      refine lv_iconst (v := nI 1) hx hb dSF_ageWaiting_31 xk_i1 ?_
      refine lv_iadd hx hb dSF_ageWaiting_32 ?_
      refine xp_SF_139 C w (xI0 hI (by omega)) dSF_ageWaiting_33 (fun H locs w => ?_)
      refine lv_iinc (lv' := [(1, .int (nI (i + 1))), (0, .ref (ad 5 0))]) hx hb dSF_ageWaiting_36 hl (k := 1) rfl (xn_inc _) (by decide) rfl (fun ls hl => ?_)
      refine lv_goto hx hb dSF_ageWaiting_39 rfl ?_
      exact ihi _ _ _ ⟨xf_age_t hh1 ▸ w, lv_sub hl [1, 0] rfl⟩
set_option maxRecDepth 100000 in
set_option maxHeartbeats 4000000 in
theorem cSF_returnNextWord (l : Launch) (D : va_G) (cA : Nat → ClassId) (tz : Nat) (I : List (Nat × Nat)) (ad : Nat → Nat → Nat) (σ : xMem) (g : Nat) (hI : xI I) (h6 : σ 6 0 0 = nI 16) (h7 : σ 7 0 0 = nI 3) (hg : σ 5 0 9 = nI g) (hg16 : g < 16) (hgr : ∀ k, k < 16 → σ 0 k 3 = nI 2 → ∃ q, q < 48 ∧ σ 0 k 5 = nI q) : xD l ySF_returnNextWord bSF_returnNextWord 4 none 3 [.ref (ad 5 0)] D cA tz I ad σ none (xf_ret σ g (xf_fst (xp_ret σ g) 1 16)) := by
  refine xd_of (by decide) (by simp [lg_sl, Value.category]) ?_
  intro p e s m args below meth c A ls C hr hlk hml hl w hz
  obtain ⟨hx, hb, hown, hts⟩ := id C
  have hl : lv_has ls 4 [(0, .ref (ad 5 0))] := hl
  refine lv_iconst (v := nI 1) hx hb dSF_returnNextWord_0 xk_i1 ?_
  refine lv_istore_n (lv' := [(1, .int (nI 1)), (0, .ref (ad 5 0))]) hx hb dSF_returnNextWord_1 rfl hl (by decide) rfl (fun ls hl => ?_)
  refine xl_up (Wg := fun H locs ls => W p l e _ s m args below meth c H locs _ _ _ (F0 m 2 ls [])) (K := fun i H locs ls => xr_W xCl (xT cA) D I ad (xc cA tz ad σ) A s H locs ∧ lv_has ls 4 [(0, .ref (ad 5 0)), (1, .int (nI i))] ∧ (xf_fst (xp_ret σ g) 1 16 = xf_fst (xp_ret σ g) i (17 - i))) 17 ?_ ?_ 1 _ _ _ (by omega) ⟨w, lv_sub hl [1, 0] rfl, rfl⟩
  · skip
    intro H locs ls ⟨w, hl, he⟩
    refine lv_iload_n hx hb dSF_returnNextWord_2 rfl (lv_at hl 1 rfl) ?_
    refine lv_bipush (v := nI 16) hx hb dSF_returnNextWord_3 xk_b16 ?_
    refine lv_icmp_gt hx hb dSF_returnNextWord_5 rfl (fun _ => ?_) (fun hq => absurd (nI_lt (by omega) (by omega)) hq)
    exact xd_vret C w hr hlk dSF_returnNextWord_78 (by rw [he]; rfl)
  · skip
    intro i H locs ls hii ⟨w, hl, he⟩ ihi
    refine lv_iload_n hx hb dSF_returnNextWord_2 rfl (lv_at hl 1 rfl) ?_
    refine lv_bipush (v := nI 16) hx hb dSF_returnNextWord_3 xk_b16 ?_
    refine lv_icmp_gt hx hb dSF_returnNextWord_5 rfl (fun hq => absurd hq (nI_nlt (by omega) (by omega))) (fun _ => ?_)
    refine lv_aload_n hx hb dSF_returnNextWord_8 rfl (lv_at hl 0 rfl) ?_
    refine xg_SF_50 C w (xI5 hI) dSF_returnNextWord_9 ?_
    refine xn_eq (y := nI g) hg ?_
    refine lv_iload_n hx hb dSF_returnNextWord_12 rfl (lv_at hl 1 rfl) ?_
    refine xn_add hx hb dSF_returnNextWord_13 ?_
    refine lv_bipush (v := nI 16) hx hb dSF_returnNextWord_14 xk_b16 ?_
    refine xn_rem hx hb dSF_returnNextWord_16 (by omega) (by decide) (by decide) ?_
    refine lv_istore_n (lv' := [(2, .int (nI ((g + i) % 16))), (0, .ref (ad 5 0)), (1, .int (nI i))]) hx hb dSF_returnNextWord_17 rfl hl (by decide) rfl (fun ls hl => ?_)
    refine lv_aload_n hx hb dSF_returnNextWord_18 rfl (lv_at hl 1 rfl) ?_
    refine xg_SF_11 C w (xI5 hI) dSF_returnNextWord_19 ?_
    refine lv_iload_n hx hb dSF_returnNextWord_22 rfl (lv_at hl 0 rfl) ?_
    refine xa_6 C w (xI6 hI) h6 ((g + i) % 16) rfl (by omega) dSF_returnNextWord_23 ?_
    refine lv_astore_n (lv' := [(3, .ref (ad 0 ((g + i) % 16))), (2, .int (nI ((g + i) % 16))), (0, .ref (ad 5 0)), (1, .int (nI i))]) hx hb dSF_returnNextWord_24 rfl hl (by decide) rfl (fun ls hl => ?_)
    refine lv_aload_n hx hb dSF_returnNextWord_25 rfl (lv_at hl 0 rfl) ?_
    refine xg_SF_68 C w (xI0 hI (by omega)) dSF_returnNextWord_26 ?_
    refine lv_iconst (v := nI 2) hx hb dSF_returnNextWord_29 xk_i2 ?_
    refine lv_icmp_ne hx hb dSF_returnNextWord_30 rfl (fun hh1 => ?_) (fun hh1 => ?_)
    · skip
      refine lv_iinc (lv' := [(1, .int (nI (i + 1))), (3, .ref (ad 0 ((g + i) % 16))), (2, .int (nI ((g + i) % 16))), (0, .ref (ad 5 0))]) hx hb dSF_returnNextWord_72 hl (k := 3) rfl (xn_inc _) (by decide) rfl (fun ls hl => ?_)
      refine lv_goto hx hb dSF_returnNextWord_75 rfl ?_
      exact ihi _ _ _ ⟨w, lv_sub hl [3, 0] rfl, by rw [he, show 17 - i = (17 - (i + 1)) + 1 by omega, xf_fst_f (by unfold xp_ret; grind)]⟩
    · skip
      refine lv_aload_n hx hb dSF_returnNextWord_33 rfl (lv_at hl 0 rfl) ?_
      refine xg_SF_192 C w (xI0 hI (by omega)) dSF_returnNextWord_34 ?_
      refine lv_if_eq hx hb dSF_returnNextWord_37 rfl (fun hh2 => ?_) (fun hh2 => ?_)
      · skip
        refine lv_iinc (lv' := [(1, .int (nI (i + 1))), (3, .ref (ad 0 ((g + i) % 16))), (2, .int (nI ((g + i) % 16))), (0, .ref (ad 5 0))]) hx hb dSF_returnNextWord_72 hl (k := 3) rfl (xn_inc _) (by decide) rfl (fun ls hl => ?_)
        refine lv_goto hx hb dSF_returnNextWord_75 rfl ?_
        exact ihi _ _ _ ⟨w, lv_sub hl [3, 0] rfl, by rw [he, show 17 - i = (17 - (i + 1)) + 1 by omega, xf_fst_f (by unfold xp_ret; grind)]⟩
      · skip
        have hs : xf_fst (xp_ret σ g) 1 16 = some i := by rw [he, show 17 - i = (16 - i) + 1 by omega, xf_fst_t (show xp_ret σ g i by unfold xp_ret; grind)]
        obtain ⟨q, h48, hq⟩ := hgr ((g + i) % 16) (by omega) hh1
        have hk : (g + i) % 16 < 16 := by omega
        generalize hke : (g + i) % 16 = k at *
        refine lv_aload_n hx hb dSF_returnNextWord_40 rfl (lv_at hl 2 rfl) ?_
        refine lv_iload_n hx hb dSF_returnNextWord_41 rfl (lv_at hl 1 rfl) ?_
        refine xp_SF_50 C w (xI5 hI) dSF_returnNextWord_42 (fun H locs w => ?_)
        refine lv_aload_n hx hb dSF_returnNextWord_45 rfl (lv_at hl 0 rfl) ?_
        refine lv_dup hx hb dSF_returnNextWord_46 rfl ?_
        refine xg_SF_208 C w (xI0 hI (by omega)) dSF_returnNextWord_47 ?_
        refine xn_eq (y := σ 0 k 10) (by simp [xu3, xw_u2, va_up]) ?_
        refine lv_iconst (v := nI 1) hx hb dSF_returnNextWord_50 xk_i1 ?_
        refine lv_iadd hx hb dSF_returnNextWord_51 ?_
        refine xp_SF_208 C w (xI0 hI (by omega)) dSF_returnNextWord_52 (fun H locs w => ?_)
        refine lv_aload_n hx hb dSF_returnNextWord_55 rfl (lv_at hl 0 rfl) ?_
        refine xg_SF_208 C w (xI0 hI (by omega)) dSF_returnNextWord_56 ?_
        refine xn_eq (y := (σ 0 k 10) + (nI 1)) (by simp [xu3, xw_u2, va_up]) ?_
        refine lv_aload_n hx hb dSF_returnNextWord_59 rfl (lv_at hl 0 rfl) ?_
        refine xg_SF_129 C w (xI0 hI (by omega)) dSF_returnNextWord_60 ?_
        refine xn_eq (y := σ 0 k 6) (by simp [xu3, xw_u2, va_up]) ?_
        refine lv_icmp_ne hx hb dSF_returnNextWord_63 rfl (fun hh3 => ?_) (fun hh3 => ?_)
        · skip
          exact xd_vret C w hr hlk dSF_returnNextWord_71 (by rw [hs]; show _ = xf_back σ ((g + i) % 16); rw [hke]; unfold xf_back; rw [xf_tgt_of hq (by omega)]; simp only [xif_t hh1, xif_f hh2, xif_f hh3])
        · skip
          refine lv_aload_n hx hb dSF_returnNextWord_66 rfl (lv_at hl 2 rfl) ?_
          refine lv_aload_n hx hb dSF_returnNextWord_67 rfl (lv_at hl 0 rfl) ?_
          refine xd_callV C w hz hml hl.1 xk_SF_201 (cSF_finish l D cA tz I ad (xu3 (xu3 σ 5 0 9 (nI k)) 0 k 10 ((σ 0 k 10) + (nI 1))) k q hI h7 hk (by simp [xu3, xw_u2, va_up, hq]) h48) (xI5 hI) rfl rfl rfl rfl (Nat.le_of_ble_eq_true rfl) (by decide) (by decide) dSF_returnNextWord_68 (fun H locs w => ?_)
          refine W.eq (g2 := F0 m 71 ls []) rfl ?_
          exact xd_vret C w hr hlk dSF_returnNextWord_71 (by rw [hs]; show _ = xf_back σ ((g + i) % 16); rw [hke]; unfold xf_back; rw [xf_tgt_of hq (by omega)]; simp only [xif_t hh1, xif_f hh2, xif_t hh3])
