/-! The list. -/
set_option maxRecDepth 100000 in
set_option maxHeartbeats 4000000 in
theorem cAS_newLength (l : Launch) (D : va_G) (cA : Nat → ClassId) (tz : Nat) (I : List (Nat × Nat)) (ad : Nat → Nat → Nat) (σ : xMem) (N : Nat) (h10 : 10 ≤ N) (hN : N ≤ 511) : xD l yAS_newLength bAS_newLength 4 (some .int) 1 [.int (nI N), .int (nI 1), .int (nI (N / 2))] D cA tz I ad σ (some (.int (nI (N + N / 2)))) σ := by
  refine xd_of (by decide) (by simp [lg_sl, Value.category]) ?_
  intro p e s m args below meth c A ls C hr hlk hml hl w hz
  obtain ⟨hx, hb, hown, hts⟩ := id C
  have hl : lv_has ls 4 [(0, .int (nI N)), (1, .int (nI 1)), (2, .int (nI (N / 2)))] := hl
  refine lv_iload_n hx hb dAS_newLength_0 rfl (lv_at hl 0 rfl) ?_
  refine lv_iload_n hx hb dAS_newLength_1 rfl (lv_at hl 1 rfl) ?_
  refine lv_iload_n hx hb dAS_newLength_2 rfl (lv_at hl 2 rfl) ?_
  refine va_mmax hx hb (hml.trans hl.1.symm) hown (hts _ (xmi 239 (by decide +kernel) rfl)) (hts _ (xmi 240 (by decide +kernel) rfl)) (hts _ (xmi 17 (by decide +kernel) rfl)) (hts _ (xmi 241 (by decide +kernel) rfl)) (Nat.le_of_ble_eq_true rfl) (Nat.le_of_ble_eq_true rfl) (by simp only [xr_R]; omega) (by simp only [xr_R]; omega) dAS_newLength_3 ?_
  refine W.eq (g2 := F0 m 6 ls [.int (if nI 1 < nI (N / 2) then nI (N / 2) else nI 1), .int (nI N)]) rfl ?_
  refine xn_eq (y := nI (N / 2)) (by rw [if_pos (nI_lt (by omega) (by omega))]) ?_
  refine xn_add hx hb dAS_newLength_6 ?_
  refine lv_istore_n (lv' := [(3, .int (nI (N + (N / 2)))), (0, .int (nI N)), (1, .int (nI 1)), (2, .int (nI (N / 2)))]) hx hb dAS_newLength_7 rfl hl (by decide) rfl (fun ls hl => ?_)
  refine lv_iconst (v := nI 0) hx hb dAS_newLength_8 xk_i0 ?_
  refine lv_iload_n hx hb dAS_newLength_9 rfl (lv_at hl 0 rfl) ?_
  refine lv_icmp_ge hx hb dAS_newLength_10 rfl (fun hh1 => absurd hh1 (nI_ge (by omega) (by omega))) (fun hh1 => ?_)
  refine lv_iload_n hx hb dAS_newLength_13 rfl (lv_at hl 0 rfl) ?_
  refine lv_ldc (v := 2147483639) hx hb hown (hts _ (xmi 242 (by decide +kernel) rfl)) dAS_newLength_14 ?_
  refine lv_icmp_gt hx hb dAS_newLength_16 rfl (fun hh2 => absurd hh2 (Int32.not_lt.mpr (show nI (N + N / 2) ≤ nI 2147483639 from nI_le (by omega) (by omega)))) (fun hh2 => ?_)
  refine lv_iload_n hx hb dAS_newLength_19 rfl (lv_at hl 0 rfl) ?_
  exact xd_iret C w hr hlk dAS_newLength_20 (rfl) rfl
set_option maxRecDepth 100000 in
set_option maxHeartbeats 4000000 in
theorem cPC_checkIndex (l : Launch) (D : va_G) (cA : Nat → ClassId) (tz : Nat) (I : List (Nat × Nat)) (ad : Nat → Nat → Nat) (σ : xMem) (i n : Nat) (hin : i < n) (hn : n < 2 ^ 31) : xD l yPC_checkIndex bPC_checkIndex 3 (some .int) 1 [.int (nI i), .int (nI n), .null] D cA tz I ad σ (some (.int (nI i))) σ := by
  refine xd_of (by decide) (by simp [lg_sl, Value.category]) ?_
  intro p e s m args below meth c A ls C hr hlk hml hl w hz
  obtain ⟨hx, hb, hown, hts⟩ := id C
  have hl : lv_has ls 3 [(0, .int (nI i)), (1, .int (nI n)), (2, .null)] := hl
  refine lv_iload_n hx hb dPC_checkIndex_0 rfl (lv_at hl 0 rfl) ?_
  refine lv_if_lt hx hb dPC_checkIndex_1 rfl (fun hh1 => absurd hh1 (nI_pos (by omega))) (fun hh1 => ?_)
  refine lv_iload_n hx hb dPC_checkIndex_4 rfl (lv_at hl 0 rfl) ?_
  refine lv_iload_n hx hb dPC_checkIndex_5 rfl (lv_at hl 1 rfl) ?_
  refine lv_icmp_lt hx hb dPC_checkIndex_6 rfl (fun hh2 => ?_) (fun hh2 => absurd (nI_lt (by omega) (by omega)) hh2)
  refine lv_iload_n hx hb dPC_checkIndex_16 rfl (lv_at hl 0 rfl) ?_
  exact xd_iret C w hr hlk dPC_checkIndex_17 (rfl) rfl
set_option maxRecDepth 100000 in
set_option maxHeartbeats 4000000 in
theorem cOB_checkIndex (l : Launch) (D : va_G) (cA : Nat → ClassId) (tz : Nat) (I : List (Nat × Nat)) (ad : Nat → Nat → Nat) (σ : xMem) (i n : Nat) (hin : i < n) (hn : n < 2 ^ 31) : xD l yOB_checkIndex bOB_checkIndex 2 (some .int) 2 [.int (nI i), .int (nI n)] D cA tz I ad σ (some (.int (nI i))) σ := by
  refine xd_of (by decide) (by simp [lg_sl, Value.category]) ?_
  intro p e s m args below meth c A ls C hr hlk hml hl w hz
  obtain ⟨hx, hb, hown, hts⟩ := id C
  have hl : lv_has ls 2 [(0, .int (nI i)), (1, .int (nI n))] := hl
  refine lv_iload_n hx hb dOB_checkIndex_0 rfl (lv_at hl 0 rfl) ?_
  refine lv_iload_n hx hb dOB_checkIndex_1 rfl (lv_at hl 1 rfl) ?_
  refine lv_null hx hb dOB_checkIndex_2 ?_
  refine xd_callS C w hz hml hl.1 xk_OB_105 (cPC_checkIndex l D cA tz I ad σ i n hin hn) rfl rfl (Nat.le_of_ble_eq_true rfl) (by decide) (by decide) dOB_checkIndex_3 (fun H locs w => ?_)
  refine W.eq (g2 := F0 m 6 ls [.int (nI i)]) rfl ?_
  exact xd_iret C w hr hlk dOB_checkIndex_6 (rfl) rfl
set_option maxRecDepth 100000 in
set_option maxHeartbeats 4000000 in
theorem cAL_size (l : Launch) (D : va_G) (cA : Nat → ClassId) (tz : Nat) (I : List (Nat × Nat)) (ad : Nat → Nat → Nat) (σ : xMem) (hI : (11, 0) ∈ I) : xD l yAL_size bAL_size 1 (some .int) 1 [.ref (ad 11 0)] D cA tz I ad σ (some (.int (σ 11 0 2))) σ := by
  refine xd_of (by decide) (by simp [lg_sl, Value.category]) ?_
  intro p e s m args below meth c A ls C hr hlk hml hl w hz
  obtain ⟨hx, hb, hown, hts⟩ := id C
  have hl : lv_has ls 1 [(0, .ref (ad 11 0))] := hl
  refine lv_aload_n hx hb dAL_size_0 rfl (lv_at hl 0 rfl) ?_
  refine xg_AL_48 C w hI dAL_size_1 ?_
  exact xd_iret C w hr hlk dAL_size_4 (rfl) rfl
set_option maxRecDepth 100000 in
set_option maxHeartbeats 4000000 in
theorem cAL_elementData (l : Launch) (D : va_G) (cA : Nat → ClassId) (tz : Nat) (I : List (Nat × Nat)) (ad : Nat → Nat → Nat) (σ : xMem) (g n N j : Nat) (hI : (11, 0) ∈ I) (h12 : (12, g) ∈ I) (h9 : σ 11 0 9 = nI g) (hg0 : 0 < g) (hg : g < 2 ^ 30) (h0 : σ 12 g 0 = nI n) (h1 : σ 12 g 1 = nI N) (hn : n ≤ N) (hN : N < 2 ^ 31) (hj : j < n) : xD l yAL_elementData bAL_elementData 2 (some (.object "java/lang/Object")) 1 [.ref (ad 11 0), .int (nI j)] D cA tz I ad σ (some (.ref (ad 13 j))) σ := by
  refine xd_of (by decide) (by simp [lg_sl, Value.category]) ?_
  intro p e s m args below meth c A ls C hr hlk hml hl w hz
  obtain ⟨hx, hb, hown, hts⟩ := id C
  have hl : lv_has ls 2 [(0, .ref (ad 11 0)), (1, .int (nI j))] := hl
  refine lv_aload_n hx hb dAL_elementData_0 rfl (lv_at hl 0 rfl) ?_
  refine xg_AL_9g C w hI (g := g) h9 (by omega) (by omega) dAL_elementData_1 ?_
  refine lv_iload_n hx hb dAL_elementData_4 rfl (lv_at hl 1 rfl) ?_
  refine xs_ald12 C w h12 h0 h1 hj hn hN dAL_elementData_5 ?_
  exact xd_aret C w hr hlk dAL_elementData_6 (Or.inr ⟨_, rfl⟩) (rfl) rfl
set_option maxRecDepth 100000 in
set_option maxHeartbeats 4000000 in
theorem cAL_get (l : Launch) (D : va_G) (cA : Nat → ClassId) (tz : Nat) (I : List (Nat × Nat)) (ad : Nat → Nat → Nat) (σ : xMem) (g n N j : Nat) (hI : (11, 0) ∈ I) (h12 : (12, g) ∈ I) (h9 : σ 11 0 9 = nI g) (hg0 : 0 < g) (hg : g < 2 ^ 30) (h0 : σ 12 g 0 = nI n) (h1 : σ 12 g 1 = nI N) (hn : n ≤ N) (hN : N < 2 ^ 31) (hj : j < n) (h2 : σ 11 0 2 = nI n) : xD l yAL_get bAL_get 2 (some (.object "java/lang/Object")) 3 [.ref (ad 11 0), .int (nI j)] D cA tz I ad σ (some (.ref (ad 13 j))) σ := by
  refine xd_of (by decide) (by simp [lg_sl, Value.category]) ?_
  intro p e s m args below meth c A ls C hr hlk hml hl w hz
  obtain ⟨hx, hb, hown, hts⟩ := id C
  have hl : lv_has ls 2 [(0, .ref (ad 11 0)), (1, .int (nI j))] := hl
  refine lv_iload_n hx hb dAL_get_0 rfl (lv_at hl 1 rfl) ?_
  refine lv_aload_n hx hb dAL_get_1 rfl (lv_at hl 0 rfl) ?_
  refine xg_AL_48 C w hI dAL_get_2 ?_
  refine xn_eq (y := nI n) h2 ?_
  refine xd_callS C w hz hml hl.1 xk_AL_118 (cOB_checkIndex l D cA tz I ad σ j n hj (by omega)) rfl rfl (Nat.le_of_ble_eq_true rfl) (by decide) (by decide) dAL_get_5 (fun H locs w => ?_)
  refine W.eq (g2 := F0 m 8 ls [.int (nI j)]) rfl ?_
  refine lv_pop hx hb dAL_get_8 rfl ?_
  refine lv_aload_n hx hb dAL_get_9 rfl (lv_at hl 0 rfl) ?_
  refine lv_iload_n hx hb dAL_get_10 rfl (lv_at hl 1 rfl) ?_
  refine xd_callV C w hz hml hl.1 xk_AL_123 (cAL_elementData l D cA tz I ad σ g n N j hI h12 h9 hg0 hg h0 h1 hn hN hj) hI rfl rfl rfl rfl (Nat.le_of_ble_eq_true rfl) (by decide) (by decide) dAL_get_11 (fun H locs w => ?_)
  refine W.eq (g2 := F0 m 14 ls [.ref (ad 13 j)]) rfl ?_
  exact xd_aret C w hr hlk dAL_get_14 (Or.inr ⟨_, rfl⟩) (rfl) rfl
set_option maxRecDepth 100000 in
set_option maxHeartbeats 4000000 in
theorem cAR_copyOf3 (l : Launch) (D : va_G) (cA : Nat → ClassId) (tz : Nat) (I : List (Nat × Nat)) (ad : Nat → Nat → Nat) (σ : xMem) (g N M mi s0 : Nat) (hL : xL I s0 g) (h12 : (12, g) ∈ I) (h9 : σ 11 0 9 = nI g) (hg0 : 0 < g) (hg : g ≤ 600) (h0 : σ 12 g 0 = nI N) (h1 : σ 12 g 1 = nI N) (hNs : N ≤ s0) (h10 : 10 ≤ N) (hN : N ≤ 511) (hM0 : N ≤ M) (hM1 : M ≤ 766) : xA (xZm tz mi) l yAR_copyOf3 bAR_copyOf3 4 (some (.array (.object "java/lang/Object"))) 1 1 M [.ref (ad 12 g), .int (nI M), .ref mi] D cA tz I ad σ (fun a => some (.ref (a 12 (g + 1)))) (xu3 (xw_u2 σ 12 (g + 1) (fun i => if i = 1 then nI M else 0)) 12 (g + 1) 0 (nI N)) s0 (g + 1) := by
  refine xa_of (by decide) (by simp [lg_sl, Value.category]) ?_
  intro p e s m args below meth c A ls C hr hlk hml hl w hz
  obtain ⟨hx, hb, hown, hts⟩ := id C
  have hl : lv_has ls 4 [(0, .ref (ad 12 g)), (1, .int (nI M)), (2, .ref mi)] := hl
  have hE0 := xE.rf I ad
  obtain ⟨hz, hM⟩ := hz
  refine lv_aload_n hx hb dAR_copyOf3_0 rfl (lv_at hl 2 rfl) ?_
  refine va_ldcM hx hb hown (hts _ (xmi 265 (by decide +kernel) rfl)) hM dAR_copyOf3_1 ?_
  refine lv_acmp_ne (rx := some mi) (ry := some mi) hx hb dAR_copyOf3_3 rfl (fun hq => absurd rfl hq) (fun _ => ?_)
  refine lv_iload_n hx hb dAR_copyOf3_6 rfl (lv_at hl 1 rfl) ?_
  refine xs_newOA C w hz (N := M) (xmi 267 (by decide +kernel) rfl) hL h9 (by omega) (by omega) (by simp only [xr_R]; omega) (by simp only [xr_R]; omega) dAR_copyOf3_7 (fun I ad H hE hL w => ?_)
  have e0 := hE.2 12 g h12
  have hE0 := hE0.tr hE
  have hl : lv_has ls 4 [(0, .ref (ad 12 g)), (1, .int (nI M)), (2, .ref mi)] := by rw [e0]; exact hl
  refine W.eq (g2 := F0 m 10 ls [.ref (ad 12 (g + 1))]) (by rfl) ?_
  have h12 : (12, g) ∈ I := hE.1 _ h12
  have h0 : (xw_u2 σ 12 (g + 1) (fun i => if i = 1 then nI M else 0)) 12 g 0 = nI N := by rw [xu2_at, if_neg (by omega)]; exact h0
  have h1 : (xw_u2 σ 12 (g + 1) (fun i => if i = 1 then nI M else 0)) 12 g 1 = nI N := by rw [xu2_at, if_neg (by omega)]; exact h1
  refine lv_goto hx hb dAR_copyOf3_10 rfl ?_
  refine lv_astore_n (lv' := [(3, .ref (ad 12 (g + 1))), (0, .ref (ad 12 g)), (1, .int (nI M)), (2, .ref mi)]) hx hb dAR_copyOf3_24 rfl hl (by decide) rfl (fun ls hl => ?_)
  refine lv_aload_n hx hb dAR_copyOf3_25 rfl (lv_at hl 1 rfl) ?_
  refine lv_iconst (v := nI 0) hx hb dAR_copyOf3_26 xk_i0 ?_
  refine lv_aload_n hx hb dAR_copyOf3_27 rfl (lv_at hl 0 rfl) ?_
  refine lv_iconst (v := nI 0) hx hb dAR_copyOf3_28 xk_i0 ?_
  refine lv_aload_n hx hb dAR_copyOf3_29 rfl (lv_at hl 1 rfl) ?_
  refine xs_len12 C w h12 (show _ = nI N from h1) (by omega) dAR_copyOf3_30 ?_
  refine lv_iload_n hx hb dAR_copyOf3_31 rfl (lv_at hl 2 rfl) ?_
  refine va_mmin hx hb (hml.trans hl.1.symm) hown (hts _ (xmi 268 (by decide +kernel) rfl)) (hts _ (xmi 269 (by decide +kernel) rfl)) (hts _ (xmi 17 (by decide +kernel) rfl)) (hts _ (xmi 270 (by decide +kernel) rfl)) (Nat.le_of_ble_eq_true rfl) (Nat.le_of_ble_eq_true rfl) (by simp only [xr_R]; omega) (by simp only [xr_R]; omega) dAR_copyOf3_32 ?_
  refine W.eq (g2 := F0 m 35 ls [.int (if nI M < nI N then nI M else nI N), .int (nI 0), .ref (ad 12 (g + 1)), .int (nI 0), .ref (ad 12 g)]) rfl ?_
  refine xn_eq (y := nI N) (by rw [if_neg (nI_nlt (by omega) (by omega))]) ?_
  refine xs_cp12 C w hz (hml.trans hl.1.symm) (N := N) (N2 := M) h12 ((hL.2.1 (g + 1)).mpr (by omega)) (fun j hj => (hL.1 j).mpr (by omega)) h0 h1 (by simp [xw_u2, va_up]) (by simp [xw_u2, va_up]) (by omega) (by omega) (by omega) (by omega) (Nat.le_of_ble_eq_true rfl) (Nat.le_of_ble_eq_true rfl) dAR_copyOf3_35 (fun H locs w => ?_)
  refine W.eq (g2 := F0 m 38 ls []) rfl ?_
  refine lv_aload_n hx hb dAR_copyOf3_38 rfl (lv_at hl 0 rfl) ?_
  exact xa_aret C w hr hlk dAR_copyOf3_39 rfl hE0 hL (by omega) (by omega)
set_option maxRecDepth 100000 in
set_option maxHeartbeats 4000000 in
theorem cAR_copyOf2 (l : Launch) (D : va_G) (cA : Nat → ClassId) (tz : Nat) (I : List (Nat × Nat)) (ad : Nat → Nat → Nat) (σ : xMem) (g N M s0 : Nat) (hL : xL I s0 g) (h12 : (12, g) ∈ I) (h9 : σ 11 0 9 = nI g) (hg0 : 0 < g) (hg : g ≤ 600) (h0 : σ 12 g 0 = nI N) (h1 : σ 12 g 1 = nI N) (hNs : N ≤ s0) (h10 : 10 ≤ N) (hN : N ≤ 511) (hM0 : N ≤ M) (hM1 : M ≤ 766) : xA (xZ tz) l yAR_copyOf2 bAR_copyOf2 2 (some (.array (.object "java/lang/Object"))) 2 1 M [.ref (ad 12 g), .int (nI M)] D cA tz I ad σ (fun a => some (.ref (a 12 (g + 1)))) (xu3 (xw_u2 σ 12 (g + 1) (fun i => if i = 1 then nI M else 0)) 12 (g + 1) 0 (nI N)) s0 (g + 1) := by
  refine xa_of (by decide) (by simp [lg_sl, Value.category]) ?_
  intro p e s m args below meth c A ls C hr hlk hml hl w hz
  obtain ⟨hx, hb, hown, hts⟩ := id C
  have hl : lv_has ls 2 [(0, .ref (ad 12 g)), (1, .int (nI M))] := hl
  have hE0 := xE.rf I ad
  refine lv_aload_n hx hb dAR_copyOf2_0 rfl (lv_at hl 0 rfl) ?_
  refine lv_iload_n hx hb dAR_copyOf2_1 rfl (lv_at hl 1 rfl) ?_
  refine lv_aload_n hx hb dAR_copyOf2_2 rfl (lv_at hl 0 rfl) ?_
  obtain ⟨mi, hM⟩ := hz.1.2.2.1
  refine xs_getC12 C w hz (hml.trans hl.1.symm) hM h12 (Nat.le_of_ble_eq_true rfl) (Nat.le_of_ble_eq_true rfl) dAR_copyOf2_3 ?_
  refine W.eq (g2 := F0 m 6 ls [.ref mi, .int (nI M), .ref (ad 12 g)]) rfl ?_
  refine xa_callS C w (show xZm tz mi A s s.heap from ⟨hz, hM⟩) (xZmL tz mi) hml hl.1 xk_AR_300 (cAR_copyOf3 l D cA tz I ad (σ) g N M mi s0 hL h12 h9 hg0 hg h0 h1 hNs h10 hN hM0 hM1) rfl rfl (Nat.le_of_ble_eq_true rfl) (by simp only [xr_R]; omega) (by simp only [xr_R]; omega) dAR_copyOf2_6 (fun I ad H locs hE hL w => ?_)
  have e0 := hE.2 12 g h12
  have hE0 := hE0.tr hE
  have hl : lv_has ls 2 [(0, .ref (ad 12 g)), (1, .int (nI M))] := by rw [e0]; exact hl
  refine W.eq (g2 := F0 m 9 ls [.ref (ad 12 (g + 1))]) (by rfl) ?_
  exact xa_aret C w hr hlk dAR_copyOf2_9 rfl hE0 hL (by omega) (by omega)
set_option maxRecDepth 100000 in
set_option maxHeartbeats 4000000 in
theorem cAL_grow1_z (l : Launch) (D : va_G) (cA : Nat → ClassId) (tz : Nat) (I : List (Nat × Nat)) (ad : Nat → Nat → Nat) (σ : xMem) (s0 : Nat) (hI : (11, 0) ∈ I) (hL : xL I s0 0) (h9 : σ 11 0 9 = nI 0) : xA (xZ tz) l yAL_grow1 bAL_grow1 4 (some (.array (.object "java/lang/Object"))) 3 1 10 [.ref (ad 11 0), .int (nI 1)] D cA tz I ad σ (fun a => some (.ref (a 12 (0 + 1)))) (xu3 (xw_u2 σ 12 (0 + 1) (fun i => if i = 1 then nI 10 else 0)) 11 0 9 (nI (0 + 1))) s0 (0 + 1) := by
  refine xa_of (by decide) (by simp [lg_sl, Value.category]) ?_
  intro p e s m args below meth c A ls C hr hlk hml hl w hz
  obtain ⟨hx, hb, hown, hts⟩ := id C
  have hl : lv_has ls 4 [(0, .ref (ad 11 0)), (1, .int (nI 1))] := hl
  have hE0 := xE.rf I ad
  refine lv_aload_n hx hb dAL_grow1_0 rfl (lv_at hl 0 rfl) ?_
  refine xg_AL_9z C w hI (h9.trans nI_0) dAL_grow1_1 ?_
  refine xs_lenz C w hz dAL_grow1_4 ?_
  refine lv_istore_n (lv' := [(2, .int (nI 0)), (0, .ref (ad 11 0)), (1, .int (nI 1))]) hx hb dAL_grow1_5 rfl hl (by decide) rfl (fun ls hl => ?_)
  refine lv_iload_n hx hb dAL_grow1_6 rfl (lv_at hl 0 rfl) ?_
  refine lv_if_gt hx hb dAL_grow1_7 rfl (fun hh1 => absurd hh1 (by decide)) (fun hh1 => ?_)
  refine lv_aload_n hx hb dAL_grow1_10 rfl (lv_at hl 1 rfl) ?_
  refine xg_AL_9z C w hI (h9.trans nI_0) dAL_grow1_11 ?_
  refine xs_getz C w hz dAL_grow1_14 ?_
  refine lv_acmp_eq (rx := some tz) (ry := some tz) hx hb dAL_grow1_17 rfl (fun _ => ?_) (fun hq => absurd rfl hq)
  refine lv_aload_n hx hb dAL_grow1_45 rfl (lv_at hl 1 rfl) ?_
  refine lv_bipush (v := nI 10) hx hb dAL_grow1_46 xk_b10 ?_
  refine lv_iload_n hx hb dAL_grow1_48 rfl (lv_at hl 2 rfl) ?_
  refine va_mmax hx hb (hml.trans hl.1.symm) hown (hts _ (xmi 272 (by decide +kernel) rfl)) (hts _ (xmi 240 (by decide +kernel) rfl)) (hts _ (xmi 17 (by decide +kernel) rfl)) (hts _ (xmi 241 (by decide +kernel) rfl)) (Nat.le_of_ble_eq_true rfl) (Nat.le_of_ble_eq_true rfl) (by simp only [xr_R]; omega) (by simp only [xr_R]; omega) dAL_grow1_49 ?_
  refine W.eq (g2 := F0 m 52 ls [.int (if nI 10 < nI 1 then nI 1 else nI 10), .ref (ad 11 0)]) rfl ?_
  refine xn_eq (y := nI 10) (by rw [if_neg (by decide)]) ?_
  refine xs_newOA C w hz (N := 10) (xmi 273 (by decide +kernel) rfl) hL h9 (by omega) (by omega) (by simp only [xr_R]; omega) (by simp only [xr_R]; omega) dAL_grow1_52 (fun I ad H hE hL w => ?_)
  have e0 := hE.2 11 0 hI
  have hE0 := hE0.tr hE
  have hl : lv_has ls 4 [(2, .int (nI 0)), (0, .ref (ad 11 0)), (1, .int (nI 1))] := by rw [e0]; exact hl
  refine W.eq (g2 := F0 m 55 ls [.ref (ad 12 (0 + 1)), .ref (ad 11 0)]) (by rw [e0] <;> rfl) ?_
  have hI : (11, 0) ∈ I := hE.1 _ hI
  refine lv_dup_x1 hx hb dAL_grow1_55 rfl rfl ?_
  refine xp_AL_9 C w hI (g := 0 + 1) (by omega) (by omega) dAL_grow1_56 (fun H locs w => ?_)
  exact xa_aret C w hr hlk dAL_grow1_59 rfl hE0 hL (by omega) (by omega)
set_option maxRecDepth 100000 in
set_option maxHeartbeats 4000000 in
theorem cAL_grow1_g (l : Launch) (D : va_G) (cA : Nat → ClassId) (tz : Nat) (I : List (Nat × Nat)) (ad : Nat → Nat → Nat) (σ : xMem) (g N s0 : Nat) (hI : (11, 0) ∈ I) (hL : xL I s0 g) (h12 : (12, g) ∈ I) (h9 : σ 11 0 9 = nI g) (hg0 : 0 < g) (hg : g ≤ 600) (h0 : σ 12 g 0 = nI N) (h1 : σ 12 g 1 = nI N) (hNs : N ≤ s0) (h10 : 10 ≤ N) (hN : N ≤ 511) : xA (xZ tz) l yAL_grow1 bAL_grow1 4 (some (.array (.object "java/lang/Object"))) 3 1 (N + N / 2) [.ref (ad 11 0), .int (nI (N + 1))] D cA tz I ad σ (fun a => some (.ref (a 12 (g + 1)))) (xu3 (xu3 (xw_u2 σ 12 (g + 1) (fun i => if i = 1 then nI (N + N / 2) else 0)) 12 (g + 1) 0 (nI N)) 11 0 9 (nI (g + 1))) s0 (g + 1) := by
  refine xa_of (by decide) (by simp [lg_sl, Value.category]) ?_
  intro p e s m args below meth c A ls C hr hlk hml hl w hz
  obtain ⟨hx, hb, hown, hts⟩ := id C
  have hl : lv_has ls 4 [(0, .ref (ad 11 0)), (1, .int (nI (N + 1)))] := hl
  have hE0 := xE.rf I ad
  refine lv_aload_n hx hb dAL_grow1_0 rfl (lv_at hl 0 rfl) ?_
  refine xg_AL_9g C w hI (g := g) h9 (by omega) (by omega) dAL_grow1_1 ?_
  refine xs_len12 C w h12 h1 (by omega) dAL_grow1_4 ?_
  refine lv_istore_n (lv' := [(2, .int (nI N)), (0, .ref (ad 11 0)), (1, .int (nI (N + 1)))]) hx hb dAL_grow1_5 rfl hl (by decide) rfl (fun ls hl => ?_)
  refine lv_iload_n hx hb dAL_grow1_6 rfl (lv_at hl 0 rfl) ?_
  refine lv_if_gt hx hb dAL_grow1_7 rfl (fun hh1 => ?_) (fun hh1 => absurd (show (0 : Int32) < nI N from nI_lt (a := 0) (by omega) (by omega)) hh1)
  refine lv_iload_n hx hb dAL_grow1_20 rfl (lv_at hl 0 rfl) ?_
  refine lv_iload_n hx hb dAL_grow1_21 rfl (lv_at hl 2 rfl) ?_
  refine lv_iload_n hx hb dAL_grow1_22 rfl (lv_at hl 0 rfl) ?_
  refine xn_sub hx hb dAL_grow1_23 (by omega) ?_
  refine xn_eq (y := nI 1) (congrArg nI (by omega)) ?_
  refine lv_iload_n hx hb dAL_grow1_24 rfl (lv_at hl 0 rfl) ?_
  refine lv_iconst (v := nI 1) hx hb dAL_grow1_25 xk_i1 ?_
  refine lv_ishr hx hb dAL_grow1_26 ?_
  refine xn_eq (y := nI (N / 2)) (by rw [show (nI 1 &&& 31 : Int32) = 1 by decide]; exact pk_shrN (by omega) 1 1 (by decide)) ?_
  refine xd_callS C w hz hml hl.1 xk_AL_73 (cAS_newLength l D cA tz I ad σ N h10 hN) rfl rfl (Nat.le_of_ble_eq_true rfl) (by simp only [xr_R]; omega) (by simp only [xr_R]; omega) dAL_grow1_27 (fun H locs w => ?_)
  refine W.eq (g2 := F0 m 30 ls [.int (nI (N + N / 2))]) rfl ?_
  refine lv_istore_n (lv' := [(3, .int (nI (N + N / 2))), (2, .int (nI N)), (0, .ref (ad 11 0)), (1, .int (nI (N + 1)))]) hx hb dAL_grow1_30 rfl hl (by decide) rfl (fun ls hl => ?_)
  refine lv_aload_n hx hb dAL_grow1_31 rfl (lv_at hl 2 rfl) ?_
  refine lv_aload_n hx hb dAL_grow1_32 rfl (lv_at hl 2 rfl) ?_
  refine xg_AL_9g C w hI (g := g) h9 (by omega) (by omega) dAL_grow1_33 ?_
  refine lv_iload_n hx hb dAL_grow1_36 rfl (lv_at hl 0 rfl) ?_
  refine xa_callS C w hz (xZL tz) hml hl.1 xk_AL_66 (cAR_copyOf2 l D cA tz I ad (σ) g N (N + N / 2) s0 hL h12 h9 hg0 hg h0 h1 hNs h10 hN (by omega) (by omega)) rfl rfl (Nat.le_of_ble_eq_true rfl) (by simp only [xr_R]; omega) (by simp only [xr_R]; omega) dAL_grow1_37 (fun I ad H locs hE hL w => ?_)
  have e0 := hE.2 11 0 hI
  have hE0 := hE0.tr hE
  have hl : lv_has ls 4 [(3, .int (nI (N + N / 2))), (2, .int (nI N)), (0, .ref (ad 11 0)), (1, .int (nI (N + 1)))] := by rw [e0]; exact hl
  refine W.eq (g2 := F0 m 40 ls [.ref (ad 12 (g + 1)), .ref (ad 11 0)]) (by rw [e0] <;> rfl) ?_
  have hI : (11, 0) ∈ I := hE.1 _ hI
  refine lv_dup_x1 hx hb dAL_grow1_40 rfl rfl ?_
  refine xp_AL_9 C w hI (g := g + 1) (by omega) (by omega) dAL_grow1_41 (fun H locs w => ?_)
  exact xa_aret C w hr hlk dAL_grow1_44 rfl hE0 hL (by omega) (by omega)
set_option maxRecDepth 100000 in
set_option maxHeartbeats 4000000 in
theorem cAL_grow0_z (l : Launch) (D : va_G) (cA : Nat → ClassId) (tz : Nat) (I : List (Nat × Nat)) (ad : Nat → Nat → Nat) (σ : xMem) (s0 : Nat) (hI : (11, 0) ∈ I) (hL : xL I s0 0) (h9 : σ 11 0 9 = nI 0) (h2 : σ 11 0 2 = nI 0) : xA (xZ tz) l yAL_grow0 bAL_grow0 1 (some (.array (.object "java/lang/Object"))) 4 1 10 [.ref (ad 11 0)] D cA tz I ad σ (fun a => some (.ref (a 12 (0 + 1)))) (xu3 (xw_u2 σ 12 (0 + 1) (fun i => if i = 1 then nI 10 else 0)) 11 0 9 (nI (0 + 1))) s0 (0 + 1) := by
  refine xa_of (by decide) (by simp [lg_sl, Value.category]) ?_
  intro p e s m args below meth c A ls C hr hlk hml hl w hz
  obtain ⟨hx, hb, hown, hts⟩ := id C
  have hl : lv_has ls 1 [(0, .ref (ad 11 0))] := hl
  have hE0 := xE.rf I ad
  refine lv_aload_n hx hb dAL_grow0_0 rfl (lv_at hl 0 rfl) ?_
  refine lv_aload_n hx hb dAL_grow0_1 rfl (lv_at hl 0 rfl) ?_
  refine xg_AL_48 C w hI dAL_grow0_2 ?_
  refine xn_eq (y := nI 0) h2 ?_
  refine lv_iconst (v := nI 1) hx hb dAL_grow0_5 xk_i1 ?_
  refine xn_add hx hb dAL_grow0_6 ?_
  refine xn_eq (y := nI 1) rfl ?_
  refine xa_callV C w hz (xZL tz) hml hl.1 xk_AL_69 (cAL_grow1_z l D cA tz I ad (σ) s0 hI hL h9) hI rfl rfl rfl rfl (Nat.le_of_ble_eq_true rfl) (by simp only [xr_R]; omega) (by simp only [xr_R]; omega) dAL_grow0_7 (fun I ad H locs hE hL w => ?_)
  have e0 := hE.2 11 0 hI
  have hE0 := hE0.tr hE
  have hl : lv_has ls 1 [(0, .ref (ad 11 0))] := by rw [e0]; exact hl
  refine W.eq (g2 := F0 m 10 ls [.ref (ad 12 (0 + 1))]) (by rfl) ?_
  have hI : (11, 0) ∈ I := hE.1 _ hI
  exact xa_aret C w hr hlk dAL_grow0_10 rfl hE0 hL (by omega) (by omega)
set_option maxRecDepth 100000 in
set_option maxHeartbeats 4000000 in
theorem cAL_grow0_g (l : Launch) (D : va_G) (cA : Nat → ClassId) (tz : Nat) (I : List (Nat × Nat)) (ad : Nat → Nat → Nat) (σ : xMem) (g N s0 : Nat) (hI : (11, 0) ∈ I) (hL : xL I s0 g) (h12 : (12, g) ∈ I) (h9 : σ 11 0 9 = nI g) (hg0 : 0 < g) (hg : g ≤ 600) (h0 : σ 12 g 0 = nI N) (h1 : σ 12 g 1 = nI N) (hNs : N ≤ s0) (h10 : 10 ≤ N) (hN : N ≤ 511) (h2 : σ 11 0 2 = nI N) : xA (xZ tz) l yAL_grow0 bAL_grow0 1 (some (.array (.object "java/lang/Object"))) 4 1 (N + N / 2) [.ref (ad 11 0)] D cA tz I ad σ (fun a => some (.ref (a 12 (g + 1)))) (xu3 (xu3 (xw_u2 σ 12 (g + 1) (fun i => if i = 1 then nI (N + N / 2) else 0)) 12 (g + 1) 0 (nI N)) 11 0 9 (nI (g + 1))) s0 (g + 1) := by
  refine xa_of (by decide) (by simp [lg_sl, Value.category]) ?_
  intro p e s m args below meth c A ls C hr hlk hml hl w hz
  obtain ⟨hx, hb, hown, hts⟩ := id C
  have hl : lv_has ls 1 [(0, .ref (ad 11 0))] := hl
  have hE0 := xE.rf I ad
  refine lv_aload_n hx hb dAL_grow0_0 rfl (lv_at hl 0 rfl) ?_
  refine lv_aload_n hx hb dAL_grow0_1 rfl (lv_at hl 0 rfl) ?_
  refine xg_AL_48 C w hI dAL_grow0_2 ?_
  refine xn_eq (y := nI N) h2 ?_
  refine lv_iconst (v := nI 1) hx hb dAL_grow0_5 xk_i1 ?_
  refine xn_add hx hb dAL_grow0_6 ?_
  refine xa_callV C w hz (xZL tz) hml hl.1 xk_AL_69 (cAL_grow1_g l D cA tz I ad (σ) g N s0 hI hL h12 h9 hg0 hg h0 h1 hNs h10 hN) hI rfl rfl rfl rfl (Nat.le_of_ble_eq_true rfl) (by simp only [xr_R]; omega) (by simp only [xr_R]; omega) dAL_grow0_7 (fun I ad H locs hE hL w => ?_)
  have e0 := hE.2 11 0 hI
  have hE0 := hE0.tr hE
  have hl : lv_has ls 1 [(0, .ref (ad 11 0))] := by rw [e0]; exact hl
  refine W.eq (g2 := F0 m 10 ls [.ref (ad 12 (g + 1))]) (by rfl) ?_
  have hI : (11, 0) ∈ I := hE.1 _ hI
  exact xa_aret C w hr hlk dAL_grow0_10 rfl hE0 hL (by omega) (by omega)
set_option maxRecDepth 100000 in
set_option maxHeartbeats 4000000 in
theorem cAL_add3_z (l : Launch) (D : va_G) (cA : Nat → ClassId) (tz : Nat) (I : List (Nat × Nat)) (ad : Nat → Nat → Nat) (σ : xMem) (n : Nat) (hI : (11, 0) ∈ I) (hL : xL I (n + 1) 0) (h9 : σ 11 0 9 = nI 0) (h2 : σ 11 0 2 = nI 0) (hn0 : n = 0) : xA (xZ tz) l yAL_add3 bAL_add3 4 none 5 1 10 [.ref (ad 11 0), .ref (ad 13 n), .ref tz, .int (nI n)] D cA tz I ad σ (fun _ => none) (xu3 (xu3 (xu3 (xw_u2 σ 12 (0 + 1) (fun i => if i = 1 then nI 10 else 0)) 11 0 9 (nI (0 + 1))) 12 (0 + 1) 0 (nI (n + 1))) 11 0 2 (nI (n + 1))) (n + 1) (0 + 1) := by
  refine xa_of (by decide) (by simp [lg_sl, Value.category]) ?_
  intro p e s m args below meth c A ls C hr hlk hml hl w hz
  obtain ⟨hx, hb, hown, hts⟩ := id C
  have hl : lv_has ls 4 [(0, .ref (ad 11 0)), (1, .ref (ad 13 n)), (2, .ref tz), (3, .int (nI n))] := hl
  have hE0 := xE.rf I ad
  have h13 : (13, n) ∈ I := (hL.1 n).mpr (by omega)
  refine lv_iload_n hx hb dAL_add3_0 rfl (lv_at hl 3 rfl) ?_
  refine lv_aload_n hx hb dAL_add3_1 rfl (lv_at hl 2 rfl) ?_
  refine xs_lenz C w hz dAL_add3_2 ?_
  refine lv_icmp_ne hx hb dAL_add3_3 rfl (fun hh1 => absurd (congrArg nI hn0) hh1) (fun hh1 => ?_)
  refine lv_aload_n hx hb dAL_add3_6 rfl (lv_at hl 0 rfl) ?_
  refine xa_callV C w hz (xZL tz) hml hl.1 xk_AL_129 (cAL_grow0_z l D cA tz I ad (σ) (n + 1) hI hL h9 h2) hI rfl rfl rfl rfl (Nat.le_of_ble_eq_true rfl) (by simp only [xr_R]; omega) (by simp only [xr_R]; omega) dAL_add3_7 (fun I ad H locs hE hL w => ?_)
  have e0 := hE.2 11 0 hI
  have e1 := hE.2 13 n h13
  have hE0 := hE0.tr hE
  have hl : lv_has ls 4 [(0, .ref (ad 11 0)), (1, .ref (ad 13 n)), (2, .ref tz), (3, .int (nI n))] := by rw [e0, e1]; exact hl
  refine W.eq (g2 := F0 m 10 ls [.ref (ad 12 (0 + 1))]) (by rfl) ?_
  have hI : (11, 0) ∈ I := hE.1 _ hI
  have h13 : (13, n) ∈ I := hE.1 _ h13
  refine lv_astore_n (lv' := [(2, .ref (ad 12 (0 + 1))), (0, .ref (ad 11 0)), (1, .ref (ad 13 n)), (3, .int (nI n))]) hx hb dAL_add3_10 rfl hl (by decide) rfl (fun ls hl => ?_)
  refine lv_aload_n hx hb dAL_add3_11 rfl (lv_at hl 0 rfl) ?_
  refine lv_iload_n hx hb dAL_add3_12 rfl (lv_at hl 3 rfl) ?_
  refine lv_aload_n hx hb dAL_add3_13 rfl (lv_at hl 2 rfl) ?_
  refine xs_ast12 C w hz (N := 10) ((hL.2.1 _).mpr (by omega)) h13 (by subst hn0; simp [xu3, xw_u2, va_up, nI_0]) (by simp [xu3, xw_u2, va_up]) (by omega) (by omega) dAL_add3_14 (fun H locs w => ?_)
  refine lv_aload_n hx hb dAL_add3_15 rfl (lv_at hl 1 rfl) ?_
  refine lv_iload_n hx hb dAL_add3_16 rfl (lv_at hl 3 rfl) ?_
  refine lv_iconst (v := nI 1) hx hb dAL_add3_17 xk_i1 ?_
  refine xn_add hx hb dAL_add3_18 ?_
  refine xp_AL_48 C w hI dAL_add3_19 (fun H locs w => ?_)
  exact xa_vret C w hr hlk dAL_add3_22 rfl hE0 hL (by omega) (by omega)
set_option maxRecDepth 100000 in
set_option maxHeartbeats 4000000 in
theorem cAL_add3_g (l : Launch) (D : va_G) (cA : Nat → ClassId) (tz : Nat) (I : List (Nat × Nat)) (ad : Nat → Nat → Nat) (σ : xMem) (g n N : Nat) (hI : (11, 0) ∈ I) (hL : xL I (n + 1) g) (h12 : (12, g) ∈ I) (h9 : σ 11 0 9 = nI g) (hg0 : 0 < g) (hg : g ≤ 600) (h0 : σ 12 g 0 = nI n) (h1 : σ 12 g 1 = nI N) (h2 : σ 11 0 2 = nI n) (h10 : 10 ≤ N) (hN : N ≤ 511) (hnN : n = N) : xA (xZ tz) l yAL_add3 bAL_add3 4 none 5 1 (N + N / 2) [.ref (ad 11 0), .ref (ad 13 n), .ref (ad 12 g), .int (nI n)] D cA tz I ad σ (fun _ => none) (xu3 (xu3 (xu3 (xu3 (xw_u2 σ 12 (g + 1) (fun i => if i = 1 then nI (N + N / 2) else 0)) 12 (g + 1) 0 (nI N)) 11 0 9 (nI (g + 1))) 12 (g + 1) 0 (nI (n + 1))) 11 0 2 (nI (n + 1))) (n + 1) (g + 1) := by
  refine xa_of (by decide) (by simp [lg_sl, Value.category]) ?_
  intro p e s m args below meth c A ls C hr hlk hml hl w hz
  obtain ⟨hx, hb, hown, hts⟩ := id C
  have hl : lv_has ls 4 [(0, .ref (ad 11 0)), (1, .ref (ad 13 n)), (2, .ref (ad 12 g)), (3, .int (nI n))] := hl
  have hE0 := xE.rf I ad
  have h13 : (13, n) ∈ I := (hL.1 n).mpr (by omega)
  refine lv_iload_n hx hb dAL_add3_0 rfl (lv_at hl 3 rfl) ?_
  refine lv_aload_n hx hb dAL_add3_1 rfl (lv_at hl 2 rfl) ?_
  refine xs_len12 C w h12 h1 (by omega) dAL_add3_2 ?_
  refine lv_icmp_ne hx hb dAL_add3_3 rfl (fun hh1 => absurd (congrArg nI hnN) hh1) (fun hh1 => ?_)
  refine lv_aload_n hx hb dAL_add3_6 rfl (lv_at hl 0 rfl) ?_
  refine xa_callV C w hz (xZL tz) hml hl.1 xk_AL_129 (cAL_grow0_g l D cA tz I ad (σ) g N (n + 1) hI hL h12 h9 hg0 hg (by rw [← hnN]; exact h0) h1 (by omega) h10 hN (by rw [← hnN]; exact h2)) hI rfl rfl rfl rfl (Nat.le_of_ble_eq_true rfl) (by simp only [xr_R]; omega) (by simp only [xr_R]; omega) dAL_add3_7 (fun I ad H locs hE hL w => ?_)
  have e0 := hE.2 11 0 hI
  have e1 := hE.2 13 n h13
  have e2 := hE.2 12 g h12
  have hE0 := hE0.tr hE
  have hl : lv_has ls 4 [(0, .ref (ad 11 0)), (1, .ref (ad 13 n)), (2, .ref (ad 12 g)), (3, .int (nI n))] := by rw [e0, e1, e2]; exact hl
  refine W.eq (g2 := F0 m 10 ls [.ref (ad 12 (g + 1))]) (by rfl) ?_
  have hI : (11, 0) ∈ I := hE.1 _ hI
  have h13 : (13, n) ∈ I := hE.1 _ h13
  refine lv_astore_n (lv' := [(2, .ref (ad 12 (g + 1))), (0, .ref (ad 11 0)), (1, .ref (ad 13 n)), (3, .int (nI n))]) hx hb dAL_add3_10 rfl hl (by decide) rfl (fun ls hl => ?_)
  refine lv_aload_n hx hb dAL_add3_11 rfl (lv_at hl 0 rfl) ?_
  refine lv_iload_n hx hb dAL_add3_12 rfl (lv_at hl 3 rfl) ?_
  refine lv_aload_n hx hb dAL_add3_13 rfl (lv_at hl 2 rfl) ?_
  refine xs_ast12 C w hz (N := N + N / 2) ((hL.2.1 _).mpr (by omega)) h13 (by simp [xu3, xw_u2, va_up, hnN]) (by simp [xu3, xw_u2, va_up]) (by omega) (by omega) dAL_add3_14 (fun H locs w => ?_)
  refine lv_aload_n hx hb dAL_add3_15 rfl (lv_at hl 1 rfl) ?_
  refine lv_iload_n hx hb dAL_add3_16 rfl (lv_at hl 3 rfl) ?_
  refine lv_iconst (v := nI 1) hx hb dAL_add3_17 xk_i1 ?_
  refine xn_add hx hb dAL_add3_18 ?_
  refine xp_AL_48 C w hI dAL_add3_19 (fun H locs w => ?_)
  exact xa_vret C w hr hlk dAL_add3_22 rfl hE0 hL (by omega) (by omega)
set_option maxRecDepth 100000 in
set_option maxHeartbeats 4000000 in
theorem cAL_add3_p (l : Launch) (D : va_G) (cA : Nat → ClassId) (tz : Nat) (I : List (Nat × Nat)) (ad : Nat → Nat → Nat) (σ : xMem) (g n N : Nat) (hI : (11, 0) ∈ I) (hL : xL I (n + 1) g) (h12 : (12, g) ∈ I) (h9 : σ 11 0 9 = nI g) (hg0 : 0 < g) (hg : g ≤ 600) (h0 : σ 12 g 0 = nI n) (h1 : σ 12 g 1 = nI N) (hN : N ≤ 766) (hnN : n < N) : xA (xZ tz) l yAL_add3 bAL_add3 4 none 5 0 0 [.ref (ad 11 0), .ref (ad 13 n), .ref (ad 12 g), .int (nI n)] D cA tz I ad σ (fun _ => none) (xu3 (xu3 (σ) 12 (g) 0 (nI (n + 1))) 11 0 2 (nI (n + 1))) (n + 1) g := by
  refine xa_of (by decide) (by simp [lg_sl, Value.category]) ?_
  intro p e s m args below meth c A ls C hr hlk hml hl w hz
  obtain ⟨hx, hb, hown, hts⟩ := id C
  have hl : lv_has ls 4 [(0, .ref (ad 11 0)), (1, .ref (ad 13 n)), (2, .ref (ad 12 g)), (3, .int (nI n))] := hl
  have hE0 := xE.rf I ad
  have h13 : (13, n) ∈ I := (hL.1 n).mpr (by omega)
  refine lv_iload_n hx hb dAL_add3_0 rfl (lv_at hl 3 rfl) ?_
  refine lv_aload_n hx hb dAL_add3_1 rfl (lv_at hl 2 rfl) ?_
  refine xs_len12 C w h12 h1 (by omega) dAL_add3_2 ?_
  refine lv_icmp_ne hx hb dAL_add3_3 rfl (fun hh1 => ?_) (fun hh1 => absurd ((nI_eq (by omega) (by omega)).mp hh1) (by omega))
  refine lv_aload_n hx hb dAL_add3_11 rfl (lv_at hl 2 rfl) ?_
  refine lv_iload_n hx hb dAL_add3_12 rfl (lv_at hl 3 rfl) ?_
  refine lv_aload_n hx hb dAL_add3_13 rfl (lv_at hl 1 rfl) ?_
  refine xs_ast12 C w hz (N := N) h12 h13 h0 h1 (by omega) (by omega) dAL_add3_14 (fun H locs w => ?_)
  refine lv_aload_n hx hb dAL_add3_15 rfl (lv_at hl 0 rfl) ?_
  refine lv_iload_n hx hb dAL_add3_16 rfl (lv_at hl 3 rfl) ?_
  refine lv_iconst (v := nI 1) hx hb dAL_add3_17 xk_i1 ?_
  refine xn_add hx hb dAL_add3_18 ?_
  refine xp_AL_48 C w hI dAL_add3_19 (fun H locs w => ?_)
  exact xa_vret C w hr hlk dAL_add3_22 rfl hE0 hL (by omega) (by omega)
set_option maxRecDepth 100000 in
set_option maxHeartbeats 4000000 in
theorem cAL_add1_z (l : Launch) (D : va_G) (cA : Nat → ClassId) (tz : Nat) (I : List (Nat × Nat)) (ad : Nat → Nat → Nat) (σ : xMem) (n : Nat) (hI : (11, 0) ∈ I) (hL : xL I (n + 1) 0) (h9 : σ 11 0 9 = nI 0) (h2 : σ 11 0 2 = nI n) (hn0 : n = 0) : xA (xZ tz) l yAL_add1 bAL_add1 2 (some .boolean) 6 1 766 [.ref (ad 11 0), .ref (ad 13 n)] D cA tz I ad σ (fun _ => some (.int (nI 1))) (xu3 (xu3 (xu3 (xw_u2 (xu3 σ 11 0 0 (σ 11 0 0 + nI 1)) 12 (0 + 1) (fun i => if i = 1 then nI 10 else 0)) 11 0 9 (nI (0 + 1))) 12 (0 + 1) 0 (nI (n + 1))) 11 0 2 (nI (n + 1))) (n + 1) (0 + 1) := by
  refine xa_of (by decide) (by simp [lg_sl, Value.category]) ?_
  intro p e s m args below meth c A ls C hr hlk hml hl w hz
  obtain ⟨hx, hb, hown, hts⟩ := id C
  have hl : lv_has ls 2 [(0, .ref (ad 11 0)), (1, .ref (ad 13 n))] := hl
  have hE0 := xE.rf I ad
  have h13 : (13, n) ∈ I := (hL.1 n).mpr (by omega)
  refine lv_aload_n hx hb dAL_add1_0 rfl (lv_at hl 0 rfl) ?_
  refine lv_dup hx hb dAL_add1_1 rfl ?_
  refine xg_AL_63 C w hI dAL_add1_2 ?_
  refine lv_iconst (v := nI 1) hx hb dAL_add1_5 xk_i1 ?_
  refine lv_iadd hx hb dAL_add1_6 ?_
  refine xp_AL_63 C w hI dAL_add1_7 (fun H locs w => ?_)
  refine lv_aload_n hx hb dAL_add1_10 rfl (lv_at hl 0 rfl) ?_
  refine lv_aload_n hx hb dAL_add1_11 rfl (lv_at hl 1 rfl) ?_
  refine lv_aload_n hx hb dAL_add1_12 rfl (lv_at hl 0 rfl) ?_
  refine xg_AL_9z C w hI (h9.trans nI_0) dAL_add1_13 ?_
  refine lv_aload_n hx hb dAL_add1_16 rfl (lv_at hl 0 rfl) ?_
  refine xg_AL_48 C w hI dAL_add1_17 ?_
  refine xn_eq (y := nI n) h2 ?_
  refine xa_callV C w hz (xZL tz) hml hl.1 xk_AL_131 (cAL_add3_z l D cA tz I ad (xu3 σ 11 0 0 ((σ 11 0 0) + (nI 1))) n hI hL h9 (show σ 11 0 2 = nI 0 from h2.trans (congrArg nI hn0)) hn0) hI rfl rfl rfl rfl (Nat.le_of_ble_eq_true rfl) (by simp only [xr_R]; omega) (by simp only [xr_R]; omega) dAL_add1_20 (fun I ad H locs hE hL w => ?_)
  have e0 := hE.2 11 0 hI
  have e1 := hE.2 13 n h13
  have hE0 := hE0.tr hE
  have hl : lv_has ls 2 [(0, .ref (ad 11 0)), (1, .ref (ad 13 n))] := by rw [e0, e1]; exact hl
  refine W.eq (g2 := F0 m 23 ls []) (by rfl) ?_
  have hI : (11, 0) ∈ I := hE.1 _ hI
  have h13 : (13, n) ∈ I := hE.1 _ h13
  refine lv_iconst (v := nI 1) hx hb dAL_add1_23 xk_i1 ?_
  exact xa_zret C w hr hlk dAL_add1_24 rfl hE0 hL (by omega) (by omega)
set_option maxRecDepth 100000 in
set_option maxHeartbeats 4000000 in
theorem cAL_add1_g (l : Launch) (D : va_G) (cA : Nat → ClassId) (tz : Nat) (I : List (Nat × Nat)) (ad : Nat → Nat → Nat) (σ : xMem) (g n N : Nat) (hI : (11, 0) ∈ I) (hL : xL I (n + 1) g) (h12 : (12, g) ∈ I) (h9 : σ 11 0 9 = nI g) (hg0 : 0 < g) (hg : g ≤ 600) (h0 : σ 12 g 0 = nI n) (h1 : σ 12 g 1 = nI N) (h2 : σ 11 0 2 = nI n) (h10 : 10 ≤ N) (hN : N ≤ 511) (hnN : n = N) : xA (xZ tz) l yAL_add1 bAL_add1 2 (some .boolean) 6 1 766 [.ref (ad 11 0), .ref (ad 13 n)] D cA tz I ad σ (fun _ => some (.int (nI 1))) (xu3 (xu3 (xu3 (xu3 (xw_u2 (xu3 σ 11 0 0 (σ 11 0 0 + nI 1)) 12 (g + 1) (fun i => if i = 1 then nI (N + N / 2) else 0)) 12 (g + 1) 0 (nI N)) 11 0 9 (nI (g + 1))) 12 (g + 1) 0 (nI (n + 1))) 11 0 2 (nI (n + 1))) (n + 1) (g + 1) := by
  refine xa_of (by decide) (by simp [lg_sl, Value.category]) ?_
  intro p e s m args below meth c A ls C hr hlk hml hl w hz
  obtain ⟨hx, hb, hown, hts⟩ := id C
  have hl : lv_has ls 2 [(0, .ref (ad 11 0)), (1, .ref (ad 13 n))] := hl
  have hE0 := xE.rf I ad
  have h13 : (13, n) ∈ I := (hL.1 n).mpr (by omega)
  refine lv_aload_n hx hb dAL_add1_0 rfl (lv_at hl 0 rfl) ?_
  refine lv_dup hx hb dAL_add1_1 rfl ?_
  refine xg_AL_63 C w hI dAL_add1_2 ?_
  refine lv_iconst (v := nI 1) hx hb dAL_add1_5 xk_i1 ?_
  refine lv_iadd hx hb dAL_add1_6 ?_
  refine xp_AL_63 C w hI dAL_add1_7 (fun H locs w => ?_)
  refine lv_aload_n hx hb dAL_add1_10 rfl (lv_at hl 0 rfl) ?_
  refine lv_aload_n hx hb dAL_add1_11 rfl (lv_at hl 1 rfl) ?_
  refine lv_aload_n hx hb dAL_add1_12 rfl (lv_at hl 0 rfl) ?_
  refine xg_AL_9g C w hI (g := g) h9 (by omega) (by omega) dAL_add1_13 ?_
  refine lv_aload_n hx hb dAL_add1_16 rfl (lv_at hl 0 rfl) ?_
  refine xg_AL_48 C w hI dAL_add1_17 ?_
  refine xn_eq (y := nI n) h2 ?_
  refine xa_callV C w hz (xZL tz) hml hl.1 xk_AL_131 (cAL_add3_g l D cA tz I ad (xu3 σ 11 0 0 ((σ 11 0 0) + (nI 1))) g n N hI hL h12 h9 hg0 hg h0 h1 h2 h10 hN hnN) hI rfl rfl rfl rfl (Nat.le_of_ble_eq_true rfl) (by simp only [xr_R]; omega) (by simp only [xr_R]; omega) dAL_add1_20 (fun I ad H locs hE hL w => ?_)
  have e0 := hE.2 11 0 hI
  have e1 := hE.2 13 n h13
  have hE0 := hE0.tr hE
  have hl : lv_has ls 2 [(0, .ref (ad 11 0)), (1, .ref (ad 13 n))] := by rw [e0, e1]; exact hl
  refine W.eq (g2 := F0 m 23 ls []) (by rfl) ?_
  have hI : (11, 0) ∈ I := hE.1 _ hI
  have h13 : (13, n) ∈ I := hE.1 _ h13
  refine lv_iconst (v := nI 1) hx hb dAL_add1_23 xk_i1 ?_
  exact xa_zret C w hr hlk dAL_add1_24 rfl hE0 hL (by omega) (by omega)
set_option maxRecDepth 100000 in
set_option maxHeartbeats 4000000 in
theorem cAL_add1_p (l : Launch) (D : va_G) (cA : Nat → ClassId) (tz : Nat) (I : List (Nat × Nat)) (ad : Nat → Nat → Nat) (σ : xMem) (g n N : Nat) (hI : (11, 0) ∈ I) (hL : xL I (n + 1) g) (h12 : (12, g) ∈ I) (h9 : σ 11 0 9 = nI g) (hg0 : 0 < g) (hg : g ≤ 600) (h0 : σ 12 g 0 = nI n) (h1 : σ 12 g 1 = nI N) (h2 : σ 11 0 2 = nI n) (hN : N ≤ 766) (hnN : n < N) : xA (xZ tz) l yAL_add1 bAL_add1 2 (some .boolean) 6 1 766 [.ref (ad 11 0), .ref (ad 13 n)] D cA tz I ad σ (fun _ => some (.int (nI 1))) (xu3 (xu3 (xu3 σ 11 0 0 (σ 11 0 0 + nI 1)) 12 (g) 0 (nI (n + 1))) 11 0 2 (nI (n + 1))) (n + 1) g := by
  refine xa_of (by decide) (by simp [lg_sl, Value.category]) ?_
  intro p e s m args below meth c A ls C hr hlk hml hl w hz
  obtain ⟨hx, hb, hown, hts⟩ := id C
  have hl : lv_has ls 2 [(0, .ref (ad 11 0)), (1, .ref (ad 13 n))] := hl
  have hE0 := xE.rf I ad
  have h13 : (13, n) ∈ I := (hL.1 n).mpr (by omega)
  refine lv_aload_n hx hb dAL_add1_0 rfl (lv_at hl 0 rfl) ?_
  refine lv_dup hx hb dAL_add1_1 rfl ?_
  refine xg_AL_63 C w hI dAL_add1_2 ?_
  refine lv_iconst (v := nI 1) hx hb dAL_add1_5 xk_i1 ?_
  refine lv_iadd hx hb dAL_add1_6 ?_
  refine xp_AL_63 C w hI dAL_add1_7 (fun H locs w => ?_)
  refine lv_aload_n hx hb dAL_add1_10 rfl (lv_at hl 0 rfl) ?_
  refine lv_aload_n hx hb dAL_add1_11 rfl (lv_at hl 1 rfl) ?_
  refine lv_aload_n hx hb dAL_add1_12 rfl (lv_at hl 0 rfl) ?_
  refine xg_AL_9g C w hI (g := g) h9 (by omega) (by omega) dAL_add1_13 ?_
  refine lv_aload_n hx hb dAL_add1_16 rfl (lv_at hl 0 rfl) ?_
  refine xg_AL_48 C w hI dAL_add1_17 ?_
  refine xn_eq (y := nI n) h2 ?_
  refine xa_callV C w hz (xZL tz) hml hl.1 xk_AL_131 (cAL_add3_p l D cA tz I ad (xu3 σ 11 0 0 ((σ 11 0 0) + (nI 1))) g n N hI hL h12 h9 hg0 hg h0 h1 hN hnN) hI rfl rfl rfl rfl (Nat.le_of_ble_eq_true rfl) (by simp only [xr_R]; omega) (by simp only [xr_R]; omega) dAL_add1_20 (fun I ad H locs hE hL w => ?_)
  have e0 := hE.2 11 0 hI
  have e1 := hE.2 13 n h13
  have hE0 := hE0.tr hE
  have hl : lv_has ls 2 [(0, .ref (ad 11 0)), (1, .ref (ad 13 n))] := by rw [e0, e1]; exact hl
  refine W.eq (g2 := F0 m 23 ls []) (by rfl) ?_
  have hI : (11, 0) ∈ I := hE.1 _ hI
  have h13 : (13, n) ∈ I := hE.1 _ h13
  refine lv_iconst (v := nI 1) hx hb dAL_add1_23 xk_i1 ?_
  exact xa_zret C w hr hlk dAL_add1_24 rfl hE0 hL (by omega) (by omega)
