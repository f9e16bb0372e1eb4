/-! issue, where it does not throw. -/
def xf_begin (σ : xMem) (k : Nat) (a1 a2 a3 a4 : Int32) : xMem := xu3 (xu3 (xu3 (xu3 (xu3 (xu3 (xu3 (xu3 σ 0 k 3 (nI 1)) 0 k 4 a1) 0 k 5 a2) 0 k 6 a3) 0 k 7 a4) 0 k 8 (nI 0)) 0 k 9 (nI 0)) 0 k 10 (nI 0)
def xf_issue (σ : xMem) (a b k q n : Nat) : xMem := xu3 (xw_u2 (xf_begin σ (4 * a + b) (nI k) (nI q) (nI n) (σ 5 0 7)) 1 (4 * a + b) (va_cpy ((xf_begin σ (4 * a + b) (nI k) (nI q) (nI n) (σ 5 0 7)) 4 a) ((xf_begin σ (4 * a + b) (nI k) (nI q) (nI n) (σ 5 0 7)) 1 (4 * a + b)) 0 0 n)) 5 0 7 (σ 5 0 7 + nI 1)
set_option maxRecDepth 100000 in
set_option maxHeartbeats 4000000 in
theorem cSF_issue_bar (l : Launch) (D : va_G) (cA : Nat → ClassId) (tz : Nat) (I : List (Nat × Nat)) (ad : Nat → Nat → Nat) (σ : xMem) (a b : Nat) (y z : Int32) (hI : xI I) (h6 : σ 6 0 0 = nI 16) (ha : a < 4) (hb4 : b < 4) (hst : σ 0 (4 * a + b) 3 = 0) : xD l ySF_issue bSF_issue 7 none 3 [.ref (ad 5 0), .int (nI a), .int (nI 4), .int y, .int z, .int (nI b)] D cA tz I ad σ none (xu3 (xf_begin σ (4 * a + b) (nI 4) (nI 0) (nI 0) (σ 5 0 7)) 5 0 7 (σ 5 0 7 + nI 1)) := by
  refine xd_of (by decide) (by simp [lg_sl, Value.category]) ?_
  intro p e s m args below meth c A ls C hr hlk hml hl w hz
  obtain ⟨hx, hb, hown, hts⟩ := id C
  have hl : lv_has ls 7 [(0, .ref (ad 5 0)), (1, .int (nI a)), (2, .int (nI 4)), (3, .int y), (4, .int z), (5, .int (nI b))] := hl
  refine lv_iload_n hx hb dSF_issue_0 rfl (lv_at hl 1 rfl) ?_
  refine lv_iconst (v := nI 4) hx hb dSF_issue_1 xk_i4 ?_
  refine xd_callS C w hz hml hl.1 xk_SF_57 (cSF_checkIndex_ok l D cA tz I ad σ a 4 (by omega) (by decide)) rfl rfl (Nat.le_of_ble_eq_true rfl) (by decide) (by decide) dSF_issue_2 (fun H locs w => ?_)
  refine W.eq (g2 := F0 m 5 ls []) rfl ?_
  refine lv_iload hx hb dSF_issue_5 (lv_at hl 5 rfl) ?_
  refine lv_iconst (v := nI 4) hx hb dSF_issue_7 xk_i4 ?_
  refine xd_callS C w hz hml hl.1 xk_SF_57 (cSF_checkIndex_ok l D cA tz I ad σ b 4 (by omega) (by decide)) rfl rfl (Nat.le_of_ble_eq_true rfl) (by decide) (by decide) dSF_issue_8 (fun H locs w => ?_)
  refine W.eq (g2 := F0 m 11 ls []) rfl ?_
  refine lv_iload_n hx hb dSF_issue_11 rfl (lv_at hl 2 rfl) ?_
  refine lv_iload_n hx hb dSF_issue_12 rfl (lv_at hl 3 rfl) ?_
  refine lv_iload hx hb dSF_issue_13 (lv_at hl 4 rfl) ?_
  refine xd_callS C w hz hml hl.1 xk_SF_60 (cSF_checkRequest_bar l D cA tz I ad σ y z) rfl rfl (Nat.le_of_ble_eq_true rfl) (by decide) (by decide) dSF_issue_15 (fun H locs w => ?_)
  refine W.eq (g2 := F0 m 18 ls []) rfl ?_
  refine lv_aload_n hx hb dSF_issue_18 rfl (lv_at hl 0 rfl) ?_
  refine lv_iload_n hx hb dSF_issue_19 rfl (lv_at hl 1 rfl) ?_
  refine lv_iload hx hb dSF_issue_20 (lv_at hl 5 rfl) ?_
  refine xd_callV C w hz hml hl.1 xk_SF_64 (cSF_tagOf l D cA tz I ad σ a b hI h6 (by omega)) (xI5 hI) rfl rfl rfl rfl (Nat.le_of_ble_eq_true rfl) (by decide) (by decide) dSF_issue_22 (fun H locs w => ?_)
  refine W.eq (g2 := F0 m 25 ls [.ref (ad 0 (4 * a + b))]) rfl ?_
  refine lv_astore (lv' := [(6, .ref (ad 0 (4 * a + b))), (0, .ref (ad 5 0)), (1, .int (nI a)), (2, .int (nI 4)), (3, .int y), (4, .int z), (5, .int (nI b))]) hx hb dSF_issue_25 hl (by decide) rfl (fun ls hl => ?_)
  refine lv_aload hx hb dSF_issue_27 (lv_at hl 0 rfl) ?_
  refine xg_SF_68 C w (xI0 hI (by omega)) dSF_issue_29 ?_
  refine lv_if_ne hx hb dSF_issue_32 rfl (fun hh1 => absurd hst hh1) (fun hh1 => ?_)
  refine lv_iconst (v := nI 1) hx hb dSF_issue_35 xk_i1 ?_
  refine lv_goto hx hb dSF_issue_36 rfl ?_
  refine xd_callS C w hz hml hl.1 xk_SF_71 (cSF_checkState_ok l D cA tz I ad (σ)) rfl rfl (Nat.le_of_ble_eq_true rfl) (by decide) (by decide) dSF_issue_40 (fun H locs w => ?_)
  refine W.eq (g2 := F0 m 43 ls []) rfl ?_
  refine lv_iload_n hx hb dSF_issue_43 rfl (lv_at hl 3 rfl) ?_
  refine lv_iconst (v := nI 2) hx hb dSF_issue_44 xk_i2 ?_
  refine lv_icmp_ne hx hb dSF_issue_45 rfl (fun _ => ?_) (fun hq => absurd hq (by decide))
  refine lv_iload_n hx hb dSF_issue_73 rfl (lv_at hl 3 rfl) ?_
  refine lv_iconst (v := nI 3) hx hb dSF_issue_74 xk_i3 ?_
  refine lv_icmp_ne hx hb dSF_issue_75 rfl (fun _ => ?_) (fun hq => absurd hq (by decide))
  refine lv_iload_n hx hb dSF_issue_104 rfl (lv_at hl 3 rfl) ?_
  refine lv_iconst (v := nI 4) hx hb dSF_issue_105 xk_i4 ?_
  refine lv_icmp_ne hx hb dSF_issue_106 rfl (fun hq => absurd rfl hq) (fun _ => ?_)
  refine lv_aload hx hb dSF_issue_109 (lv_at hl 0 rfl) ?_
  refine lv_iload_n hx hb dSF_issue_111 rfl (lv_at hl 3 rfl) ?_
  refine lv_iconst (v := nI 0) hx hb dSF_issue_112 xk_i0 ?_
  refine lv_iconst (v := nI 0) hx hb dSF_issue_113 xk_i0 ?_
  refine lv_aload_n hx hb dSF_issue_114 rfl (lv_at hl 1 rfl) ?_
  refine xg_SF_44 C w (xI5 hI) dSF_issue_115 ?_
  refine xd_callV C w hz hml hl.1 xk_SF_86 (cTG_begin l D cA tz I ad σ (4 * a + b) (nI 4) (nI 0) (nI 0) (σ 5 0 7) hI (by omega)) (xI0 hI (by omega)) rfl rfl rfl rfl (Nat.le_of_ble_eq_true rfl) (by decide) (by decide) dSF_issue_118 (fun H locs w => ?_)
  refine W.eq (g2 := F0 m 121 ls []) rfl ?_
  have w : xr_W xCl (xT cA) D I ad (xc cA tz ad (xf_begin σ (4 * a + b) (nI 4) (nI 0) (nI 0) (σ 5 0 7))) A s H locs := w
  refine lv_goto hx hb dSF_issue_121 rfl ?_
  refine lv_aload_n hx hb dSF_issue_149 rfl (lv_at hl 1 rfl) ?_
  refine lv_dup hx hb dSF_issue_150 rfl ?_
  refine xg_SF_44 C w (xI5 hI) dSF_issue_151 ?_
  refine lv_iconst (v := nI 1) hx hb dSF_issue_154 xk_i1 ?_
  refine lv_iadd hx hb dSF_issue_155 ?_
  refine xp_SF_44 C w (xI5 hI) dSF_issue_156 (fun H locs w => ?_)
  exact xd_vret C w hr hlk dSF_issue_159 rfl
set_option maxRecDepth 100000 in
set_option maxHeartbeats 4000000 in
theorem cSF_issue_ok (l : Launch) (D : va_G) (cA : Nat → ClassId) (tz : Nat) (I : List (Nat × Nat)) (ad : Nat → Nat → Nat) (σ : xMem) (a b k q n : Nat) (hI : xI I) (h6 : σ 6 0 0 = nI 16) (h7 : σ 7 0 0 = nI 3) (ha : a < 4) (hb4 : b < 4) (hk4 : k < 4) (h64 : q < 64) (h1n : 1 ≤ n) (hn4 : n ≤ 4) (hn1 : k = 2 ∨ k = 3 → n ≤ 1) (hdv : q / 16 = (q + n - 1) / 16) (hst : σ 0 (4 * a + b) 3 = 0) (hlo : k = 2 → ¬ xp_some σ (nI a) ∧ ¬ xp_wait σ a (nI 2)) (hun : k = 3 → (q < 48 ∧ σ 2 (q / 16) 3 = nI a) ∧ ¬ xp_wait σ a (nI 3)) : xD l ySF_issue bSF_issue 7 none 3 [.ref (ad 5 0), .int (nI a), .int (nI k), .int (nI q), .int (nI n), .int (nI b)] D cA tz I ad σ none (xf_issue σ a b k q n) := by
  refine xd_of (by decide) (by simp [lg_sl, Value.category]) ?_
  intro p e s m args below meth c A ls C hr hlk hml hl w hz
  obtain ⟨hx, hb, hown, hts⟩ := id C
  have hl : lv_has ls 7 [(0, .ref (ad 5 0)), (1, .int (nI a)), (2, .int (nI k)), (3, .int (nI q)), (4, .int (nI n)), (5, .int (nI b))] := hl
  refine lv_iload_n hx hb dSF_issue_0 rfl (lv_at hl 1 rfl) ?_
  refine lv_iconst (v := nI 4) hx hb dSF_issue_1 xk_i4 ?_
  refine xd_callS C w hz hml hl.1 xk_SF_57 (cSF_checkIndex_ok l D cA tz I ad σ a 4 (by omega) (by decide)) rfl rfl (Nat.le_of_ble_eq_true rfl) (by decide) (by decide) dSF_issue_2 (fun H locs w => ?_)
  refine W.eq (g2 := F0 m 5 ls []) rfl ?_
  refine lv_iload hx hb dSF_issue_5 (lv_at hl 5 rfl) ?_
  refine lv_iconst (v := nI 4) hx hb dSF_issue_7 xk_i4 ?_
  refine xd_callS C w hz hml hl.1 xk_SF_57 (cSF_checkIndex_ok l D cA tz I ad σ b 4 (by omega) (by decide)) rfl rfl (Nat.le_of_ble_eq_true rfl) (by decide) (by decide) dSF_issue_8 (fun H locs w => ?_)
  refine W.eq (g2 := F0 m 11 ls []) rfl ?_
  refine lv_iload_n hx hb dSF_issue_11 rfl (lv_at hl 2 rfl) ?_
  refine lv_iload_n hx hb dSF_issue_12 rfl (lv_at hl 3 rfl) ?_
  refine lv_iload hx hb dSF_issue_13 (lv_at hl 4 rfl) ?_
  refine xd_callS C w hz hml hl.1 xk_SF_60 (cSF_checkRequest_ok l D cA tz I ad σ k q n hk4 h64 h1n hn4 hn1 hdv) rfl rfl (Nat.le_of_ble_eq_true rfl) (by decide) (by decide) dSF_issue_15 (fun H locs w => ?_)
  refine W.eq (g2 := F0 m 18 ls []) rfl ?_
  refine lv_aload_n hx hb dSF_issue_18 rfl (lv_at hl 0 rfl) ?_
  refine lv_iload_n hx hb dSF_issue_19 rfl (lv_at hl 1 rfl) ?_
  refine lv_iload hx hb dSF_issue_20 (lv_at hl 5 rfl) ?_
  refine xd_callV C w hz hml hl.1 xk_SF_64 (cSF_tagOf l D cA tz I ad σ a b hI h6 (by omega)) (xI5 hI) rfl rfl rfl rfl (Nat.le_of_ble_eq_true rfl) (by decide) (by decide) dSF_issue_22 (fun H locs w => ?_)
  refine W.eq (g2 := F0 m 25 ls [.ref (ad 0 (4 * a + b))]) rfl ?_
  refine lv_astore (lv' := [(6, .ref (ad 0 (4 * a + b))), (0, .ref (ad 5 0)), (1, .int (nI a)), (2, .int (nI k)), (3, .int (nI q)), (4, .int (nI n)), (5, .int (nI b))]) hx hb dSF_issue_25 hl (by decide) rfl (fun ls hl => ?_)
  refine lv_aload hx hb dSF_issue_27 (lv_at hl 0 rfl) ?_
  refine xg_SF_68 C w (xI0 hI (by omega)) dSF_issue_29 ?_
  refine lv_if_ne hx hb dSF_issue_32 rfl (fun hh1 => absurd hst hh1) (fun hh1 => ?_)
  refine lv_iconst (v := nI 1) hx hb dSF_issue_35 xk_i1 ?_
  refine lv_goto hx hb dSF_issue_36 rfl ?_
  refine xd_callS C w hz hml hl.1 xk_SF_71 (cSF_checkState_ok l D cA tz I ad (σ)) rfl rfl (Nat.le_of_ble_eq_true rfl) (by decide) (by decide) dSF_issue_40 (fun H locs w => ?_)
  refine W.eq (g2 := F0 m 43 ls []) rfl ?_
  refine lv_iload_n hx hb dSF_issue_43 rfl (lv_at hl 3 rfl) ?_
  refine lv_iconst (v := nI 2) hx hb dSF_issue_44 xk_i2 ?_
  refine lv_icmp_ne hx hb dSF_issue_45 rfl (fun hh2 => ?_) (fun hh2 => ?_)
  · skip
    refine lv_iload_n hx hb dSF_issue_73 rfl (lv_at hl 3 rfl) ?_
    refine lv_iconst (v := nI 3) hx hb dSF_issue_74 xk_i3 ?_
    refine lv_icmp_ne hx hb dSF_issue_75 rfl (fun hh3 => ?_) (fun hh3 => ?_)
    · skip
      refine lv_iload_n hx hb dSF_issue_104 rfl (lv_at hl 3 rfl) ?_
      refine lv_iconst (v := nI 4) hx hb dSF_issue_105 xk_i4 ?_
      refine lv_icmp_ne hx hb dSF_issue_106 rfl (fun hh4 => ?_) (fun hh4 => absurd ((nI_eq (by omega) (by decide)).mp hh4) (by omega))
      refine lv_aload hx hb dSF_issue_124 (lv_at hl 0 rfl) ?_
      refine lv_iload_n hx hb dSF_issue_126 rfl (lv_at hl 3 rfl) ?_
      refine lv_iload_n hx hb dSF_issue_127 rfl (lv_at hl 4 rfl) ?_
      refine lv_iload hx hb dSF_issue_128 (lv_at hl 5 rfl) ?_
      refine lv_aload_n hx hb dSF_issue_130 rfl (lv_at hl 1 rfl) ?_
      refine xg_SF_44 C w (xI5 hI) dSF_issue_131 ?_
      refine xd_callV C w hz hml hl.1 xk_SF_86 (cTG_begin l D cA tz I ad σ (4 * a + b) (nI k) (nI q) (nI n) (σ 5 0 7) hI (by omega)) (xI0 hI (by omega)) rfl rfl rfl rfl (Nat.le_of_ble_eq_true rfl) (by decide) (by decide) dSF_issue_134 (fun H locs w => ?_)
      refine W.eq (g2 := F0 m 137 ls []) rfl ?_
      have w : xr_W xCl (xT cA) D I ad (xc cA tz ad (xf_begin σ (4 * a + b) (nI k) (nI q) (nI n) (σ 5 0 7))) A s H locs := w
      refine lv_aload hx hb dSF_issue_137 (lv_at hl 0 rfl) ?_
      refine lv_aload_n hx hb dSF_issue_139 rfl (lv_at hl 1 rfl) ?_
      refine xg_SF_27 C w (xI5 hI) dSF_issue_140 ?_
      refine lv_iload_n hx hb dSF_issue_143 rfl (lv_at hl 2 rfl) ?_
      refine xa_9 C w (xI9 hI) a rfl (by omega) dSF_issue_144 ?_
      refine lv_iconst (v := nI 0) hx hb dSF_issue_145 xk_i0 ?_
      refine xd_callV C w hz hml hl.1 xk_SF_90 (cTG_keep l D cA tz I ad (xf_begin σ (4 * a + b) (nI k) (nI q) (nI n) (σ 5 0 7)) (4 * a + b) 4 a 4 0 n hI (by omega) (xI4 hI ha) (fun _ => rfl) (by simp [xf_begin, xu3, xw_u2, va_up]) hn4 (by omega) (by decide)) (xI0 hI (by omega)) rfl rfl rfl rfl (Nat.le_of_ble_eq_true rfl) (by decide) (by decide) dSF_issue_146 (fun H locs w => ?_)
      refine W.eq (g2 := F0 m 149 ls []) rfl ?_
      have w : xr_W xCl (xT cA) D I ad (xc cA tz ad (xw_u2 (xf_begin σ (4 * a + b) (nI k) (nI q) (nI n) (σ 5 0 7)) 1 (4 * a + b) (va_cpy ((xf_begin σ (4 * a + b) (nI k) (nI q) (nI n) (σ 5 0 7)) 4 a) ((xf_begin σ (4 * a + b) (nI k) (nI q) (nI n) (σ 5 0 7)) 1 (4 * a + b)) 0 0 n))) A s H locs := w
      refine lv_aload_n hx hb dSF_issue_149 rfl (lv_at hl 1 rfl) ?_
      refine lv_dup hx hb dSF_issue_150 rfl ?_
      refine xg_SF_44 C w (xI5 hI) dSF_issue_151 ?_
      refine lv_iconst (v := nI 1) hx hb dSF_issue_154 xk_i1 ?_
      refine lv_iadd hx hb dSF_issue_155 ?_
      refine xp_SF_44 C w (xI5 hI) dSF_issue_156 (fun H locs w => ?_)
      exact xd_vret C w hr hlk dSF_issue_159 rfl
    · skip
      refine lv_aload_n hx hb dSF_issue_78 rfl (lv_at hl 1 rfl) ?_
      refine lv_iload_n hx hb dSF_issue_79 rfl (lv_at hl 2 rfl) ?_
      refine lv_iload_n hx hb dSF_issue_80 rfl (lv_at hl 4 rfl) ?_
      refine xd_callV C w hz hml hl.1 xk_SF_83 (cSF_holdsTargetOf l D cA tz I ad σ (nI a) q hI h7 h64) (xI5 hI) rfl rfl rfl rfl (Nat.le_of_ble_eq_true rfl) (by decide) (by decide) dSF_issue_81 (fun H locs w => ?_)
      refine W.eq (g2 := F0 m 84 ls [.int (xb (q < 48 ∧ σ 2 (q / 16) 3 = nI a))]) rfl ?_
      refine xz_ifeq hx hb dSF_issue_84 rfl (fun hh5 => absurd (hun ((nI_eq (by omega) (by decide)).mp (by assumption))).1 hh5) (fun hh5 => ?_)
      refine lv_aload_n hx hb dSF_issue_87 rfl (lv_at hl 1 rfl) ?_
      refine lv_iload_n hx hb dSF_issue_88 rfl (lv_at hl 2 rfl) ?_
      refine lv_iconst (v := nI 3) hx hb dSF_issue_89 xk_i3 ?_
      refine xd_callV C w hz hml hl.1 xk_SF_79 (cSF_hasWaiting l D cA tz I ad σ a (nI 3) hI h6 ha) (xI5 hI) rfl rfl rfl rfl (Nat.le_of_ble_eq_true rfl) (by decide) (by decide) dSF_issue_90 (fun H locs w => ?_)
      refine W.eq (g2 := F0 m 93 ls [.int (xb (xp_wait σ a (nI 3)))]) rfl ?_
      refine xz_ifne hx hb dSF_issue_93 rfl (fun hh6 => absurd hh6 (hun ((nI_eq (by omega) (by decide)).mp (by assumption))).2) (fun hh6 => ?_)
      refine lv_iconst (v := nI 1) hx hb dSF_issue_96 xk_i1 ?_
      refine lv_goto hx hb dSF_issue_97 rfl ?_
      refine xd_callS C w hz hml hl.1 xk_SF_71 (cSF_checkState_ok l D cA tz I ad (σ)) rfl rfl (Nat.le_of_ble_eq_true rfl) (by decide) (by decide) dSF_issue_101 (fun H locs w => ?_)
      refine W.eq (g2 := F0 m 104 ls []) rfl ?_
      refine lv_iload_n hx hb dSF_issue_104 rfl (lv_at hl 3 rfl) ?_
      refine lv_iconst (v := nI 4) hx hb dSF_issue_105 xk_i4 ?_
      refine lv_icmp_ne hx hb dSF_issue_106 rfl (fun hh7 => ?_) (fun hh7 => absurd ((nI_eq (by omega) (by decide)).mp hh7) (by omega))
      refine lv_aload hx hb dSF_issue_124 (lv_at hl 0 rfl) ?_
      refine lv_iload_n hx hb dSF_issue_126 rfl (lv_at hl 3 rfl) ?_
      refine lv_iload_n hx hb dSF_issue_127 rfl (lv_at hl 4 rfl) ?_
      refine lv_iload hx hb dSF_issue_128 (lv_at hl 5 rfl) ?_
      refine lv_aload_n hx hb dSF_issue_130 rfl (lv_at hl 1 rfl) ?_
      refine xg_SF_44 C w (xI5 hI) dSF_issue_131 ?_
      refine xd_callV C w hz hml hl.1 xk_SF_86 (cTG_begin l D cA tz I ad σ (4 * a + b) (nI k) (nI q) (nI n) (σ 5 0 7) hI (by omega)) (xI0 hI (by omega)) rfl rfl rfl rfl (Nat.le_of_ble_eq_true rfl) (by decide) (by decide) dSF_issue_134 (fun H locs w => ?_)
      refine W.eq (g2 := F0 m 137 ls []) rfl ?_
      have w : xr_W xCl (xT cA) D I ad (xc cA tz ad (xf_begin σ (4 * a + b) (nI k) (nI q) (nI n) (σ 5 0 7))) A s H locs := w
      refine lv_aload hx hb dSF_issue_137 (lv_at hl 0 rfl) ?_
      refine lv_aload_n hx hb dSF_issue_139 rfl (lv_at hl 1 rfl) ?_
      refine xg_SF_27 C w (xI5 hI) dSF_issue_140 ?_
      refine lv_iload_n hx hb dSF_issue_143 rfl (lv_at hl 2 rfl) ?_
      refine xa_9 C w (xI9 hI) a rfl (by omega) dSF_issue_144 ?_
      refine lv_iconst (v := nI 0) hx hb dSF_issue_145 xk_i0 ?_
      refine xd_callV C w hz hml hl.1 xk_SF_90 (cTG_keep l D cA tz I ad (xf_begin σ (4 * a + b) (nI k) (nI q) (nI n) (σ 5 0 7)) (4 * a + b) 4 a 4 0 n hI (by omega) (xI4 hI ha) (fun _ => rfl) (by simp [xf_begin, xu3, xw_u2, va_up]) hn4 (by omega) (by decide)) (xI0 hI (by omega)) rfl rfl rfl rfl (Nat.le_of_ble_eq_true rfl) (by decide) (by decide) dSF_issue_146 (fun H locs w => ?_)
      refine W.eq (g2 := F0 m 149 ls []) rfl ?_
      have w : xr_W xCl (xT cA) D I ad (xc cA tz ad (xw_u2 (xf_begin σ (4 * a + b) (nI k) (nI q) (nI n) (σ 5 0 7)) 1 (4 * a + b) (va_cpy ((xf_begin σ (4 * a + b) (nI k) (nI q) (nI n) (σ 5 0 7)) 4 a) ((xf_begin σ (4 * a + b) (nI k) (nI q) (nI n) (σ 5 0 7)) 1 (4 * a + b)) 0 0 n))) A s H locs := w
      refine lv_aload_n hx hb dSF_issue_149 rfl (lv_at hl 1 rfl) ?_
      refine lv_dup hx hb dSF_issue_150 rfl ?_
      refine xg_SF_44 C w (xI5 hI) dSF_issue_151 ?_
      refine lv_iconst (v := nI 1) hx hb dSF_issue_154 xk_i1 ?_
      refine lv_iadd hx hb dSF_issue_155 ?_
      refine xp_SF_44 C w (xI5 hI) dSF_issue_156 (fun H locs w => ?_)
      exact xd_vret C w hr hlk dSF_issue_159 rfl
  · skip
    refine lv_aload_n hx hb dSF_issue_48 rfl (lv_at hl 1 rfl) ?_
    refine lv_iload_n hx hb dSF_issue_49 rfl (lv_at hl 2 rfl) ?_
    refine xd_callV C w hz hml hl.1 xk_SF_75 (cSF_holdsSome l D cA tz I ad σ (nI a) hI h7) (xI5 hI) rfl rfl rfl rfl (Nat.le_of_ble_eq_true rfl) (by decide) (by decide) dSF_issue_50 (fun H locs w => ?_)
    refine W.eq (g2 := F0 m 53 ls [.int (xb (xp_some σ (nI a)))]) rfl ?_
    refine xz_ifne hx hb dSF_issue_53 rfl (fun hh8 => absurd hh8 (hlo ((nI_eq (by omega) (by decide)).mp (by assumption))).1) (fun hh8 => ?_)
    refine lv_aload_n hx hb dSF_issue_56 rfl (lv_at hl 1 rfl) ?_
    refine lv_iload_n hx hb dSF_issue_57 rfl (lv_at hl 2 rfl) ?_
    refine lv_iconst (v := nI 2) hx hb dSF_issue_58 xk_i2 ?_
    refine xd_callV C w hz hml hl.1 xk_SF_79 (cSF_hasWaiting l D cA tz I ad σ a (nI 2) hI h6 ha) (xI5 hI) rfl rfl rfl rfl (Nat.le_of_ble_eq_true rfl) (by decide) (by decide) dSF_issue_59 (fun H locs w => ?_)
    refine W.eq (g2 := F0 m 62 ls [.int (xb (xp_wait σ a (nI 2)))]) rfl ?_
    refine xz_ifne hx hb dSF_issue_62 rfl (fun hh9 => absurd hh9 (hlo ((nI_eq (by omega) (by decide)).mp (by assumption))).2) (fun hh9 => ?_)
    refine lv_iconst (v := nI 1) hx hb dSF_issue_65 xk_i1 ?_
    refine lv_goto hx hb dSF_issue_66 rfl ?_
    refine xd_callS C w hz hml hl.1 xk_SF_71 (cSF_checkState_ok l D cA tz I ad (σ)) rfl rfl (Nat.le_of_ble_eq_true rfl) (by decide) (by decide) dSF_issue_70 (fun H locs w => ?_)
    refine W.eq (g2 := F0 m 73 ls []) rfl ?_
    refine lv_iload_n hx hb dSF_issue_73 rfl (lv_at hl 3 rfl) ?_
    refine lv_iconst (v := nI 3) hx hb dSF_issue_74 xk_i3 ?_
    refine lv_icmp_ne hx hb dSF_issue_75 rfl (fun hh10 => ?_) (fun hh10 => ?_)
    · skip
      refine lv_iload_n hx hb dSF_issue_104 rfl (lv_at hl 3 rfl) ?_
      refine lv_iconst (v := nI 4) hx hb dSF_issue_105 xk_i4 ?_
      refine lv_icmp_ne hx hb dSF_issue_106 rfl (fun hh11 => ?_) (fun hh11 => absurd ((nI_eq (by omega) (by decide)).mp hh11) (by omega))
      refine lv_aload hx hb dSF_issue_124 (lv_at hl 0 rfl) ?_
      refine lv_iload_n hx hb dSF_issue_126 rfl (lv_at hl 3 rfl) ?_
      refine lv_iload_n hx hb dSF_issue_127 rfl (lv_at hl 4 rfl) ?_
      refine lv_iload hx hb dSF_issue_128 (lv_at hl 5 rfl) ?_
      refine lv_aload_n hx hb dSF_issue_130 rfl (lv_at hl 1 rfl) ?_
      refine xg_SF_44 C w (xI5 hI) dSF_issue_131 ?_
      refine xd_callV C w hz hml hl.1 xk_SF_86 (cTG_begin l D cA tz I ad σ (4 * a + b) (nI k) (nI q) (nI n) (σ 5 0 7) hI (by omega)) (xI0 hI (by omega)) rfl rfl rfl rfl (Nat.le_of_ble_eq_true rfl) (by decide) (by decide) dSF_issue_134 (fun H locs w => ?_)
      refine W.eq (g2 := F0 m 137 ls []) rfl ?_
      have w : xr_W xCl (xT cA) D I ad (xc cA tz ad (xf_begin σ (4 * a + b) (nI k) (nI q) (nI n) (σ 5 0 7))) A s H locs := w
      refine lv_aload hx hb dSF_issue_137 (lv_at hl 0 rfl) ?_
      refine lv_aload_n hx hb dSF_issue_139 rfl (lv_at hl 1 rfl) ?_
      refine xg_SF_27 C w (xI5 hI) dSF_issue_140 ?_
      refine lv_iload_n hx hb dSF_issue_143 rfl (lv_at hl 2 rfl) ?_
      refine xa_9 C w (xI9 hI) a rfl (by omega) dSF_issue_144 ?_
      refine lv_iconst (v := nI 0) hx hb dSF_issue_145 xk_i0 ?_
      refine xd_callV C w hz hml hl.1 xk_SF_90 (cTG_keep l D cA tz I ad (xf_begin σ (4 * a + b) (nI k) (nI q) (nI n) (σ 5 0 7)) (4 * a + b) 4 a 4 0 n hI (by omega) (xI4 hI ha) (fun _ => rfl) (by simp [xf_begin, xu3, xw_u2, va_up]) hn4 (by omega) (by decide)) (xI0 hI (by omega)) rfl rfl rfl rfl (Nat.le_of_ble_eq_true rfl) (by decide) (by decide) dSF_issue_146 (fun H locs w => ?_)
      refine W.eq (g2 := F0 m 149 ls []) rfl ?_
      have w : xr_W xCl (xT cA) D I ad (xc cA tz ad (xw_u2 (xf_begin σ (4 * a + b) (nI k) (nI q) (nI n) (σ 5 0 7)) 1 (4 * a + b) (va_cpy ((xf_begin σ (4 * a + b) (nI k) (nI q) (nI n) (σ 5 0 7)) 4 a) ((xf_begin σ (4 * a + b) (nI k) (nI q) (nI n) (σ 5 0 7)) 1 (4 * a + b)) 0 0 n))) A s H locs := w
      refine lv_aload_n hx hb dSF_issue_149 rfl (lv_at hl 1 rfl) ?_
      refine lv_dup hx hb dSF_issue_150 rfl ?_
      refine xg_SF_44 C w (xI5 hI) dSF_issue_151 ?_
      refine lv_iconst (v := nI 1) hx hb dSF_issue_154 xk_i1 ?_
      refine lv_iadd hx hb dSF_issue_155 ?_
      refine xp_SF_44 C w (xI5 hI) dSF_issue_156 (fun H locs w => ?_)
      exact xd_vret C w hr hlk dSF_issue_159 rfl
    · skip
      refine lv_aload_n hx hb dSF_issue_78 rfl (lv_at hl 1 rfl) ?_
      refine lv_iload_n hx hb dSF_issue_79 rfl (lv_at hl 2 rfl) ?_
      refine lv_iload_n hx hb dSF_issue_80 rfl (lv_at hl 4 rfl) ?_
      refine xd_callV C w hz hml hl.1 xk_SF_83 (cSF_holdsTargetOf l D cA tz I ad σ (nI a) q hI h7 h64) (xI5 hI) rfl rfl rfl rfl (Nat.le_of_ble_eq_true rfl) (by decide) (by decide) dSF_issue_81 (fun H locs w => ?_)
      refine W.eq (g2 := F0 m 84 ls [.int (xb (q < 48 ∧ σ 2 (q / 16) 3 = nI a))]) rfl ?_
      refine xz_ifeq hx hb dSF_issue_84 rfl (fun hh12 => absurd (hun ((nI_eq (by omega) (by decide)).mp (by assumption))).1 hh12) (fun hh12 => ?_)
      refine lv_aload_n hx hb dSF_issue_87 rfl (lv_at hl 1 rfl) ?_
      refine lv_iload_n hx hb dSF_issue_88 rfl (lv_at hl 2 rfl) ?_
      refine lv_iconst (v := nI 3) hx hb dSF_issue_89 xk_i3 ?_
      refine xd_callV C w hz hml hl.1 xk_SF_79 (cSF_hasWaiting l D cA tz I ad σ a (nI 3) hI h6 ha) (xI5 hI) rfl rfl rfl rfl (Nat.le_of_ble_eq_true rfl) (by decide) (by decide) dSF_issue_90 (fun H locs w => ?_)
      refine W.eq (g2 := F0 m 93 ls [.int (xb (xp_wait σ a (nI 3)))]) rfl ?_
      refine xz_ifne hx hb dSF_issue_93 rfl (fun hh13 => absurd hh13 (hun ((nI_eq (by omega) (by decide)).mp (by assumption))).2) (fun hh13 => ?_)
      refine lv_iconst (v := nI 1) hx hb dSF_issue_96 xk_i1 ?_
      refine lv_goto hx hb dSF_issue_97 rfl ?_
      refine xd_callS C w hz hml hl.1 xk_SF_71 (cSF_checkState_ok l D cA tz I ad (σ)) rfl rfl (Nat.le_of_ble_eq_true rfl) (by decide) (by decide) dSF_issue_101 (fun H locs w => ?_)
      refine W.eq (g2 := F0 m 104 ls []) rfl ?_
      refine lv_iload_n hx hb dSF_issue_104 rfl (lv_at hl 3 rfl) ?_
      refine lv_iconst (v := nI 4) hx hb dSF_issue_105 xk_i4 ?_
      refine lv_icmp_ne hx hb dSF_issue_106 rfl (fun hh14 => ?_) (fun hh14 => absurd ((nI_eq (by omega) (by decide)).mp hh14) (by omega))
      refine lv_aload hx hb dSF_issue_124 (lv_at hl 0 rfl) ?_
      refine lv_iload_n hx hb dSF_issue_126 rfl (lv_at hl 3 rfl) ?_
      refine lv_iload_n hx hb dSF_issue_127 rfl (lv_at hl 4 rfl) ?_
      refine lv_iload hx hb dSF_issue_128 (lv_at hl 5 rfl) ?_
      refine lv_aload_n hx hb dSF_issue_130 rfl (lv_at hl 1 rfl) ?_
      refine xg_SF_44 C w (xI5 hI) dSF_issue_131 ?_
      refine xd_callV C w hz hml hl.1 xk_SF_86 (cTG_begin l D cA tz I ad σ (4 * a + b) (nI k) (nI q) (nI n) (σ 5 0 7) hI (by omega)) (xI0 hI (by omega)) rfl rfl rfl rfl (Nat.le_of_ble_eq_true rfl) (by decide) (by decide) dSF_issue_134 (fun H locs w => ?_)
      refine W.eq (g2 := F0 m 137 ls []) rfl ?_
      have w : xr_W xCl (xT cA) D I ad (xc cA tz ad (xf_begin σ (4 * a + b) (nI k) (nI q) (nI n) (σ 5 0 7))) A s H locs := w
      refine lv_aload hx hb dSF_issue_137 (lv_at hl 0 rfl) ?_
      refine lv_aload_n hx hb dSF_issue_139 rfl (lv_at hl 1 rfl) ?_
      refine xg_SF_27 C w (xI5 hI) dSF_issue_140 ?_
      refine lv_iload_n hx hb dSF_issue_143 rfl (lv_at hl 2 rfl) ?_
      refine xa_9 C w (xI9 hI) a rfl (by omega) dSF_issue_144 ?_
      refine lv_iconst (v := nI 0) hx hb dSF_issue_145 xk_i0 ?_
      refine xd_callV C w hz hml hl.1 xk_SF_90 (cTG_keep l D cA tz I ad (xf_begin σ (4 * a + b) (nI k) (nI q) (nI n) (σ 5 0 7)) (4 * a + b) 4 a 4 0 n hI (by omega) (xI4 hI ha) (fun _ => rfl) (by simp [xf_begin, xu3, xw_u2, va_up]) hn4 (by omega) (by decide)) (xI0 hI (by omega)) rfl rfl rfl rfl (Nat.le_of_ble_eq_true rfl) (by decide) (by decide) dSF_issue_146 (fun H locs w => ?_)
      refine W.eq (g2 := F0 m 149 ls []) rfl ?_
      have w : xr_W xCl (xT cA) D I ad (xc cA tz ad (xw_u2 (xf_begin σ (4 * a + b) (nI k) (nI q) (nI n) (σ 5 0 7)) 1 (4 * a + b) (va_cpy ((xf_begin σ (4 * a + b) (nI k) (nI q) (nI n) (σ 5 0 7)) 4 a) ((xf_begin σ (4 * a + b) (nI k) (nI q) (nI n) (σ 5 0 7)) 1 (4 * a + b)) 0 0 n))) A s H locs := w
      refine lv_aload_n hx hb dSF_issue_149 rfl (lv_at hl 1 rfl) ?_
      refine lv_dup hx hb dSF_issue_150 rfl ?_
      refine xg_SF_44 C w (xI5 hI) dSF_issue_151 ?_
      refine lv_iconst (v := nI 1) hx hb dSF_issue_154 xk_i1 ?_
      refine lv_iadd hx hb dSF_issue_155 ?_
      refine xp_SF_44 C w (xI5 hI) dSF_issue_156 (fun H locs w => ?_)
      exact xd_vret C w hr hlk dSF_issue_159 rfl
