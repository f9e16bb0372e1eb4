/-! The reference: issue, a cycle. -/
theorem mp_q48 {x y : Int32} (hy : x = nI 3 → ∃ q, q < 64 ∧ y = nI q) (h : x = nI 3) : xN y < 48 ↔ ¬ nI 48 ≤ y := by
  obtain ⟨q, h64, rfl⟩ := hy h
  rw [xN_of rfl (by omega), nI_leI (by omega) (by omega)]
  omega
theorem mf_move_at {σ : xMem} {r q n a k j : Nat} (h1 : a ≠ 32) (h2 : a ≠ 21) (h3 : a ≠ 26) (h4 : a ≠ 34) (h5 : a ≠ 35) : mf_move σ r q n a k j = σ a k j := by
  unfold mf_move
  by_cases h : σ 27 0 r = nI 1 ∨ σ 27 0 r = nI 3
  · rw [xif_t h, xu3_at, xu2_at, xu3_at]
    grind
  · rw [xif_f h, xu3_at, xu2_at, xu3_at]
    grind
theorem mf_gr3_27 (σ : xMem) (b : Nat) : mf_gr3 σ b 27 0 b = σ 27 0 b := by
  unfold mf_gr3
  by_cases h : σ 27 0 b = nI 2
  · rw [xif_t h]; rfl
  · rw [xif_f h]; rfl
theorem mf_gr3_28 (σ : xMem) (b : Nat) : mf_gr3 σ b 28 0 b = σ 28 0 b := by
  unfold mf_gr3
  by_cases h : σ 27 0 b = nI 2
  · rw [xif_t h]; rfl
  · rw [xif_f h]; rfl
theorem xf_it_el {el : Nat → Prop} {bt : Nat → Nat → Prop} {cand : Nat → Nat} : ∀ i b, xf_it el bt cand i = some b → el b := by
  intro i
  induction i with
  | zero => intro b h; simp [xf_it] at h
  | succ i ih =>
    intro b h
    have hs : xf_it el bt cand (i + 1) = xf_step el bt (xf_it el bt cand i) (cand i) := rfl
    rw [hs] at h
    unfold xf_step at h
    by_cases hc : el (cand i) ∧ ∀ x, xf_it el bt cand i = some x → bt (cand i) x
    · rw [xif_t hc] at h
      cases h
      exact hc.1
    · rw [xif_f hc] at h
      exact ih b h
theorem mf_many_n {σ : xMem} {i : Nat} (h : mf_bst (mf_run σ i) = none) : mf_many σ i = mf_many σ (i + 1) := by
  show _ = match mf_bst (mf_run σ i) with
    | none => mf_many σ i
    | some _ => mf_many σ i + 1
  rw [h]
theorem mf_many_s {σ : xMem} {i b : Nat} (h : mf_bst (mf_run σ i) = some b) : mf_many σ i + 1 = mf_many σ (i + 1) := by
  show _ = match mf_bst (mf_run σ i) with
    | none => mf_many σ i
    | some _ => mf_many σ i + 1
  rw [h]
theorem mf_fst_el {σ : xMem} {x : Int32} {i b : Nat} (h : mf_fst σ x i = some b) : mp_inq σ x b := xf_it_el i b h
set_option maxRecDepth 100000 in
set_option maxHeartbeats 4000000 in
theorem cMD_isAllowed (l : Launch) (D : va_G) (cA : Nat → ClassId) (tz : Nat) (I : List (Nat × Nat)) (ad : Nat → Nat → Nat) (σ : xMem) (a b : Nat) (x y : Int32) (hJ : xJ I) (ha : a < 4) (hb4 : b < 4) (hy : x = nI 3 → ∃ q, q < 64 ∧ y = nI q) : xD l yMD_isAllowed bMD_isAllowed 5 (some .boolean) 2 [.ref (ad 20 0), .int (nI a), .int x, .int y, .int (nI b)] D cA tz I ad σ (some (.int (xb (mp_allow σ a x (xN y) b)))) σ := by
  refine xd_of (by decide) (by simp [lg_sl, Value.category]) ?_
  intro p e s m args below meth c A ls C hr hlk hml hl w hz
  obtain ⟨hx, hb, hown, hts⟩ := id C
  have hl : lv_has ls 5 [(0, .ref (ad 20 0)), (1, .int (nI a)), (2, .int x), (3, .int y), (4, .int (nI b))] := hl
  refine lv_aload_n hx hb dMD_isAllowed_0 rfl (lv_at hl 0 rfl) ?_
  refine xg_MD_26 C w (xJ20 hJ) dMD_isAllowed_1 ?_
  refine lv_iconst (v := nI 4) hx hb dMD_isAllowed_4 xk_i4 ?_
  refine lv_iload_n hx hb dMD_isAllowed_5 rfl (lv_at hl 1 rfl) ?_
  refine xn_mul hx hb dMD_isAllowed_6 ?_
  refine lv_iload hx hb dMD_isAllowed_7 (lv_at hl 4 rfl) ?_
  refine xn_add hx hb dMD_isAllowed_9 ?_
  refine xr_iald C w (xJ26 hJ) rfl 0 rfl ((4 * a) + b) rfl (by omega) (by decide) dMD_isAllowed_10 ?_
  refine lv_if_eq hx hb dMD_isAllowed_11 rfl (fun hh1 => ?_) (fun hh1 => ?_)
  · skip
    refine lv_iload_n hx hb dMD_isAllowed_16 rfl (lv_at hl 2 rfl) ?_
    refine lv_iconst (v := nI 2) hx hb dMD_isAllowed_17 xk_i2 ?_
    refine lv_icmp_ne hx hb dMD_isAllowed_18 rfl (fun hh2 => ?_) (fun hh2 => ?_)
    · skip
      refine lv_iload_n hx hb dMD_isAllowed_66 rfl (lv_at hl 2 rfl) ?_
      refine lv_iconst (v := nI 3) hx hb dMD_isAllowed_67 xk_i3 ?_
      refine lv_icmp_ne hx hb dMD_isAllowed_68 rfl (fun hh3 => ?_) (fun hh3 => ?_)
      · skip
        refine lv_iconst (v := nI 1) hx hb dMD_isAllowed_99 xk_i1 ?_
        refine lv_goto hx hb dMD_isAllowed_100 rfl ?_
        exact xd_zt C w hr hlk dMD_isAllowed_104 (by have q48 := @mp_q48 x y hy; have qn : ¬ nI 2 = nI 3 := (by decide); unfold mp_allow mp_free; grind) rfl
      · skip
        refine lv_iload_n hx hb dMD_isAllowed_71 rfl (lv_at hl 3 rfl) ?_
        refine lv_bipush (v := nI 48) hx hb dMD_isAllowed_72 xk_b48 ?_
        refine lv_icmp_ge hx hb dMD_isAllowed_74 rfl (fun hh4 => ?_) (fun hh4 => ?_)
        · skip
          refine lv_iconst (v := nI 0) hx hb dMD_isAllowed_103 xk_i0 ?_
          exact xd_zf C w hr hlk dMD_isAllowed_104 (by have q48 := @mp_q48 x y hy; have qn : ¬ nI 2 = nI 3 := (by decide); unfold mp_allow mp_free; grind) rfl
        · skip
          obtain ⟨q, h64, hq⟩ := hy (by assumption)
          have h48 : q < 48 := Nat.not_le.mp (fun z => absurd (show nI 48 ≤ y by rw [hq]; exact nI_le z (by omega)) (by assumption))
          have hxq : xN y = q := xN_of hq (by omega)
          refine lv_aload_n hx hb dMD_isAllowed_77 rfl (lv_at hl 0 rfl) ?_
          refine xg_MD_23 C w (xJ20 hJ) dMD_isAllowed_78 ?_
          refine lv_iload_n hx hb dMD_isAllowed_81 rfl (lv_at hl 3 rfl) ?_
          refine lv_bipush (v := nI 16) hx hb dMD_isAllowed_82 xk_b16 ?_
          refine lv_idiv hx hb dMD_isAllowed_84 (by decide) ?_
          refine xn_eq (y := nI (q / 16)) (by rw [hq]; exact pk_div (by omega) (by decide) (by decide)) ?_
          refine xr_iald C w (xJ25 hJ) rfl 0 rfl (q / 16) rfl (by omega) (by decide) dMD_isAllowed_85 ?_
          refine lv_iload_n hx hb dMD_isAllowed_86 rfl (lv_at hl 1 rfl) ?_
          refine lv_icmp_ne hx hb dMD_isAllowed_87 rfl (fun hh5 => ?_) (fun hh5 => ?_)
          · skip
            refine lv_iconst (v := nI 0) hx hb dMD_isAllowed_103 xk_i0 ?_
            exact xd_zf C w hr hlk dMD_isAllowed_104 (by have q48 := @mp_q48 x y hy; have qn : ¬ nI 2 = nI 3 := (by decide); unfold mp_allow mp_free; grind) rfl
          · skip
            refine lv_aload_n hx hb dMD_isAllowed_90 rfl (lv_at hl 0 rfl) ?_
            refine lv_iload_n hx hb dMD_isAllowed_91 rfl (lv_at hl 1 rfl) ?_
            refine lv_iconst (v := nI 3) hx hb dMD_isAllowed_92 xk_i3 ?_
            refine xd_callV C w hz hml hl.1 xk_MD_77 (cMD_hasWaiting l D cA tz I ad (σ) a (nI 3) hJ ha) (xJ20 hJ) rfl rfl rfl rfl (Nat.le_of_ble_eq_true rfl) (by decide) (by decide) dMD_isAllowed_93 (fun H locs w => ?_)
            refine W.eq (g2 := F0 m 96 ls [.int (xb (mp_wait σ a 4 (nI 3)))]) rfl ?_
            refine xz_ifne hx hb dMD_isAllowed_96 rfl (fun hh6 => ?_) (fun hh6 => ?_)
            · skip
              refine lv_iconst (v := nI 0) hx hb dMD_isAllowed_103 xk_i0 ?_
              exact xd_zf C w hr hlk dMD_isAllowed_104 (by have q48 := @mp_q48 x y hy; have qn : ¬ nI 2 = nI 3 := (by decide); unfold mp_allow mp_free; grind) rfl
            · skip
              refine lv_iconst (v := nI 1) hx hb dMD_isAllowed_99 xk_i1 ?_
              refine lv_goto hx hb dMD_isAllowed_100 rfl ?_
              exact xd_zt C w hr hlk dMD_isAllowed_104 (by have q48 := @mp_q48 x y hy; have qn : ¬ nI 2 = nI 3 := (by decide); unfold mp_allow mp_free; grind) rfl
    · skip
      refine lv_aload_n hx hb dMD_isAllowed_21 rfl (lv_at hl 0 rfl) ?_
      refine xg_MD_23 C w (xJ20 hJ) dMD_isAllowed_22 ?_
      refine lv_iconst (v := nI 0) hx hb dMD_isAllowed_25 xk_i0 ?_
      refine xr_iald C w (xJ25 hJ) rfl 0 rfl 0 rfl (by omega) (by decide) dMD_isAllowed_26 ?_
      refine lv_iload_n hx hb dMD_isAllowed_27 rfl (lv_at hl 1 rfl) ?_
      refine lv_icmp_eq hx hb dMD_isAllowed_28 rfl (fun hh7 => ?_) (fun hh7 => ?_)
      · skip
        refine lv_iconst (v := nI 0) hx hb dMD_isAllowed_64 xk_i0 ?_
        exact xd_zf C w hr hlk dMD_isAllowed_65 (by have q48 := @mp_q48 x y hy; have qn : ¬ nI 2 = nI 3 := (by decide); unfold mp_allow mp_free; grind) rfl
      · skip
        refine lv_aload_n hx hb dMD_isAllowed_31 rfl (lv_at hl 0 rfl) ?_
        refine xg_MD_23 C w (xJ20 hJ) dMD_isAllowed_32 ?_
        refine lv_iconst (v := nI 1) hx hb dMD_isAllowed_35 xk_i1 ?_
        refine xr_iald C w (xJ25 hJ) rfl 0 rfl 1 rfl (by omega) (by decide) dMD_isAllowed_36 ?_
        refine lv_iload_n hx hb dMD_isAllowed_37 rfl (lv_at hl 1 rfl) ?_
        refine lv_icmp_eq hx hb dMD_isAllowed_38 rfl (fun hh8 => ?_) (fun hh8 => ?_)
        · skip
          refine lv_iconst (v := nI 0) hx hb dMD_isAllowed_64 xk_i0 ?_
          exact xd_zf C w hr hlk dMD_isAllowed_65 (by have q48 := @mp_q48 x y hy; have qn : ¬ nI 2 = nI 3 := (by decide); unfold mp_allow mp_free; grind) rfl
        · skip
          refine lv_aload_n hx hb dMD_isAllowed_41 rfl (lv_at hl 0 rfl) ?_
          refine xg_MD_23 C w (xJ20 hJ) dMD_isAllowed_42 ?_
          refine lv_iconst (v := nI 2) hx hb dMD_isAllowed_45 xk_i2 ?_
          refine xr_iald C w (xJ25 hJ) rfl 0 rfl 2 rfl (by omega) (by decide) dMD_isAllowed_46 ?_
          refine lv_iload_n hx hb dMD_isAllowed_47 rfl (lv_at hl 1 rfl) ?_
          refine lv_icmp_eq hx hb dMD_isAllowed_48 rfl (fun hh9 => ?_) (fun hh9 => ?_)
          · skip
            refine lv_iconst (v := nI 0) hx hb dMD_isAllowed_64 xk_i0 ?_
            exact xd_zf C w hr hlk dMD_isAllowed_65 (by have q48 := @mp_q48 x y hy; have qn : ¬ nI 2 = nI 3 := (by decide); unfold mp_allow mp_free; grind) rfl
          · skip
            refine lv_aload_n hx hb dMD_isAllowed_51 rfl (lv_at hl 0 rfl) ?_
            refine lv_iload_n hx hb dMD_isAllowed_52 rfl (lv_at hl 1 rfl) ?_
            refine lv_iconst (v := nI 2) hx hb dMD_isAllowed_53 xk_i2 ?_
            refine xd_callV C w hz hml hl.1 xk_MD_77 (cMD_hasWaiting l D cA tz I ad (σ) a (nI 2) hJ ha) (xJ20 hJ) rfl rfl rfl rfl (Nat.le_of_ble_eq_true rfl) (by decide) (by decide) dMD_isAllowed_54 (fun H locs w => ?_)
            refine W.eq (g2 := F0 m 57 ls [.int (xb (mp_wait σ a 4 (nI 2)))]) rfl ?_
            refine xz_ifne hx hb dMD_isAllowed_57 rfl (fun hh10 => ?_) (fun hh10 => ?_)
            · skip
              refine lv_iconst (v := nI 0) hx hb dMD_isAllowed_64 xk_i0 ?_
              exact xd_zf C w hr hlk dMD_isAllowed_65 (by have q48 := @mp_q48 x y hy; have qn : ¬ nI 2 = nI 3 := (by decide); unfold mp_allow mp_free; grind) rfl
            · skip
              refine lv_iconst (v := nI 1) hx hb dMD_isAllowed_60 xk_i1 ?_
              refine lv_goto hx hb dMD_isAllowed_61 rfl ?_
              exact xd_zt C w hr hlk dMD_isAllowed_65 (by have q48 := @mp_q48 x y hy; have qn : ¬ nI 2 = nI 3 := (by decide); unfold mp_allow mp_free; grind) rfl
  · skip
    refine lv_iconst (v := nI 0) hx hb dMD_isAllowed_14 xk_i0 ?_
    exact xd_zf C w hr hlk dMD_isAllowed_15 (by have q48 := @mp_q48 x y hy; have qn : ¬ nI 2 = nI 3 := (by decide); unfold mp_allow mp_free; grind) rfl
set_option maxRecDepth 100000 in
set_option maxHeartbeats 4000000 in
theorem cMD_issue_no1 (l : Launch) (D : va_G) (cA : Nat → ClassId) (tz : Nat) (I : List (Nat × Nat)) (ad : Nat → Nat → Nat) (σ : xMem) (x y z t s0 : Int32) (hJ : xJ I) (hn : ¬ (xp_in s0 (nI 4) ∧ xp_in t (nI 4))) : xD l yMD_issue bMD_issue 10 none 3 [.ref (ad 20 0), .int s0, .int x, .int y, .int z, .int t] D cA tz I ad σ none (xu3 σ 20 0 0 (nI 1)) := by
  refine xd_of (by decide) (by simp [lg_sl, Value.category]) ?_
  intro p e s m args below meth c A ls C hr hlk hml hl w hz
  obtain ⟨hx, hb, hown, hts⟩ := id C
  have hl : lv_has ls 10 [(0, .ref (ad 20 0)), (1, .int s0), (2, .int x), (3, .int y), (4, .int z), (5, .int t)] := hl
  refine lv_iload_n hx hb dMD_issue_0 rfl (lv_at hl 1 rfl) ?_
  refine lv_iconst (v := nI 4) hx hb dMD_issue_1 xk_i4 ?_
  refine xd_callS C w hz hml hl.1 xk_MD_69 (cMD_isIn l D cA tz I ad (σ) s0 (nI 4)) rfl rfl (Nat.le_of_ble_eq_true rfl) (by decide) (by decide) dMD_issue_2 (fun H locs w => ?_)
  refine W.eq (g2 := F0 m 5 ls [.int (xb (xp_in s0 (nI 4)))]) rfl ?_
  refine xz_ifeq hx hb dMD_issue_5 rfl (fun hh1 => ?_) (fun hh1 => ?_)
  · skip
    refine lv_iconst (v := nI 0) hx hb dMD_issue_21 xk_i0 ?_
    refine lv_istore (lv' := [(6, .int (nI 0)), (0, .ref (ad 20 0)), (1, .int s0), (2, .int x), (3, .int y), (4, .int z), (5, .int t)]) hx hb dMD_issue_22 hl (by decide) rfl (fun ls hl => ?_)
    refine lv_iload_n hx hb dMD_issue_24 rfl (lv_at hl 3 rfl) ?_
    refine lv_iload_n hx hb dMD_issue_25 rfl (lv_at hl 4 rfl) ?_
    refine lv_iload hx hb dMD_issue_26 (lv_at hl 5 rfl) ?_
    refine xd_callS C w hz hml hl.1 xk_MD_80 (cMD_isSound l D cA tz I ad (σ) x y z) rfl rfl (Nat.le_of_ble_eq_true rfl) (by decide) (by decide) dMD_issue_28 (fun H locs w => ?_)
    refine W.eq (g2 := F0 m 31 ls [.int (xb (xp_sound x y z))]) rfl ?_
    refine lv_istore (lv' := [(7, .int (xb (xp_sound x y z))), (6, .int (nI 0)), (0, .ref (ad 20 0)), (1, .int s0), (2, .int x), (3, .int y), (4, .int z), (5, .int t)]) hx hb dMD_issue_31 hl (by decide) rfl (fun ls hl => ?_)
    refine lv_aload_n hx hb dMD_issue_33 rfl (lv_at hl 2 rfl) ?_
    refine lv_iload hx hb dMD_issue_34 (lv_at hl 1 rfl) ?_
    refine lv_if_ne hx hb dMD_issue_36 rfl (fun hq => absurd nI_0 hq) (fun _ => ?_)
    refine lv_iconst (v := nI 1) hx hb dMD_issue_39 xk_i1 ?_
    refine lv_goto hx hb dMD_issue_40 rfl ?_
    refine xd_callV C w hz hml hl.1 xk_MD_73 (cMD_refused1 l D cA tz I ad (σ) hJ) (xJ20 hJ) rfl rfl rfl rfl (Nat.le_of_ble_eq_true rfl) (by decide) (by decide) dMD_issue_69 (fun H locs w => ?_)
    refine W.eq (g2 := F0 m 72 ls [.int (nI 1)]) rfl ?_
    refine lv_if_eq hx hb dMD_issue_72 rfl (fun hq => absurd hq (by decide)) (fun _ => ?_)
    exact xd_vret C w hr hlk dMD_issue_75 rfl
  · skip
    refine lv_iload hx hb dMD_issue_8 (lv_at hl 5 rfl) ?_
    refine lv_iconst (v := nI 4) hx hb dMD_issue_10 xk_i4 ?_
    refine xd_callS C w hz hml hl.1 xk_MD_69 (cMD_isIn l D cA tz I ad (σ) t (nI 4)) rfl rfl (Nat.le_of_ble_eq_true rfl) (by decide) (by decide) dMD_issue_11 (fun H locs w => ?_)
    refine W.eq (g2 := F0 m 14 ls [.int (xb (xp_in t (nI 4)))]) rfl ?_
    refine xz_ifeq hx hb dMD_issue_14 rfl (fun hh2 => ?_) (fun hh2 => ?_)
    · skip
      refine lv_iconst (v := nI 0) hx hb dMD_issue_21 xk_i0 ?_
      refine lv_istore (lv' := [(6, .int (nI 0)), (0, .ref (ad 20 0)), (1, .int s0), (2, .int x), (3, .int y), (4, .int z), (5, .int t)]) hx hb dMD_issue_22 hl (by decide) rfl (fun ls hl => ?_)
      refine lv_iload_n hx hb dMD_issue_24 rfl (lv_at hl 3 rfl) ?_
      refine lv_iload_n hx hb dMD_issue_25 rfl (lv_at hl 4 rfl) ?_
      refine lv_iload hx hb dMD_issue_26 (lv_at hl 5 rfl) ?_
      refine xd_callS C w hz hml hl.1 xk_MD_80 (cMD_isSound l D cA tz I ad (σ) x y z) rfl rfl (Nat.le_of_ble_eq_true rfl) (by decide) (by decide) dMD_issue_28 (fun H locs w => ?_)
      refine W.eq (g2 := F0 m 31 ls [.int (xb (xp_sound x y z))]) rfl ?_
      refine lv_istore (lv' := [(7, .int (xb (xp_sound x y z))), (6, .int (nI 0)), (0, .ref (ad 20 0)), (1, .int s0), (2, .int x), (3, .int y), (4, .int z), (5, .int t)]) hx hb dMD_issue_31 hl (by decide) rfl (fun ls hl => ?_)
      refine lv_aload_n hx hb dMD_issue_33 rfl (lv_at hl 2 rfl) ?_
      refine lv_iload hx hb dMD_issue_34 (lv_at hl 1 rfl) ?_
      refine lv_if_ne hx hb dMD_issue_36 rfl (fun hq => absurd nI_0 hq) (fun _ => ?_)
      refine lv_iconst (v := nI 1) hx hb dMD_issue_39 xk_i1 ?_
      refine lv_goto hx hb dMD_issue_40 rfl ?_
      refine xd_callV C w hz hml hl.1 xk_MD_73 (cMD_refused1 l D cA tz I ad (σ) hJ) (xJ20 hJ) rfl rfl rfl rfl (Nat.le_of_ble_eq_true rfl) (by decide) (by decide) dMD_issue_69 (fun H locs w => ?_)
      refine W.eq (g2 := F0 m 72 ls [.int (nI 1)]) rfl ?_
      refine lv_if_eq hx hb dMD_issue_72 rfl (fun hq => absurd hq (by decide)) (fun _ => ?_)
      exact xd_vret C w hr hlk dMD_issue_75 rfl
    · skip
      exfalso
      first | contradiction | grind
set_option maxRecDepth 100000 in
set_option maxHeartbeats 4000000 in
theorem cMD_issue_no2 (l : Launch) (D : va_G) (cA : Nat → ClassId) (tz : Nat) (I : List (Nat × Nat)) (ad : Nat → Nat → Nat) (σ : xMem) (a b : Nat) (x y z : Int32) (hJ : xJ I) (ha : a < 4) (hb4 : b < 4) (hn : ¬ xp_sound x y z) : xD l yMD_issue bMD_issue 10 none 3 [.ref (ad 20 0), .int (nI a), .int x, .int y, .int z, .int (nI b)] D cA tz I ad σ none (xu3 σ 20 0 0 (nI 2)) := by
  refine xd_of (by decide) (by simp [lg_sl, Value.category]) ?_
  intro p e s m args below meth c A ls C hr hlk hml hl w hz
  obtain ⟨hx, hb, hown, hts⟩ := id C
  have hl : lv_has ls 10 [(0, .ref (ad 20 0)), (1, .int (nI a)), (2, .int x), (3, .int y), (4, .int z), (5, .int (nI b))] := hl
  have hina : xp_in (nI a) (nI 4) := xp_in_n (by omega) (by decide)
  have hinb : xp_in (nI b) (nI 4) := xp_in_n (by omega) (by decide)
  refine lv_iload_n hx hb dMD_issue_0 rfl (lv_at hl 1 rfl) ?_
  refine lv_iconst (v := nI 4) hx hb dMD_issue_1 xk_i4 ?_
  refine xd_callS C w hz hml hl.1 xk_MD_69 (cMD_isIn l D cA tz I ad (σ) (nI a) (nI 4)) rfl rfl (Nat.le_of_ble_eq_true rfl) (by decide) (by decide) dMD_issue_2 (fun H locs w => ?_)
  refine W.eq (g2 := F0 m 5 ls [.int (xb (xp_in (nI a) (nI 4)))]) rfl ?_
  refine xz_ifeq hx hb dMD_issue_5 rfl (fun hh1 => ?_) (fun hh1 => ?_)
  · skip
    exfalso
    first | contradiction | grind
  · skip
    refine lv_iload hx hb dMD_issue_8 (lv_at hl 5 rfl) ?_
    refine lv_iconst (v := nI 4) hx hb dMD_issue_10 xk_i4 ?_
    refine xd_callS C w hz hml hl.1 xk_MD_69 (cMD_isIn l D cA tz I ad (σ) (nI b) (nI 4)) rfl rfl (Nat.le_of_ble_eq_true rfl) (by decide) (by decide) dMD_issue_11 (fun H locs w => ?_)
    refine W.eq (g2 := F0 m 14 ls [.int (xb (xp_in (nI b) (nI 4)))]) rfl ?_
    refine xz_ifeq hx hb dMD_issue_14 rfl (fun hh2 => ?_) (fun hh2 => ?_)
    · skip
      exfalso
      first | contradiction | grind
    · skip
      refine lv_iconst (v := nI 1) hx hb dMD_issue_17 xk_i1 ?_
      refine lv_goto hx hb dMD_issue_18 rfl ?_
      refine lv_istore (lv' := [(6, .int (nI 1)), (0, .ref (ad 20 0)), (1, .int (nI a)), (2, .int x), (3, .int y), (4, .int z), (5, .int (nI b))]) hx hb dMD_issue_22 hl (by decide) rfl (fun ls hl => ?_)
      refine lv_iload_n hx hb dMD_issue_24 rfl (lv_at hl 3 rfl) ?_
      refine lv_iload_n hx hb dMD_issue_25 rfl (lv_at hl 4 rfl) ?_
      refine lv_iload hx hb dMD_issue_26 (lv_at hl 5 rfl) ?_
      refine xd_callS C w hz hml hl.1 xk_MD_80 (cMD_isSound l D cA tz I ad (σ) x y z) rfl rfl (Nat.le_of_ble_eq_true rfl) (by decide) (by decide) dMD_issue_28 (fun H locs w => ?_)
      refine W.eq (g2 := F0 m 31 ls [.int (xb (xp_sound x y z))]) rfl ?_
      refine lv_istore (lv' := [(7, .int (xb (xp_sound x y z))), (6, .int (nI 1)), (0, .ref (ad 20 0)), (1, .int (nI a)), (2, .int x), (3, .int y), (4, .int z), (5, .int (nI b))]) hx hb dMD_issue_31 hl (by decide) rfl (fun ls hl => ?_)
      refine lv_aload_n hx hb dMD_issue_33 rfl (lv_at hl 2 rfl) ?_
      refine lv_iload hx hb dMD_issue_34 (lv_at hl 1 rfl) ?_
      refine lv_if_ne hx hb dMD_issue_36 rfl (fun _ => ?_) (fun hq => absurd hq (by decide))
      refine lv_iload hx hb dMD_issue_43 (lv_at hl 0 rfl) ?_
      refine xz_ifne hx hb dMD_issue_45 rfl (fun hh3 => ?_) (fun hh3 => ?_)
      · skip
        exfalso
        first | contradiction | grind
      · skip
        refine lv_iconst (v := nI 2) hx hb dMD_issue_48 xk_i2 ?_
        refine lv_goto hx hb dMD_issue_49 rfl ?_
        refine xd_callV C w hz hml hl.1 xk_MD_73 (cMD_refused2 l D cA tz I ad (σ) hJ) (xJ20 hJ) rfl rfl rfl rfl (Nat.le_of_ble_eq_true rfl) (by decide) (by decide) dMD_issue_69 (fun H locs w => ?_)
        refine W.eq (g2 := F0 m 72 ls [.int (nI 1)]) rfl ?_
        refine lv_if_eq hx hb dMD_issue_72 rfl (fun hq => absurd hq (by decide)) (fun _ => ?_)
        exact xd_vret C w hr hlk dMD_issue_75 rfl
set_option maxRecDepth 100000 in
set_option maxHeartbeats 4000000 in
theorem cMD_issue_no3 (l : Launch) (D : va_G) (cA : Nat → ClassId) (tz : Nat) (I : List (Nat × Nat)) (ad : Nat → Nat → Nat) (σ : xMem) (a b : Nat) (x y z : Int32) (hJ : xJ I) (ha : a < 4) (hb4 : b < 4) (hs : xp_sound x y z) (hy : x = nI 3 → ∃ q, q < 64 ∧ y = nI q) (hn : ¬ mp_allow σ a x (xN y) b) : xD l yMD_issue bMD_issue 10 none 3 [.ref (ad 20 0), .int (nI a), .int x, .int y, .int z, .int (nI b)] D cA tz I ad σ none (xu3 σ 20 0 0 (nI 3)) := by
  refine xd_of (by decide) (by simp [lg_sl, Value.category]) ?_
  intro p e s m args below meth c A ls C hr hlk hml hl w hz
  obtain ⟨hx, hb, hown, hts⟩ := id C
  have hl : lv_has ls 10 [(0, .ref (ad 20 0)), (1, .int (nI a)), (2, .int x), (3, .int y), (4, .int z), (5, .int (nI b))] := hl
  have hina : xp_in (nI a) (nI 4) := xp_in_n (by omega) (by decide)
  have hinb : xp_in (nI b) (nI 4) := xp_in_n (by omega) (by decide)
  refine lv_iload_n hx hb dMD_issue_0 rfl (lv_at hl 1 rfl) ?_
  refine lv_iconst (v := nI 4) hx hb dMD_issue_1 xk_i4 ?_
  refine xd_callS C w hz hml hl.1 xk_MD_69 (cMD_isIn l D cA tz I ad (σ) (nI a) (nI 4)) rfl rfl (Nat.le_of_ble_eq_true rfl) (by decide) (by decide) dMD_issue_2 (fun H locs w => ?_)
  refine W.eq (g2 := F0 m 5 ls [.int (xb (xp_in (nI a) (nI 4)))]) rfl ?_
  refine xz_ifeq hx hb dMD_issue_5 rfl (fun hh1 => ?_) (fun hh1 => ?_)
  · skip
    exfalso
    first | contradiction | grind
  · skip
    refine lv_iload hx hb dMD_issue_8 (lv_at hl 5 rfl) ?_
    refine lv_iconst (v := nI 4) hx hb dMD_issue_10 xk_i4 ?_
    refine xd_callS C w hz hml hl.1 xk_MD_69 (cMD_isIn l D cA tz I ad (σ) (nI b) (nI 4)) rfl rfl (Nat.le_of_ble_eq_true rfl) (by decide) (by decide) dMD_issue_11 (fun H locs w => ?_)
    refine W.eq (g2 := F0 m 14 ls [.int (xb (xp_in (nI b) (nI 4)))]) rfl ?_
    refine xz_ifeq hx hb dMD_issue_14 rfl (fun hh2 => ?_) (fun hh2 => ?_)
    · skip
      exfalso
      first | contradiction | grind
    · skip
      refine lv_iconst (v := nI 1) hx hb dMD_issue_17 xk_i1 ?_
      refine lv_goto hx hb dMD_issue_18 rfl ?_
      refine lv_istore (lv' := [(6, .int (nI 1)), (0, .ref (ad 20 0)), (1, .int (nI a)), (2, .int x), (3, .int y), (4, .int z), (5, .int (nI b))]) hx hb dMD_issue_22 hl (by decide) rfl (fun ls hl => ?_)
      refine lv_iload_n hx hb dMD_issue_24 rfl (lv_at hl 3 rfl) ?_
      refine lv_iload_n hx hb dMD_issue_25 rfl (lv_at hl 4 rfl) ?_
      refine lv_iload hx hb dMD_issue_26 (lv_at hl 5 rfl) ?_
      refine xd_callS C w hz hml hl.1 xk_MD_80 (cMD_isSound l D cA tz I ad (σ) x y z) rfl rfl (Nat.le_of_ble_eq_true rfl) (by decide) (by decide) dMD_issue_28 (fun H locs w => ?_)
      refine W.eq (g2 := F0 m 31 ls [.int (xb (xp_sound x y z))]) rfl ?_
      refine lv_istore (lv' := [(7, .int (xb (xp_sound x y z))), (6, .int (nI 1)), (0, .ref (ad 20 0)), (1, .int (nI a)), (2, .int x), (3, .int y), (4, .int z), (5, .int (nI b))]) hx hb dMD_issue_31 hl (by decide) rfl (fun ls hl => ?_)
      refine lv_aload_n hx hb dMD_issue_33 rfl (lv_at hl 2 rfl) ?_
      refine lv_iload hx hb dMD_issue_34 (lv_at hl 1 rfl) ?_
      refine lv_if_ne hx hb dMD_issue_36 rfl (fun _ => ?_) (fun hq => absurd hq (by decide))
      refine lv_iload hx hb dMD_issue_43 (lv_at hl 0 rfl) ?_
      refine xz_ifne hx hb dMD_issue_45 rfl (fun hh3 => ?_) (fun hh3 => ?_)
      · skip
        refine lv_aload_n hx hb dMD_issue_52 rfl (lv_at hl 2 rfl) ?_
        refine lv_iload_n hx hb dMD_issue_53 rfl (lv_at hl 3 rfl) ?_
        refine lv_iload_n hx hb dMD_issue_54 rfl (lv_at hl 4 rfl) ?_
        refine lv_iload_n hx hb dMD_issue_55 rfl (lv_at hl 5 rfl) ?_
        refine lv_iload hx hb dMD_issue_56 (lv_at hl 7 rfl) ?_
        refine xd_callV C w hz hml hl.1 xk_MD_84 (cMD_isAllowed l D cA tz I ad (σ) a b x y hJ ha hb4 hy) (xJ20 hJ) rfl rfl rfl rfl (Nat.le_of_ble_eq_true rfl) (by decide) (by decide) dMD_issue_58 (fun H locs w => ?_)
        refine W.eq (g2 := F0 m 61 ls [.int (xb (mp_allow σ a x (xN y) b)), .ref (ad 20 0)]) rfl ?_
        refine xz_ifne hx hb dMD_issue_61 rfl (fun hh4 => ?_) (fun hh4 => ?_)
        · skip
          exfalso
          first | contradiction | grind
        · skip
          refine lv_iconst (v := nI 3) hx hb dMD_issue_64 xk_i3 ?_
          refine lv_goto hx hb dMD_issue_65 rfl ?_
          refine xd_callV C w hz hml hl.1 xk_MD_73 (cMD_refused3 l D cA tz I ad (σ) hJ) (xJ20 hJ) rfl rfl rfl rfl (Nat.le_of_ble_eq_true rfl) (by decide) (by decide) dMD_issue_69 (fun H locs w => ?_)
          refine W.eq (g2 := F0 m 72 ls [.int (nI 1)]) rfl ?_
          refine lv_if_eq hx hb dMD_issue_72 rfl (fun hq => absurd hq (by decide)) (fun _ => ?_)
          exact xd_vret C w hr hlk dMD_issue_75 rfl
      · skip
        exfalso
        first | contradiction | grind
set_option maxRecDepth 100000 in
set_option maxHeartbeats 4000000 in
theorem cMD_issue_ok (l : Launch) (D : va_G) (cA : Nat → ClassId) (tz : Nat) (I : List (Nat × Nat)) (ad : Nat → Nat → Nat) (σ : xMem) (a b : Nat) (x y z : Int32) (hJ : xJ I) (ha : a < 4) (hb4 : b < 4) (hs : xp_sound x y z) (hy : x = nI 3 → ∃ q, q < 64 ∧ y = nI q) (hal : mp_allow σ a x (xN y) b) : xD l yMD_issue bMD_issue 10 none 3 [.ref (ad 20 0), .int (nI a), .int x, .int y, .int z, .int (nI b)] D cA tz I ad σ none (mf_issue σ a b x y (xif (x = nI 4) (nI 0) z)) := by
  refine xd_of (by decide) (by simp [lg_sl, Value.category]) ?_
  intro p e s m args below meth c A ls C hr hlk hml hl w hz
  obtain ⟨hx, hb, hown, hts⟩ := id C
  have hl : lv_has ls 10 [(0, .ref (ad 20 0)), (1, .int (nI a)), (2, .int x), (3, .int y), (4, .int z), (5, .int (nI b))] := hl
  have hina : xp_in (nI a) (nI 4) := xp_in_n (by omega) (by decide)
  have hinb : xp_in (nI b) (nI 4) := xp_in_n (by omega) (by decide)
  refine lv_iload_n hx hb dMD_issue_0 rfl (lv_at hl 1 rfl) ?_
  refine lv_iconst (v := nI 4) hx hb dMD_issue_1 xk_i4 ?_
  refine xd_callS C w hz hml hl.1 xk_MD_69 (cMD_isIn l D cA tz I ad (σ) (nI a) (nI 4)) rfl rfl (Nat.le_of_ble_eq_true rfl) (by decide) (by decide) dMD_issue_2 (fun H locs w => ?_)
  refine W.eq (g2 := F0 m 5 ls [.int (xb (xp_in (nI a) (nI 4)))]) rfl ?_
  refine xz_ifeq hx hb dMD_issue_5 rfl (fun hh1 => ?_) (fun hh1 => ?_)
  · skip
    exfalso
    first | contradiction | grind
  · skip
    refine lv_iload hx hb dMD_issue_8 (lv_at hl 5 rfl) ?_
    refine lv_iconst (v := nI 4) hx hb dMD_issue_10 xk_i4 ?_
    refine xd_callS C w hz hml hl.1 xk_MD_69 (cMD_isIn l D cA tz I ad (σ) (nI b) (nI 4)) rfl rfl (Nat.le_of_ble_eq_true rfl) (by decide) (by decide) dMD_issue_11 (fun H locs w => ?_)
    refine W.eq (g2 := F0 m 14 ls [.int (xb (xp_in (nI b) (nI 4)))]) rfl ?_
    refine xz_ifeq hx hb dMD_issue_14 rfl (fun hh2 => ?_) (fun hh2 => ?_)
    · skip
      exfalso
      first | contradiction | grind
    · skip
      refine lv_iconst (v := nI 1) hx hb dMD_issue_17 xk_i1 ?_
      refine lv_goto hx hb dMD_issue_18 rfl ?_
      refine lv_istore (lv' := [(6, .int (nI 1)), (0, .ref (ad 20 0)), (1, .int (nI a)), (2, .int x), (3, .int y), (4, .int z), (5, .int (nI b))]) hx hb dMD_issue_22 hl (by decide) rfl (fun ls hl => ?_)
      refine lv_iload_n hx hb dMD_issue_24 rfl (lv_at hl 3 rfl) ?_
      refine lv_iload_n hx hb dMD_issue_25 rfl (lv_at hl 4 rfl) ?_
      refine lv_iload hx hb dMD_issue_26 (lv_at hl 5 rfl) ?_
      refine xd_callS C w hz hml hl.1 xk_MD_80 (cMD_isSound l D cA tz I ad (σ) x y z) rfl rfl (Nat.le_of_ble_eq_true rfl) (by decide) (by decide) dMD_issue_28 (fun H locs w => ?_)
      refine W.eq (g2 := F0 m 31 ls [.int (xb (xp_sound x y z))]) rfl ?_
      refine lv_istore (lv' := [(7, .int (xb (xp_sound x y z))), (6, .int (nI 1)), (0, .ref (ad 20 0)), (1, .int (nI a)), (2, .int x), (3, .int y), (4, .int z), (5, .int (nI b))]) hx hb dMD_issue_31 hl (by decide) rfl (fun ls hl => ?_)
      refine lv_aload_n hx hb dMD_issue_33 rfl (lv_at hl 2 rfl) ?_
      refine lv_iload hx hb dMD_issue_34 (lv_at hl 1 rfl) ?_
      refine lv_if_ne hx hb dMD_issue_36 rfl (fun _ => ?_) (fun hq => absurd hq (by decide))
      refine lv_iload hx hb dMD_issue_43 (lv_at hl 0 rfl) ?_
      refine xz_ifne hx hb dMD_issue_45 rfl (fun hh3 => ?_) (fun hh3 => ?_)
      · skip
        refine lv_aload_n hx hb dMD_issue_52 rfl (lv_at hl 2 rfl) ?_
        refine lv_iload_n hx hb dMD_issue_53 rfl (lv_at hl 3 rfl) ?_
        refine lv_iload_n hx hb dMD_issue_54 rfl (lv_at hl 4 rfl) ?_
        refine lv_iload_n hx hb dMD_issue_55 rfl (lv_at hl 5 rfl) ?_
        refine lv_iload hx hb dMD_issue_56 (lv_at hl 7 rfl) ?_
        refine xd_callV C w hz hml hl.1 xk_MD_84 (cMD_isAllowed l D cA tz I ad (σ) a b x y hJ ha hb4 hy) (xJ20 hJ) rfl rfl rfl rfl (Nat.le_of_ble_eq_true rfl) (by decide) (by decide) dMD_issue_58 (fun H locs w => ?_)
        refine W.eq (g2 := F0 m 61 ls [.int (xb (mp_allow σ a x (xN y) b)), .ref (ad 20 0)]) rfl ?_
        refine xz_ifne hx hb dMD_issue_61 rfl (fun hh4 => ?_) (fun hh4 => ?_)
        · skip
          refine lv_iconst (v := nI 0) hx hb dMD_issue_68 xk_i0 ?_
          refine xd_callV C w hz hml hl.1 xk_MD_73 (cMD_refused0 l D cA tz I ad (σ) hJ) (xJ20 hJ) rfl rfl rfl rfl (Nat.le_of_ble_eq_true rfl) (by decide) (by decide) dMD_issue_69 (fun H locs w => ?_)
          refine W.eq (g2 := F0 m 72 ls [.int (nI 0)]) rfl ?_
          refine lv_if_eq hx hb dMD_issue_72 rfl (fun _ => ?_) (fun hq => absurd nI_0 hq)
          refine lv_iconst (v := nI 4) hx hb dMD_issue_76 xk_i4 ?_
          refine lv_iload_n hx hb dMD_issue_77 rfl (lv_at hl 3 rfl) ?_
          refine xn_mul hx hb dMD_issue_78 ?_
          refine lv_iload hx hb dMD_issue_79 (lv_at hl 7 rfl) ?_
          refine xn_add hx hb dMD_issue_81 ?_
          refine lv_istore (lv' := [(8, .int (nI ((4 * a) + b))), (7, .int (xb (xp_sound x y z))), (6, .int (nI 1)), (0, .ref (ad 20 0)), (1, .int (nI a)), (2, .int x), (3, .int y), (4, .int z), (5, .int (nI b))]) hx hb dMD_issue_82 hl (by decide) rfl (fun ls hl => ?_)
          refine lv_aload_n hx hb dMD_issue_84 rfl (lv_at hl 3 rfl) ?_
          refine lv_dup hx hb dMD_issue_85 rfl ?_
          refine xg_MD_88 C w (xJ20 hJ) dMD_issue_86 ?_
          refine xn_eq (y := σ 20 0 16) (by simp [xu3, xw_u2, va_up]) ?_
          refine lv_iconst (v := nI 1) hx hb dMD_issue_89 xk_i1 ?_
          refine lv_iadd hx hb dMD_issue_90 ?_
          refine xp_MD_88 C w (xJ20 hJ) dMD_issue_91 (fun H locs w => ?_)
          refine lv_aload_n hx hb dMD_issue_94 rfl (lv_at hl 3 rfl) ?_
          refine xg_MD_26 C w (xJ20 hJ) dMD_issue_95 ?_
          refine lv_iload hx hb dMD_issue_98 (lv_at hl 0 rfl) ?_
          refine lv_iconst (v := nI 1) hx hb dMD_issue_100 xk_i1 ?_
          refine xs_iast C w (xJ26 hJ) (fun _ => rfl) ((4 * a) + b) rfl (by omega) (by decide) dMD_issue_101 (fun H locs w => ?_)
          refine lv_aload_n hx hb dMD_issue_102 rfl (lv_at hl 3 rfl) ?_
          refine xg_MD_29 C w (xJ20 hJ) dMD_issue_103 ?_
          refine lv_iload hx hb dMD_issue_106 (lv_at hl 0 rfl) ?_
          refine lv_iload_n hx hb dMD_issue_108 rfl (lv_at hl 5 rfl) ?_
          refine xs_iast C w (xJ27 hJ) (fun _ => rfl) ((4 * a) + b) rfl (by omega) (by decide) dMD_issue_109 (fun H locs w => ?_)
          refine lv_aload_n hx hb dMD_issue_110 rfl (lv_at hl 3 rfl) ?_
          refine xg_MD_32 C w (xJ20 hJ) dMD_issue_111 ?_
          refine lv_iload hx hb dMD_issue_114 (lv_at hl 0 rfl) ?_
          refine lv_iload_n hx hb dMD_issue_116 rfl (lv_at hl 6 rfl) ?_
          refine xs_iast C w (xJ28 hJ) (fun _ => rfl) ((4 * a) + b) rfl (by omega) (by decide) dMD_issue_117 (fun H locs w => ?_)
          refine lv_aload_n hx hb dMD_issue_118 rfl (lv_at hl 3 rfl) ?_
          refine xg_MD_35 C w (xJ20 hJ) dMD_issue_119 ?_
          refine lv_iload hx hb dMD_issue_122 (lv_at hl 0 rfl) ?_
          refine lv_iload_n hx hb dMD_issue_124 rfl (lv_at hl 5 rfl) ?_
          refine lv_iconst (v := nI 4) hx hb dMD_issue_125 xk_i4 ?_
          refine lv_icmp_ne hx hb dMD_issue_126 rfl (fun hh5 => ?_) (fun hh5 => ?_)
          · skip
            refine lv_iload hx hb dMD_issue_133 (lv_at hl 7 rfl) ?_
            refine xn_eq (y := xif (x = nI 4) (nI 0) z) (xif_f hh5 _ _).symm ?_
            refine xs_iast C w (xJ29 hJ) (fun _ => rfl) ((4 * a) + b) rfl (by omega) (by decide) dMD_issue_135 (fun H locs w => ?_)
            refine lv_aload_n hx hb dMD_issue_136 rfl (lv_at hl 3 rfl) ?_
            refine xg_MD_38 C w (xJ20 hJ) dMD_issue_137 ?_
            refine lv_iload hx hb dMD_issue_140 (lv_at hl 0 rfl) ?_
            refine lv_iconst (v := nI 0) hx hb dMD_issue_142 xk_i0 ?_
            refine xs_iast C w (xJ30 hJ) (fun _ => rfl) ((4 * a) + b) rfl (by omega) (by decide) dMD_issue_143 (fun H locs w => ?_)
            refine lv_aload_n hx hb dMD_issue_144 rfl (lv_at hl 3 rfl) ?_
            refine xg_MD_41 C w (xJ20 hJ) dMD_issue_145 ?_
            refine lv_iload hx hb dMD_issue_148 (lv_at hl 0 rfl) ?_
            refine lv_aload_n hx hb dMD_issue_150 rfl (lv_at hl 3 rfl) ?_
            refine xg_MD_88 C w (xJ20 hJ) dMD_issue_151 ?_
            refine xn_eq (y := (σ 20 0 16) + (nI 1)) (by simp [xu3, xw_u2, va_up]) ?_
            refine xs_iast C w (xJ31 hJ) (fun _ => rfl) ((4 * a) + b) rfl (by omega) (by decide) dMD_issue_154 (fun H locs w => ?_)
            refine lv_aload_n hx hb dMD_issue_155 rfl (lv_at hl 3 rfl) ?_
            refine xg_MD_44 C w (xJ20 hJ) dMD_issue_156 ?_
            refine lv_iload hx hb dMD_issue_159 (lv_at hl 0 rfl) ?_
            refine lv_iconst (v := nI 0) hx hb dMD_issue_161 xk_i0 ?_
            refine xs_iast C w (xJ32 hJ) (fun _ => rfl) ((4 * a) + b) rfl (by omega) (by decide) dMD_issue_162 (fun H locs w => ?_)
            refine lv_aload_n hx hb dMD_issue_163 rfl (lv_at hl 3 rfl) ?_
            refine xg_MD_53 C w (xJ20 hJ) dMD_issue_164 ?_
            refine lv_iload hx hb dMD_issue_167 (lv_at hl 0 rfl) ?_
            refine lv_iconst (v := nI 0) hx hb dMD_issue_169 xk_i0 ?_
            refine xs_iast C w (xJ35 hJ) (fun _ => rfl) ((4 * a) + b) rfl (by omega) (by decide) dMD_issue_170 (fun H locs w => ?_)
            have w : xr_W xCl (xT cA) D I ad (xc cA tz ad (mf_begin (xu3 σ 20 0 0 (nI 0)) (4 * a + b) x y (xif (x = nI 4) (nI 0) z))) A s H locs := w
            refine lv_iconst (v := nI 0) hx hb dMD_issue_171 xk_i0 ?_
            refine lv_istore (lv' := [(9, .int (nI 0)), (8, .int (nI ((4 * a) + b))), (7, .int (xb (xp_sound x y z))), (6, .int (nI 1)), (0, .ref (ad 20 0)), (1, .int (nI a)), (2, .int x), (3, .int y), (4, .int z), (5, .int (nI b))]) hx hb dMD_issue_172 hl (by decide) rfl (fun ls hl => ?_)
            refine xl_up (Wg := fun H locs ls => W p l e _ s m args below meth c H locs _ _ _ (F0 m 174 ls [])) (K := fun i H locs ls => xr_W xCl (xT cA) D I ad (xc cA tz ad (xw_u2 (mf_begin (xu3 σ 20 0 0 (nI 0)) (4 * a + b) x y (xif (x = nI 4) (nI 0) z)) 33 0 (va_cpy (σ 22 0) (σ 33 0) (4 * a) (4 * (4 * a + b)) i))) A s H locs ∧ lv_has ls 10 [(0, .ref (ad 20 0)), (1, .int (nI a)), (8, .int (nI (4 * a + b))), (9, .int (nI i))]) 4 ?_ ?_ 0 _ _ _ (by omega) ⟨(xcpy_0 (mf_begin (xu3 σ 20 0 0 (nI 0)) (4 * a + b) x y (xif (x = nI 4) (nI 0) z)) 33 0 (σ 22 0) (4 * a) (4 * (4 * a + b))).symm ▸ w, lv_sub hl [4, 5, 1, 0] rfl⟩
            · skip
              intro H locs ls ⟨w, hl⟩
              refine lv_iload hx hb dMD_issue_174 (lv_at hl 3 rfl) ?_
              refine lv_iconst (v := nI 4) hx hb dMD_issue_176 xk_i4 ?_
              refine lv_icmp_ge hx hb dMD_issue_177 rfl (fun _ => ?_) (fun hq => absurd (nI_le (by omega) (by omega)) hq)
              exact xd_vret C w hr hlk dMD_issue_209 rfl
            · skip
              intro i H locs ls hii ⟨w, hl⟩ ihi
              refine lv_iload hx hb dMD_issue_174 (lv_at hl 3 rfl) ?_
              refine lv_iconst (v := nI 4) hx hb dMD_issue_176 xk_i4 ?_
              refine lv_icmp_ge hx hb dMD_issue_177 rfl (fun hq => absurd hq (nI_ge (by omega) (by omega))) (fun _ => ?_)
              refine lv_aload_n hx hb dMD_issue_180 rfl (lv_at hl 0 rfl) ?_
              refine xg_MD_47 C w (xJ20 hJ) dMD_issue_181 ?_
              refine lv_iconst (v := nI 4) hx hb dMD_issue_184 xk_i4 ?_
              refine lv_iload hx hb dMD_issue_185 (lv_at hl 2 rfl) ?_
              refine xn_mul hx hb dMD_issue_187 ?_
              refine lv_iload hx hb dMD_issue_188 (lv_at hl 3 rfl) ?_
              refine xn_add hx hb dMD_issue_190 ?_
              refine lv_aload_n hx hb dMD_issue_191 rfl (lv_at hl 0 rfl) ?_
              refine xg_MD_13 C w (xJ20 hJ) dMD_issue_192 ?_
              refine lv_iconst (v := nI 4) hx hb dMD_issue_195 xk_i4 ?_
              refine lv_iload_n hx hb dMD_issue_196 rfl (lv_at hl 1 rfl) ?_
              refine xn_mul hx hb dMD_issue_197 ?_
              refine lv_iload hx hb dMD_issue_198 (lv_at hl 3 rfl) ?_
              refine xn_add hx hb dMD_issue_200 ?_
              refine xr_iald C w (xJ22 hJ) rfl 0 rfl ((4 * a) + i) rfl (by omega) (by decide) dMD_issue_201 ?_
              refine xn_eq (y := σ 22 0 (4 * a + i)) rfl ?_
              refine xs_iast C w (xJ33 hJ) (fun _ => rfl) ((4 * (4 * a + b)) + i) rfl (by omega) (by decide) dMD_issue_202 (fun H locs w => ?_)
              refine lv_iinc (lv' := [(9, .int (nI (i + 1))), (0, .ref (ad 20 0)), (1, .int (nI a)), (8, .int (nI (4 * a + b)))]) hx hb dMD_issue_203 hl (k := 3) rfl (xn_inc _) (by decide) rfl (fun ls hl => ?_)
              refine lv_goto hx hb dMD_issue_206 rfl ?_
              exact ihi _ _ _ ⟨xcpy_s (mf_begin (xu3 σ 20 0 0 (nI 0)) (4 * a + b) x y (xif (x = nI 4) (nI 0) z)) 33 0 (σ 22 0) (σ 33 0) (4 * a) (4 * (4 * a + b)) i ▸ w, lv_sub hl [1, 2, 3, 0] rfl⟩
          · skip
            refine lv_iconst (v := nI 0) hx hb dMD_issue_129 xk_i0 ?_
            refine lv_goto hx hb dMD_issue_130 rfl ?_
            refine xn_eq (y := xif (x = nI 4) (nI 0) z) (xif_t hh5 _ _).symm ?_
            refine xs_iast C w (xJ29 hJ) (fun _ => rfl) ((4 * a) + b) rfl (by omega) (by decide) dMD_issue_135 (fun H locs w => ?_)
            refine lv_aload_n hx hb dMD_issue_136 rfl (lv_at hl 3 rfl) ?_
            refine xg_MD_38 C w (xJ20 hJ) dMD_issue_137 ?_
            refine lv_iload hx hb dMD_issue_140 (lv_at hl 0 rfl) ?_
            refine lv_iconst (v := nI 0) hx hb dMD_issue_142 xk_i0 ?_
            refine xs_iast C w (xJ30 hJ) (fun _ => rfl) ((4 * a) + b) rfl (by omega) (by decide) dMD_issue_143 (fun H locs w => ?_)
            refine lv_aload_n hx hb dMD_issue_144 rfl (lv_at hl 3 rfl) ?_
            refine xg_MD_41 C w (xJ20 hJ) dMD_issue_145 ?_
            refine lv_iload hx hb dMD_issue_148 (lv_at hl 0 rfl) ?_
            refine lv_aload_n hx hb dMD_issue_150 rfl (lv_at hl 3 rfl) ?_
            refine xg_MD_88 C w (xJ20 hJ) dMD_issue_151 ?_
            refine xn_eq (y := (σ 20 0 16) + (nI 1)) (by simp [xu3, xw_u2, va_up]) ?_
            refine xs_iast C w (xJ31 hJ) (fun _ => rfl) ((4 * a) + b) rfl (by omega) (by decide) dMD_issue_154 (fun H locs w => ?_)
            refine lv_aload_n hx hb dMD_issue_155 rfl (lv_at hl 3 rfl) ?_
            refine xg_MD_44 C w (xJ20 hJ) dMD_issue_156 ?_
            refine lv_iload hx hb dMD_issue_159 (lv_at hl 0 rfl) ?_
            refine lv_iconst (v := nI 0) hx hb dMD_issue_161 xk_i0 ?_
            refine xs_iast C w (xJ32 hJ) (fun _ => rfl) ((4 * a) + b) rfl (by omega) (by decide) dMD_issue_162 (fun H locs w => ?_)
            refine lv_aload_n hx hb dMD_issue_163 rfl (lv_at hl 3 rfl) ?_
            refine xg_MD_53 C w (xJ20 hJ) dMD_issue_164 ?_
            refine lv_iload hx hb dMD_issue_167 (lv_at hl 0 rfl) ?_
            refine lv_iconst (v := nI 0) hx hb dMD_issue_169 xk_i0 ?_
            refine xs_iast C w (xJ35 hJ) (fun _ => rfl) ((4 * a) + b) rfl (by omega) (by decide) dMD_issue_170 (fun H locs w => ?_)
            have w : xr_W xCl (xT cA) D I ad (xc cA tz ad (mf_begin (xu3 σ 20 0 0 (nI 0)) (4 * a + b) x y (xif (x = nI 4) (nI 0) z))) A s H locs := w
            refine lv_iconst (v := nI 0) hx hb dMD_issue_171 xk_i0 ?_
            refine lv_istore (lv' := [(9, .int (nI 0)), (8, .int (nI ((4 * a) + b))), (7, .int (xb (xp_sound x y z))), (6, .int (nI 1)), (0, .ref (ad 20 0)), (1, .int (nI a)), (2, .int x), (3, .int y), (4, .int z), (5, .int (nI b))]) hx hb dMD_issue_172 hl (by decide) rfl (fun ls hl => ?_)
            refine xl_up (Wg := fun H locs ls => W p l e _ s m args below meth c H locs _ _ _ (F0 m 174 ls [])) (K := fun i H locs ls => xr_W xCl (xT cA) D I ad (xc cA tz ad (xw_u2 (mf_begin (xu3 σ 20 0 0 (nI 0)) (4 * a + b) x y (xif (x = nI 4) (nI 0) z)) 33 0 (va_cpy (σ 22 0) (σ 33 0) (4 * a) (4 * (4 * a + b)) i))) A s H locs ∧ lv_has ls 10 [(0, .ref (ad 20 0)), (1, .int (nI a)), (8, .int (nI (4 * a + b))), (9, .int (nI i))]) 4 ?_ ?_ 0 _ _ _ (by omega) ⟨(xcpy_0 (mf_begin (xu3 σ 20 0 0 (nI 0)) (4 * a + b) x y (xif (x = nI 4) (nI 0) z)) 33 0 (σ 22 0) (4 * a) (4 * (4 * a + b))).symm ▸ w, lv_sub hl [4, 5, 1, 0] rfl⟩
            · skip
              intro H locs ls ⟨w, hl⟩
              refine lv_iload hx hb dMD_issue_174 (lv_at hl 3 rfl) ?_
              refine lv_iconst (v := nI 4) hx hb dMD_issue_176 xk_i4 ?_
              refine lv_icmp_ge hx hb dMD_issue_177 rfl (fun _ => ?_) (fun hq => absurd (nI_le (by omega) (by omega)) hq)
              exact xd_vret C w hr hlk dMD_issue_209 rfl
            · skip
              intro i H locs ls hii ⟨w, hl⟩ ihi
              refine lv_iload hx hb dMD_issue_174 (lv_at hl 3 rfl) ?_
              refine lv_iconst (v := nI 4) hx hb dMD_issue_176 xk_i4 ?_
              refine lv_icmp_ge hx hb dMD_issue_177 rfl (fun hq => absurd hq (nI_ge (by omega) (by omega))) (fun _ => ?_)
              refine lv_aload_n hx hb dMD_issue_180 rfl (lv_at hl 0 rfl) ?_
              refine xg_MD_47 C w (xJ20 hJ) dMD_issue_181 ?_
              refine lv_iconst (v := nI 4) hx hb dMD_issue_184 xk_i4 ?_
              refine lv_iload hx hb dMD_issue_185 (lv_at hl 2 rfl) ?_
              refine xn_mul hx hb dMD_issue_187 ?_
              refine lv_iload hx hb dMD_issue_188 (lv_at hl 3 rfl) ?_
              refine xn_add hx hb dMD_issue_190 ?_
              refine lv_aload_n hx hb dMD_issue_191 rfl (lv_at hl 0 rfl) ?_
              refine xg_MD_13 C w (xJ20 hJ) dMD_issue_192 ?_
              refine lv_iconst (v := nI 4) hx hb dMD_issue_195 xk_i4 ?_
              refine lv_iload_n hx hb dMD_issue_196 rfl (lv_at hl 1 rfl) ?_
              refine xn_mul hx hb dMD_issue_197 ?_
              refine lv_iload hx hb dMD_issue_198 (lv_at hl 3 rfl) ?_
              refine xn_add hx hb dMD_issue_200 ?_
              refine xr_iald C w (xJ22 hJ) rfl 0 rfl ((4 * a) + i) rfl (by omega) (by decide) dMD_issue_201 ?_
              refine xn_eq (y := σ 22 0 (4 * a + i)) rfl ?_
              refine xs_iast C w (xJ33 hJ) (fun _ => rfl) ((4 * (4 * a + b)) + i) rfl (by omega) (by decide) dMD_issue_202 (fun H locs w => ?_)
              refine lv_iinc (lv' := [(9, .int (nI (i + 1))), (0, .ref (ad 20 0)), (1, .int (nI a)), (8, .int (nI (4 * a + b)))]) hx hb dMD_issue_203 hl (k := 3) rfl (xn_inc _) (by decide) rfl (fun ls hl => ?_)
              refine lv_goto hx hb dMD_issue_206 rfl ?_
              exact ihi _ _ _ ⟨xcpy_s (mf_begin (xu3 σ 20 0 0 (nI 0)) (4 * a + b) x y (xif (x = nI 4) (nI 0) z)) 33 0 (σ 22 0) (σ 33 0) (4 * a) (4 * (4 * a + b)) i ▸ w, lv_sub hl [1, 2, 3, 0] rfl⟩
        · skip
          exfalso
          first | contradiction | grind
      · skip
        exfalso
        first | contradiction | grind
set_option maxRecDepth 100000 in
set_option maxHeartbeats 4000000 in
theorem cMD_serve (l : Launch) (D : va_G) (cA : Nat → ClassId) (tz : Nat) (I : List (Nat × Nat)) (ad : Nat → Nat → Nat) (σ : xMem) (r q n ns : Nat) (hJ : xJ I) (hr16 : r < 16) (hq : σ 28 0 r = nI q) (hn : σ 29 0 r = nI n) (hqn : q + n ≤ 48) (hn4 : n ≤ 4) (hns : σ 20 0 21 = nI ns) (hn6 : ns < 600) : xD l yMD_serve bMD_serve 4 none 1 [.ref (ad 20 0), .int (nI r)] D cA tz I ad σ none (mf_log (mf_move σ r q n) r q n ns) := by
  refine xd_of (by decide) (by simp [lg_sl, Value.category]) ?_
  intro p e s m args below meth c A ls C hr hlk hml hl w hz
  obtain ⟨hx, hb, hown, hts⟩ := id C
  have hl : lv_has ls 4 [(0, .ref (ad 20 0)), (1, .int (nI r))] := hl
  have hq2 : (mf_move σ r q n) 28 0 r = nI q := by rw [mf_move_at (by decide) (by decide) (by decide) (by decide) (by decide)]; exact hq
  have hn2 : (mf_move σ r q n) 29 0 r = nI n := by rw [mf_move_at (by decide) (by decide) (by decide) (by decide) (by decide)]; exact hn
  have hns2 : (mf_move σ r q n) 20 0 21 = nI ns := by rw [mf_move_at (by decide) (by decide) (by decide) (by decide) (by decide)]; exact hns
  refine lv_aload_n hx hb dMD_serve_0 rfl (lv_at hl 0 rfl) ?_
  refine xg_MD_44 C w (xJ20 hJ) dMD_serve_1 ?_
  refine lv_iload_n hx hb dMD_serve_4 rfl (lv_at hl 1 rfl) ?_
  refine lv_iconst (v := nI 0) hx hb dMD_serve_5 xk_i0 ?_
  refine xs_iast C w (xJ32 hJ) (fun _ => rfl) r rfl (by omega) (by decide) dMD_serve_6 (fun H locs w => ?_)
  refine lv_aload_n hx hb dMD_serve_7 rfl (lv_at hl 0 rfl) ?_
  refine xg_MD_29 C w (xJ20 hJ) dMD_serve_8 ?_
  refine lv_iload_n hx hb dMD_serve_11 rfl (lv_at hl 1 rfl) ?_
  refine xr_iald C w (xJ27 hJ) rfl 0 rfl r rfl (by omega) (by decide) dMD_serve_12 ?_
  refine xn_eq (y := σ 27 0 r) (by simp [xu3, xw_u2, va_up]) ?_
  refine lv_iconst (v := nI 1) hx hb dMD_serve_13 xk_i1 ?_
  refine lv_icmp_eq hx hb dMD_serve_14 rfl (fun hh1 => ?_) (fun hh1 => ?_)
  · skip
    refine lv_iconst (v := nI 1) hx hb dMD_serve_27 xk_i1 ?_
    refine lv_goto hx hb dMD_serve_28 rfl ?_
    refine lv_istore_n (lv' := [(2, .int (nI 1)), (0, .ref (ad 20 0)), (1, .int (nI r))]) hx hb dMD_serve_32 rfl hl (by decide) rfl (fun ls hl => ?_)
    have hw : σ 27 0 r = nI 1 ∨ σ 27 0 r = nI 3 := by grind
    refine lv_iconst (v := nI 0) hx hb dMD_serve_33 xk_i0 ?_
    refine lv_istore_n (lv' := [(3, .int (nI 0)), (2, .int (nI 1)), (0, .ref (ad 20 0)), (1, .int (nI r))]) hx hb dMD_serve_34 rfl hl (by decide) rfl (fun ls hl => ?_)
    refine xl_up (Wg := fun H locs ls => W p l e _ s m args below meth c H locs _ _ _ (F0 m 35 ls [])) (K := fun i H locs ls => xr_W xCl (xT cA) D I ad (xc cA tz ad (xw_u2 (xu3 σ 32 0 r (nI 0)) 21 0 (va_cpy (σ 33 0) (σ 21 0) (4 * r) q i))) A s H locs ∧ lv_has ls 4 [(0, .ref (ad 20 0)), (1, .int (nI r)), (2, .int (nI 1)), (3, .int (nI i))]) n ?_ ?_ 0 _ _ _ (by omega) ⟨(xcpy_0 (xu3 σ 32 0 r (nI 0)) 21 0 (σ 33 0) (4 * r) q).symm ▸ w, lv_sub hl [2, 3, 1, 0] rfl⟩
    · skip
      intro H locs ls ⟨w, hl⟩
      refine lv_iload_n hx hb dMD_serve_35 rfl (lv_at hl 3 rfl) ?_
      refine lv_aload_n hx hb dMD_serve_36 rfl (lv_at hl 0 rfl) ?_
      refine xg_MD_35 C w (xJ20 hJ) dMD_serve_37 ?_
      refine lv_iload_n hx hb dMD_serve_40 rfl (lv_at hl 1 rfl) ?_
      refine xr_iald C w (xJ29 hJ) rfl 0 rfl r rfl (by omega) (by decide) dMD_serve_41 ?_
      refine xn_eq (y := nI n) hn ?_
      refine lv_icmp_ge hx hb dMD_serve_42 rfl (fun _ => ?_) (fun hq => absurd (nI_le (by omega) (by omega)) hq)
      refine lv_iload_n hx hb dMD_serve_104 rfl (lv_at hl 2 rfl) ?_
      refine lv_if_eq hx hb dMD_serve_105 rfl (fun hq => absurd hq (by decide)) (fun _ => ?_)
      refine lv_aload_n hx hb dMD_serve_108 rfl (lv_at hl 0 rfl) ?_
      refine xg_MD_26 C w (xJ20 hJ) dMD_serve_109 ?_
      refine lv_iload_n hx hb dMD_serve_112 rfl (lv_at hl 1 rfl) ?_
      refine lv_iconst (v := nI 3) hx hb dMD_serve_113 xk_i3 ?_
      refine xs_iast C w (xJ26 hJ) (fun _ => rfl) r rfl (by omega) (by decide) dMD_serve_114 (fun H locs w => ?_)
      refine lv_goto hx hb dMD_serve_115 rfl ?_
      have hm : xu3 (xw_u2 (xu3 σ 32 0 r (nI 0)) 21 0 (va_cpy (σ 33 0) (σ 21 0) (4 * r) q n)) 26 0 r (nI 3) = mf_move σ r q n := (xif_t hw _ _).symm
      rw [hm] at w
      refine lv_bipush (v := nI 6) hx hb dMD_serve_130 xk_b6 ?_
      refine lv_aload_n hx hb dMD_serve_132 rfl (lv_at hl 0 rfl) ?_
      refine xg_MD_95 C w (xJ20 hJ) dMD_serve_133 ?_
      refine xn_eq (y := nI ns) hns2 ?_
      refine xn_mul hx hb dMD_serve_136 ?_
      refine lv_istore_n (lv' := [(3, .int (nI (6 * ns))), (0, .ref (ad 20 0)), (1, .int (nI r)), (2, .int (nI 1))]) hx hb dMD_serve_137 rfl hl (by decide) rfl (fun ls hl => ?_)
      refine lv_aload_n hx hb dMD_serve_138 rfl (lv_at hl 1 rfl) ?_
      refine xg_MD_63 C w (xJ20 hJ) dMD_serve_139 ?_
      refine lv_iload_n hx hb dMD_serve_142 rfl (lv_at hl 0 rfl) ?_
      refine lv_iload_n hx hb dMD_serve_143 rfl (lv_at hl 2 rfl) ?_
      refine lv_iconst (v := nI 4) hx hb dMD_serve_144 xk_i4 ?_
      refine xn_div hx hb dMD_serve_145 (by omega) (by decide) (by decide) ?_
      refine xs_iast C w (xJ36 hJ) (fun _ => rfl) (6 * ns) rfl (by omega) (by decide) dMD_serve_146 (fun H locs w => ?_)
      refine lv_aload_n hx hb dMD_serve_147 rfl (lv_at hl 1 rfl) ?_
      refine xg_MD_63 C w (xJ20 hJ) dMD_serve_148 ?_
      refine lv_iload_n hx hb dMD_serve_151 rfl (lv_at hl 0 rfl) ?_
      refine lv_iconst (v := nI 1) hx hb dMD_serve_152 xk_i1 ?_
      refine xn_add hx hb dMD_serve_153 ?_
      refine lv_iload_n hx hb dMD_serve_154 rfl (lv_at hl 2 rfl) ?_
      refine lv_iconst (v := nI 4) hx hb dMD_serve_155 xk_i4 ?_
      refine xn_rem hx hb dMD_serve_156 (by omega) (by decide) (by decide) ?_
      refine xs_iast C w (xJ36 hJ) (fun _ => rfl) ((6 * ns) + 1) rfl (by omega) (by decide) dMD_serve_157 (fun H locs w => ?_)
      refine lv_aload_n hx hb dMD_serve_158 rfl (lv_at hl 1 rfl) ?_
      refine xg_MD_63 C w (xJ20 hJ) dMD_serve_159 ?_
      refine lv_iload_n hx hb dMD_serve_162 rfl (lv_at hl 0 rfl) ?_
      refine lv_iconst (v := nI 2) hx hb dMD_serve_163 xk_i2 ?_
      refine xn_add hx hb dMD_serve_164 ?_
      refine lv_aload_n hx hb dMD_serve_165 rfl (lv_at hl 1 rfl) ?_
      refine xg_MD_29 C w (xJ20 hJ) dMD_serve_166 ?_
      refine lv_iload_n hx hb dMD_serve_169 rfl (lv_at hl 2 rfl) ?_
      refine xr_iald C w (xJ27 hJ) rfl 0 rfl r rfl (by omega) (by decide) dMD_serve_170 ?_
      refine xn_eq (y := (mf_move σ r q n) 27 0 r) (by simp [xu3, xw_u2, va_up]) ?_
      refine xs_iast C w (xJ36 hJ) (fun _ => rfl) ((6 * ns) + 2) rfl (by omega) (by decide) dMD_serve_171 (fun H locs w => ?_)
      refine lv_aload_n hx hb dMD_serve_172 rfl (lv_at hl 1 rfl) ?_
      refine xg_MD_63 C w (xJ20 hJ) dMD_serve_173 ?_
      refine lv_iload_n hx hb dMD_serve_176 rfl (lv_at hl 0 rfl) ?_
      refine lv_iconst (v := nI 3) hx hb dMD_serve_177 xk_i3 ?_
      refine xn_add hx hb dMD_serve_178 ?_
      refine lv_aload_n hx hb dMD_serve_179 rfl (lv_at hl 1 rfl) ?_
      refine xg_MD_32 C w (xJ20 hJ) dMD_serve_180 ?_
      refine lv_iload_n hx hb dMD_serve_183 rfl (lv_at hl 2 rfl) ?_
      refine xr_iald C w (xJ28 hJ) rfl 0 rfl r rfl (by omega) (by decide) dMD_serve_184 ?_
      refine xn_eq (y := (mf_move σ r q n) 28 0 r) (by simp [xu3, xw_u2, va_up]) ?_
      refine xn_eq (y := nI q) hq2 ?_
      refine xs_iast C w (xJ36 hJ) (fun _ => rfl) ((6 * ns) + 3) rfl (by omega) (by decide) dMD_serve_185 (fun H locs w => ?_)
      refine lv_aload_n hx hb dMD_serve_186 rfl (lv_at hl 1 rfl) ?_
      refine xg_MD_63 C w (xJ20 hJ) dMD_serve_187 ?_
      refine lv_iload_n hx hb dMD_serve_190 rfl (lv_at hl 0 rfl) ?_
      refine lv_iconst (v := nI 4) hx hb dMD_serve_191 xk_i4 ?_
      refine xn_add hx hb dMD_serve_192 ?_
      refine lv_aload_n hx hb dMD_serve_193 rfl (lv_at hl 1 rfl) ?_
      refine xg_MD_35 C w (xJ20 hJ) dMD_serve_194 ?_
      refine lv_iload_n hx hb dMD_serve_197 rfl (lv_at hl 2 rfl) ?_
      refine xr_iald C w (xJ29 hJ) rfl 0 rfl r rfl (by omega) (by decide) dMD_serve_198 ?_
      refine xn_eq (y := (mf_move σ r q n) 29 0 r) (by simp [xu3, xw_u2, va_up]) ?_
      refine xn_eq (y := nI n) hn2 ?_
      refine xs_iast C w (xJ36 hJ) (fun _ => rfl) ((6 * ns) + 4) rfl (by omega) (by decide) dMD_serve_199 (fun H locs w => ?_)
      refine lv_aload_n hx hb dMD_serve_200 rfl (lv_at hl 1 rfl) ?_
      refine xg_MD_63 C w (xJ20 hJ) dMD_serve_201 ?_
      refine lv_iload_n hx hb dMD_serve_204 rfl (lv_at hl 0 rfl) ?_
      refine lv_iconst (v := nI 5) hx hb dMD_serve_205 xk_i5 ?_
      refine xn_add hx hb dMD_serve_206 ?_
      refine lv_aload_n hx hb dMD_serve_207 rfl (lv_at hl 1 rfl) ?_
      refine xg_MD_98 C w (xJ20 hJ) dMD_serve_208 ?_
      refine xn_eq (y := (mf_move σ r q n) 20 0 20) (by simp [xu3, xw_u2, va_up]) ?_
      refine lv_iconst (v := nI 1) hx hb dMD_serve_211 xk_i1 ?_
      refine lv_iadd hx hb dMD_serve_212 ?_
      refine xs_iast C w (xJ36 hJ) (fun _ => rfl) ((6 * ns) + 5) rfl (by omega) (by decide) dMD_serve_213 (fun H locs w => ?_)
      refine lv_aload_n hx hb dMD_serve_214 rfl (lv_at hl 1 rfl) ?_
      refine lv_dup hx hb dMD_serve_215 rfl ?_
      refine xg_MD_95 C w (xJ20 hJ) dMD_serve_216 ?_
      refine xn_eq (y := (mf_move σ r q n) 20 0 21) (by simp [xu3, xw_u2, va_up]) ?_
      refine xn_eq (y := nI ns) hns2 ?_
      refine lv_iconst (v := nI 1) hx hb dMD_serve_219 xk_i1 ?_
      refine xn_add hx hb dMD_serve_220 ?_
      refine xp_MD_95 C w (xJ20 hJ) dMD_serve_221 (fun H locs w => ?_)
      exact xd_vret C w hr hlk dMD_serve_224 rfl
    · skip
      intro i H locs ls hii ⟨w, hl⟩ ihi
      refine lv_iload_n hx hb dMD_serve_35 rfl (lv_at hl 3 rfl) ?_
      refine lv_aload_n hx hb dMD_serve_36 rfl (lv_at hl 0 rfl) ?_
      refine xg_MD_35 C w (xJ20 hJ) dMD_serve_37 ?_
      refine lv_iload_n hx hb dMD_serve_40 rfl (lv_at hl 1 rfl) ?_
      refine xr_iald C w (xJ29 hJ) rfl 0 rfl r rfl (by omega) (by decide) dMD_serve_41 ?_
      refine xn_eq (y := nI n) hn ?_
      refine lv_icmp_ge hx hb dMD_serve_42 rfl (fun hq => absurd hq (nI_ge (by omega) (by omega))) (fun _ => ?_)
      refine lv_iload_n hx hb dMD_serve_45 rfl (lv_at hl 2 rfl) ?_
      refine lv_if_eq hx hb dMD_serve_46 rfl (fun hq => absurd hq (by decide)) (fun _ => ?_)
      refine lv_aload_n hx hb dMD_serve_49 rfl (lv_at hl 0 rfl) ?_
      refine xg_MD_7 C w (xJ20 hJ) dMD_serve_50 ?_
      refine lv_aload_n hx hb dMD_serve_53 rfl (lv_at hl 0 rfl) ?_
      refine xg_MD_32 C w (xJ20 hJ) dMD_serve_54 ?_
      refine lv_iload_n hx hb dMD_serve_57 rfl (lv_at hl 1 rfl) ?_
      refine xr_iald C w (xJ28 hJ) rfl 0 rfl r rfl (by omega) (by decide) dMD_serve_58 ?_
      refine xn_eq (y := nI q) hq ?_
      refine lv_iload_n hx hb dMD_serve_59 rfl (lv_at hl 3 rfl) ?_
      refine xn_add hx hb dMD_serve_60 ?_
      refine lv_aload_n hx hb dMD_serve_61 rfl (lv_at hl 0 rfl) ?_
      refine xg_MD_47 C w (xJ20 hJ) dMD_serve_62 ?_
      refine lv_iconst (v := nI 4) hx hb dMD_serve_65 xk_i4 ?_
      refine lv_iload_n hx hb dMD_serve_66 rfl (lv_at hl 1 rfl) ?_
      refine xn_mul hx hb dMD_serve_67 ?_
      refine lv_iload_n hx hb dMD_serve_68 rfl (lv_at hl 3 rfl) ?_
      refine xn_add hx hb dMD_serve_69 ?_
      refine xr_iald C w (xJ33 hJ) rfl 0 rfl ((4 * r) + i) rfl (by omega) (by decide) dMD_serve_70 ?_
      refine xn_eq (y := σ 33 0 (4 * r + i)) rfl ?_
      refine xs_iast C w (xJ21 hJ) (fun _ => rfl) (q + i) rfl (by omega) (by decide) dMD_serve_71 (fun H locs w => ?_)
      refine lv_goto hx hb dMD_serve_72 rfl ?_
      refine lv_iinc (lv' := [(3, .int (nI (i + 1))), (0, .ref (ad 20 0)), (1, .int (nI r)), (2, .int (nI 1))]) hx hb dMD_serve_98 hl (k := 3) rfl (xn_inc _) (by decide) rfl (fun ls hl => ?_)
      refine lv_goto hx hb dMD_serve_101 rfl ?_
      exact ihi _ _ _ ⟨xcpy_s (xu3 σ 32 0 r (nI 0)) 21 0 (σ 33 0) (σ 21 0) (4 * r) q i ▸ w, lv_sub hl [1, 2, 3, 0] rfl⟩
  · skip
    refine lv_aload_n hx hb dMD_serve_17 rfl (lv_at hl 0 rfl) ?_
    refine xg_MD_29 C w (xJ20 hJ) dMD_serve_18 ?_
    refine lv_iload_n hx hb dMD_serve_21 rfl (lv_at hl 1 rfl) ?_
    refine xr_iald C w (xJ27 hJ) rfl 0 rfl r rfl (by omega) (by decide) dMD_serve_22 ?_
    refine xn_eq (y := σ 27 0 r) (by simp [xu3, xw_u2, va_up]) ?_
    refine lv_iconst (v := nI 3) hx hb dMD_serve_23 xk_i3 ?_
    refine lv_icmp_ne hx hb dMD_serve_24 rfl (fun hh2 => ?_) (fun hh2 => ?_)
    · skip
      refine lv_iconst (v := nI 0) hx hb dMD_serve_31 xk_i0 ?_
      refine lv_istore_n (lv' := [(2, .int (nI 0)), (0, .ref (ad 20 0)), (1, .int (nI r))]) hx hb dMD_serve_32 rfl hl (by decide) rfl (fun ls hl => ?_)
      have hw : ¬ (σ 27 0 r = nI 1 ∨ σ 27 0 r = nI 3) := by grind
      refine lv_iconst (v := nI 0) hx hb dMD_serve_33 xk_i0 ?_
      refine lv_istore_n (lv' := [(3, .int (nI 0)), (2, .int (nI 0)), (0, .ref (ad 20 0)), (1, .int (nI r))]) hx hb dMD_serve_34 rfl hl (by decide) rfl (fun ls hl => ?_)
      refine xl_up (Wg := fun H locs ls => W p l e _ s m args below meth c H locs _ _ _ (F0 m 35 ls [])) (K := fun i H locs ls => xr_W xCl (xT cA) D I ad (xc cA tz ad (xw_u2 (xu3 σ 32 0 r (nI 0)) 34 0 (va_cpy (σ 21 0) (σ 34 0) q (4 * r) i))) A s H locs ∧ lv_has ls 4 [(0, .ref (ad 20 0)), (1, .int (nI r)), (2, .int (nI 0)), (3, .int (nI i))]) n ?_ ?_ 0 _ _ _ (by omega) ⟨(xcpy_0 (xu3 σ 32 0 r (nI 0)) 34 0 (σ 21 0) q (4 * r)).symm ▸ w, lv_sub hl [2, 3, 1, 0] rfl⟩
      · skip
        intro H locs ls ⟨w, hl⟩
        refine lv_iload_n hx hb dMD_serve_35 rfl (lv_at hl 3 rfl) ?_
        refine lv_aload_n hx hb dMD_serve_36 rfl (lv_at hl 0 rfl) ?_
        refine xg_MD_35 C w (xJ20 hJ) dMD_serve_37 ?_
        refine lv_iload_n hx hb dMD_serve_40 rfl (lv_at hl 1 rfl) ?_
        refine xr_iald C w (xJ29 hJ) rfl 0 rfl r rfl (by omega) (by decide) dMD_serve_41 ?_
        refine xn_eq (y := nI n) hn ?_
        refine lv_icmp_ge hx hb dMD_serve_42 rfl (fun _ => ?_) (fun hq => absurd (nI_le (by omega) (by omega)) hq)
        refine lv_iload_n hx hb dMD_serve_104 rfl (lv_at hl 2 rfl) ?_
        refine lv_if_eq hx hb dMD_serve_105 rfl (fun _ => ?_) (fun hq => absurd nI_0 hq)
        refine lv_aload_n hx hb dMD_serve_118 rfl (lv_at hl 0 rfl) ?_
        refine xg_MD_53 C w (xJ20 hJ) dMD_serve_119 ?_
        refine lv_iload_n hx hb dMD_serve_122 rfl (lv_at hl 1 rfl) ?_
        refine lv_aload_n hx hb dMD_serve_123 rfl (lv_at hl 0 rfl) ?_
        refine xg_MD_35 C w (xJ20 hJ) dMD_serve_124 ?_
        refine lv_iload_n hx hb dMD_serve_127 rfl (lv_at hl 1 rfl) ?_
        refine xr_iald C w (xJ29 hJ) rfl 0 rfl r rfl (by omega) (by decide) dMD_serve_128 ?_
        refine xn_eq (y := nI n) hn ?_
        refine xs_iast C w (xJ35 hJ) (fun _ => rfl) r rfl (by omega) (by decide) dMD_serve_129 (fun H locs w => ?_)
        have hm : xu3 (xw_u2 (xu3 σ 32 0 r (nI 0)) 34 0 (va_cpy (σ 21 0) (σ 34 0) q (4 * r) n)) 35 0 r (nI n) = mf_move σ r q n := (xif_f hw _ _).symm
        rw [hm] at w
        refine lv_bipush (v := nI 6) hx hb dMD_serve_130 xk_b6 ?_
        refine lv_aload_n hx hb dMD_serve_132 rfl (lv_at hl 0 rfl) ?_
        refine xg_MD_95 C w (xJ20 hJ) dMD_serve_133 ?_
        refine xn_eq (y := nI ns) hns2 ?_
        refine xn_mul hx hb dMD_serve_136 ?_
        refine lv_istore_n (lv' := [(3, .int (nI (6 * ns))), (0, .ref (ad 20 0)), (1, .int (nI r)), (2, .int (nI 0))]) hx hb dMD_serve_137 rfl hl (by decide) rfl (fun ls hl => ?_)
        refine lv_aload_n hx hb dMD_serve_138 rfl (lv_at hl 1 rfl) ?_
        refine xg_MD_63 C w (xJ20 hJ) dMD_serve_139 ?_
        refine lv_iload_n hx hb dMD_serve_142 rfl (lv_at hl 0 rfl) ?_
        refine lv_iload_n hx hb dMD_serve_143 rfl (lv_at hl 2 rfl) ?_
        refine lv_iconst (v := nI 4) hx hb dMD_serve_144 xk_i4 ?_
        refine xn_div hx hb dMD_serve_145 (by omega) (by decide) (by decide) ?_
        refine xs_iast C w (xJ36 hJ) (fun _ => rfl) (6 * ns) rfl (by omega) (by decide) dMD_serve_146 (fun H locs w => ?_)
        refine lv_aload_n hx hb dMD_serve_147 rfl (lv_at hl 1 rfl) ?_
        refine xg_MD_63 C w (xJ20 hJ) dMD_serve_148 ?_
        refine lv_iload_n hx hb dMD_serve_151 rfl (lv_at hl 0 rfl) ?_
        refine lv_iconst (v := nI 1) hx hb dMD_serve_152 xk_i1 ?_
        refine xn_add hx hb dMD_serve_153 ?_
        refine lv_iload_n hx hb dMD_serve_154 rfl (lv_at hl 2 rfl) ?_
        refine lv_iconst (v := nI 4) hx hb dMD_serve_155 xk_i4 ?_
        refine xn_rem hx hb dMD_serve_156 (by omega) (by decide) (by decide) ?_
        refine xs_iast C w (xJ36 hJ) (fun _ => rfl) ((6 * ns) + 1) rfl (by omega) (by decide) dMD_serve_157 (fun H locs w => ?_)
        refine lv_aload_n hx hb dMD_serve_158 rfl (lv_at hl 1 rfl) ?_
        refine xg_MD_63 C w (xJ20 hJ) dMD_serve_159 ?_
        refine lv_iload_n hx hb dMD_serve_162 rfl (lv_at hl 0 rfl) ?_
        refine lv_iconst (v := nI 2) hx hb dMD_serve_163 xk_i2 ?_
        refine xn_add hx hb dMD_serve_164 ?_
        refine lv_aload_n hx hb dMD_serve_165 rfl (lv_at hl 1 rfl) ?_
        refine xg_MD_29 C w (xJ20 hJ) dMD_serve_166 ?_
        refine lv_iload_n hx hb dMD_serve_169 rfl (lv_at hl 2 rfl) ?_
        refine xr_iald C w (xJ27 hJ) rfl 0 rfl r rfl (by omega) (by decide) dMD_serve_170 ?_
        refine xn_eq (y := (mf_move σ r q n) 27 0 r) (by simp [xu3, xw_u2, va_up]) ?_
        refine xs_iast C w (xJ36 hJ) (fun _ => rfl) ((6 * ns) + 2) rfl (by omega) (by decide) dMD_serve_171 (fun H locs w => ?_)
        refine lv_aload_n hx hb dMD_serve_172 rfl (lv_at hl 1 rfl) ?_
        refine xg_MD_63 C w (xJ20 hJ) dMD_serve_173 ?_
        refine lv_iload_n hx hb dMD_serve_176 rfl (lv_at hl 0 rfl) ?_
        refine lv_iconst (v := nI 3) hx hb dMD_serve_177 xk_i3 ?_
        refine xn_add hx hb dMD_serve_178 ?_
        refine lv_aload_n hx hb dMD_serve_179 rfl (lv_at hl 1 rfl) ?_
        refine xg_MD_32 C w (xJ20 hJ) dMD_serve_180 ?_
        refine lv_iload_n hx hb dMD_serve_183 rfl (lv_at hl 2 rfl) ?_
        refine xr_iald C w (xJ28 hJ) rfl 0 rfl r rfl (by omega) (by decide) dMD_serve_184 ?_
        refine xn_eq (y := (mf_move σ r q n) 28 0 r) (by simp [xu3, xw_u2, va_up]) ?_
        refine xn_eq (y := nI q) hq2 ?_
        refine xs_iast C w (xJ36 hJ) (fun _ => rfl) ((6 * ns) + 3) rfl (by omega) (by decide) dMD_serve_185 (fun H locs w => ?_)
        refine lv_aload_n hx hb dMD_serve_186 rfl (lv_at hl 1 rfl) ?_
        refine xg_MD_63 C w (xJ20 hJ) dMD_serve_187 ?_
        refine lv_iload_n hx hb dMD_serve_190 rfl (lv_at hl 0 rfl) ?_
        refine lv_iconst (v := nI 4) hx hb dMD_serve_191 xk_i4 ?_
        refine xn_add hx hb dMD_serve_192 ?_
        refine lv_aload_n hx hb dMD_serve_193 rfl (lv_at hl 1 rfl) ?_
        refine xg_MD_35 C w (xJ20 hJ) dMD_serve_194 ?_
        refine lv_iload_n hx hb dMD_serve_197 rfl (lv_at hl 2 rfl) ?_
        refine xr_iald C w (xJ29 hJ) rfl 0 rfl r rfl (by omega) (by decide) dMD_serve_198 ?_
        refine xn_eq (y := (mf_move σ r q n) 29 0 r) (by simp [xu3, xw_u2, va_up]) ?_
        refine xn_eq (y := nI n) hn2 ?_
        refine xs_iast C w (xJ36 hJ) (fun _ => rfl) ((6 * ns) + 4) rfl (by omega) (by decide) dMD_serve_199 (fun H locs w => ?_)
        refine lv_aload_n hx hb dMD_serve_200 rfl (lv_at hl 1 rfl) ?_
        refine xg_MD_63 C w (xJ20 hJ) dMD_serve_201 ?_
        refine lv_iload_n hx hb dMD_serve_204 rfl (lv_at hl 0 rfl) ?_
        refine lv_iconst (v := nI 5) hx hb dMD_serve_205 xk_i5 ?_
        refine xn_add hx hb dMD_serve_206 ?_
        refine lv_aload_n hx hb dMD_serve_207 rfl (lv_at hl 1 rfl) ?_
        refine xg_MD_98 C w (xJ20 hJ) dMD_serve_208 ?_
        refine xn_eq (y := (mf_move σ r q n) 20 0 20) (by simp [xu3, xw_u2, va_up]) ?_
        refine lv_iconst (v := nI 1) hx hb dMD_serve_211 xk_i1 ?_
        refine lv_iadd hx hb dMD_serve_212 ?_
        refine xs_iast C w (xJ36 hJ) (fun _ => rfl) ((6 * ns) + 5) rfl (by omega) (by decide) dMD_serve_213 (fun H locs w => ?_)
        refine lv_aload_n hx hb dMD_serve_214 rfl (lv_at hl 1 rfl) ?_
        refine lv_dup hx hb dMD_serve_215 rfl ?_
        refine xg_MD_95 C w (xJ20 hJ) dMD_serve_216 ?_
        refine xn_eq (y := (mf_move σ r q n) 20 0 21) (by simp [xu3, xw_u2, va_up]) ?_
        refine xn_eq (y := nI ns) hns2 ?_
        refine lv_iconst (v := nI 1) hx hb dMD_serve_219 xk_i1 ?_
        refine xn_add hx hb dMD_serve_220 ?_
        refine xp_MD_95 C w (xJ20 hJ) dMD_serve_221 (fun H locs w => ?_)
        exact xd_vret C w hr hlk dMD_serve_224 rfl
      · skip
        intro i H locs ls hii ⟨w, hl⟩ ihi
        refine lv_iload_n hx hb dMD_serve_35 rfl (lv_at hl 3 rfl) ?_
        refine lv_aload_n hx hb dMD_serve_36 rfl (lv_at hl 0 rfl) ?_
        refine xg_MD_35 C w (xJ20 hJ) dMD_serve_37 ?_
        refine lv_iload_n hx hb dMD_serve_40 rfl (lv_at hl 1 rfl) ?_
        refine xr_iald C w (xJ29 hJ) rfl 0 rfl r rfl (by omega) (by decide) dMD_serve_41 ?_
        refine xn_eq (y := nI n) hn ?_
        refine lv_icmp_ge hx hb dMD_serve_42 rfl (fun hq => absurd hq (nI_ge (by omega) (by omega))) (fun _ => ?_)
        refine lv_iload_n hx hb dMD_serve_45 rfl (lv_at hl 2 rfl) ?_
        refine lv_if_eq hx hb dMD_serve_46 rfl (fun _ => ?_) (fun hq => absurd nI_0 hq)
        refine lv_aload_n hx hb dMD_serve_75 rfl (lv_at hl 0 rfl) ?_
        refine xg_MD_50 C w (xJ20 hJ) dMD_serve_76 ?_
        refine lv_iconst (v := nI 4) hx hb dMD_serve_79 xk_i4 ?_
        refine lv_iload_n hx hb dMD_serve_80 rfl (lv_at hl 1 rfl) ?_
        refine xn_mul hx hb dMD_serve_81 ?_
        refine lv_iload_n hx hb dMD_serve_82 rfl (lv_at hl 3 rfl) ?_
        refine xn_add hx hb dMD_serve_83 ?_
        refine lv_aload_n hx hb dMD_serve_84 rfl (lv_at hl 0 rfl) ?_
        refine xg_MD_7 C w (xJ20 hJ) dMD_serve_85 ?_
        refine lv_aload_n hx hb dMD_serve_88 rfl (lv_at hl 0 rfl) ?_
        refine xg_MD_32 C w (xJ20 hJ) dMD_serve_89 ?_
        refine lv_iload_n hx hb dMD_serve_92 rfl (lv_at hl 1 rfl) ?_
        refine xr_iald C w (xJ28 hJ) rfl 0 rfl r rfl (by omega) (by decide) dMD_serve_93 ?_
        refine xn_eq (y := nI q) hq ?_
        refine lv_iload_n hx hb dMD_serve_94 rfl (lv_at hl 3 rfl) ?_
        refine xn_add hx hb dMD_serve_95 ?_
        refine xr_iald C w (xJ21 hJ) rfl 0 rfl (q + i) rfl (by omega) (by decide) dMD_serve_96 ?_
        refine xn_eq (y := σ 21 0 (q + i)) rfl ?_
        refine xs_iast C w (xJ34 hJ) (fun _ => rfl) ((4 * r) + i) rfl (by omega) (by decide) dMD_serve_97 (fun H locs w => ?_)
        refine lv_iinc (lv' := [(3, .int (nI (i + 1))), (0, .ref (ad 20 0)), (1, .int (nI r)), (2, .int (nI 0))]) hx hb dMD_serve_98 hl (k := 3) rfl (xn_inc _) (by decide) rfl (fun ls hl => ?_)
        refine lv_goto hx hb dMD_serve_101 rfl ?_
        exact ihi _ _ _ ⟨xcpy_s (xu3 σ 32 0 r (nI 0)) 34 0 (σ 21 0) (σ 34 0) q (4 * r) i ▸ w, lv_sub hl [1, 2, 3, 0] rfl⟩
    · skip
      refine lv_iconst (v := nI 1) hx hb dMD_serve_27 xk_i1 ?_
      refine lv_goto hx hb dMD_serve_28 rfl ?_
      refine lv_istore_n (lv' := [(2, .int (nI 1)), (0, .ref (ad 20 0)), (1, .int (nI r))]) hx hb dMD_serve_32 rfl hl (by decide) rfl (fun ls hl => ?_)
      have hw : σ 27 0 r = nI 1 ∨ σ 27 0 r = nI 3 := by grind
      refine lv_iconst (v := nI 0) hx hb dMD_serve_33 xk_i0 ?_
      refine lv_istore_n (lv' := [(3, .int (nI 0)), (2, .int (nI 1)), (0, .ref (ad 20 0)), (1, .int (nI r))]) hx hb dMD_serve_34 rfl hl (by decide) rfl (fun ls hl => ?_)
      refine xl_up (Wg := fun H locs ls => W p l e _ s m args below meth c H locs _ _ _ (F0 m 35 ls [])) (K := fun i H locs ls => xr_W xCl (xT cA) D I ad (xc cA tz ad (xw_u2 (xu3 σ 32 0 r (nI 0)) 21 0 (va_cpy (σ 33 0) (σ 21 0) (4 * r) q i))) A s H locs ∧ lv_has ls 4 [(0, .ref (ad 20 0)), (1, .int (nI r)), (2, .int (nI 1)), (3, .int (nI i))]) n ?_ ?_ 0 _ _ _ (by omega) ⟨(xcpy_0 (xu3 σ 32 0 r (nI 0)) 21 0 (σ 33 0) (4 * r) q).symm ▸ w, lv_sub hl [2, 3, 1, 0] rfl⟩
      · skip
        intro H locs ls ⟨w, hl⟩
        refine lv_iload_n hx hb dMD_serve_35 rfl (lv_at hl 3 rfl) ?_
        refine lv_aload_n hx hb dMD_serve_36 rfl (lv_at hl 0 rfl) ?_
        refine xg_MD_35 C w (xJ20 hJ) dMD_serve_37 ?_
        refine lv_iload_n hx hb dMD_serve_40 rfl (lv_at hl 1 rfl) ?_
        refine xr_iald C w (xJ29 hJ) rfl 0 rfl r rfl (by omega) (by decide) dMD_serve_41 ?_
        refine xn_eq (y := nI n) hn ?_
        refine lv_icmp_ge hx hb dMD_serve_42 rfl (fun _ => ?_) (fun hq => absurd (nI_le (by omega) (by omega)) hq)
        refine lv_iload_n hx hb dMD_serve_104 rfl (lv_at hl 2 rfl) ?_
        refine lv_if_eq hx hb dMD_serve_105 rfl (fun hq => absurd hq (by decide)) (fun _ => ?_)
        refine lv_aload_n hx hb dMD_serve_108 rfl (lv_at hl 0 rfl) ?_
        refine xg_MD_26 C w (xJ20 hJ) dMD_serve_109 ?_
        refine lv_iload_n hx hb dMD_serve_112 rfl (lv_at hl 1 rfl) ?_
        refine lv_iconst (v := nI 3) hx hb dMD_serve_113 xk_i3 ?_
        refine xs_iast C w (xJ26 hJ) (fun _ => rfl) r rfl (by omega) (by decide) dMD_serve_114 (fun H locs w => ?_)
        refine lv_goto hx hb dMD_serve_115 rfl ?_
        have hm : xu3 (xw_u2 (xu3 σ 32 0 r (nI 0)) 21 0 (va_cpy (σ 33 0) (σ 21 0) (4 * r) q n)) 26 0 r (nI 3) = mf_move σ r q n := (xif_t hw _ _).symm
        rw [hm] at w
        refine lv_bipush (v := nI 6) hx hb dMD_serve_130 xk_b6 ?_
        refine lv_aload_n hx hb dMD_serve_132 rfl (lv_at hl 0 rfl) ?_
        refine xg_MD_95 C w (xJ20 hJ) dMD_serve_133 ?_
        refine xn_eq (y := nI ns) hns2 ?_
        refine xn_mul hx hb dMD_serve_136 ?_
        refine lv_istore_n (lv' := [(3, .int (nI (6 * ns))), (0, .ref (ad 20 0)), (1, .int (nI r)), (2, .int (nI 1))]) hx hb dMD_serve_137 rfl hl (by decide) rfl (fun ls hl => ?_)
        refine lv_aload_n hx hb dMD_serve_138 rfl (lv_at hl 1 rfl) ?_
        refine xg_MD_63 C w (xJ20 hJ) dMD_serve_139 ?_
        refine lv_iload_n hx hb dMD_serve_142 rfl (lv_at hl 0 rfl) ?_
        refine lv_iload_n hx hb dMD_serve_143 rfl (lv_at hl 2 rfl) ?_
        refine lv_iconst (v := nI 4) hx hb dMD_serve_144 xk_i4 ?_
        refine xn_div hx hb dMD_serve_145 (by omega) (by decide) (by decide) ?_
        refine xs_iast C w (xJ36 hJ) (fun _ => rfl) (6 * ns) rfl (by omega) (by decide) dMD_serve_146 (fun H locs w => ?_)
        refine lv_aload_n hx hb dMD_serve_147 rfl (lv_at hl 1 rfl) ?_
        refine xg_MD_63 C w (xJ20 hJ) dMD_serve_148 ?_
        refine lv_iload_n hx hb dMD_serve_151 rfl (lv_at hl 0 rfl) ?_
        refine lv_iconst (v := nI 1) hx hb dMD_serve_152 xk_i1 ?_
        refine xn_add hx hb dMD_serve_153 ?_
        refine lv_iload_n hx hb dMD_serve_154 rfl (lv_at hl 2 rfl) ?_
        refine lv_iconst (v := nI 4) hx hb dMD_serve_155 xk_i4 ?_
        refine xn_rem hx hb dMD_serve_156 (by omega) (by decide) (by decide) ?_
        refine xs_iast C w (xJ36 hJ) (fun _ => rfl) ((6 * ns) + 1) rfl (by omega) (by decide) dMD_serve_157 (fun H locs w => ?_)
        refine lv_aload_n hx hb dMD_serve_158 rfl (lv_at hl 1 rfl) ?_
        refine xg_MD_63 C w (xJ20 hJ) dMD_serve_159 ?_
        refine lv_iload_n hx hb dMD_serve_162 rfl (lv_at hl 0 rfl) ?_
        refine lv_iconst (v := nI 2) hx hb dMD_serve_163 xk_i2 ?_
        refine xn_add hx hb dMD_serve_164 ?_
        refine lv_aload_n hx hb dMD_serve_165 rfl (lv_at hl 1 rfl) ?_
        refine xg_MD_29 C w (xJ20 hJ) dMD_serve_166 ?_
        refine lv_iload_n hx hb dMD_serve_169 rfl (lv_at hl 2 rfl) ?_
        refine xr_iald C w (xJ27 hJ) rfl 0 rfl r rfl (by omega) (by decide) dMD_serve_170 ?_
        refine xn_eq (y := (mf_move σ r q n) 27 0 r) (by simp [xu3, xw_u2, va_up]) ?_
        refine xs_iast C w (xJ36 hJ) (fun _ => rfl) ((6 * ns) + 2) rfl (by omega) (by decide) dMD_serve_171 (fun H locs w => ?_)
        refine lv_aload_n hx hb dMD_serve_172 rfl (lv_at hl 1 rfl) ?_
        refine xg_MD_63 C w (xJ20 hJ) dMD_serve_173 ?_
        refine lv_iload_n hx hb dMD_serve_176 rfl (lv_at hl 0 rfl) ?_
        refine lv_iconst (v := nI 3) hx hb dMD_serve_177 xk_i3 ?_
        refine xn_add hx hb dMD_serve_178 ?_
        refine lv_aload_n hx hb dMD_serve_179 rfl (lv_at hl 1 rfl) ?_
        refine xg_MD_32 C w (xJ20 hJ) dMD_serve_180 ?_
        refine lv_iload_n hx hb dMD_serve_183 rfl (lv_at hl 2 rfl) ?_
        refine xr_iald C w (xJ28 hJ) rfl 0 rfl r rfl (by omega) (by decide) dMD_serve_184 ?_
        refine xn_eq (y := (mf_move σ r q n) 28 0 r) (by simp [xu3, xw_u2, va_up]) ?_
        refine xn_eq (y := nI q) hq2 ?_
        refine xs_iast C w (xJ36 hJ) (fun _ => rfl) ((6 * ns) + 3) rfl (by omega) (by decide) dMD_serve_185 (fun H locs w => ?_)
        refine lv_aload_n hx hb dMD_serve_186 rfl (lv_at hl 1 rfl) ?_
        refine xg_MD_63 C w (xJ20 hJ) dMD_serve_187 ?_
        refine lv_iload_n hx hb dMD_serve_190 rfl (lv_at hl 0 rfl) ?_
        refine lv_iconst (v := nI 4) hx hb dMD_serve_191 xk_i4 ?_
        refine xn_add hx hb dMD_serve_192 ?_
        refine lv_aload_n hx hb dMD_serve_193 rfl (lv_at hl 1 rfl) ?_
        refine xg_MD_35 C w (xJ20 hJ) dMD_serve_194 ?_
        refine lv_iload_n hx hb dMD_serve_197 rfl (lv_at hl 2 rfl) ?_
        refine xr_iald C w (xJ29 hJ) rfl 0 rfl r rfl (by omega) (by decide) dMD_serve_198 ?_
        refine xn_eq (y := (mf_move σ r q n) 29 0 r) (by simp [xu3, xw_u2, va_up]) ?_
        refine xn_eq (y := nI n) hn2 ?_
        refine xs_iast C w (xJ36 hJ) (fun _ => rfl) ((6 * ns) + 4) rfl (by omega) (by decide) dMD_serve_199 (fun H locs w => ?_)
        refine lv_aload_n hx hb dMD_serve_200 rfl (lv_at hl 1 rfl) ?_
        refine xg_MD_63 C w (xJ20 hJ) dMD_serve_201 ?_
        refine lv_iload_n hx hb dMD_serve_204 rfl (lv_at hl 0 rfl) ?_
        refine lv_iconst (v := nI 5) hx hb dMD_serve_205 xk_i5 ?_
        refine xn_add hx hb dMD_serve_206 ?_
        refine lv_aload_n hx hb dMD_serve_207 rfl (lv_at hl 1 rfl) ?_
        refine xg_MD_98 C w (xJ20 hJ) dMD_serve_208 ?_
        refine xn_eq (y := (mf_move σ r q n) 20 0 20) (by simp [xu3, xw_u2, va_up]) ?_
        refine lv_iconst (v := nI 1) hx hb dMD_serve_211 xk_i1 ?_
        refine lv_iadd hx hb dMD_serve_212 ?_
        refine xs_iast C w (xJ36 hJ) (fun _ => rfl) ((6 * ns) + 5) rfl (by omega) (by decide) dMD_serve_213 (fun H locs w => ?_)
        refine lv_aload_n hx hb dMD_serve_214 rfl (lv_at hl 1 rfl) ?_
        refine lv_dup hx hb dMD_serve_215 rfl ?_
        refine xg_MD_95 C w (xJ20 hJ) dMD_serve_216 ?_
        refine xn_eq (y := (mf_move σ r q n) 20 0 21) (by simp [xu3, xw_u2, va_up]) ?_
        refine xn_eq (y := nI ns) hns2 ?_
        refine lv_iconst (v := nI 1) hx hb dMD_serve_219 xk_i1 ?_
        refine xn_add hx hb dMD_serve_220 ?_
        refine xp_MD_95 C w (xJ20 hJ) dMD_serve_221 (fun H locs w => ?_)
        exact xd_vret C w hr hlk dMD_serve_224 rfl
      · skip
        intro i H locs ls hii ⟨w, hl⟩ ihi
        refine lv_iload_n hx hb dMD_serve_35 rfl (lv_at hl 3 rfl) ?_
        refine lv_aload_n hx hb dMD_serve_36 rfl (lv_at hl 0 rfl) ?_
        refine xg_MD_35 C w (xJ20 hJ) dMD_serve_37 ?_
        refine lv_iload_n hx hb dMD_serve_40 rfl (lv_at hl 1 rfl) ?_
        refine xr_iald C w (xJ29 hJ) rfl 0 rfl r rfl (by omega) (by decide) dMD_serve_41 ?_
        refine xn_eq (y := nI n) hn ?_
        refine lv_icmp_ge hx hb dMD_serve_42 rfl (fun hq => absurd hq (nI_ge (by omega) (by omega))) (fun _ => ?_)
        refine lv_iload_n hx hb dMD_serve_45 rfl (lv_at hl 2 rfl) ?_
        refine lv_if_eq hx hb dMD_serve_46 rfl (fun hq => absurd hq (by decide)) (fun _ => ?_)
        refine lv_aload_n hx hb dMD_serve_49 rfl (lv_at hl 0 rfl) ?_
        refine xg_MD_7 C w (xJ20 hJ) dMD_serve_50 ?_
        refine lv_aload_n hx hb dMD_serve_53 rfl (lv_at hl 0 rfl) ?_
        refine xg_MD_32 C w (xJ20 hJ) dMD_serve_54 ?_
        refine lv_iload_n hx hb dMD_serve_57 rfl (lv_at hl 1 rfl) ?_
        refine xr_iald C w (xJ28 hJ) rfl 0 rfl r rfl (by omega) (by decide) dMD_serve_58 ?_
        refine xn_eq (y := nI q) hq ?_
        refine lv_iload_n hx hb dMD_serve_59 rfl (lv_at hl 3 rfl) ?_
        refine xn_add hx hb dMD_serve_60 ?_
        refine lv_aload_n hx hb dMD_serve_61 rfl (lv_at hl 0 rfl) ?_
        refine xg_MD_47 C w (xJ20 hJ) dMD_serve_62 ?_
        refine lv_iconst (v := nI 4) hx hb dMD_serve_65 xk_i4 ?_
        refine lv_iload_n hx hb dMD_serve_66 rfl (lv_at hl 1 rfl) ?_
        refine xn_mul hx hb dMD_serve_67 ?_
        refine lv_iload_n hx hb dMD_serve_68 rfl (lv_at hl 3 rfl) ?_
        refine xn_add hx hb dMD_serve_69 ?_
        refine xr_iald C w (xJ33 hJ) rfl 0 rfl ((4 * r) + i) rfl (by omega) (by decide) dMD_serve_70 ?_
        refine xn_eq (y := σ 33 0 (4 * r + i)) rfl ?_
        refine xs_iast C w (xJ21 hJ) (fun _ => rfl) (q + i) rfl (by omega) (by decide) dMD_serve_71 (fun H locs w => ?_)
        refine lv_goto hx hb dMD_serve_72 rfl ?_
        refine lv_iinc (lv' := [(3, .int (nI (i + 1))), (0, .ref (ad 20 0)), (1, .int (nI r)), (2, .int (nI 1))]) hx hb dMD_serve_98 hl (k := 3) rfl (xn_inc _) (by decide) rfl (fun ls hl => ?_)
        refine lv_goto hx hb dMD_serve_101 rfl ?_
        exact ihi _ _ _ ⟨xcpy_s (xu3 σ 32 0 r (nI 0)) 21 0 (σ 33 0) (σ 21 0) (4 * r) q i ▸ w, lv_sub hl [1, 2, 3, 0] rfl⟩
set_option maxRecDepth 100000 in
set_option maxHeartbeats 4000000 in
theorem cMD_giveBack (l : Launch) (D : va_G) (cA : Nat → ClassId) (tz : Nat) (I : List (Nat × Nat)) (ad : Nat → Nat → Nat) (σ : xMem) (g : Nat) (hJ : xJ I) (hg : σ 20 0 18 = nI g) (hg16 : g < 16) : xD l yMD_giveBack bMD_giveBack 4 none 1 [.ref (ad 20 0)] D cA tz I ad σ none (mf_give σ) := by
  refine xd_of (by decide) (by simp [lg_sl, Value.category]) ?_
  intro p e s m args below meth c A ls C hr hlk hml hl w hz
  obtain ⟨hx, hb, hown, hts⟩ := id C
  have hl : lv_has ls 4 [(0, .ref (ad 20 0))] := hl
  refine lv_iconst (v := -1) hx hb dMD_giveBack_0 xk_im1 ?_
  refine lv_istore_n (lv' := [(1, .int (-1)), (0, .ref (ad 20 0))]) hx hb dMD_giveBack_1 rfl hl (by decide) rfl (fun ls hl => ?_)
  have hl : lv_has ls 4 [(1, .int (xoi (mf_fb σ g 0))), (0, .ref (ad 20 0))] := hl
  refine lv_bipush (v := nI 16) hx hb dMD_giveBack_2 xk_b16 ?_
  refine lv_istore_n (lv' := [(2, .int (nI 16)), (1, .int (xoi (mf_fb σ g 0))), (0, .ref (ad 20 0))]) hx hb dMD_giveBack_4 rfl hl (by decide) rfl (fun ls hl => ?_)
  refine xl_up (Wg := fun H locs ls => W p l e _ s m args below meth c H locs _ _ _ (F0 m 5 ls [])) (K := fun i H locs ls => xr_W xCl (xT cA) D I ad (xc cA tz ad σ) A s H locs ∧ lv_has ls 4 [(0, .ref (ad 20 0)), (1, .int (xoi (mf_fb σ g i))), (2, .int (nI (16 - i)))]) 16 ?_ ?_ 0 _ _ _ (by omega) ⟨w, lv_sub hl [2, 1, 0] rfl⟩
  · skip
    intro H locs ls ⟨w, hl⟩
    refine lv_iload_n hx hb dMD_giveBack_5 rfl (lv_at hl 2 rfl) ?_
    refine lv_if_le hx hb dMD_giveBack_6 rfl (fun _ => ?_) (fun hq => absurd (by decide) hq)
    rcases hbe : mf_fb σ g 16 with _ | b
    · skip
      have hl : lv_has ls 4 [(0, .ref (ad 20 0)), (1, .int (-1)), (2, .int (nI (16 - 16)))] := by rw [hbe] at hl; exact hl
      refine lv_iload_n hx hb dMD_giveBack_40 rfl (lv_at hl 1 rfl) ?_
      refine lv_if_lt hx hb dMD_giveBack_41 rfl (fun _ => ?_) (fun hq => absurd (by decide) hq)
      exact xd_vret C w hr hlk dMD_giveBack_84 (by unfold mf_give; rw [xN_of hg (by omega), hbe])
    · skip
      have hl : lv_has ls 4 [(0, .ref (ad 20 0)), (1, .int (nI b)), (2, .int (nI (16 - 16)))] := by rw [hbe] at hl; exact hl
      have hb16 := mf_fb_lt hbe
      refine lv_iload_n hx hb dMD_giveBack_40 rfl (lv_at hl 1 rfl) ?_
      refine lv_if_lt hx hb dMD_giveBack_41 rfl (fun hq => absurd hq (nI_pos (by omega))) (fun _ => ?_)
      refine lv_aload_n hx hb dMD_giveBack_44 rfl (lv_at hl 0 rfl) ?_
      refine lv_iload_n hx hb dMD_giveBack_45 rfl (lv_at hl 1 rfl) ?_
      refine xp_MD_56 C w (xJ20 hJ) dMD_giveBack_46 (fun H locs w => ?_)
      refine lv_aload_n hx hb dMD_giveBack_49 rfl (lv_at hl 0 rfl) ?_
      refine xg_MD_53 C w (xJ20 hJ) dMD_giveBack_50 ?_
      refine lv_iload_n hx hb dMD_giveBack_53 rfl (lv_at hl 1 rfl) ?_
      refine lv_dup2_11 hx hb dMD_giveBack_54 rfl rfl ?_
      refine xr_iald C w (xJ35 hJ) rfl 0 rfl b rfl (by omega) (by decide) dMD_giveBack_55 ?_
      refine xn_eq (y := σ 35 0 b) (by simp [xu3, xw_u2, va_up]) ?_
      refine lv_iconst (v := nI 1) hx hb dMD_giveBack_56 xk_i1 ?_
      refine lv_isub hx hb dMD_giveBack_57 ?_
      refine xs_iast C w (xJ35 hJ) (fun _ => rfl) b rfl (by omega) (by decide) dMD_giveBack_58 (fun H locs w => ?_)
      refine lv_aload_n hx hb dMD_giveBack_59 rfl (lv_at hl 0 rfl) ?_
      refine xg_MD_26 C w (xJ20 hJ) dMD_giveBack_60 ?_
      refine lv_iload_n hx hb dMD_giveBack_63 rfl (lv_at hl 1 rfl) ?_
      refine lv_aload_n hx hb dMD_giveBack_64 rfl (lv_at hl 0 rfl) ?_
      refine xg_MD_53 C w (xJ20 hJ) dMD_giveBack_65 ?_
      refine lv_iload_n hx hb dMD_giveBack_68 rfl (lv_at hl 1 rfl) ?_
      refine xr_iald C w (xJ35 hJ) rfl 0 rfl b rfl (by omega) (by decide) dMD_giveBack_69 ?_
      refine xn_eq (y := (σ 35 0 b) - (nI 1)) (by simp [xu3, xw_u2, va_up]) ?_
      refine lv_if_ne hx hb dMD_giveBack_70 rfl (fun hh1 => ?_) (fun hh1 => ?_)
      · skip
        refine lv_aload_n hx hb dMD_giveBack_77 rfl (lv_at hl 0 rfl) ?_
        refine xg_MD_26 C w (xJ20 hJ) dMD_giveBack_78 ?_
        refine lv_iload_n hx hb dMD_giveBack_81 rfl (lv_at hl 1 rfl) ?_
        refine xr_iald C w (xJ26 hJ) rfl 0 rfl b rfl (by omega) (by decide) dMD_giveBack_82 ?_
        refine xn_eq (y := σ 26 0 b) (by simp [xu3, xw_u2, va_up]) ?_
        refine xs_iast C w (xJ26 hJ) (fun _ => rfl) b rfl (by omega) (by decide) dMD_giveBack_83 (fun H locs w => ?_)
        exact xd_vret C w hr hlk dMD_giveBack_84 (by unfold mf_give; rw [xN_of hg (by omega), hbe]; show _ = mf_back σ b; unfold mf_back; simp only [xif_f hh1])
      · skip
        refine lv_iconst (v := nI 3) hx hb dMD_giveBack_73 xk_i3 ?_
        refine lv_goto hx hb dMD_giveBack_74 rfl ?_
        refine xs_iast C w (xJ26 hJ) (fun _ => rfl) b rfl (by omega) (by decide) dMD_giveBack_83 (fun H locs w => ?_)
        exact xd_vret C w hr hlk dMD_giveBack_84 (by unfold mf_give; rw [xN_of hg (by omega), hbe]; show _ = mf_back σ b; unfold mf_back; simp only [xif_t hh1])
  · skip
    intro i H locs ls hii ⟨w, hl⟩ ihi
    refine lv_iload_n hx hb dMD_giveBack_5 rfl (lv_at hl 2 rfl) ?_
    refine lv_if_le hx hb dMD_giveBack_6 rfl (fun hq => absurd hq (nI_nle (by omega) (by omega))) (fun _ => ?_)
    refine lv_aload_n hx hb dMD_giveBack_9 rfl (lv_at hl 0 rfl) ?_
    refine xg_MD_56 C w (xJ20 hJ) dMD_giveBack_10 ?_
    refine xn_eq (y := nI g) hg ?_
    refine lv_iload_n hx hb dMD_giveBack_13 rfl (lv_at hl 2 rfl) ?_
    refine xn_add hx hb dMD_giveBack_14 ?_
    refine lv_bipush (v := nI 16) hx hb dMD_giveBack_15 xk_b16 ?_
    refine xn_rem hx hb dMD_giveBack_17 (by omega) (by decide) (by decide) ?_
    refine lv_istore_n (lv' := [(3, .int (nI ((g + (16 - i)) % 16))), (0, .ref (ad 20 0)), (1, .int (xoi (mf_fb σ g i))), (2, .int (nI (16 - i)))]) hx hb dMD_giveBack_18 rfl hl (by decide) rfl (fun ls hl => ?_)
    refine lv_aload_n hx hb dMD_giveBack_19 rfl (lv_at hl 1 rfl) ?_
    refine xg_MD_53 C w (xJ20 hJ) dMD_giveBack_20 ?_
    refine lv_iload_n hx hb dMD_giveBack_23 rfl (lv_at hl 0 rfl) ?_
    refine xr_iald C w (xJ35 hJ) rfl 0 rfl ((g + (16 - i)) % 16) rfl (by omega) (by decide) dMD_giveBack_24 ?_
    refine lv_if_le hx hb dMD_giveBack_25 rfl (fun hh2 => ?_) (fun hh2 => ?_)
    · skip
      refine lv_iload_n hx hb dMD_giveBack_32 rfl (lv_at hl 2 rfl) ?_
      refine xn_eq (y := xoi (mf_fb σ g (i + 1))) (congrArg xoi (xif_f (Int32.not_lt.mpr hh2) _ _).symm) ?_
      refine lv_istore_n (lv' := [(1, .int (xoi (mf_fb σ g (i + 1)))), (3, .int (nI ((g + (16 - i)) % 16))), (0, .ref (ad 20 0)), (2, .int (nI (16 - i)))]) hx hb dMD_giveBack_33 rfl hl (by decide) rfl (fun ls hl => ?_)
      refine lv_iinc (lv' := [(2, .int (nI (16 - (i + 1)))), (1, .int (xoi (mf_fb σ g (i + 1)))), (3, .int (nI ((g + (16 - i)) % 16))), (0, .ref (ad 20 0))]) hx hb dMD_giveBack_34 hl (k := 3) rfl (xn_dec16 (by omega)) (by decide) rfl (fun ls hl => ?_)
      refine lv_goto hx hb dMD_giveBack_37 rfl ?_
      exact ihi _ _ _ ⟨w, lv_sub hl [3, 1, 0] rfl⟩
    · skip
      refine lv_iload_n hx hb dMD_giveBack_28 rfl (lv_at hl 0 rfl) ?_
      refine lv_goto hx hb dMD_giveBack_29 rfl ?_
      refine xn_eq (y := xoi (mf_fb σ g (i + 1))) (congrArg xoi (xif_t (Int32.not_le.mp hh2) (some _) _).symm) ?_
      refine lv_istore_n (lv' := [(1, .int (xoi (mf_fb σ g (i + 1)))), (3, .int (nI ((g + (16 - i)) % 16))), (0, .ref (ad 20 0)), (2, .int (nI (16 - i)))]) hx hb dMD_giveBack_33 rfl hl (by decide) rfl (fun ls hl => ?_)
      refine lv_iinc (lv' := [(2, .int (nI (16 - (i + 1)))), (1, .int (xoi (mf_fb σ g (i + 1)))), (3, .int (nI ((g + (16 - i)) % 16))), (0, .ref (ad 20 0))]) hx hb dMD_giveBack_34 hl (k := 3) rfl (xn_dec16 (by omega)) (by decide) rfl (fun ls hl => ?_)
      refine lv_goto hx hb dMD_giveBack_37 rfl ?_
      exact ihi _ _ _ ⟨w, lv_sub hl [3, 1, 0] rfl⟩
set_option maxRecDepth 100000 in
set_option maxHeartbeats 4000000 in
theorem cMD_grant (l : Launch) (D : va_G) (cA : Nat → ClassId) (tz : Nat) (I : List (Nat × Nat)) (ad : Nat → Nat → Nat) (σ : xMem) (g : Nat) (hJ : xJ I) (hg : σ 20 0 19 = nI g) (hg4 : g < 4) (hqs : ∀ r, r < 16 → ¬ σ 27 0 r = nI 4 → ∃ q, q < 64 ∧ σ 28 0 r = nI q) : xD l yMD_grant bMD_grant 3 (some .int) 4 [.ref (ad 20 0)] D cA tz I ad σ (some (.int (xoi (mf_best σ g 16)))) (mf_grant σ (mf_best σ g 16)) := by
  refine xd_of (by decide) (by simp [lg_sl, Value.category]) ?_
  intro p e s m args below meth c A ls C hr hlk hml hl w hz
  obtain ⟨hx, hb, hown, hts⟩ := id C
  have hl : lv_has ls 3 [(0, .ref (ad 20 0))] := hl
  refine lv_iconst (v := -1) hx hb dMD_grant_0 xk_im1 ?_
  refine lv_istore_n (lv' := [(1, .int (-1)), (0, .ref (ad 20 0))]) hx hb dMD_grant_1 rfl hl (by decide) rfl (fun ls hl => ?_)
  have hl : lv_has ls 3 [(1, .int (xoi (mf_best σ g 0))), (0, .ref (ad 20 0))] := hl
  refine lv_iconst (v := nI 0) hx hb dMD_grant_2 xk_i0 ?_
  refine lv_istore_n (lv' := [(2, .int (nI 0)), (1, .int (xoi (mf_best σ g 0))), (0, .ref (ad 20 0))]) hx hb dMD_grant_3 rfl hl (by decide) rfl (fun ls hl => ?_)
  refine xl_up (Wg := fun H locs ls => W p l e _ s m args below meth c H locs _ _ _ (F0 m 4 ls [])) (K := fun i H locs ls => xr_W xCl (xT cA) D I ad (xc cA tz ad σ) A s H locs ∧ lv_has ls 3 [(0, .ref (ad 20 0)), (1, .int (xoi (mf_best σ g i))), (2, .int (nI i))]) 16 ?_ ?_ 0 _ _ _ (by omega) ⟨w, lv_sub hl [2, 1, 0] rfl⟩
  · skip
    intro H locs ls ⟨w, hl⟩
    refine lv_iload_n hx hb dMD_grant_4 rfl (lv_at hl 2 rfl) ?_
    refine lv_bipush (v := nI 16) hx hb dMD_grant_5 xk_b16 ?_
    refine lv_icmp_ge hx hb dMD_grant_7 rfl (fun _ => ?_) (fun hq => absurd (nI_le (by omega) (by omega)) hq)
    rcases hbe : mf_best σ g 16 with _ | b
    · skip
      have hl : lv_has ls 3 [(0, .ref (ad 20 0)), (1, .int (-1)), (2, .int (nI 16))] := by rw [hbe] at hl; exact hl
      refine lv_iload_n hx hb dMD_grant_43 rfl (lv_at hl 1 rfl) ?_
      refine lv_if_ge hx hb dMD_grant_44 rfl (fun hq => absurd hq (by decide)) (fun _ => ?_)
      refine lv_iconst (v := -1) hx hb dMD_grant_47 xk_im1 ?_
      exact xd_iret C w hr hlk dMD_grant_48 (rfl) (rfl)
    · skip
      have hl : lv_has ls 3 [(0, .ref (ad 20 0)), (1, .int (nI b)), (2, .int (nI 16))] := by rw [hbe] at hl; exact hl
      have hb16 := mf_best_lt hbe
      refine lv_iload_n hx hb dMD_grant_43 rfl (lv_at hl 1 rfl) ?_
      refine lv_if_ge hx hb dMD_grant_44 rfl (fun _ => ?_) (fun hq => absurd (nI_pos' (by omega)) hq)
      refine lv_aload_n hx hb dMD_grant_49 rfl (lv_at hl 0 rfl) ?_
      refine lv_dup hx hb dMD_grant_50 rfl ?_
      refine xg_MD_122 C w (xJ20 hJ) dMD_grant_51 ?_
      refine lv_iconst (v := nI 1) hx hb dMD_grant_54 xk_i1 ?_
      refine lv_iadd hx hb dMD_grant_55 ?_
      refine xp_MD_122 C w (xJ20 hJ) dMD_grant_56 (fun H locs w => ?_)
      refine lv_aload_n hx hb dMD_grant_59 rfl (lv_at hl 0 rfl) ?_
      refine lv_iload_n hx hb dMD_grant_60 rfl (lv_at hl 1 rfl) ?_
      refine lv_iconst (v := nI 4) hx hb dMD_grant_61 xk_i4 ?_
      refine xn_div hx hb dMD_grant_62 (by omega) (by decide) (by decide) ?_
      refine xp_MD_60 C w (xJ20 hJ) dMD_grant_63 (fun H locs w => ?_)
      have w : xr_W xCl (xT cA) D I ad (xc cA tz ad (mf_gr1 σ b)) A s H locs := w
      refine lv_aload_n hx hb dMD_grant_66 rfl (lv_at hl 0 rfl) ?_
      refine lv_iload_n hx hb dMD_grant_67 rfl (lv_at hl 1 rfl) ?_
      refine xd_callV C w hz hml hl.1 xk_MD_107 (cMD_isMapped l D cA tz I ad (mf_gr1 σ b) b hJ hb16) (xJ20 hJ) rfl rfl rfl rfl (Nat.le_of_ble_eq_true rfl) (by decide) (by decide) dMD_grant_68 (fun H locs w => ?_)
      refine W.eq (g2 := F0 m 71 ls [.int (xb (mp_map (mf_gr1 σ b) b))]) rfl ?_
      refine xn_eq (y := xb (mp_map σ b)) rfl ?_
      refine xz_ifne hx hb dMD_grant_71 rfl (fun hh1 => ?_) (fun hh1 => ?_)
      · skip
        obtain ⟨q, h64, hq⟩ := hqs b hb16 (by assumption : mp_map σ b).1
        have h48 : q < 48 := Nat.not_le.mp (fun z => (by assumption : mp_map σ b).2 (by rw [hq]; exact nI_le z (by omega)))
        have hdq : σ 28 0 b / nI 16 = nI (q / 16) := by rw [hq]; exact pk_div (by omega) (by decide) (by decide)
        have hxq : xN (σ 28 0 b) = q := xN_of hq (by omega)
        refine lv_aload_n hx hb dMD_grant_97 rfl (lv_at hl 0 rfl) ?_
        refine xg_MD_26 C w (xJ20 hJ) dMD_grant_98 ?_
        refine lv_iload_n hx hb dMD_grant_101 rfl (lv_at hl 1 rfl) ?_
        refine lv_iconst (v := nI 2) hx hb dMD_grant_102 xk_i2 ?_
        refine xs_iast C w (xJ26 hJ) (fun _ => rfl) b rfl (by omega) (by decide) dMD_grant_103 (fun H locs w => ?_)
        refine lv_aload_n hx hb dMD_grant_104 rfl (lv_at hl 0 rfl) ?_
        refine xg_MD_44 C w (xJ20 hJ) dMD_grant_105 ?_
        refine lv_iload_n hx hb dMD_grant_108 rfl (lv_at hl 1 rfl) ?_
        refine lv_aload_n hx hb dMD_grant_109 rfl (lv_at hl 0 rfl) ?_
        refine xg_MD_122 C w (xJ20 hJ) dMD_grant_110 ?_
        refine xn_eq (y := (mf_gr1 σ b) 20 0 17) (by simp [xu3, xw_u2, va_up]) ?_
        refine xn_eq (y := σ 20 0 17 + nI 1) rfl ?_
        refine xs_iast C w (xJ32 hJ) (fun _ => rfl) b rfl (by omega) (by decide) dMD_grant_113 (fun H locs w => ?_)
        have w : xr_W xCl (xT cA) D I ad (xc cA tz ad (mf_gr2 σ b)) A s H locs := w
        refine lv_aload_n hx hb dMD_grant_114 rfl (lv_at hl 0 rfl) ?_
        refine xg_MD_29 C w (xJ20 hJ) dMD_grant_115 ?_
        refine lv_iload_n hx hb dMD_grant_118 rfl (lv_at hl 1 rfl) ?_
        refine xr_iald C w (xJ27 hJ) rfl 0 rfl b rfl (by omega) (by decide) dMD_grant_119 ?_
        refine xn_eq (y := σ 27 0 b) rfl ?_
        refine lv_iconst (v := nI 2) hx hb dMD_grant_120 xk_i2 ?_
        refine lv_icmp_ne hx hb dMD_grant_121 rfl (fun hh2 => ?_) (fun hh2 => ?_)
        · skip
          have e3 : mf_gr2 σ b = mf_gr3 σ b := by unfold mf_gr3; rw [hxq, xif_f hh2]
          rw [e3] at w
          refine lv_aload_n hx hb dMD_grant_137 rfl (lv_at hl 0 rfl) ?_
          refine xg_MD_29 C w (xJ20 hJ) dMD_grant_138 ?_
          refine lv_iload_n hx hb dMD_grant_141 rfl (lv_at hl 1 rfl) ?_
          refine xr_iald C w (xJ27 hJ) rfl 0 rfl b rfl (by omega) (by decide) dMD_grant_142 ?_
          refine xn_eq (y := σ 27 0 b) (mf_gr3_27 σ b) ?_
          refine lv_iconst (v := nI 3) hx hb dMD_grant_143 xk_i3 ?_
          refine lv_icmp_ne hx hb dMD_grant_144 rfl (fun hh3 => ?_) (fun hh3 => ?_)
          · skip
            refine lv_iload_n hx hb dMD_grant_158 rfl (lv_at hl 1 rfl) ?_
            exact xd_iret C w hr hlk dMD_grant_159 (rfl) (by unfold mf_grant; simp only [hxq, xif_t hh1, xif_f hh2, xif_f hh3])
          · skip
            refine lv_aload_n hx hb dMD_grant_147 rfl (lv_at hl 0 rfl) ?_
            refine xg_MD_23 C w (xJ20 hJ) dMD_grant_148 ?_
            refine lv_aload_n hx hb dMD_grant_151 rfl (lv_at hl 0 rfl) ?_
            refine lv_iload_n hx hb dMD_grant_152 rfl (lv_at hl 1 rfl) ?_
            refine xd_callV C w hz hml hl.1 xk_MD_91 (cMD_target l D cA tz I ad (mf_gr3 σ b) b hJ hb16) (xJ20 hJ) rfl rfl rfl rfl (Nat.le_of_ble_eq_true rfl) (by decide) (by decide) dMD_grant_153 (fun H locs w => ?_)
            refine W.eq (g2 := F0 m 156 ls [.int ((mf_gr3 σ b) 28 0 b / nI 16), .ref (ad 25 0)]) rfl ?_
            refine xn_eq (y := nI (q / 16)) (by rw [mf_gr3_28]; exact hdq) ?_
            refine lv_iconst (v := -1) hx hb dMD_grant_156 xk_im1 ?_
            refine xs_iast C w (xJ25 hJ) (fun _ => rfl) (q / 16) rfl (by omega) (by decide) dMD_grant_157 (fun H locs w => ?_)
            refine lv_iload_n hx hb dMD_grant_158 rfl (lv_at hl 1 rfl) ?_
            exact xd_iret C w hr hlk dMD_grant_159 (rfl) (by unfold mf_grant; simp only [hxq, xif_t hh1, xif_f hh2, xif_t hh3])
        · skip
          refine lv_aload_n hx hb dMD_grant_124 rfl (lv_at hl 0 rfl) ?_
          refine xg_MD_23 C w (xJ20 hJ) dMD_grant_125 ?_
          refine lv_aload_n hx hb dMD_grant_128 rfl (lv_at hl 0 rfl) ?_
          refine lv_iload_n hx hb dMD_grant_129 rfl (lv_at hl 1 rfl) ?_
          refine xd_callV C w hz hml hl.1 xk_MD_91 (cMD_target l D cA tz I ad (mf_gr2 σ b) b hJ hb16) (xJ20 hJ) rfl rfl rfl rfl (Nat.le_of_ble_eq_true rfl) (by decide) (by decide) dMD_grant_130 (fun H locs w => ?_)
          refine W.eq (g2 := F0 m 133 ls [.int ((mf_gr2 σ b) 28 0 b / nI 16), .ref (ad 25 0)]) rfl ?_
          refine xn_eq (y := nI (q / 16)) (hdq) ?_
          refine lv_iload_n hx hb dMD_grant_133 rfl (lv_at hl 1 rfl) ?_
          refine lv_iconst (v := nI 4) hx hb dMD_grant_134 xk_i4 ?_
          refine xn_div hx hb dMD_grant_135 (by omega) (by decide) (by decide) ?_
          refine xs_iast C w (xJ25 hJ) (fun _ => rfl) (q / 16) rfl (by omega) (by decide) dMD_grant_136 (fun H locs w => ?_)
          have e3 : xu3 (mf_gr2 σ b) 25 0 (q / 16) (nI (b / 4)) = mf_gr3 σ b := by unfold mf_gr3; rw [hxq, xif_t hh2]
          rw [e3] at w
          refine lv_aload_n hx hb dMD_grant_137 rfl (lv_at hl 0 rfl) ?_
          refine xg_MD_29 C w (xJ20 hJ) dMD_grant_138 ?_
          refine lv_iload_n hx hb dMD_grant_141 rfl (lv_at hl 1 rfl) ?_
          refine xr_iald C w (xJ27 hJ) rfl 0 rfl b rfl (by omega) (by decide) dMD_grant_142 ?_
          refine xn_eq (y := σ 27 0 b) (mf_gr3_27 σ b) ?_
          refine lv_iconst (v := nI 3) hx hb dMD_grant_143 xk_i3 ?_
          refine lv_icmp_ne hx hb dMD_grant_144 rfl (fun hh4 => ?_) (fun hh4 => ?_)
          · skip
            refine lv_iload_n hx hb dMD_grant_158 rfl (lv_at hl 1 rfl) ?_
            exact xd_iret C w hr hlk dMD_grant_159 (rfl) (by unfold mf_grant; simp only [hxq, xif_t hh1, xif_t hh2, xif_f hh4])
          · skip
            refine lv_aload_n hx hb dMD_grant_147 rfl (lv_at hl 0 rfl) ?_
            refine xg_MD_23 C w (xJ20 hJ) dMD_grant_148 ?_
            refine lv_aload_n hx hb dMD_grant_151 rfl (lv_at hl 0 rfl) ?_
            refine lv_iload_n hx hb dMD_grant_152 rfl (lv_at hl 1 rfl) ?_
            refine xd_callV C w hz hml hl.1 xk_MD_91 (cMD_target l D cA tz I ad (mf_gr3 σ b) b hJ hb16) (xJ20 hJ) rfl rfl rfl rfl (Nat.le_of_ble_eq_true rfl) (by decide) (by decide) dMD_grant_153 (fun H locs w => ?_)
            refine W.eq (g2 := F0 m 156 ls [.int ((mf_gr3 σ b) 28 0 b / nI 16), .ref (ad 25 0)]) rfl ?_
            refine xn_eq (y := nI (q / 16)) (by rw [mf_gr3_28]; exact hdq) ?_
            refine lv_iconst (v := -1) hx hb dMD_grant_156 xk_im1 ?_
            refine xs_iast C w (xJ25 hJ) (fun _ => rfl) (q / 16) rfl (by omega) (by decide) dMD_grant_157 (fun H locs w => ?_)
            refine lv_iload_n hx hb dMD_grant_158 rfl (lv_at hl 1 rfl) ?_
            exact xd_iret C w hr hlk dMD_grant_159 (rfl) (by unfold mf_grant; simp only [hxq, xif_t hh1, xif_t hh2, xif_t hh4])
      · skip
        refine lv_aload_n hx hb dMD_grant_74 rfl (lv_at hl 0 rfl) ?_
        refine xg_MD_26 C w (xJ20 hJ) dMD_grant_75 ?_
        refine lv_iload_n hx hb dMD_grant_78 rfl (lv_at hl 1 rfl) ?_
        refine lv_aload_n hx hb dMD_grant_79 rfl (lv_at hl 0 rfl) ?_
        refine xg_MD_29 C w (xJ20 hJ) dMD_grant_80 ?_
        refine lv_iload_n hx hb dMD_grant_83 rfl (lv_at hl 1 rfl) ?_
        refine xr_iald C w (xJ27 hJ) rfl 0 rfl b rfl (by omega) (by decide) dMD_grant_84 ?_
        refine xn_eq (y := σ 27 0 b) rfl ?_
        refine lv_iconst (v := nI 4) hx hb dMD_grant_85 xk_i4 ?_
        refine lv_icmp_ne hx hb dMD_grant_86 rfl (fun hh5 => ?_) (fun hh5 => ?_)
        · skip
          refine lv_iconst (v := nI 4) hx hb dMD_grant_93 xk_i4 ?_
          refine xn_eq (y := xif (σ 27 0 b = nI 4) (nI 3) (nI 4)) (xif_f hh5 _ _).symm ?_
          refine xs_iast C w (xJ26 hJ) (fun _ => rfl) b rfl (by omega) (by decide) dMD_grant_94 (fun H locs w => ?_)
          refine lv_iload_n hx hb dMD_grant_95 rfl (lv_at hl 1 rfl) ?_
          exact xd_iret C w hr hlk dMD_grant_96 (rfl) (by unfold mf_grant; simp only [xif_f hh1, xif_f hh5])
        · skip
          refine lv_iconst (v := nI 3) hx hb dMD_grant_89 xk_i3 ?_
          refine lv_goto hx hb dMD_grant_90 rfl ?_
          refine xn_eq (y := xif (σ 27 0 b = nI 4) (nI 3) (nI 4)) (xif_t hh5 _ _).symm ?_
          refine xs_iast C w (xJ26 hJ) (fun _ => rfl) b rfl (by omega) (by decide) dMD_grant_94 (fun H locs w => ?_)
          refine lv_iload_n hx hb dMD_grant_95 rfl (lv_at hl 1 rfl) ?_
          exact xd_iret C w hr hlk dMD_grant_96 (rfl) (by unfold mf_grant; simp only [xif_f hh1, xif_t hh5])
  · skip
    intro i H locs ls hii ⟨w, hl⟩ ihi
    refine lv_iload_n hx hb dMD_grant_4 rfl (lv_at hl 2 rfl) ?_
    refine lv_bipush (v := nI 16) hx hb dMD_grant_5 xk_b16 ?_
    refine lv_icmp_ge hx hb dMD_grant_7 rfl (fun hq => absurd hq (nI_ge (by omega) (by omega))) (fun _ => ?_)
    refine lv_aload_n hx hb dMD_grant_10 rfl (lv_at hl 0 rfl) ?_
    refine lv_iload_n hx hb dMD_grant_11 rfl (lv_at hl 2 rfl) ?_
    refine xd_callV C w hz hml hl.1 xk_MD_116 (cMD_isEligible l D cA tz I ad (σ) i hJ (by omega) (hqs i (by omega))) (xJ20 hJ) rfl rfl rfl rfl (Nat.le_of_ble_eq_true rfl) (by decide) (by decide) dMD_grant_12 (fun H locs w => ?_)
    refine W.eq (g2 := F0 m 15 ls [.int (xb (mp_elig σ i))]) rfl ?_
    refine xz_ifeq hx hb dMD_grant_15 rfl (fun hh6 => ?_) (fun hh6 => ?_)
    · skip
      refine lv_iload_n hx hb dMD_grant_35 rfl (lv_at hl 1 rfl) ?_
      refine xn_eq (y := xoi (mf_best σ g (i + 1))) (congrArg xoi (show mf_best σ g i = mf_best σ g (i + 1) by rw [mf_best_s]; unfold xf_step; rw [xif_f (fun z => hh6 z.1)])) ?_
      refine lv_istore_n (lv' := [(1, .int (xoi (mf_best σ g (i + 1)))), (0, .ref (ad 20 0)), (2, .int (nI i))]) hx hb dMD_grant_36 rfl hl (by decide) rfl (fun ls hl => ?_)
      refine lv_iinc (lv' := [(2, .int (nI (i + 1))), (1, .int (xoi (mf_best σ g (i + 1)))), (0, .ref (ad 20 0))]) hx hb dMD_grant_37 hl (k := 2) rfl (xn_inc _) (by decide) rfl (fun ls hl => ?_)
      refine lv_goto hx hb dMD_grant_40 rfl ?_
      exact ihi _ _ _ ⟨w, lv_sub hl [2, 1, 0] rfl⟩
    · skip
      rcases hbe : mf_best σ g i with _ | b
      · skip
        have hl : lv_has ls 3 [(0, .ref (ad 20 0)), (1, .int (-1)), (2, .int (nI i))] := by rw [hbe] at hl; exact hl
        refine lv_iload_n hx hb dMD_grant_18 rfl (lv_at hl 1 rfl) ?_
        refine lv_if_lt hx hb dMD_grant_19 rfl (fun _ => ?_) (fun hq => absurd (by decide) hq)
        refine lv_iload_n hx hb dMD_grant_31 rfl (lv_at hl 2 rfl) ?_
        refine lv_goto hx hb dMD_grant_32 rfl ?_
        refine xn_eq (y := xoi (mf_best σ g (i + 1))) (show nI i = xoi (mf_best σ g (i + 1)) by rw [mf_best_s]; unfold xf_step; rw [xif_t ⟨hh6, fun x hx => (by rw [hbe] at hx; cases hx)⟩]; rfl) ?_
        refine lv_istore_n (lv' := [(1, .int (xoi (mf_best σ g (i + 1)))), (0, .ref (ad 20 0)), (2, .int (nI i))]) hx hb dMD_grant_36 rfl hl (by decide) rfl (fun ls hl => ?_)
        refine lv_iinc (lv' := [(2, .int (nI (i + 1))), (1, .int (xoi (mf_best σ g (i + 1)))), (0, .ref (ad 20 0))]) hx hb dMD_grant_37 hl (k := 2) rfl (xn_inc _) (by decide) rfl (fun ls hl => ?_)
        refine lv_goto hx hb dMD_grant_40 rfl ?_
        exact ihi _ _ _ ⟨w, lv_sub hl [2, 1, 0] rfl⟩
      · skip
        have hl : lv_has ls 3 [(0, .ref (ad 20 0)), (1, .int (nI b)), (2, .int (nI i))] := by rw [hbe] at hl; exact hl
        have hb16 := mf_best_lt hbe
        refine lv_iload_n hx hb dMD_grant_18 rfl (lv_at hl 1 rfl) ?_
        refine lv_if_lt hx hb dMD_grant_19 rfl (fun hq => absurd hq (nI_pos (by omega))) (fun _ => ?_)
        refine lv_aload_n hx hb dMD_grant_22 rfl (lv_at hl 0 rfl) ?_
        refine lv_iload_n hx hb dMD_grant_23 rfl (lv_at hl 2 rfl) ?_
        refine lv_iload_n hx hb dMD_grant_24 rfl (lv_at hl 1 rfl) ?_
        refine xd_callV C w hz hml hl.1 xk_MD_119 (cMD_isBefore l D cA tz I ad (σ) i b g hJ (by omega) (by omega) hg hg4) (xJ20 hJ) rfl rfl rfl rfl (Nat.le_of_ble_eq_true rfl) (by decide) (by decide) dMD_grant_25 (fun H locs w => ?_)
        refine W.eq (g2 := F0 m 28 ls [.int (xb (mp_before σ g i b))]) rfl ?_
        refine xz_ifeq hx hb dMD_grant_28 rfl (fun hh7 => ?_) (fun hh7 => ?_)
        · skip
          refine lv_iload_n hx hb dMD_grant_35 rfl (lv_at hl 1 rfl) ?_
          refine xn_eq (y := xoi (mf_best σ g (i + 1))) (show nI b = xoi (mf_best σ g (i + 1)) by rw [mf_best_s]; unfold xf_step; rw [xif_f (fun z => hh7 (z.2 b hbe)), hbe]; rfl) ?_
          refine lv_istore_n (lv' := [(1, .int (xoi (mf_best σ g (i + 1)))), (0, .ref (ad 20 0)), (2, .int (nI i))]) hx hb dMD_grant_36 rfl hl (by decide) rfl (fun ls hl => ?_)
          refine lv_iinc (lv' := [(2, .int (nI (i + 1))), (1, .int (xoi (mf_best σ g (i + 1)))), (0, .ref (ad 20 0))]) hx hb dMD_grant_37 hl (k := 2) rfl (xn_inc _) (by decide) rfl (fun ls hl => ?_)
          refine lv_goto hx hb dMD_grant_40 rfl ?_
          exact ihi _ _ _ ⟨w, lv_sub hl [2, 1, 0] rfl⟩
        · skip
          refine lv_iload_n hx hb dMD_grant_31 rfl (lv_at hl 2 rfl) ?_
          refine lv_goto hx hb dMD_grant_32 rfl ?_
          refine xn_eq (y := xoi (mf_best σ g (i + 1))) (show nI i = xoi (mf_best σ g (i + 1)) by rw [mf_best_s]; unfold xf_step; rw [xif_t ⟨hh6, fun x hx => (by rw [hbe] at hx; cases hx; exact hh7)⟩]; rfl) ?_
          refine lv_istore_n (lv' := [(1, .int (xoi (mf_best σ g (i + 1)))), (0, .ref (ad 20 0)), (2, .int (nI i))]) hx hb dMD_grant_36 rfl hl (by decide) rfl (fun ls hl => ?_)
          refine lv_iinc (lv' := [(2, .int (nI (i + 1))), (1, .int (xoi (mf_best σ g (i + 1)))), (0, .ref (ad 20 0))]) hx hb dMD_grant_37 hl (k := 2) rfl (xn_inc _) (by decide) rfl (fun ls hl => ?_)
          refine lv_goto hx hb dMD_grant_40 rfl ?_
          exact ihi _ _ _ ⟨w, lv_sub hl [2, 1, 0] rfl⟩
set_option maxRecDepth 100000 in
set_option maxHeartbeats 4000000 in
theorem cMD_one (l : Launch) (D : va_G) (cA : Nat → ClassId) (tz : Nat) (I : List (Nat × Nat)) (ad : Nat → Nat → Nat) (σ : xMem) (hJ : xJ I) (hv : mv1 σ) : xD l yMD_one bMD_one 3 (some .int) 5 [.ref (ad 20 0)] D cA tz I ad σ (some (.int (xoi4 (mf_bst σ)))) (mf_one σ) := by
  refine xd_of (by decide) (by simp [lg_sl, Value.category]) ?_
  intro p e s m args below meth c A ls C hr hlk hml hl w hz
  obtain ⟨hx, hb, hown, hts⟩ := id C
  have hl : lv_has ls 3 [(0, .ref (ad 20 0))] := hl
  obtain ⟨⟨g9, hg9, hgg9⟩, -, -, hall9⟩ := id hv.2
  obtain ⟨-, ⟨g8, hg8, hgg8⟩, -, -⟩ := id (hv.1 3 (by decide))
  have hx9 : xN (mf_gv σ 20 0 19) = g9 := xN_of hgg9 (by omega)
  refine lv_iconst (v := nI 0) hx hb dMD_one_0 xk_i0 ?_
  refine lv_istore_n (lv' := [(1, .int (nI 0)), (0, .ref (ad 20 0))]) hx hb dMD_one_1 rfl hl (by decide) rfl (fun ls hl => ?_)
  refine xl_up (Wg := fun H locs ls => W p l e _ s m args below meth c H locs _ _ _ (F0 m 2 ls [])) (K := fun i H locs ls => xr_W xCl (xT cA) D I ad (xc cA tz ad (mf_srv σ i)) A s H locs ∧ lv_has ls 3 [(0, .ref (ad 20 0)), (1, .int (nI i))]) 3 ?_ ?_ 0 _ _ _ (by omega) ⟨w, lv_sub hl [1, 0] rfl⟩
  · skip
    intro H locs ls ⟨w, hl⟩
    refine lv_iload_n hx hb dMD_one_2 rfl (lv_at hl 1 rfl) ?_
    refine lv_iconst (v := nI 3) hx hb dMD_one_3 xk_i3 ?_
    refine lv_icmp_ge hx hb dMD_one_4 rfl (fun _ => ?_) (fun hq => absurd (nI_le (by omega) (by omega)) hq)
    refine lv_aload_n hx hb dMD_one_37 rfl (lv_at hl 0 rfl) ?_
    refine xd_callV C w hz hml hl.1 xk_MD_132 (cMD_giveBack l D cA tz I ad (mf_srv σ 3) g8 hJ hgg8 hg8) (xJ20 hJ) rfl rfl rfl rfl (Nat.le_of_ble_eq_true rfl) (by decide) (by decide) dMD_one_38 (fun H locs w => ?_)
    refine W.eq (g2 := F0 m 41 ls []) rfl ?_
    refine lv_aload_n hx hb dMD_one_41 rfl (lv_at hl 0 rfl) ?_
    refine xd_callV C w hz hml hl.1 xk_MD_135 ((show xD l yMD_grant bMD_grant 3 (some .int) 4 [.ref (ad 20 0)] D cA tz I ad (mf_gv σ) (some (.int (xoi (mf_bst σ)))) (mf_grant (mf_gv σ) (mf_bst σ)) by unfold mf_bst; rw [hx9]; exact cMD_grant l D cA tz I ad (mf_gv σ) g9 hJ hgg9 hg9 (fun r hr => (hall9 r hr).1))) (xJ20 hJ) rfl rfl rfl rfl (Nat.le_of_ble_eq_true rfl) (by decide) (by decide) dMD_one_42 (fun H locs w => ?_)
    refine W.eq (g2 := F0 m 45 ls [.int (xoi (mf_bst σ))]) rfl ?_
    refine lv_istore_n (lv' := [(1, .int (xoi (mf_bst σ))), (0, .ref (ad 20 0))]) hx hb dMD_one_45 rfl hl (by decide) rfl (fun ls hl => ?_)
    refine lv_iconst (v := nI 0) hx hb dMD_one_46 xk_i0 ?_
    refine lv_istore_n (lv' := [(2, .int (nI 0)), (1, .int (xoi (mf_bst σ))), (0, .ref (ad 20 0))]) hx hb dMD_one_47 rfl hl (by decide) rfl (fun ls hl => ?_)
    refine xl_up (Wg := fun H locs ls => W p l e _ s m args below meth c H locs _ _ _ (F0 m 48 ls [])) (K := fun i H locs ls => xr_W xCl (xT cA) D I ad (xc cA tz ad (mf_age (mf_grant (mf_gv σ) (mf_bst σ)) i)) A s H locs ∧ lv_has ls 3 [(0, .ref (ad 20 0)), (1, .int (xoi (mf_bst σ))), (2, .int (nI i))]) 16 ?_ ?_ 0 _ _ _ (by omega) ⟨by rw [mf_age_0]; exact w, lv_sub hl [2, 1, 0] rfl⟩
    · skip
      intro H locs ls ⟨w, hl⟩
      refine lv_iload_n hx hb dMD_one_48 rfl (lv_at hl 2 rfl) ?_
      refine lv_bipush (v := nI 16) hx hb dMD_one_49 xk_b16 ?_
      refine lv_icmp_ge hx hb dMD_one_51 rfl (fun _ => ?_) (fun hq => absurd (nI_le (by omega) (by omega)) hq)
      refine lv_aload_n hx hb dMD_one_93 rfl (lv_at hl 0 rfl) ?_
      refine lv_dup hx hb dMD_one_94 rfl ?_
      refine xg_MD_98 C w (xJ20 hJ) dMD_one_95 ?_
      refine lv_iconst (v := nI 1) hx hb dMD_one_98 xk_i1 ?_
      refine lv_iadd hx hb dMD_one_99 ?_
      refine xp_MD_98 C w (xJ20 hJ) dMD_one_100 (fun H locs w => ?_)
      rcases hbe : mf_bst σ with _ | b
      · skip
        have hl : lv_has ls 3 [(0, .ref (ad 20 0)), (1, .int (-1)), (2, .int (nI 16))] := by rw [hbe] at hl; exact hl
        refine lv_iload_n hx hb dMD_one_103 rfl (lv_at hl 1 rfl) ?_
        refine lv_if_ge hx hb dMD_one_104 rfl (fun hq => absurd hq (by decide)) (fun _ => ?_)
        refine lv_iconst (v := -1) hx hb dMD_one_107 xk_im1 ?_
        refine lv_goto hx hb dMD_one_108 rfl ?_
        exact xd_iret C w hr hlk dMD_one_114 (rfl) (rfl)
      · skip
        have hl : lv_has ls 3 [(0, .ref (ad 20 0)), (1, .int (nI b)), (2, .int (nI 16))] := by rw [hbe] at hl; exact hl
        have hb16 : b < 16 := mf_best_lt hbe
        refine lv_iload_n hx hb dMD_one_103 rfl (lv_at hl 1 rfl) ?_
        refine lv_if_ge hx hb dMD_one_104 rfl (fun _ => ?_) (fun hq => absurd (nI_pos' (by omega)) hq)
        refine lv_iload_n hx hb dMD_one_111 rfl (lv_at hl 1 rfl) ?_
        refine lv_iconst (v := nI 4) hx hb dMD_one_112 xk_i4 ?_
        refine xn_div hx hb dMD_one_113 (by omega) (by decide) (by decide) ?_
        exact xd_iret C w hr hlk dMD_one_114 (rfl) (rfl)
    · skip
      intro i H locs ls hii ⟨w, hl⟩ ihi
      refine lv_iload_n hx hb dMD_one_48 rfl (lv_at hl 2 rfl) ?_
      refine lv_bipush (v := nI 16) hx hb dMD_one_49 xk_b16 ?_
      refine lv_icmp_ge hx hb dMD_one_51 rfl (fun hq => absurd hq (nI_ge (by omega) (by omega))) (fun _ => ?_)
      refine lv_aload_n hx hb dMD_one_54 rfl (lv_at hl 0 rfl) ?_
      refine xg_MD_38 C w (xJ20 hJ) dMD_one_55 ?_
      refine lv_iload_n hx hb dMD_one_58 rfl (lv_at hl 2 rfl) ?_
      refine lv_aload_n hx hb dMD_one_59 rfl (lv_at hl 0 rfl) ?_
      refine xg_MD_26 C w (xJ20 hJ) dMD_one_60 ?_
      refine lv_iload_n hx hb dMD_one_63 rfl (lv_at hl 2 rfl) ?_
      refine xr_iald C w (xJ26 hJ) rfl 0 rfl i rfl (by omega) (by decide) dMD_one_64 ?_
      refine lv_iconst (v := nI 1) hx hb dMD_one_65 xk_i1 ?_
      refine lv_icmp_ne hx hb dMD_one_66 rfl (fun hh1 => ?_) (fun hh1 => ?_)
      · skip
        refine lv_aload_n hx hb dMD_one_80 rfl (lv_at hl 0 rfl) ?_
        refine xg_MD_38 C w (xJ20 hJ) dMD_one_81 ?_
        refine lv_iload_n hx hb dMD_one_84 rfl (lv_at hl 2 rfl) ?_
        refine xr_iald C w (xJ30 hJ) rfl 0 rfl i rfl (by omega) (by decide) dMD_one_85 ?_
        refine xs_iast C w (xJ30 hJ) (fun _ => rfl) i rfl (by omega) (by decide) dMD_one_86 (fun H locs w => ?_)
        refine lv_iinc (lv' := [(2, .int (nI (i + 1))), (0, .ref (ad 20 0)), (1, .int (xoi (mf_bst σ)))]) hx hb dMD_one_87 hl (k := 2) rfl (xn_inc _) (by decide) rfl (fun ls hl => ?_)
        refine lv_goto hx hb dMD_one_90 rfl ?_
        exact ihi _ _ _ ⟨mf_age_f hh1 ▸ w, lv_sub hl [1, 2, 0] rfl⟩
      · skip
        refine lv_aload_n hx hb dMD_one_69 rfl (lv_at hl 0 rfl) ?_
        refine xg_MD_38 C w (xJ20 hJ) dMD_one_70 ?_
        refine lv_iload_n hx hb dMD_one_73 rfl (lv_at hl 2 rfl) ?_
        refine xr_iald C w (xJ30 hJ) rfl 0 rfl i rfl (by omega) (by decide) dMD_one_74 ?_
        refine lv_iconst (v := nI 1) hx hb dMD_one_75 xk_i1 ?_
        refine lv_iadd hx hb dMD_one_76 ?_
        refine lv_goto hx hb dMD_one_77 rfl ?_
        refine xs_iast C w (xJ30 hJ) (fun _ => rfl) i rfl (by omega) (by decide) dMD_one_86 (fun H locs w => ?_)
        refine lv_iinc (lv' := [(2, .int (nI (i + 1))), (0, .ref (ad 20 0)), (1, .int (xoi (mf_bst σ)))]) hx hb dMD_one_87 hl (k := 2) rfl (xn_inc _) (by decide) rfl (fun ls hl => ?_)
        refine lv_goto hx hb dMD_one_90 rfl ?_
        exact ihi _ _ _ ⟨mf_age_t hh1 ▸ w, lv_sub hl [1, 2, 0] rfl⟩
  · skip
    intro i H locs ls hii ⟨w, hl⟩ ihi
    refine lv_iload_n hx hb dMD_one_2 rfl (lv_at hl 1 rfl) ?_
    refine lv_iconst (v := nI 3) hx hb dMD_one_3 xk_i3 ?_
    refine lv_icmp_ge hx hb dMD_one_4 rfl (fun hq => absurd hq (nI_ge (by omega) (by omega))) (fun _ => ?_)
    refine lv_aload_n hx hb dMD_one_7 rfl (lv_at hl 0 rfl) ?_
    refine lv_iload_n hx hb dMD_one_8 rfl (lv_at hl 1 rfl) ?_
    refine xd_callV C w hz hml hl.1 xk_MD_125 (cMD_firstOf l D cA tz I ad (mf_srv σ i) (nI i) hJ) (xJ20 hJ) rfl rfl rfl rfl (Nat.le_of_ble_eq_true rfl) (by decide) (by decide) dMD_one_9 (fun H locs w => ?_)
    refine W.eq (g2 := F0 m 12 ls [.int (xoi (mf_fst (mf_srv σ i) (nI i) 16))]) rfl ?_
    refine lv_istore_n (lv' := [(2, .int (xoi (mf_fst (mf_srv σ i) (nI i) 16))), (0, .ref (ad 20 0)), (1, .int (nI i))]) hx hb dMD_one_12 rfl hl (by decide) rfl (fun ls hl => ?_)
    refine lv_aload_n hx hb dMD_one_13 rfl (lv_at hl 1 rfl) ?_
    refine xg_MD_19 C w (xJ20 hJ) dMD_one_14 ?_
    refine lv_iload_n hx hb dMD_one_17 rfl (lv_at hl 2 rfl) ?_
    refine xr_zald C w (xJ24 hJ) rfl 5 rfl i rfl (by omega) (by decide) dMD_one_18 ?_
    refine lv_if_eq hx hb dMD_one_19 rfl (fun hh2 => ?_) (fun hh2 => ?_)
    · skip
      refine lv_iinc (lv' := [(1, .int (nI (i + 1))), (2, .int (xoi (mf_fst (mf_srv σ i) (nI i) 16))), (0, .ref (ad 20 0))]) hx hb dMD_one_31 hl (k := 2) rfl (xn_inc _) (by decide) rfl (fun ls hl => ?_)
      refine lv_goto hx hb dMD_one_34 rfl ?_
      have hsr : mf_srv σ i = mf_srv σ (i + 1) := by show _ = mf_srv1 (mf_srv σ i) i _; cases mf_fst (mf_srv σ i) (nI i) 16 with | none => rfl | some b => exact (xif_t hh2 _ _).symm
      exact ihi _ _ _ ⟨hsr ▸ w, lv_sub hl [2, 0] rfl⟩
    · skip
      rcases hbe : mf_fst (mf_srv σ i) (nI i) 16 with _ | b
      · skip
        have hl : lv_has ls 3 [(2, .int (-1)), (0, .ref (ad 20 0)), (1, .int (nI i))] := by rw [hbe] at hl; exact hl
        refine lv_iload_n hx hb dMD_one_22 rfl (lv_at hl 0 rfl) ?_
        refine lv_if_lt hx hb dMD_one_23 rfl (fun _ => ?_) (fun hq => absurd (by decide) hq)
        refine lv_iinc (lv' := [(1, .int (nI (i + 1))), (2, .int (-1)), (0, .ref (ad 20 0))]) hx hb dMD_one_31 hl (k := 2) rfl (xn_inc _) (by decide) rfl (fun ls hl => ?_)
        refine lv_goto hx hb dMD_one_34 rfl ?_
        have hsr : mf_srv σ i = mf_srv σ (i + 1) := by show _ = mf_srv1 (mf_srv σ i) i _; rw [hbe]; rfl
        exact ihi _ _ _ ⟨hsr ▸ w, lv_sub hl [2, 0] rfl⟩
      · skip
        have hl : lv_has ls 3 [(2, .int (nI b)), (0, .ref (ad 20 0)), (1, .int (nI i))] := by rw [hbe] at hl; exact hl
        have hb16 := mf_fst_lt hbe
        have hin := mf_fst_el hbe
        obtain ⟨-, -, ⟨ns, hn6, hns⟩, hall⟩ := hv.1 i (by omega)
        obtain ⟨q, n, hqn, hn4, hq, hn⟩ := (hall b hb16).2 hin.1
        refine lv_iload_n hx hb dMD_one_22 rfl (lv_at hl 0 rfl) ?_
        refine lv_if_lt hx hb dMD_one_23 rfl (fun hq => absurd hq (nI_pos (by omega))) (fun _ => ?_)
        refine lv_aload_n hx hb dMD_one_26 rfl (lv_at hl 1 rfl) ?_
        refine lv_iload_n hx hb dMD_one_27 rfl (lv_at hl 0 rfl) ?_
        refine xd_callV C w hz hml hl.1 xk_MD_128 (cMD_serve l D cA tz I ad (mf_srv σ i) b q n ns hJ hb16 hq hn hqn hn4 hns hn6) (xJ20 hJ) rfl rfl rfl rfl (Nat.le_of_ble_eq_true rfl) (by decide) (by decide) dMD_one_28 (fun H locs w => ?_)
        refine W.eq (g2 := F0 m 31 ls []) rfl ?_
        refine lv_iinc (lv' := [(1, .int (nI (i + 1))), (2, .int (nI b)), (0, .ref (ad 20 0))]) hx hb dMD_one_31 hl (k := 2) rfl (xn_inc _) (by decide) rfl (fun ls hl => ?_)
        refine lv_goto hx hb dMD_one_34 rfl ?_
        have hsr : mf_log (mf_move (mf_srv σ i) b q n) b q n ns = mf_srv σ (i + 1) := by show _ = mf_srv1 (mf_srv σ i) i _; rw [hbe]; show _ = xif _ _ _; rw [xif_f hh2]; unfold mf_serve; rw [xN_of hq (by omega), xN_of hn (by omega), xN_of hns (by omega)]
        exact ihi _ _ _ ⟨hsr ▸ w, lv_sub hl [2, 0] rfl⟩
set_option maxRecDepth 100000 in
set_option maxHeartbeats 4000000 in
theorem cMD_cycle (l : Launch) (D : va_G) (cA : Nat → ClassId) (tz : Nat) (I : List (Nat × Nat)) (ad : Nat → Nat → Nat) (σ : xMem) (hJ : xJ I) (hv : mv1 (xu3 σ 20 0 0 (nI 0))) : xD l yMD_cycle bMD_cycle 1 (some .int) 6 [.ref (ad 20 0)] D cA tz I ad σ (some (.int (xoi4 (mf_bst (xu3 σ 20 0 0 (nI 0)))))) (mf_one (xu3 σ 20 0 0 (nI 0))) := by
  refine xd_of (by decide) (by simp [lg_sl, Value.category]) ?_
  intro p e s m args below meth c A ls C hr hlk hml hl w hz
  obtain ⟨hx, hb, hown, hts⟩ := id C
  have hl : lv_has ls 1 [(0, .ref (ad 20 0))] := hl
  refine lv_aload_n hx hb dMD_cycle_0 rfl (lv_at hl 0 rfl) ?_
  refine lv_iconst (v := nI 0) hx hb dMD_cycle_1 xk_i0 ?_
  refine xp_MD_66 C w (xJ20 hJ) dMD_cycle_2 (fun H locs w => ?_)
  refine lv_aload_n hx hb dMD_cycle_5 rfl (lv_at hl 0 rfl) ?_
  refine xd_callV C w hz hml hl.1 xk_MD_139 (cMD_one l D cA tz I ad (xu3 σ 20 0 0 (nI 0)) hJ hv) (xJ20 hJ) rfl rfl rfl rfl (Nat.le_of_ble_eq_true rfl) (by decide) (by decide) dMD_cycle_6 (fun H locs w => ?_)
  refine W.eq (g2 := F0 m 9 ls [.int (xoi4 (mf_bst (xu3 σ 20 0 0 (nI 0))))]) rfl ?_
  exact xd_iret C w hr hlk dMD_cycle_9 (rfl) rfl
set_option maxRecDepth 100000 in
set_option maxHeartbeats 4000000 in
theorem cMD_cycles_no (l : Launch) (D : va_G) (cA : Nat → ClassId) (tz : Nat) (I : List (Nat × Nat)) (ad : Nat → Nat → Nat) (σ : xMem) (x : Int32) (hJ : xJ I) (hn : x < nI 1 ∨ nI 100 < x) : xD l yMD_cycles bMD_cycles 4 (some .int) 6 [.ref (ad 20 0), .int x] D cA tz I ad σ (some (.int (nI 0))) (xu3 σ 20 0 0 (nI 1)) := by
  refine xd_of (by decide) (by simp [lg_sl, Value.category]) ?_
  intro p e s m args below meth c A ls C hr hlk hml hl w hz
  obtain ⟨hx, hb, hown, hts⟩ := id C
  have hl : lv_has ls 4 [(0, .ref (ad 20 0)), (1, .int x)] := hl
  have q3 := @Int32.not_lt
  have q4 := @Int32.not_le
  refine lv_aload_n hx hb dMD_cycles_0 rfl (lv_at hl 0 rfl) ?_
  refine lv_iload_n hx hb dMD_cycles_1 rfl (lv_at hl 1 rfl) ?_
  refine lv_iconst (v := nI 1) hx hb dMD_cycles_2 xk_i1 ?_
  refine lv_icmp_lt hx hb dMD_cycles_3 rfl (fun hh1 => ?_) (fun hh1 => ?_)
  · skip
    refine lv_iconst (v := nI 1) hx hb dMD_cycles_12 xk_i1 ?_
    refine lv_goto hx hb dMD_cycles_13 rfl ?_
    refine xd_callV C w hz hml hl.1 xk_MD_73 (cMD_refused1 l D cA tz I ad (σ) hJ) (xJ20 hJ) rfl rfl rfl rfl (Nat.le_of_ble_eq_true rfl) (by decide) (by decide) dMD_cycles_17 (fun H locs w => ?_)
    refine W.eq (g2 := F0 m 20 ls [.int (nI 1)]) rfl ?_
    refine lv_if_eq hx hb dMD_cycles_20 rfl (fun hq => absurd hq (by decide)) (fun _ => ?_)
    refine lv_iconst (v := nI 0) hx hb dMD_cycles_23 xk_i0 ?_
    exact xd_iret C w hr hlk dMD_cycles_24 (rfl) rfl
  · skip
    refine lv_iload_n hx hb dMD_cycles_6 rfl (lv_at hl 1 rfl) ?_
    refine lv_bipush (v := nI 100) hx hb dMD_cycles_7 xk_b100 ?_
    refine lv_icmp_le hx hb dMD_cycles_9 rfl (fun hh2 => ?_) (fun hh2 => ?_)
    · skip
      exfalso
      first | contradiction | grind
    · skip
      refine lv_iconst (v := nI 1) hx hb dMD_cycles_12 xk_i1 ?_
      refine lv_goto hx hb dMD_cycles_13 rfl ?_
      refine xd_callV C w hz hml hl.1 xk_MD_73 (cMD_refused1 l D cA tz I ad (σ) hJ) (xJ20 hJ) rfl rfl rfl rfl (Nat.le_of_ble_eq_true rfl) (by decide) (by decide) dMD_cycles_17 (fun H locs w => ?_)
      refine W.eq (g2 := F0 m 20 ls [.int (nI 1)]) rfl ?_
      refine lv_if_eq hx hb dMD_cycles_20 rfl (fun hq => absurd hq (by decide)) (fun _ => ?_)
      refine lv_iconst (v := nI 0) hx hb dMD_cycles_23 xk_i0 ?_
      exact xd_iret C w hr hlk dMD_cycles_24 (rfl) rfl
set_option maxRecDepth 100000 in
set_option maxHeartbeats 4000000 in
theorem cMD_cycles_ok (l : Launch) (D : va_G) (cA : Nat → ClassId) (tz : Nat) (I : List (Nat × Nat)) (ad : Nat → Nat → Nat) (σ : xMem) (n : Nat) (hJ : xJ I) (h1n : 1 ≤ n) (hn100 : n ≤ 100) (hv : ∀ k, k < n → mv1 (mf_run (xu3 σ 20 0 0 (nI 0)) k)) : xD l yMD_cycles bMD_cycles 4 (some .int) 6 [.ref (ad 20 0), .int (nI n)] D cA tz I ad σ (some (.int (nI (mf_many (xu3 σ 20 0 0 (nI 0)) n)))) (mf_run (xu3 σ 20 0 0 (nI 0)) n) := by
  refine xd_of (by decide) (by simp [lg_sl, Value.category]) ?_
  intro p e s m args below meth c A ls C hr hlk hml hl w hz
  obtain ⟨hx, hb, hown, hts⟩ := id C
  have hl : lv_has ls 4 [(0, .ref (ad 20 0)), (1, .int (nI n))] := hl
  refine lv_aload_n hx hb dMD_cycles_0 rfl (lv_at hl 0 rfl) ?_
  refine lv_iload_n hx hb dMD_cycles_1 rfl (lv_at hl 1 rfl) ?_
  refine lv_iconst (v := nI 1) hx hb dMD_cycles_2 xk_i1 ?_
  refine lv_icmp_lt hx hb dMD_cycles_3 rfl (fun hh1 => absurd hh1 (nI_nlt (by omega) (by omega))) (fun hh1 => ?_)
  refine lv_iload_n hx hb dMD_cycles_6 rfl (lv_at hl 1 rfl) ?_
  refine lv_bipush (v := nI 100) hx hb dMD_cycles_7 xk_b100 ?_
  refine lv_icmp_le hx hb dMD_cycles_9 rfl (fun hh2 => ?_) (fun hh2 => absurd (nI_le (by omega) (by omega)) hh2)
  refine lv_iconst (v := nI 0) hx hb dMD_cycles_16 xk_i0 ?_
  refine xd_callV C w hz hml hl.1 xk_MD_73 (cMD_refused0 l D cA tz I ad (σ) hJ) (xJ20 hJ) rfl rfl rfl rfl (Nat.le_of_ble_eq_true rfl) (by decide) (by decide) dMD_cycles_17 (fun H locs w => ?_)
  refine W.eq (g2 := F0 m 20 ls [.int (nI 0)]) rfl ?_
  refine lv_if_eq hx hb dMD_cycles_20 rfl (fun _ => ?_) (fun hq => absurd nI_0 hq)
  refine lv_iconst (v := nI 0) hx hb dMD_cycles_25 xk_i0 ?_
  refine lv_istore_n (lv' := [(2, .int (nI 0)), (0, .ref (ad 20 0)), (1, .int (nI n))]) hx hb dMD_cycles_26 rfl hl (by decide) rfl (fun ls hl => ?_)
  have hl : lv_has ls 4 [(2, .int (nI (mf_many (xu3 σ 20 0 0 (nI 0)) 0))), (0, .ref (ad 20 0)), (1, .int (nI n))] := hl
  refine lv_iconst (v := nI 0) hx hb dMD_cycles_27 xk_i0 ?_
  refine lv_istore_n (lv' := [(3, .int (nI 0)), (2, .int (nI (mf_many (xu3 σ 20 0 0 (nI 0)) 0))), (0, .ref (ad 20 0)), (1, .int (nI n))]) hx hb dMD_cycles_28 rfl hl (by decide) rfl (fun ls hl => ?_)
  refine xl_up (Wg := fun H locs ls => W p l e _ s m args below meth c H locs _ _ _ (F0 m 29 ls [])) (K := fun i H locs ls => xr_W xCl (xT cA) D I ad (xc cA tz ad (mf_run (xu3 σ 20 0 0 (nI 0)) i)) A s H locs ∧ lv_has ls 4 [(0, .ref (ad 20 0)), (1, .int (nI n)), (2, .int (nI (mf_many (xu3 σ 20 0 0 (nI 0)) i))), (3, .int (nI i))]) n ?_ ?_ 0 _ _ _ (by omega) ⟨w, lv_sub hl [2, 3, 1, 0] rfl⟩
  · skip
    intro H locs ls ⟨w, hl⟩
    refine lv_iload_n hx hb dMD_cycles_29 rfl (lv_at hl 3 rfl) ?_
    refine lv_iload_n hx hb dMD_cycles_30 rfl (lv_at hl 1 rfl) ?_
    refine lv_icmp_ge hx hb dMD_cycles_31 rfl (fun _ => ?_) (fun hq => absurd (nI_le (by omega) (by omega)) hq)
    refine lv_iload_n hx hb dMD_cycles_55 rfl (lv_at hl 2 rfl) ?_
    exact xd_iret C w hr hlk dMD_cycles_56 (rfl) rfl
  · skip
    intro i H locs ls hii ⟨w, hl⟩ ihi
    refine lv_iload_n hx hb dMD_cycles_29 rfl (lv_at hl 3 rfl) ?_
    refine lv_iload_n hx hb dMD_cycles_30 rfl (lv_at hl 1 rfl) ?_
    refine lv_icmp_ge hx hb dMD_cycles_31 rfl (fun hq => absurd hq (nI_ge (by omega) (by omega))) (fun _ => ?_)
    refine lv_aload_n hx hb dMD_cycles_34 rfl (lv_at hl 0 rfl) ?_
    refine xd_callV C w hz hml hl.1 xk_MD_139 (cMD_one l D cA tz I ad (mf_run (xu3 σ 20 0 0 (nI 0)) i) hJ (hv i hii)) (xJ20 hJ) rfl rfl rfl rfl (Nat.le_of_ble_eq_true rfl) (by decide) (by decide) dMD_cycles_35 (fun H locs w => ?_)
    refine W.eq (g2 := F0 m 38 ls [.int (xoi4 (mf_bst (mf_run (xu3 σ 20 0 0 (nI 0)) i)))]) rfl ?_
    rcases hbe : mf_bst (mf_run (xu3 σ 20 0 0 (nI 0)) i) with _ | b
    · skip
      refine lv_if_lt hx hb dMD_cycles_38 rfl (fun _ => ?_) (fun hq => absurd (by decide) hq)
      refine lv_iload_n hx hb dMD_cycles_47 rfl (lv_at hl 2 rfl) ?_
      refine xn_eq (y := nI (mf_many (xu3 σ 20 0 0 (nI 0)) (i + 1))) (congrArg nI (mf_many_n hbe)) ?_
      refine lv_istore_n (lv' := [(2, .int (nI (mf_many (xu3 σ 20 0 0 (nI 0)) (i + 1)))), (0, .ref (ad 20 0)), (1, .int (nI n)), (3, .int (nI i))]) hx hb dMD_cycles_48 rfl hl (by decide) rfl (fun ls hl => ?_)
      refine lv_iinc (lv' := [(3, .int (nI (i + 1))), (2, .int (nI (mf_many (xu3 σ 20 0 0 (nI 0)) (i + 1)))), (0, .ref (ad 20 0)), (1, .int (nI n))]) hx hb dMD_cycles_49 hl (k := 3) rfl (xn_inc _) (by decide) rfl (fun ls hl => ?_)
      refine lv_goto hx hb dMD_cycles_52 rfl ?_
      exact ihi _ _ _ ⟨w, lv_sub hl [2, 3, 1, 0] rfl⟩
    · skip
      have hb16 : b < 16 := mf_best_lt hbe
      refine lv_if_lt hx hb dMD_cycles_38 rfl (fun hq => absurd hq (nI_pos (by omega))) (fun _ => ?_)
      refine lv_iload_n hx hb dMD_cycles_41 rfl (lv_at hl 2 rfl) ?_
      refine lv_iconst (v := nI 1) hx hb dMD_cycles_42 xk_i1 ?_
      refine xn_add hx hb dMD_cycles_43 ?_
      refine lv_goto hx hb dMD_cycles_44 rfl ?_
      refine xn_eq (y := nI (mf_many (xu3 σ 20 0 0 (nI 0)) (i + 1))) (congrArg nI (mf_many_s hbe)) ?_
      refine lv_istore_n (lv' := [(2, .int (nI (mf_many (xu3 σ 20 0 0 (nI 0)) (i + 1)))), (0, .ref (ad 20 0)), (1, .int (nI n)), (3, .int (nI i))]) hx hb dMD_cycles_48 rfl hl (by decide) rfl (fun ls hl => ?_)
      refine lv_iinc (lv' := [(3, .int (nI (i + 1))), (2, .int (nI (mf_many (xu3 σ 20 0 0 (nI 0)) (i + 1)))), (0, .ref (ad 20 0)), (1, .int (nI n))]) hx hb dMD_cycles_49 hl (k := 3) rfl (xn_inc _) (by decide) rfl (fun ls hl => ?_)
      refine lv_goto hx hb dMD_cycles_52 rfl ?_
      exact ihi _ _ _ ⟨w, lv_sub hl [2, 3, 1, 0] rfl⟩
