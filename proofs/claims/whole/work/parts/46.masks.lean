/-! The reference: what it asks. -/
set_option maxRecDepth 100000 in
set_option maxHeartbeats 4000000 in
theorem cMD_isIn (l : Launch) (D : va_G) (cA : Nat → ClassId) (tz : Nat) (I : List (Nat × Nat)) (ad : Nat → Nat → Nat) (σ : xMem) (x y : Int32) : xD l yMD_isIn bMD_isIn 2 (some .boolean) 1 [.int x, .int y] D cA tz I ad σ (some (.int (xb (xp_in x y)))) σ := by
  refine xd_of (by decide) (by simp [lg_sl, Value.category]) ?_
  intro p e s m args below meth c A ls C hr hlk hml hl w hz
  obtain ⟨hx, hb, hown, hts⟩ := id C
  have hl : lv_has ls 2 [(0, .int x), (1, .int y)] := hl
  refine lv_iload_n hx hb dMD_isIn_0 rfl (lv_at hl 0 rfl) ?_
  refine lv_if_lt hx hb dMD_isIn_1 rfl (fun hh1 => ?_) (fun hh1 => ?_)
  · skip
    refine lv_iconst (v := nI 0) hx hb dMD_isIn_13 xk_i0 ?_
    exact xd_zf C w hr hlk dMD_isIn_14 (by unfold xp_in; grind [nI_0]) rfl
  · skip
    refine lv_iload_n hx hb dMD_isIn_4 rfl (lv_at hl 0 rfl) ?_
    refine lv_iload_n hx hb dMD_isIn_5 rfl (lv_at hl 1 rfl) ?_
    refine lv_icmp_ge hx hb dMD_isIn_6 rfl (fun hh2 => ?_) (fun hh2 => ?_)
    · skip
      refine lv_iconst (v := nI 0) hx hb dMD_isIn_13 xk_i0 ?_
      exact xd_zf C w hr hlk dMD_isIn_14 (by unfold xp_in; grind [nI_0]) rfl
    · skip
      refine lv_iconst (v := nI 1) hx hb dMD_isIn_9 xk_i1 ?_
      refine lv_goto hx hb dMD_isIn_10 rfl ?_
      exact xd_zt C w hr hlk dMD_isIn_14 (by unfold xp_in; grind [nI_0]) rfl
set_option maxRecDepth 100000 in
set_option maxHeartbeats 4000000 in
theorem cMD_refused (l : Launch) (D : va_G) (cA : Nat → ClassId) (tz : Nat) (I : List (Nat × Nat)) (ad : Nat → Nat → Nat) (σ : xMem) (x : Int32) (hJ : xJ I) : xD l yMD_refused bMD_refused 2 (some .boolean) 1 [.ref (ad 20 0), .int x] D cA tz I ad σ (some (.int (xb (¬ x ≤ 0)))) (xu3 σ 20 0 0 x) := by
  refine xd_of (by decide) (by simp [lg_sl, Value.category]) ?_
  intro p e s m args below meth c A ls C hr hlk hml hl w hz
  obtain ⟨hx, hb, hown, hts⟩ := id C
  have hl : lv_has ls 2 [(0, .ref (ad 20 0)), (1, .int x)] := hl
  refine lv_aload_n hx hb dMD_refused_0 rfl (lv_at hl 0 rfl) ?_
  refine lv_iload_n hx hb dMD_refused_1 rfl (lv_at hl 1 rfl) ?_
  refine xp_MD_66 C w (xJ20 hJ) dMD_refused_2 (fun H locs w => ?_)
  refine lv_iload_n hx hb dMD_refused_5 rfl (lv_at hl 1 rfl) ?_
  refine lv_if_le hx hb dMD_refused_6 rfl (fun hh1 => ?_) (fun hh1 => ?_)
  · skip
    refine lv_iconst (v := nI 0) hx hb dMD_refused_13 xk_i0 ?_
    exact xd_zf C w hr hlk dMD_refused_14 (by grind) rfl
  · skip
    refine lv_iconst (v := nI 1) hx hb dMD_refused_9 xk_i1 ?_
    refine lv_goto hx hb dMD_refused_10 rfl ?_
    exact xd_zt C w hr hlk dMD_refused_14 (by grind) rfl
set_option maxRecDepth 100000 in
set_option maxHeartbeats 4000000 in
theorem cMD_isSound (l : Launch) (D : va_G) (cA : Nat → ClassId) (tz : Nat) (I : List (Nat × Nat)) (ad : Nat → Nat → Nat) (σ : xMem) (x y z : Int32) : xD l yMD_isSound bMD_isSound 4 (some .boolean) 1 [.int x, .int y, .int z] D cA tz I ad σ (some (.int (xb (xp_sound x y z)))) σ := by
  refine xd_of (by decide) (by simp [lg_sl, Value.category]) ?_
  intro p e s m args below meth c A ls C hr hlk hml hl w hz
  obtain ⟨hx, hb, hown, hts⟩ := id C
  have hl : lv_has ls 4 [(0, .int x), (1, .int y), (2, .int z)] := hl
  refine lv_iload_n hx hb dMD_isSound_0 rfl (lv_at hl 0 rfl) ?_
  refine lv_if_lt hx hb dMD_isSound_1 rfl (fun hh1 => ?_) (fun hh1 => ?_)
  · skip
    refine lv_iconst (v := nI 0) hx hb dMD_isSound_9 xk_i0 ?_
    exact xd_zf C w hr hlk dMD_isSound_10 (by have q := x63 y; unfold xp_sound; grind) rfl
  · skip
    refine lv_iload_n hx hb dMD_isSound_4 rfl (lv_at hl 0 rfl) ?_
    refine lv_iconst (v := nI 4) hx hb dMD_isSound_5 xk_i4 ?_
    refine lv_icmp_le hx hb dMD_isSound_6 rfl (fun hh2 => ?_) (fun hh2 => ?_)
    · skip
      refine lv_iload_n hx hb dMD_isSound_11 rfl (lv_at hl 0 rfl) ?_
      refine lv_iconst (v := nI 2) hx hb dMD_isSound_12 xk_i2 ?_
      refine lv_icmp_eq hx hb dMD_isSound_13 rfl (fun hh3 => ?_) (fun hh3 => ?_)
      · skip
        refine lv_iconst (v := nI 1) hx hb dMD_isSound_21 xk_i1 ?_
        refine lv_goto hx hb dMD_isSound_22 rfl ?_
        refine lv_istore_n (lv' := [(3, .int (nI 1)), (0, .int x), (1, .int y), (2, .int z)]) hx hb dMD_isSound_26 rfl hl (by decide) rfl (fun ls hl => ?_)
        refine lv_iload_n hx hb dMD_isSound_27 rfl (lv_at hl 1 rfl) ?_
        refine lv_iconst (v := nI 4) hx hb dMD_isSound_28 xk_i4 ?_
        refine lv_icmp_eq hx hb dMD_isSound_29 rfl (fun hh4 => ?_) (fun hh4 => ?_)
        · skip
          refine lv_iconst (v := nI 1) hx hb dMD_isSound_75 xk_i1 ?_
          refine lv_goto hx hb dMD_isSound_76 rfl ?_
          exact xd_zt C w hr hlk dMD_isSound_80 (by have q := x63 y; unfold xp_sound; grind) rfl
        · skip
          refine lv_iload_n hx hb dMD_isSound_32 rfl (lv_at hl 2 rfl) ?_
          refine lv_if_lt hx hb dMD_isSound_33 rfl (fun hh5 => ?_) (fun hh5 => ?_)
          · skip
            refine lv_iconst (v := nI 0) hx hb dMD_isSound_79 xk_i0 ?_
            exact xd_zf C w hr hlk dMD_isSound_80 (by have q := x63 y; unfold xp_sound; grind) rfl
          · skip
            refine lv_iload_n hx hb dMD_isSound_36 rfl (lv_at hl 2 rfl) ?_
            refine lv_bipush (v := nI 63) hx hb dMD_isSound_37 xk_b63 ?_
            refine lv_icmp_gt hx hb dMD_isSound_39 rfl (fun hh6 => ?_) (fun hh6 => ?_)
            · skip
              refine lv_iconst (v := nI 0) hx hb dMD_isSound_79 xk_i0 ?_
              exact xd_zf C w hr hlk dMD_isSound_80 (by have q := x63 y; unfold xp_sound; grind) rfl
            · skip
              refine lv_iload_n hx hb dMD_isSound_42 rfl (lv_at hl 3 rfl) ?_
              refine lv_iconst (v := nI 1) hx hb dMD_isSound_43 xk_i1 ?_
              refine lv_icmp_lt hx hb dMD_isSound_44 rfl (fun hh7 => ?_) (fun hh7 => ?_)
              · skip
                refine lv_iconst (v := nI 0) hx hb dMD_isSound_79 xk_i0 ?_
                exact xd_zf C w hr hlk dMD_isSound_80 (by have q := x63 y; unfold xp_sound; grind) rfl
              · skip
                refine lv_iload_n hx hb dMD_isSound_47 rfl (lv_at hl 3 rfl) ?_
                refine lv_iload_n hx hb dMD_isSound_48 rfl (lv_at hl 0 rfl) ?_
                refine lv_if_eq hx hb dMD_isSound_49 rfl (fun hq => absurd hq (by decide)) (fun _ => ?_)
                refine lv_iconst (v := nI 1) hx hb dMD_isSound_52 xk_i1 ?_
                refine lv_goto hx hb dMD_isSound_53 rfl ?_
                refine lv_icmp_gt hx hb dMD_isSound_57 rfl (fun hh8 => ?_) (fun hh8 => ?_)
                · skip
                  refine lv_iconst (v := nI 0) hx hb dMD_isSound_79 xk_i0 ?_
                  exact xd_zf C w hr hlk dMD_isSound_80 (by have q := x63 y; unfold xp_sound; grind) rfl
                · skip
                  refine lv_iload_n hx hb dMD_isSound_60 rfl (lv_at hl 2 rfl) ?_
                  refine lv_bipush (v := nI 16) hx hb dMD_isSound_61 xk_b16 ?_
                  refine lv_idiv hx hb dMD_isSound_63 (by decide) ?_
                  refine lv_iload_n hx hb dMD_isSound_64 rfl (lv_at hl 2 rfl) ?_
                  refine lv_iload_n hx hb dMD_isSound_65 rfl (lv_at hl 3 rfl) ?_
                  refine lv_iadd hx hb dMD_isSound_66 ?_
                  refine lv_iconst (v := nI 1) hx hb dMD_isSound_67 xk_i1 ?_
                  refine lv_isub hx hb dMD_isSound_68 ?_
                  refine lv_bipush (v := nI 16) hx hb dMD_isSound_69 xk_b16 ?_
                  refine lv_idiv hx hb dMD_isSound_71 (by decide) ?_
                  refine lv_icmp_ne hx hb dMD_isSound_72 rfl (fun hh9 => ?_) (fun hh9 => ?_)
                  · skip
                    refine lv_iconst (v := nI 0) hx hb dMD_isSound_79 xk_i0 ?_
                    exact xd_zf C w hr hlk dMD_isSound_80 (by have q := x63 y; unfold xp_sound; grind) rfl
                  · skip
                    refine lv_iconst (v := nI 1) hx hb dMD_isSound_75 xk_i1 ?_
                    refine lv_goto hx hb dMD_isSound_76 rfl ?_
                    exact xd_zt C w hr hlk dMD_isSound_80 (by have q := x63 y; unfold xp_sound; grind) rfl
      · skip
        refine lv_iload_n hx hb dMD_isSound_16 rfl (lv_at hl 0 rfl) ?_
        refine lv_iconst (v := nI 3) hx hb dMD_isSound_17 xk_i3 ?_
        refine lv_icmp_ne hx hb dMD_isSound_18 rfl (fun hh10 => ?_) (fun hh10 => ?_)
        · skip
          refine lv_iconst (v := nI 0) hx hb dMD_isSound_25 xk_i0 ?_
          refine lv_istore_n (lv' := [(3, .int (nI 0)), (0, .int x), (1, .int y), (2, .int z)]) hx hb dMD_isSound_26 rfl hl (by decide) rfl (fun ls hl => ?_)
          refine lv_iload_n hx hb dMD_isSound_27 rfl (lv_at hl 1 rfl) ?_
          refine lv_iconst (v := nI 4) hx hb dMD_isSound_28 xk_i4 ?_
          refine lv_icmp_eq hx hb dMD_isSound_29 rfl (fun hh11 => ?_) (fun hh11 => ?_)
          · skip
            refine lv_iconst (v := nI 1) hx hb dMD_isSound_75 xk_i1 ?_
            refine lv_goto hx hb dMD_isSound_76 rfl ?_
            exact xd_zt C w hr hlk dMD_isSound_80 (by have q := x63 y; unfold xp_sound; grind) rfl
          · skip
            refine lv_iload_n hx hb dMD_isSound_32 rfl (lv_at hl 2 rfl) ?_
            refine lv_if_lt hx hb dMD_isSound_33 rfl (fun hh12 => ?_) (fun hh12 => ?_)
            · skip
              refine lv_iconst (v := nI 0) hx hb dMD_isSound_79 xk_i0 ?_
              exact xd_zf C w hr hlk dMD_isSound_80 (by have q := x63 y; unfold xp_sound; grind) rfl
            · skip
              refine lv_iload_n hx hb dMD_isSound_36 rfl (lv_at hl 2 rfl) ?_
              refine lv_bipush (v := nI 63) hx hb dMD_isSound_37 xk_b63 ?_
              refine lv_icmp_gt hx hb dMD_isSound_39 rfl (fun hh13 => ?_) (fun hh13 => ?_)
              · skip
                refine lv_iconst (v := nI 0) hx hb dMD_isSound_79 xk_i0 ?_
                exact xd_zf C w hr hlk dMD_isSound_80 (by have q := x63 y; unfold xp_sound; grind) rfl
              · skip
                refine lv_iload_n hx hb dMD_isSound_42 rfl (lv_at hl 3 rfl) ?_
                refine lv_iconst (v := nI 1) hx hb dMD_isSound_43 xk_i1 ?_
                refine lv_icmp_lt hx hb dMD_isSound_44 rfl (fun hh14 => ?_) (fun hh14 => ?_)
                · skip
                  refine lv_iconst (v := nI 0) hx hb dMD_isSound_79 xk_i0 ?_
                  exact xd_zf C w hr hlk dMD_isSound_80 (by have q := x63 y; unfold xp_sound; grind) rfl
                · skip
                  refine lv_iload_n hx hb dMD_isSound_47 rfl (lv_at hl 3 rfl) ?_
                  refine lv_iload_n hx hb dMD_isSound_48 rfl (lv_at hl 0 rfl) ?_
                  refine lv_if_eq hx hb dMD_isSound_49 rfl (fun _ => ?_) (fun hq => absurd nI_0 hq)
                  refine lv_iconst (v := nI 4) hx hb dMD_isSound_56 xk_i4 ?_
                  refine lv_icmp_gt hx hb dMD_isSound_57 rfl (fun hh15 => ?_) (fun hh15 => ?_)
                  · skip
                    refine lv_iconst (v := nI 0) hx hb dMD_isSound_79 xk_i0 ?_
                    exact xd_zf C w hr hlk dMD_isSound_80 (by have q := x63 y; unfold xp_sound; grind) rfl
                  · skip
                    refine lv_iload_n hx hb dMD_isSound_60 rfl (lv_at hl 2 rfl) ?_
                    refine lv_bipush (v := nI 16) hx hb dMD_isSound_61 xk_b16 ?_
                    refine lv_idiv hx hb dMD_isSound_63 (by decide) ?_
                    refine lv_iload_n hx hb dMD_isSound_64 rfl (lv_at hl 2 rfl) ?_
                    refine lv_iload_n hx hb dMD_isSound_65 rfl (lv_at hl 3 rfl) ?_
                    refine lv_iadd hx hb dMD_isSound_66 ?_
                    refine lv_iconst (v := nI 1) hx hb dMD_isSound_67 xk_i1 ?_
                    refine lv_isub hx hb dMD_isSound_68 ?_
                    refine lv_bipush (v := nI 16) hx hb dMD_isSound_69 xk_b16 ?_
                    refine lv_idiv hx hb dMD_isSound_71 (by decide) ?_
                    refine lv_icmp_ne hx hb dMD_isSound_72 rfl (fun hh16 => ?_) (fun hh16 => ?_)
                    · skip
                      refine lv_iconst (v := nI 0) hx hb dMD_isSound_79 xk_i0 ?_
                      exact xd_zf C w hr hlk dMD_isSound_80 (by have q := x63 y; unfold xp_sound; grind) rfl
                    · skip
                      refine lv_iconst (v := nI 1) hx hb dMD_isSound_75 xk_i1 ?_
                      refine lv_goto hx hb dMD_isSound_76 rfl ?_
                      exact xd_zt C w hr hlk dMD_isSound_80 (by have q := x63 y; unfold xp_sound; grind) rfl
        · skip
          refine lv_iconst (v := nI 1) hx hb dMD_isSound_21 xk_i1 ?_
          refine lv_goto hx hb dMD_isSound_22 rfl ?_
          refine lv_istore_n (lv' := [(3, .int (nI 1)), (0, .int x), (1, .int y), (2, .int z)]) hx hb dMD_isSound_26 rfl hl (by decide) rfl (fun ls hl => ?_)
          refine lv_iload_n hx hb dMD_isSound_27 rfl (lv_at hl 1 rfl) ?_
          refine lv_iconst (v := nI 4) hx hb dMD_isSound_28 xk_i4 ?_
          refine lv_icmp_eq hx hb dMD_isSound_29 rfl (fun hh17 => ?_) (fun hh17 => ?_)
          · skip
            refine lv_iconst (v := nI 1) hx hb dMD_isSound_75 xk_i1 ?_
            refine lv_goto hx hb dMD_isSound_76 rfl ?_
            exact xd_zt C w hr hlk dMD_isSound_80 (by have q := x63 y; unfold xp_sound; grind) rfl
          · skip
            refine lv_iload_n hx hb dMD_isSound_32 rfl (lv_at hl 2 rfl) ?_
            refine lv_if_lt hx hb dMD_isSound_33 rfl (fun hh18 => ?_) (fun hh18 => ?_)
            · skip
              refine lv_iconst (v := nI 0) hx hb dMD_isSound_79 xk_i0 ?_
              exact xd_zf C w hr hlk dMD_isSound_80 (by have q := x63 y; unfold xp_sound; grind) rfl
            · skip
              refine lv_iload_n hx hb dMD_isSound_36 rfl (lv_at hl 2 rfl) ?_
              refine lv_bipush (v := nI 63) hx hb dMD_isSound_37 xk_b63 ?_
              refine lv_icmp_gt hx hb dMD_isSound_39 rfl (fun hh19 => ?_) (fun hh19 => ?_)
              · skip
                refine lv_iconst (v := nI 0) hx hb dMD_isSound_79 xk_i0 ?_
                exact xd_zf C w hr hlk dMD_isSound_80 (by have q := x63 y; unfold xp_sound; grind) rfl
              · skip
                refine lv_iload_n hx hb dMD_isSound_42 rfl (lv_at hl 3 rfl) ?_
                refine lv_iconst (v := nI 1) hx hb dMD_isSound_43 xk_i1 ?_
                refine lv_icmp_lt hx hb dMD_isSound_44 rfl (fun hh20 => ?_) (fun hh20 => ?_)
                · skip
                  refine lv_iconst (v := nI 0) hx hb dMD_isSound_79 xk_i0 ?_
                  exact xd_zf C w hr hlk dMD_isSound_80 (by have q := x63 y; unfold xp_sound; grind) rfl
                · skip
                  refine lv_iload_n hx hb dMD_isSound_47 rfl (lv_at hl 3 rfl) ?_
                  refine lv_iload_n hx hb dMD_isSound_48 rfl (lv_at hl 0 rfl) ?_
                  refine lv_if_eq hx hb dMD_isSound_49 rfl (fun hq => absurd hq (by decide)) (fun _ => ?_)
                  refine lv_iconst (v := nI 1) hx hb dMD_isSound_52 xk_i1 ?_
                  refine lv_goto hx hb dMD_isSound_53 rfl ?_
                  refine lv_icmp_gt hx hb dMD_isSound_57 rfl (fun hh21 => ?_) (fun hh21 => ?_)
                  · skip
                    refine lv_iconst (v := nI 0) hx hb dMD_isSound_79 xk_i0 ?_
                    exact xd_zf C w hr hlk dMD_isSound_80 (by have q := x63 y; unfold xp_sound; grind) rfl
                  · skip
                    refine lv_iload_n hx hb dMD_isSound_60 rfl (lv_at hl 2 rfl) ?_
                    refine lv_bipush (v := nI 16) hx hb dMD_isSound_61 xk_b16 ?_
                    refine lv_idiv hx hb dMD_isSound_63 (by decide) ?_
                    refine lv_iload_n hx hb dMD_isSound_64 rfl (lv_at hl 2 rfl) ?_
                    refine lv_iload_n hx hb dMD_isSound_65 rfl (lv_at hl 3 rfl) ?_
                    refine lv_iadd hx hb dMD_isSound_66 ?_
                    refine lv_iconst (v := nI 1) hx hb dMD_isSound_67 xk_i1 ?_
                    refine lv_isub hx hb dMD_isSound_68 ?_
                    refine lv_bipush (v := nI 16) hx hb dMD_isSound_69 xk_b16 ?_
                    refine lv_idiv hx hb dMD_isSound_71 (by decide) ?_
                    refine lv_icmp_ne hx hb dMD_isSound_72 rfl (fun hh22 => ?_) (fun hh22 => ?_)
                    · skip
                      refine lv_iconst (v := nI 0) hx hb dMD_isSound_79 xk_i0 ?_
                      exact xd_zf C w hr hlk dMD_isSound_80 (by have q := x63 y; unfold xp_sound; grind) rfl
                    · skip
                      refine lv_iconst (v := nI 1) hx hb dMD_isSound_75 xk_i1 ?_
                      refine lv_goto hx hb dMD_isSound_76 rfl ?_
                      exact xd_zt C w hr hlk dMD_isSound_80 (by have q := x63 y; unfold xp_sound; grind) rfl
    · skip
      refine lv_iconst (v := nI 0) hx hb dMD_isSound_9 xk_i0 ?_
      exact xd_zf C w hr hlk dMD_isSound_10 (by have q := x63 y; unfold xp_sound; grind) rfl
set_option maxRecDepth 100000 in
set_option maxHeartbeats 4000000 in
theorem cMD_hasWaiting (l : Launch) (D : va_G) (cA : Nat → ClassId) (tz : Nat) (I : List (Nat × Nat)) (ad : Nat → Nat → Nat) (σ : xMem) (a : Nat) (x : Int32) (hJ : xJ I) (ha : a < 4) : xD l yMD_hasWaiting bMD_hasWaiting 6 (some .boolean) 1 [.ref (ad 20 0), .int (nI a), .int x] D cA tz I ad σ (some (.int (xb (mp_wait σ a 4 x)))) σ := by
  refine xd_of (by decide) (by simp [lg_sl, Value.category]) ?_
  intro p e s m args below meth c A ls C hr hlk hml hl w hz
  obtain ⟨hx, hb, hown, hts⟩ := id C
  have hl : lv_has ls 6 [(0, .ref (ad 20 0)), (1, .int (nI a)), (2, .int x)] := hl
  refine lv_iconst (v := nI 0) hx hb dMD_hasWaiting_0 xk_i0 ?_
  refine lv_istore_n (lv' := [(3, .int (nI 0)), (0, .ref (ad 20 0)), (1, .int (nI a)), (2, .int x)]) hx hb dMD_hasWaiting_1 rfl hl (by decide) rfl (fun ls hl => ?_)
  have hl : lv_has ls 6 [(3, .int (xb (mp_wait σ a 0 x))), (0, .ref (ad 20 0)), (1, .int (nI a)), (2, .int x)] := by rw [mp_wait_0]; exact hl
  refine lv_iconst (v := nI 0) hx hb dMD_hasWaiting_2 xk_i0 ?_
  refine lv_istore (lv' := [(4, .int (nI 0)), (3, .int (xb (mp_wait σ a 0 x))), (0, .ref (ad 20 0)), (1, .int (nI a)), (2, .int x)]) hx hb dMD_hasWaiting_3 hl (by decide) rfl (fun ls hl => ?_)
  refine xl_up (Wg := fun H locs ls => W p l e _ s m args below meth c H locs _ _ _ (F0 m 5 ls [])) (K := fun i H locs ls => xr_W xCl (xT cA) D I ad (xc cA tz ad σ) A s H locs ∧ lv_has ls 6 [(0, .ref (ad 20 0)), (1, .int (nI a)), (2, .int x), (3, .int (xb (mp_wait σ a i x))), (4, .int (nI i))]) 4 ?_ ?_ 0 _ _ _ (by omega) ⟨w, lv_sub hl [2, 3, 4, 1, 0] rfl⟩
  · skip
    intro H locs ls ⟨w, hl⟩
    refine lv_iload hx hb dMD_hasWaiting_5 (lv_at hl 4 rfl) ?_
    refine lv_iconst (v := nI 4) hx hb dMD_hasWaiting_7 xk_i4 ?_
    refine lv_icmp_ge hx hb dMD_hasWaiting_8 rfl (fun _ => ?_) (fun hq => absurd (nI_le (by omega) (by omega)) hq)
    refine lv_iload_n hx hb dMD_hasWaiting_57 rfl (lv_at hl 3 rfl) ?_
    exact xd_zret C w hr hlk dMD_hasWaiting_58 (rfl) rfl
  · skip
    intro i H locs ls hii ⟨w, hl⟩ ihi
    refine lv_iload hx hb dMD_hasWaiting_5 (lv_at hl 4 rfl) ?_
    refine lv_iconst (v := nI 4) hx hb dMD_hasWaiting_7 xk_i4 ?_
    refine lv_icmp_ge hx hb dMD_hasWaiting_8 rfl (fun hq => absurd hq (nI_ge (by omega) (by omega))) (fun _ => ?_)
    refine lv_iconst (v := nI 4) hx hb dMD_hasWaiting_11 xk_i4 ?_
    refine lv_iload_n hx hb dMD_hasWaiting_12 rfl (lv_at hl 1 rfl) ?_
    refine xn_mul hx hb dMD_hasWaiting_13 ?_
    refine lv_iload hx hb dMD_hasWaiting_14 (lv_at hl 4 rfl) ?_
    refine xn_add hx hb dMD_hasWaiting_16 ?_
    refine lv_istore (lv' := [(5, .int (nI ((4 * a) + i))), (0, .ref (ad 20 0)), (1, .int (nI a)), (2, .int x), (3, .int (xb (mp_wait σ a i x))), (4, .int (nI i))]) hx hb dMD_hasWaiting_17 hl (by decide) rfl (fun ls hl => ?_)
    refine lv_iload_n hx hb dMD_hasWaiting_19 rfl (lv_at hl 4 rfl) ?_
    refine xz_ifne hx hb dMD_hasWaiting_20 rfl (fun hh1 => ?_) (fun hh1 => ?_)
    · skip
      refine lv_iconst (v := nI 1) hx hb dMD_hasWaiting_45 xk_i1 ?_
      refine lv_goto hx hb dMD_hasWaiting_46 rfl ?_
      refine xn_eq (y := xb (mp_wait σ a (i + 1) x)) (xb_t ((mp_wait_s σ a i x).mpr (by grind))).symm ?_
      refine lv_istore_n (lv' := [(3, .int (xb (mp_wait σ a (i + 1) x))), (5, .int (nI ((4 * a) + i))), (0, .ref (ad 20 0)), (1, .int (nI a)), (2, .int x), (4, .int (nI i))]) hx hb dMD_hasWaiting_50 rfl hl (by decide) rfl (fun ls hl => ?_)
      refine lv_iinc (lv' := [(4, .int (nI (i + 1))), (3, .int (xb (mp_wait σ a (i + 1) x))), (5, .int (nI ((4 * a) + i))), (0, .ref (ad 20 0)), (1, .int (nI a)), (2, .int x)]) hx hb dMD_hasWaiting_51 hl (k := 5) rfl (xn_inc _) (by decide) rfl (fun ls hl => ?_)
      refine lv_goto hx hb dMD_hasWaiting_54 rfl ?_
      exact ihi _ _ _ ⟨w, lv_sub hl [3, 4, 5, 1, 0] rfl⟩
    · skip
      refine lv_aload_n hx hb dMD_hasWaiting_23 rfl (lv_at hl 1 rfl) ?_
      refine xg_MD_26 C w (xJ20 hJ) dMD_hasWaiting_24 ?_
      refine lv_iload hx hb dMD_hasWaiting_27 (lv_at hl 0 rfl) ?_
      refine xr_iald C w (xJ26 hJ) rfl 0 rfl ((4 * a) + i) rfl (by omega) (by decide) dMD_hasWaiting_29 ?_
      refine lv_iconst (v := nI 1) hx hb dMD_hasWaiting_30 xk_i1 ?_
      refine lv_icmp_ne hx hb dMD_hasWaiting_31 rfl (fun hh2 => ?_) (fun hh2 => ?_)
      · skip
        refine lv_iconst (v := nI 0) hx hb dMD_hasWaiting_49 xk_i0 ?_
        refine xn_eq (y := xb (mp_wait σ a (i + 1) x)) (xb_f (fun z => by have q := (mp_wait_s σ a i x).mp z; grind)).symm ?_
        refine lv_istore_n (lv' := [(3, .int (xb (mp_wait σ a (i + 1) x))), (5, .int (nI ((4 * a) + i))), (0, .ref (ad 20 0)), (1, .int (nI a)), (2, .int x), (4, .int (nI i))]) hx hb dMD_hasWaiting_50 rfl hl (by decide) rfl (fun ls hl => ?_)
        refine lv_iinc (lv' := [(4, .int (nI (i + 1))), (3, .int (xb (mp_wait σ a (i + 1) x))), (5, .int (nI ((4 * a) + i))), (0, .ref (ad 20 0)), (1, .int (nI a)), (2, .int x)]) hx hb dMD_hasWaiting_51 hl (k := 5) rfl (xn_inc _) (by decide) rfl (fun ls hl => ?_)
        refine lv_goto hx hb dMD_hasWaiting_54 rfl ?_
        exact ihi _ _ _ ⟨w, lv_sub hl [3, 4, 5, 1, 0] rfl⟩
      · skip
        refine lv_aload_n hx hb dMD_hasWaiting_34 rfl (lv_at hl 1 rfl) ?_
        refine xg_MD_29 C w (xJ20 hJ) dMD_hasWaiting_35 ?_
        refine lv_iload hx hb dMD_hasWaiting_38 (lv_at hl 0 rfl) ?_
        refine xr_iald C w (xJ27 hJ) rfl 0 rfl ((4 * a) + i) rfl (by omega) (by decide) dMD_hasWaiting_40 ?_
        refine lv_iload_n hx hb dMD_hasWaiting_41 rfl (lv_at hl 3 rfl) ?_
        refine lv_icmp_ne hx hb dMD_hasWaiting_42 rfl (fun hh3 => ?_) (fun hh3 => ?_)
        · skip
          refine lv_iconst (v := nI 0) hx hb dMD_hasWaiting_49 xk_i0 ?_
          refine xn_eq (y := xb (mp_wait σ a (i + 1) x)) (xb_f (fun z => by have q := (mp_wait_s σ a i x).mp z; grind)).symm ?_
          refine lv_istore_n (lv' := [(3, .int (xb (mp_wait σ a (i + 1) x))), (5, .int (nI ((4 * a) + i))), (0, .ref (ad 20 0)), (1, .int (nI a)), (2, .int x), (4, .int (nI i))]) hx hb dMD_hasWaiting_50 rfl hl (by decide) rfl (fun ls hl => ?_)
          refine lv_iinc (lv' := [(4, .int (nI (i + 1))), (3, .int (xb (mp_wait σ a (i + 1) x))), (5, .int (nI ((4 * a) + i))), (0, .ref (ad 20 0)), (1, .int (nI a)), (2, .int x)]) hx hb dMD_hasWaiting_51 hl (k := 5) rfl (xn_inc _) (by decide) rfl (fun ls hl => ?_)
          refine lv_goto hx hb dMD_hasWaiting_54 rfl ?_
          exact ihi _ _ _ ⟨w, lv_sub hl [3, 4, 5, 1, 0] rfl⟩
        · skip
          refine lv_iconst (v := nI 1) hx hb dMD_hasWaiting_45 xk_i1 ?_
          refine lv_goto hx hb dMD_hasWaiting_46 rfl ?_
          refine xn_eq (y := xb (mp_wait σ a (i + 1) x)) (xb_t ((mp_wait_s σ a i x).mpr (by grind))).symm ?_
          refine lv_istore_n (lv' := [(3, .int (xb (mp_wait σ a (i + 1) x))), (5, .int (nI ((4 * a) + i))), (0, .ref (ad 20 0)), (1, .int (nI a)), (2, .int x), (4, .int (nI i))]) hx hb dMD_hasWaiting_50 rfl hl (by decide) rfl (fun ls hl => ?_)
          refine lv_iinc (lv' := [(4, .int (nI (i + 1))), (3, .int (xb (mp_wait σ a (i + 1) x))), (5, .int (nI ((4 * a) + i))), (0, .ref (ad 20 0)), (1, .int (nI a)), (2, .int x)]) hx hb dMD_hasWaiting_51 hl (k := 5) rfl (xn_inc _) (by decide) rfl (fun ls hl => ?_)
          refine lv_goto hx hb dMD_hasWaiting_54 rfl ?_
          exact ihi _ _ _ ⟨w, lv_sub hl [3, 4, 5, 1, 0] rfl⟩
set_option maxRecDepth 100000 in
set_option maxHeartbeats 4000000 in
theorem cMD_isOpen (l : Launch) (D : va_G) (cA : Nat → ClassId) (tz : Nat) (I : List (Nat × Nat)) (ad : Nat → Nat → Nat) (σ : xMem) (r : Nat) (hJ : xJ I) (hr16 : r < 16) : xD l yMD_isOpen bMD_isOpen 2 (some .boolean) 1 [.ref (ad 20 0), .int (nI r)] D cA tz I ad σ (some (.int (xb (mp_open σ r)))) σ := by
  refine xd_of (by decide) (by simp [lg_sl, Value.category]) ?_
  intro p e s m args below meth c A ls C hr hlk hml hl w hz
  obtain ⟨hx, hb, hown, hts⟩ := id C
  have hl : lv_has ls 2 [(0, .ref (ad 20 0)), (1, .int (nI r))] := hl
  refine lv_aload_n hx hb dMD_isOpen_0 rfl (lv_at hl 0 rfl) ?_
  refine xg_MD_26 C w (xJ20 hJ) dMD_isOpen_1 ?_
  refine lv_iload_n hx hb dMD_isOpen_4 rfl (lv_at hl 1 rfl) ?_
  refine xr_iald C w (xJ26 hJ) rfl 0 rfl r rfl (by omega) (by decide) dMD_isOpen_5 ?_
  refine lv_iconst (v := nI 1) hx hb dMD_isOpen_6 xk_i1 ?_
  refine lv_icmp_eq hx hb dMD_isOpen_7 rfl (fun hh1 => ?_) (fun hh1 => ?_)
  · skip
    refine lv_iconst (v := nI 1) hx hb dMD_isOpen_20 xk_i1 ?_
    refine lv_goto hx hb dMD_isOpen_21 rfl ?_
    exact xd_zt C w hr hlk dMD_isOpen_25 (by unfold mp_open; grind [nI_0]) rfl
  · skip
    refine lv_aload_n hx hb dMD_isOpen_10 rfl (lv_at hl 0 rfl) ?_
    refine xg_MD_26 C w (xJ20 hJ) dMD_isOpen_11 ?_
    refine lv_iload_n hx hb dMD_isOpen_14 rfl (lv_at hl 1 rfl) ?_
    refine xr_iald C w (xJ26 hJ) rfl 0 rfl r rfl (by omega) (by decide) dMD_isOpen_15 ?_
    refine lv_iconst (v := nI 2) hx hb dMD_isOpen_16 xk_i2 ?_
    refine lv_icmp_ne hx hb dMD_isOpen_17 rfl (fun hh2 => ?_) (fun hh2 => ?_)
    · skip
      refine lv_iconst (v := nI 0) hx hb dMD_isOpen_24 xk_i0 ?_
      exact xd_zf C w hr hlk dMD_isOpen_25 (by unfold mp_open; grind [nI_0]) rfl
    · skip
      refine lv_iconst (v := nI 1) hx hb dMD_isOpen_20 xk_i1 ?_
      refine lv_goto hx hb dMD_isOpen_21 rfl ?_
      exact xd_zt C w hr hlk dMD_isOpen_25 (by unfold mp_open; grind [nI_0]) rfl
set_option maxRecDepth 100000 in
set_option maxHeartbeats 4000000 in
theorem cMD_target (l : Launch) (D : va_G) (cA : Nat → ClassId) (tz : Nat) (I : List (Nat × Nat)) (ad : Nat → Nat → Nat) (σ : xMem) (r : Nat) (hJ : xJ I) (hr16 : r < 16) : xD l yMD_target bMD_target 2 (some .int) 1 [.ref (ad 20 0), .int (nI r)] D cA tz I ad σ (some (.int (σ 28 0 r / nI 16))) σ := by
  refine xd_of (by decide) (by simp [lg_sl, Value.category]) ?_
  intro p e s m args below meth c A ls C hr hlk hml hl w hz
  obtain ⟨hx, hb, hown, hts⟩ := id C
  have hl : lv_has ls 2 [(0, .ref (ad 20 0)), (1, .int (nI r))] := hl
  refine lv_aload_n hx hb dMD_target_0 rfl (lv_at hl 0 rfl) ?_
  refine xg_MD_32 C w (xJ20 hJ) dMD_target_1 ?_
  refine lv_iload_n hx hb dMD_target_4 rfl (lv_at hl 1 rfl) ?_
  refine xr_iald C w (xJ28 hJ) rfl 0 rfl r rfl (by omega) (by decide) dMD_target_5 ?_
  refine lv_bipush (v := nI 16) hx hb dMD_target_6 xk_b16 ?_
  refine lv_idiv hx hb dMD_target_8 (by decide) ?_
  exact xd_iret C w hr hlk dMD_target_9 (rfl) rfl
set_option maxRecDepth 100000 in
set_option maxHeartbeats 4000000 in
theorem cMD_isMapped (l : Launch) (D : va_G) (cA : Nat → ClassId) (tz : Nat) (I : List (Nat × Nat)) (ad : Nat → Nat → Nat) (σ : xMem) (r : Nat) (hJ : xJ I) (hr16 : r < 16) : xD l yMD_isMapped bMD_isMapped 2 (some .boolean) 1 [.ref (ad 20 0), .int (nI r)] D cA tz I ad σ (some (.int (xb (mp_map σ r)))) σ := by
  refine xd_of (by decide) (by simp [lg_sl, Value.category]) ?_
  intro p e s m args below meth c A ls C hr hlk hml hl w hz
  obtain ⟨hx, hb, hown, hts⟩ := id C
  have hl : lv_has ls 2 [(0, .ref (ad 20 0)), (1, .int (nI r))] := hl
  refine lv_aload_n hx hb dMD_isMapped_0 rfl (lv_at hl 0 rfl) ?_
  refine xg_MD_29 C w (xJ20 hJ) dMD_isMapped_1 ?_
  refine lv_iload_n hx hb dMD_isMapped_4 rfl (lv_at hl 1 rfl) ?_
  refine xr_iald C w (xJ27 hJ) rfl 0 rfl r rfl (by omega) (by decide) dMD_isMapped_5 ?_
  refine lv_iconst (v := nI 4) hx hb dMD_isMapped_6 xk_i4 ?_
  refine lv_icmp_eq hx hb dMD_isMapped_7 rfl (fun hh1 => ?_) (fun hh1 => ?_)
  · skip
    refine lv_iconst (v := nI 0) hx hb dMD_isMapped_25 xk_i0 ?_
    exact xd_zf C w hr hlk dMD_isMapped_26 (by unfold mp_map; grind [nI_0]) rfl
  · skip
    refine lv_aload_n hx hb dMD_isMapped_10 rfl (lv_at hl 0 rfl) ?_
    refine xg_MD_32 C w (xJ20 hJ) dMD_isMapped_11 ?_
    refine lv_iload_n hx hb dMD_isMapped_14 rfl (lv_at hl 1 rfl) ?_
    refine xr_iald C w (xJ28 hJ) rfl 0 rfl r rfl (by omega) (by decide) dMD_isMapped_15 ?_
    refine lv_bipush (v := nI 48) hx hb dMD_isMapped_16 xk_b48 ?_
    refine lv_icmp_ge hx hb dMD_isMapped_18 rfl (fun hh2 => ?_) (fun hh2 => ?_)
    · skip
      refine lv_iconst (v := nI 0) hx hb dMD_isMapped_25 xk_i0 ?_
      exact xd_zf C w hr hlk dMD_isMapped_26 (by unfold mp_map; grind [nI_0]) rfl
    · skip
      refine lv_iconst (v := nI 1) hx hb dMD_isMapped_21 xk_i1 ?_
      refine lv_goto hx hb dMD_isMapped_22 rfl ?_
      exact xd_zt C w hr hlk dMD_isMapped_26 (by unfold mp_map; grind [nI_0]) rfl
set_option maxRecDepth 100000 in
set_option maxHeartbeats 4000000 in
theorem cMD_meet (l : Launch) (D : va_G) (cA : Nat → ClassId) (tz : Nat) (I : List (Nat × Nat)) (ad : Nat → Nat → Nat) (σ : xMem) (r q : Nat) (hJ : xJ I) (hr16 : r < 16) (hq16 : q < 16) : xD l yMD_meet bMD_meet 3 (some .boolean) 1 [.ref (ad 20 0), .int (nI r), .int (nI q)] D cA tz I ad σ (some (.int (xb (mp_meet σ r q)))) σ := by
  refine xd_of (by decide) (by simp [lg_sl, Value.category]) ?_
  intro p e s m args below meth c A ls C hr hlk hml hl w hz
  obtain ⟨hx, hb, hown, hts⟩ := id C
  have hl : lv_has ls 3 [(0, .ref (ad 20 0)), (1, .int (nI r)), (2, .int (nI q))] := hl
  refine lv_aload_n hx hb dMD_meet_0 rfl (lv_at hl 0 rfl) ?_
  refine xg_MD_29 C w (xJ20 hJ) dMD_meet_1 ?_
  refine lv_iload_n hx hb dMD_meet_4 rfl (lv_at hl 1 rfl) ?_
  refine xr_iald C w (xJ27 hJ) rfl 0 rfl r rfl (by omega) (by decide) dMD_meet_5 ?_
  refine lv_iconst (v := nI 4) hx hb dMD_meet_6 xk_i4 ?_
  refine lv_icmp_eq hx hb dMD_meet_7 rfl (fun hh1 => ?_) (fun hh1 => ?_)
  · skip
    refine lv_iconst (v := nI 0) hx hb dMD_meet_68 xk_i0 ?_
    exact xd_zf C w hr hlk dMD_meet_69 (by unfold mp_meet; grind [nI_0]) rfl
  · skip
    refine lv_aload_n hx hb dMD_meet_10 rfl (lv_at hl 0 rfl) ?_
    refine xg_MD_29 C w (xJ20 hJ) dMD_meet_11 ?_
    refine lv_iload_n hx hb dMD_meet_14 rfl (lv_at hl 2 rfl) ?_
    refine xr_iald C w (xJ27 hJ) rfl 0 rfl q rfl (by omega) (by decide) dMD_meet_15 ?_
    refine lv_iconst (v := nI 4) hx hb dMD_meet_16 xk_i4 ?_
    refine lv_icmp_eq hx hb dMD_meet_17 rfl (fun hh2 => ?_) (fun hh2 => ?_)
    · skip
      refine lv_iconst (v := nI 0) hx hb dMD_meet_68 xk_i0 ?_
      exact xd_zf C w hr hlk dMD_meet_69 (by unfold mp_meet; grind [nI_0]) rfl
    · skip
      refine lv_aload_n hx hb dMD_meet_20 rfl (lv_at hl 0 rfl) ?_
      refine xg_MD_32 C w (xJ20 hJ) dMD_meet_21 ?_
      refine lv_iload_n hx hb dMD_meet_24 rfl (lv_at hl 1 rfl) ?_
      refine xr_iald C w (xJ28 hJ) rfl 0 rfl r rfl (by omega) (by decide) dMD_meet_25 ?_
      refine lv_aload_n hx hb dMD_meet_26 rfl (lv_at hl 0 rfl) ?_
      refine xg_MD_32 C w (xJ20 hJ) dMD_meet_27 ?_
      refine lv_iload_n hx hb dMD_meet_30 rfl (lv_at hl 2 rfl) ?_
      refine xr_iald C w (xJ28 hJ) rfl 0 rfl q rfl (by omega) (by decide) dMD_meet_31 ?_
      refine lv_aload_n hx hb dMD_meet_32 rfl (lv_at hl 0 rfl) ?_
      refine xg_MD_35 C w (xJ20 hJ) dMD_meet_33 ?_
      refine lv_iload_n hx hb dMD_meet_36 rfl (lv_at hl 2 rfl) ?_
      refine xr_iald C w (xJ29 hJ) rfl 0 rfl q rfl (by omega) (by decide) dMD_meet_37 ?_
      refine lv_iadd hx hb dMD_meet_38 ?_
      refine lv_icmp_ge hx hb dMD_meet_39 rfl (fun hh3 => ?_) (fun hh3 => ?_)
      · skip
        refine lv_iconst (v := nI 0) hx hb dMD_meet_68 xk_i0 ?_
        exact xd_zf C w hr hlk dMD_meet_69 (by unfold mp_meet; grind [nI_0]) rfl
      · skip
        refine lv_aload_n hx hb dMD_meet_42 rfl (lv_at hl 0 rfl) ?_
        refine xg_MD_32 C w (xJ20 hJ) dMD_meet_43 ?_
        refine lv_iload_n hx hb dMD_meet_46 rfl (lv_at hl 2 rfl) ?_
        refine xr_iald C w (xJ28 hJ) rfl 0 rfl q rfl (by omega) (by decide) dMD_meet_47 ?_
        refine lv_aload_n hx hb dMD_meet_48 rfl (lv_at hl 0 rfl) ?_
        refine xg_MD_32 C w (xJ20 hJ) dMD_meet_49 ?_
        refine lv_iload_n hx hb dMD_meet_52 rfl (lv_at hl 1 rfl) ?_
        refine xr_iald C w (xJ28 hJ) rfl 0 rfl r rfl (by omega) (by decide) dMD_meet_53 ?_
        refine lv_aload_n hx hb dMD_meet_54 rfl (lv_at hl 0 rfl) ?_
        refine xg_MD_35 C w (xJ20 hJ) dMD_meet_55 ?_
        refine lv_iload_n hx hb dMD_meet_58 rfl (lv_at hl 1 rfl) ?_
        refine xr_iald C w (xJ29 hJ) rfl 0 rfl r rfl (by omega) (by decide) dMD_meet_59 ?_
        refine lv_iadd hx hb dMD_meet_60 ?_
        refine lv_icmp_ge hx hb dMD_meet_61 rfl (fun hh4 => ?_) (fun hh4 => ?_)
        · skip
          refine lv_iconst (v := nI 0) hx hb dMD_meet_68 xk_i0 ?_
          exact xd_zf C w hr hlk dMD_meet_69 (by unfold mp_meet; grind [nI_0]) rfl
        · skip
          refine lv_iconst (v := nI 1) hx hb dMD_meet_64 xk_i1 ?_
          refine lv_goto hx hb dMD_meet_65 rfl ?_
          exact xd_zt C w hr hlk dMD_meet_69 (by unfold mp_meet; grind [nI_0]) rfl
set_option maxRecDepth 100000 in
set_option maxHeartbeats 4000000 in
theorem cMD_creditsOf (l : Launch) (D : va_G) (cA : Nat → ClassId) (tz : Nat) (I : List (Nat × Nat)) (ad : Nat → Nat → Nat) (σ : xMem) (x : Int32) (hJ : xJ I) : xD l yMD_creditsOf bMD_creditsOf 4 (some .int) 2 [.ref (ad 20 0), .int x] D cA tz I ad σ (some (.int (mf_cr σ x 16))) σ := by
  refine xd_of (by decide) (by simp [lg_sl, Value.category]) ?_
  intro p e s m args below meth c A ls C hr hlk hml hl w hz
  obtain ⟨hx, hb, hown, hts⟩ := id C
  have hl : lv_has ls 4 [(0, .ref (ad 20 0)), (1, .int x)] := hl
  refine lv_iconst (v := nI 4) hx hb dMD_creditsOf_0 xk_i4 ?_
  refine lv_istore_n (lv' := [(2, .int (nI 4)), (0, .ref (ad 20 0)), (1, .int x)]) hx hb dMD_creditsOf_1 rfl hl (by decide) rfl (fun ls hl => ?_)
  have hl : lv_has ls 4 [(2, .int (mf_cr σ x 0)), (0, .ref (ad 20 0)), (1, .int x)] := hl
  refine lv_iconst (v := nI 0) hx hb dMD_creditsOf_2 xk_i0 ?_
  refine lv_istore_n (lv' := [(3, .int (nI 0)), (2, .int (mf_cr σ x 0)), (0, .ref (ad 20 0)), (1, .int x)]) hx hb dMD_creditsOf_3 rfl hl (by decide) rfl (fun ls hl => ?_)
  refine xl_up (Wg := fun H locs ls => W p l e _ s m args below meth c H locs _ _ _ (F0 m 4 ls [])) (K := fun i H locs ls => xr_W xCl (xT cA) D I ad (xc cA tz ad σ) A s H locs ∧ lv_has ls 4 [(0, .ref (ad 20 0)), (1, .int x), (2, .int (mf_cr σ x i)), (3, .int (nI i))]) 16 ?_ ?_ 0 _ _ _ (by omega) ⟨w, lv_sub hl [2, 3, 1, 0] rfl⟩
  · skip
    intro H locs ls ⟨w, hl⟩
    refine lv_iload_n hx hb dMD_creditsOf_4 rfl (lv_at hl 3 rfl) ?_
    refine lv_bipush (v := nI 16) hx hb dMD_creditsOf_5 xk_b16 ?_
    refine lv_icmp_ge hx hb dMD_creditsOf_7 rfl (fun _ => ?_) (fun hq => absurd (nI_le (by omega) (by omega)) hq)
    refine lv_iload_n hx hb dMD_creditsOf_43 rfl (lv_at hl 2 rfl) ?_
    exact xd_iret C w hr hlk dMD_creditsOf_44 (rfl) rfl
  · skip
    intro i H locs ls hii ⟨w, hl⟩ ihi
    refine lv_iload_n hx hb dMD_creditsOf_4 rfl (lv_at hl 3 rfl) ?_
    refine lv_bipush (v := nI 16) hx hb dMD_creditsOf_5 xk_b16 ?_
    refine lv_icmp_ge hx hb dMD_creditsOf_7 rfl (fun hq => absurd hq (nI_ge (by omega) (by omega))) (fun _ => ?_)
    refine lv_aload_n hx hb dMD_creditsOf_10 rfl (lv_at hl 0 rfl) ?_
    refine xg_MD_26 C w (xJ20 hJ) dMD_creditsOf_11 ?_
    refine lv_iload_n hx hb dMD_creditsOf_14 rfl (lv_at hl 3 rfl) ?_
    refine xr_iald C w (xJ26 hJ) rfl 0 rfl i rfl (by omega) (by decide) dMD_creditsOf_15 ?_
    refine lv_iconst (v := nI 2) hx hb dMD_creditsOf_16 xk_i2 ?_
    refine lv_icmp_ne hx hb dMD_creditsOf_17 rfl (fun hh1 => ?_) (fun hh1 => ?_)
    · skip
      refine lv_iload_n hx hb dMD_creditsOf_35 rfl (lv_at hl 2 rfl) ?_
      refine xn_eq (y := mf_cr σ x (i + 1)) (mf_cr_f (by grind)) ?_
      refine lv_istore_n (lv' := [(2, .int (mf_cr σ x (i + 1))), (0, .ref (ad 20 0)), (1, .int x), (3, .int (nI i))]) hx hb dMD_creditsOf_36 rfl hl (by decide) rfl (fun ls hl => ?_)
      refine lv_iinc (lv' := [(3, .int (nI (i + 1))), (2, .int (mf_cr σ x (i + 1))), (0, .ref (ad 20 0)), (1, .int x)]) hx hb dMD_creditsOf_37 hl (k := 3) rfl (xn_inc _) (by decide) rfl (fun ls hl => ?_)
      refine lv_goto hx hb dMD_creditsOf_40 rfl ?_
      exact ihi _ _ _ ⟨w, lv_sub hl [2, 3, 1, 0] rfl⟩
    · skip
      refine lv_aload_n hx hb dMD_creditsOf_20 rfl (lv_at hl 0 rfl) ?_
      refine lv_iload_n hx hb dMD_creditsOf_21 rfl (lv_at hl 3 rfl) ?_
      refine xd_callV C w hz hml hl.1 xk_MD_91 (cMD_target l D cA tz I ad σ i hJ (by omega)) (xJ20 hJ) rfl rfl rfl rfl (Nat.le_of_ble_eq_true rfl) (by decide) (by decide) dMD_creditsOf_22 (fun H locs w => ?_)
      refine W.eq (g2 := F0 m 25 ls [.int (σ 28 0 i / nI 16)]) rfl ?_
      refine lv_iload_n hx hb dMD_creditsOf_25 rfl (lv_at hl 1 rfl) ?_
      refine lv_icmp_ne hx hb dMD_creditsOf_26 rfl (fun hh2 => ?_) (fun hh2 => ?_)
      · skip
        refine lv_iload_n hx hb dMD_creditsOf_35 rfl (lv_at hl 2 rfl) ?_
        refine xn_eq (y := mf_cr σ x (i + 1)) (mf_cr_f (by grind)) ?_
        refine lv_istore_n (lv' := [(2, .int (mf_cr σ x (i + 1))), (0, .ref (ad 20 0)), (1, .int x), (3, .int (nI i))]) hx hb dMD_creditsOf_36 rfl hl (by decide) rfl (fun ls hl => ?_)
        refine lv_iinc (lv' := [(3, .int (nI (i + 1))), (2, .int (mf_cr σ x (i + 1))), (0, .ref (ad 20 0)), (1, .int x)]) hx hb dMD_creditsOf_37 hl (k := 3) rfl (xn_inc _) (by decide) rfl (fun ls hl => ?_)
        refine lv_goto hx hb dMD_creditsOf_40 rfl ?_
        exact ihi _ _ _ ⟨w, lv_sub hl [2, 3, 1, 0] rfl⟩
      · skip
        refine lv_iload_n hx hb dMD_creditsOf_29 rfl (lv_at hl 2 rfl) ?_
        refine lv_iconst (v := nI 1) hx hb dMD_creditsOf_30 xk_i1 ?_
        refine lv_isub hx hb dMD_creditsOf_31 ?_
        refine lv_goto hx hb dMD_creditsOf_32 rfl ?_
        refine xn_eq (y := mf_cr σ x (i + 1)) (mf_cr_t (by assumption) (by assumption)) ?_
        refine lv_istore_n (lv' := [(2, .int (mf_cr σ x (i + 1))), (0, .ref (ad 20 0)), (1, .int x), (3, .int (nI i))]) hx hb dMD_creditsOf_36 rfl hl (by decide) rfl (fun ls hl => ?_)
        refine lv_iinc (lv' := [(3, .int (nI (i + 1))), (2, .int (mf_cr σ x (i + 1))), (0, .ref (ad 20 0)), (1, .int x)]) hx hb dMD_creditsOf_37 hl (k := 3) rfl (xn_inc _) (by decide) rfl (fun ls hl => ?_)
        refine lv_goto hx hb dMD_creditsOf_40 rfl ?_
        exact ihi _ _ _ ⟨w, lv_sub hl [2, 3, 1, 0] rfl⟩
set_option maxRecDepth 100000 in
set_option maxHeartbeats 4000000 in
theorem cMD_firstOf (l : Launch) (D : va_G) (cA : Nat → ClassId) (tz : Nat) (I : List (Nat × Nat)) (ad : Nat → Nat → Nat) (σ : xMem) (x : Int32) (hJ : xJ I) : xD l yMD_firstOf bMD_firstOf 5 (some .int) 2 [.ref (ad 20 0), .int x] D cA tz I ad σ (some (.int (xoi (mf_fst σ x 16)))) σ := by
  refine xd_of (by decide) (by simp [lg_sl, Value.category]) ?_
  intro p e s m args below meth c A ls C hr hlk hml hl w hz
  obtain ⟨hx, hb, hown, hts⟩ := id C
  have hl : lv_has ls 5 [(0, .ref (ad 20 0)), (1, .int x)] := hl
  refine lv_iconst (v := -1) hx hb dMD_firstOf_0 xk_im1 ?_
  refine lv_istore_n (lv' := [(2, .int (-1)), (0, .ref (ad 20 0)), (1, .int x)]) hx hb dMD_firstOf_1 rfl hl (by decide) rfl (fun ls hl => ?_)
  have hl : lv_has ls 5 [(2, .int (xoi (mf_fst σ x 0))), (0, .ref (ad 20 0)), (1, .int x)] := hl
  refine lv_iconst (v := nI 0) hx hb dMD_firstOf_2 xk_i0 ?_
  refine lv_istore_n (lv' := [(3, .int (nI 0)), (2, .int (xoi (mf_fst σ x 0))), (0, .ref (ad 20 0)), (1, .int x)]) hx hb dMD_firstOf_3 rfl hl (by decide) rfl (fun ls hl => ?_)
  refine xl_up (Wg := fun H locs ls => W p l e _ s m args below meth c H locs _ _ _ (F0 m 4 ls [])) (K := fun i H locs ls => xr_W xCl (xT cA) D I ad (xc cA tz ad σ) A s H locs ∧ lv_has ls 5 [(0, .ref (ad 20 0)), (1, .int x), (2, .int (xoi (mf_fst σ x i))), (3, .int (nI i))]) 16 ?_ ?_ 0 _ _ _ (by omega) ⟨w, lv_sub hl [2, 3, 1, 0] rfl⟩
  · skip
    intro H locs ls ⟨w, hl⟩
    refine lv_iload_n hx hb dMD_firstOf_4 rfl (lv_at hl 3 rfl) ?_
    refine lv_bipush (v := nI 16) hx hb dMD_firstOf_5 xk_b16 ?_
    refine lv_icmp_ge hx hb dMD_firstOf_7 rfl (fun _ => ?_) (fun hq => absurd (nI_le (by omega) (by omega)) hq)
    refine lv_iload_n hx hb dMD_firstOf_81 rfl (lv_at hl 2 rfl) ?_
    exact xd_iret C w hr hlk dMD_firstOf_82 (rfl) rfl
  · skip
    intro i H locs ls hii ⟨w, hl⟩ ihi
    refine lv_iload_n hx hb dMD_firstOf_4 rfl (lv_at hl 3 rfl) ?_
    refine lv_bipush (v := nI 16) hx hb dMD_firstOf_5 xk_b16 ?_
    refine lv_icmp_ge hx hb dMD_firstOf_7 rfl (fun hq => absurd hq (nI_ge (by omega) (by omega))) (fun _ => ?_)
    refine lv_aload_n hx hb dMD_firstOf_10 rfl (lv_at hl 0 rfl) ?_
    refine xg_MD_26 C w (xJ20 hJ) dMD_firstOf_11 ?_
    refine lv_iload_n hx hb dMD_firstOf_14 rfl (lv_at hl 3 rfl) ?_
    refine xr_iald C w (xJ26 hJ) rfl 0 rfl i rfl (by omega) (by decide) dMD_firstOf_15 ?_
    refine lv_iconst (v := nI 2) hx hb dMD_firstOf_16 xk_i2 ?_
    refine lv_icmp_ne hx hb dMD_firstOf_17 rfl (fun hh1 => ?_) (fun hh1 => ?_)
    · skip
      refine lv_iconst (v := nI 0) hx hb dMD_firstOf_42 xk_i0 ?_
      refine lv_istore (lv' := [(4, .int (nI 0)), (0, .ref (ad 20 0)), (1, .int x), (2, .int (xoi (mf_fst σ x i))), (3, .int (nI i))]) hx hb dMD_firstOf_43 hl (by decide) rfl (fun ls hl => ?_)
      refine lv_iload hx hb dMD_firstOf_45 (lv_at hl 0 rfl) ?_
      refine lv_if_eq hx hb dMD_firstOf_47 rfl (fun _ => ?_) (fun hq => absurd nI_0 hq)
      refine lv_iload_n hx hb dMD_firstOf_73 rfl (lv_at hl 3 rfl) ?_
      refine xn_eq (y := xoi (mf_fst σ x (i + 1))) (congrArg xoi (show mf_fst σ x i = mf_fst σ x (i + 1) by rw [mf_fst_s]; unfold xf_step; rw [xif_f (fun z => absurd z.1 (by unfold mp_inq; grind))])) ?_
      refine lv_istore_n (lv' := [(2, .int (xoi (mf_fst σ x (i + 1)))), (4, .int (nI 0)), (0, .ref (ad 20 0)), (1, .int x), (3, .int (nI i))]) hx hb dMD_firstOf_74 rfl hl (by decide) rfl (fun ls hl => ?_)
      refine lv_iinc (lv' := [(3, .int (nI (i + 1))), (2, .int (xoi (mf_fst σ x (i + 1)))), (4, .int (nI 0)), (0, .ref (ad 20 0)), (1, .int x)]) hx hb dMD_firstOf_75 hl (k := 4) rfl (xn_inc _) (by decide) rfl (fun ls hl => ?_)
      refine lv_goto hx hb dMD_firstOf_78 rfl ?_
      exact ihi _ _ _ ⟨w, lv_sub hl [3, 4, 1, 0] rfl⟩
    · skip
      refine lv_aload_n hx hb dMD_firstOf_20 rfl (lv_at hl 0 rfl) ?_
      refine xg_MD_44 C w (xJ20 hJ) dMD_firstOf_21 ?_
      refine lv_iload_n hx hb dMD_firstOf_24 rfl (lv_at hl 3 rfl) ?_
      refine xr_iald C w (xJ32 hJ) rfl 0 rfl i rfl (by omega) (by decide) dMD_firstOf_25 ?_
      refine lv_if_le hx hb dMD_firstOf_26 rfl (fun hh2 => ?_) (fun hh2 => ?_)
      · skip
        refine lv_iconst (v := nI 0) hx hb dMD_firstOf_42 xk_i0 ?_
        refine lv_istore (lv' := [(4, .int (nI 0)), (0, .ref (ad 20 0)), (1, .int x), (2, .int (xoi (mf_fst σ x i))), (3, .int (nI i))]) hx hb dMD_firstOf_43 hl (by decide) rfl (fun ls hl => ?_)
        refine lv_iload hx hb dMD_firstOf_45 (lv_at hl 0 rfl) ?_
        refine lv_if_eq hx hb dMD_firstOf_47 rfl (fun _ => ?_) (fun hq => absurd nI_0 hq)
        refine lv_iload_n hx hb dMD_firstOf_73 rfl (lv_at hl 3 rfl) ?_
        refine xn_eq (y := xoi (mf_fst σ x (i + 1))) (congrArg xoi (show mf_fst σ x i = mf_fst σ x (i + 1) by rw [mf_fst_s]; unfold xf_step; rw [xif_f (fun z => absurd z.1 (by unfold mp_inq; grind))])) ?_
        refine lv_istore_n (lv' := [(2, .int (xoi (mf_fst σ x (i + 1)))), (4, .int (nI 0)), (0, .ref (ad 20 0)), (1, .int x), (3, .int (nI i))]) hx hb dMD_firstOf_74 rfl hl (by decide) rfl (fun ls hl => ?_)
        refine lv_iinc (lv' := [(3, .int (nI (i + 1))), (2, .int (xoi (mf_fst σ x (i + 1)))), (4, .int (nI 0)), (0, .ref (ad 20 0)), (1, .int x)]) hx hb dMD_firstOf_75 hl (k := 4) rfl (xn_inc _) (by decide) rfl (fun ls hl => ?_)
        refine lv_goto hx hb dMD_firstOf_78 rfl ?_
        exact ihi _ _ _ ⟨w, lv_sub hl [3, 4, 1, 0] rfl⟩
      · skip
        refine lv_aload_n hx hb dMD_firstOf_29 rfl (lv_at hl 0 rfl) ?_
        refine lv_iload_n hx hb dMD_firstOf_30 rfl (lv_at hl 3 rfl) ?_
        refine xd_callV C w hz hml hl.1 xk_MD_91 (cMD_target l D cA tz I ad σ i hJ (by omega)) (xJ20 hJ) rfl rfl rfl rfl (Nat.le_of_ble_eq_true rfl) (by decide) (by decide) dMD_firstOf_31 (fun H locs w => ?_)
        refine W.eq (g2 := F0 m 34 ls [.int (σ 28 0 i / nI 16)]) rfl ?_
        refine lv_iload_n hx hb dMD_firstOf_34 rfl (lv_at hl 1 rfl) ?_
        refine lv_icmp_ne hx hb dMD_firstOf_35 rfl (fun hh3 => ?_) (fun hh3 => ?_)
        · skip
          refine lv_iconst (v := nI 0) hx hb dMD_firstOf_42 xk_i0 ?_
          refine lv_istore (lv' := [(4, .int (nI 0)), (0, .ref (ad 20 0)), (1, .int x), (2, .int (xoi (mf_fst σ x i))), (3, .int (nI i))]) hx hb dMD_firstOf_43 hl (by decide) rfl (fun ls hl => ?_)
          refine lv_iload hx hb dMD_firstOf_45 (lv_at hl 0 rfl) ?_
          refine lv_if_eq hx hb dMD_firstOf_47 rfl (fun _ => ?_) (fun hq => absurd nI_0 hq)
          refine lv_iload_n hx hb dMD_firstOf_73 rfl (lv_at hl 3 rfl) ?_
          refine xn_eq (y := xoi (mf_fst σ x (i + 1))) (congrArg xoi (show mf_fst σ x i = mf_fst σ x (i + 1) by rw [mf_fst_s]; unfold xf_step; rw [xif_f (fun z => absurd z.1 (by unfold mp_inq; grind))])) ?_
          refine lv_istore_n (lv' := [(2, .int (xoi (mf_fst σ x (i + 1)))), (4, .int (nI 0)), (0, .ref (ad 20 0)), (1, .int x), (3, .int (nI i))]) hx hb dMD_firstOf_74 rfl hl (by decide) rfl (fun ls hl => ?_)
          refine lv_iinc (lv' := [(3, .int (nI (i + 1))), (2, .int (xoi (mf_fst σ x (i + 1)))), (4, .int (nI 0)), (0, .ref (ad 20 0)), (1, .int x)]) hx hb dMD_firstOf_75 hl (k := 4) rfl (xn_inc _) (by decide) rfl (fun ls hl => ?_)
          refine lv_goto hx hb dMD_firstOf_78 rfl ?_
          exact ihi _ _ _ ⟨w, lv_sub hl [3, 4, 1, 0] rfl⟩
        · skip
          refine lv_iconst (v := nI 1) hx hb dMD_firstOf_38 xk_i1 ?_
          refine lv_goto hx hb dMD_firstOf_39 rfl ?_
          refine lv_istore (lv' := [(4, .int (nI 1)), (0, .ref (ad 20 0)), (1, .int x), (2, .int (xoi (mf_fst σ x i))), (3, .int (nI i))]) hx hb dMD_firstOf_43 hl (by decide) rfl (fun ls hl => ?_)
          refine lv_iload hx hb dMD_firstOf_45 (lv_at hl 0 rfl) ?_
          refine lv_if_eq hx hb dMD_firstOf_47 rfl (fun hq => absurd hq (by decide)) (fun _ => ?_)
          rcases hbe : mf_fst σ x i with _ | b
          · skip
            have hl : lv_has ls 5 [(4, .int (nI 1)), (0, .ref (ad 20 0)), (1, .int x), (2, .int (-1)), (3, .int (nI i))] := by rw [hbe] at hl; exact hl
            refine lv_iload_n hx hb dMD_firstOf_50 rfl (lv_at hl 3 rfl) ?_
            refine lv_if_lt hx hb dMD_firstOf_51 rfl (fun _ => ?_) (fun hq => absurd (by decide) hq)
            refine lv_iload_n hx hb dMD_firstOf_69 rfl (lv_at hl 4 rfl) ?_
            refine lv_goto hx hb dMD_firstOf_70 rfl ?_
            refine xn_eq (y := xoi (mf_fst σ x (i + 1))) (show nI i = xoi (mf_fst σ x (i + 1)) by rw [mf_fst_s]; unfold xf_step; rw [xif_t ⟨(by unfold mp_inq; grind), fun x hx => (by rw [hbe] at hx; cases hx)⟩]; rfl) ?_
            refine lv_istore_n (lv' := [(2, .int (xoi (mf_fst σ x (i + 1)))), (4, .int (nI 1)), (0, .ref (ad 20 0)), (1, .int x), (3, .int (nI i))]) hx hb dMD_firstOf_74 rfl hl (by decide) rfl (fun ls hl => ?_)
            refine lv_iinc (lv' := [(3, .int (nI (i + 1))), (2, .int (xoi (mf_fst σ x (i + 1)))), (4, .int (nI 1)), (0, .ref (ad 20 0)), (1, .int x)]) hx hb dMD_firstOf_75 hl (k := 4) rfl (xn_inc _) (by decide) rfl (fun ls hl => ?_)
            refine lv_goto hx hb dMD_firstOf_78 rfl ?_
            exact ihi _ _ _ ⟨w, lv_sub hl [3, 4, 1, 0] rfl⟩
          · skip
            have hl : lv_has ls 5 [(4, .int (nI 1)), (0, .ref (ad 20 0)), (1, .int x), (2, .int (nI b)), (3, .int (nI i))] := by rw [hbe] at hl; exact hl
            have hb16 := mf_fst_lt hbe
            refine lv_iload_n hx hb dMD_firstOf_50 rfl (lv_at hl 3 rfl) ?_
            refine lv_if_lt hx hb dMD_firstOf_51 rfl (fun hq => absurd hq (nI_pos (by omega))) (fun _ => ?_)
            refine lv_aload_n hx hb dMD_firstOf_54 rfl (lv_at hl 1 rfl) ?_
            refine xg_MD_44 C w (xJ20 hJ) dMD_firstOf_55 ?_
            refine lv_iload_n hx hb dMD_firstOf_58 rfl (lv_at hl 4 rfl) ?_
            refine xr_iald C w (xJ32 hJ) rfl 0 rfl i rfl (by omega) (by decide) dMD_firstOf_59 ?_
            refine lv_aload_n hx hb dMD_firstOf_60 rfl (lv_at hl 1 rfl) ?_
            refine xg_MD_44 C w (xJ20 hJ) dMD_firstOf_61 ?_
            refine lv_iload_n hx hb dMD_firstOf_64 rfl (lv_at hl 3 rfl) ?_
            refine xr_iald C w (xJ32 hJ) rfl 0 rfl b rfl (by omega) (by decide) dMD_firstOf_65 ?_
            refine lv_icmp_ge hx hb dMD_firstOf_66 rfl (fun hh4 => ?_) (fun hh4 => ?_)
            · skip
              refine lv_iload_n hx hb dMD_firstOf_73 rfl (lv_at hl 3 rfl) ?_
              refine xn_eq (y := xoi (mf_fst σ x (i + 1))) (show nI b = xoi (mf_fst σ x (i + 1)) by rw [mf_fst_s]; unfold xf_step; rw [xif_f (fun z => absurd (z.2 b hbe) (by have q := @Int32.not_lt; grind)), hbe]; rfl) ?_
              refine lv_istore_n (lv' := [(2, .int (xoi (mf_fst σ x (i + 1)))), (4, .int (nI 1)), (0, .ref (ad 20 0)), (1, .int x), (3, .int (nI i))]) hx hb dMD_firstOf_74 rfl hl (by decide) rfl (fun ls hl => ?_)
              refine lv_iinc (lv' := [(3, .int (nI (i + 1))), (2, .int (xoi (mf_fst σ x (i + 1)))), (4, .int (nI 1)), (0, .ref (ad 20 0)), (1, .int x)]) hx hb dMD_firstOf_75 hl (k := 4) rfl (xn_inc _) (by decide) rfl (fun ls hl => ?_)
              refine lv_goto hx hb dMD_firstOf_78 rfl ?_
              exact ihi _ _ _ ⟨w, lv_sub hl [3, 4, 1, 0] rfl⟩
            · skip
              refine lv_iload_n hx hb dMD_firstOf_69 rfl (lv_at hl 4 rfl) ?_
              refine lv_goto hx hb dMD_firstOf_70 rfl ?_
              refine xn_eq (y := xoi (mf_fst σ x (i + 1))) (show nI i = xoi (mf_fst σ x (i + 1)) by rw [mf_fst_s]; unfold xf_step; rw [xif_t ⟨(by unfold mp_inq; grind), fun x hx => (by rw [hbe] at hx; cases hx; exact Int32.not_le.mp (by assumption))⟩]; rfl) ?_
              refine lv_istore_n (lv' := [(2, .int (xoi (mf_fst σ x (i + 1)))), (4, .int (nI 1)), (0, .ref (ad 20 0)), (1, .int x), (3, .int (nI i))]) hx hb dMD_firstOf_74 rfl hl (by decide) rfl (fun ls hl => ?_)
              refine lv_iinc (lv' := [(3, .int (nI (i + 1))), (2, .int (xoi (mf_fst σ x (i + 1)))), (4, .int (nI 1)), (0, .ref (ad 20 0)), (1, .int x)]) hx hb dMD_firstOf_75 hl (k := 4) rfl (xn_inc _) (by decide) rfl (fun ls hl => ?_)
              refine lv_goto hx hb dMD_firstOf_78 rfl ?_
              exact ihi _ _ _ ⟨w, lv_sub hl [3, 4, 1, 0] rfl⟩
set_option maxRecDepth 100000 in
set_option maxHeartbeats 4000000 in
theorem cMD_classOf (l : Launch) (D : va_G) (cA : Nat → ClassId) (tz : Nat) (I : List (Nat × Nat)) (ad : Nat → Nat → Nat) (σ : xMem) (r : Nat) (hJ : xJ I) (hr16 : r < 16) : xD l yMD_classOf bMD_classOf 3 (some .int) 1 [.ref (ad 20 0), .int (nI r)] D cA tz I ad σ (some (.int (mf_class σ r))) σ := by
  refine xd_of (by decide) (by simp [lg_sl, Value.category]) ?_
  intro p e s m args below meth c A ls C hr hlk hml hl w hz
  obtain ⟨hx, hb, hown, hts⟩ := id C
  have hl : lv_has ls 3 [(0, .ref (ad 20 0)), (1, .int (nI r))] := hl
  refine lv_aload_n hx hb dMD_classOf_0 rfl (lv_at hl 0 rfl) ?_
  refine xg_MD_16 C w (xJ20 hJ) dMD_classOf_1 ?_
  refine lv_iload_n hx hb dMD_classOf_4 rfl (lv_at hl 1 rfl) ?_
  refine lv_iconst (v := nI 4) hx hb dMD_classOf_5 xk_i4 ?_
  refine xn_div hx hb dMD_classOf_6 (by omega) (by decide) (by decide) ?_
  refine xr_iald C w (xJ23 hJ) rfl 0 rfl (r / 4) rfl (by omega) (by decide) dMD_classOf_7 ?_
  refine lv_aload_n hx hb dMD_classOf_8 rfl (lv_at hl 0 rfl) ?_
  refine xg_MD_38 C w (xJ20 hJ) dMD_classOf_9 ?_
  refine lv_iload_n hx hb dMD_classOf_12 rfl (lv_at hl 1 rfl) ?_
  refine xr_iald C w (xJ30 hJ) rfl 0 rfl r rfl (by omega) (by decide) dMD_classOf_13 ?_
  refine lv_bipush (v := nI 16) hx hb dMD_classOf_14 xk_b16 ?_
  refine lv_idiv hx hb dMD_classOf_16 (by decide) ?_
  refine lv_iadd hx hb dMD_classOf_17 ?_
  refine lv_istore_n (lv' := [(2, .int ((σ 23 0 (r / 4)) + ((σ 30 0 r) / (nI 16)))), (0, .ref (ad 20 0)), (1, .int (nI r))]) hx hb dMD_classOf_18 rfl hl (by decide) rfl (fun ls hl => ?_)
  refine lv_iload_n hx hb dMD_classOf_19 rfl (lv_at hl 0 rfl) ?_
  refine lv_iconst (v := nI 2) hx hb dMD_classOf_20 xk_i2 ?_
  refine lv_icmp_le hx hb dMD_classOf_21 rfl (fun hh1 => ?_) (fun hh1 => ?_)
  · skip
    refine lv_iload_n hx hb dMD_classOf_28 rfl (lv_at hl 0 rfl) ?_
    exact xd_iret C w hr hlk dMD_classOf_29 (by unfold mf_class; rw [if_pos hh1]) rfl
  · skip
    refine lv_iconst (v := nI 2) hx hb dMD_classOf_24 xk_i2 ?_
    refine lv_goto hx hb dMD_classOf_25 rfl ?_
    exact xd_iret C w hr hlk dMD_classOf_29 (by unfold mf_class; rw [if_neg hh1]) rfl
set_option maxRecDepth 100000 in
set_option maxHeartbeats 4000000 in
theorem cMD_isBefore (l : Launch) (D : va_G) (cA : Nat → ClassId) (tz : Nat) (I : List (Nat × Nat)) (ad : Nat → Nat → Nat) (σ : xMem) (r q gg : Nat) (hJ : xJ I) (hr16 : r < 16) (hq16 : q < 16) (hg : σ 20 0 19 = nI gg) (hg4 : gg < 4) : xD l yMD_isBefore bMD_isBefore 5 (some .boolean) 2 [.ref (ad 20 0), .int (nI r), .int (nI q)] D cA tz I ad σ (some (.int (xb (mp_before σ gg r q)))) σ := by
  refine xd_of (by decide) (by simp [lg_sl, Value.category]) ?_
  intro p e s m args below meth c A ls C hr hlk hml hl w hz
  obtain ⟨hx, hb, hown, hts⟩ := id C
  have hl : lv_has ls 5 [(0, .ref (ad 20 0)), (1, .int (nI r)), (2, .int (nI q))] := hl
  refine lv_aload_n hx hb dMD_isBefore_0 rfl (lv_at hl 0 rfl) ?_
  refine lv_iload_n hx hb dMD_isBefore_1 rfl (lv_at hl 1 rfl) ?_
  refine xd_callV C w hz hml hl.1 xk_MD_113 (cMD_classOf l D cA tz I ad σ r hJ (by omega)) (xJ20 hJ) rfl rfl rfl rfl (Nat.le_of_ble_eq_true rfl) (by decide) (by decide) dMD_isBefore_2 (fun H locs w => ?_)
  refine W.eq (g2 := F0 m 5 ls [.int (mf_class σ r)]) rfl ?_
  refine lv_aload_n hx hb dMD_isBefore_5 rfl (lv_at hl 0 rfl) ?_
  refine lv_iload_n hx hb dMD_isBefore_6 rfl (lv_at hl 2 rfl) ?_
  refine xd_callV C w hz hml hl.1 xk_MD_113 (cMD_classOf l D cA tz I ad σ q hJ (by omega)) (xJ20 hJ) rfl rfl rfl rfl (Nat.le_of_ble_eq_true rfl) (by decide) (by decide) dMD_isBefore_7 (fun H locs w => ?_)
  refine W.eq (g2 := F0 m 10 ls [.int (mf_class σ q), .int (mf_class σ r)]) rfl ?_
  refine lv_icmp_eq hx hb dMD_isBefore_10 rfl (fun hh1 => ?_) (fun hh1 => ?_)
  · skip
    refine lv_iload_n hx hb dMD_isBefore_32 rfl (lv_at hl 1 rfl) ?_
    refine lv_iconst (v := nI 4) hx hb dMD_isBefore_33 xk_i4 ?_
    refine xn_div hx hb dMD_isBefore_34 (by omega) (by decide) (by decide) ?_
    refine lv_iconst (v := nI 3) hx hb dMD_isBefore_35 xk_i3 ?_
    refine xn_add hx hb dMD_isBefore_36 ?_
    refine lv_aload_n hx hb dMD_isBefore_37 rfl (lv_at hl 0 rfl) ?_
    refine xg_MD_60 C w (xJ20 hJ) dMD_isBefore_38 ?_
    refine xn_eq (y := nI gg) hg ?_
    refine xn_sub hx hb dMD_isBefore_41 (by omega) ?_
    refine lv_iconst (v := nI 4) hx hb dMD_isBefore_42 xk_i4 ?_
    refine xn_rem hx hb dMD_isBefore_43 (by omega) (by decide) (by decide) ?_
    refine lv_istore_n (lv' := [(3, .int (nI ((((r / 4) + 3) - gg) % 4))), (0, .ref (ad 20 0)), (1, .int (nI r)), (2, .int (nI q))]) hx hb dMD_isBefore_44 rfl hl (by decide) rfl (fun ls hl => ?_)
    refine lv_iload_n hx hb dMD_isBefore_45 rfl (lv_at hl 3 rfl) ?_
    refine lv_iconst (v := nI 4) hx hb dMD_isBefore_46 xk_i4 ?_
    refine xn_div hx hb dMD_isBefore_47 (by omega) (by decide) (by decide) ?_
    refine lv_iconst (v := nI 3) hx hb dMD_isBefore_48 xk_i3 ?_
    refine xn_add hx hb dMD_isBefore_49 ?_
    refine lv_aload_n hx hb dMD_isBefore_50 rfl (lv_at hl 1 rfl) ?_
    refine xg_MD_60 C w (xJ20 hJ) dMD_isBefore_51 ?_
    refine xn_eq (y := nI gg) hg ?_
    refine xn_sub hx hb dMD_isBefore_54 (by omega) ?_
    refine lv_iconst (v := nI 4) hx hb dMD_isBefore_55 xk_i4 ?_
    refine xn_rem hx hb dMD_isBefore_56 (by omega) (by decide) (by decide) ?_
    refine lv_istore (lv' := [(4, .int (nI ((((q / 4) + 3) - gg) % 4))), (3, .int (nI ((((r / 4) + 3) - gg) % 4))), (0, .ref (ad 20 0)), (1, .int (nI r)), (2, .int (nI q))]) hx hb dMD_isBefore_57 hl (by decide) rfl (fun ls hl => ?_)
    refine lv_iload_n hx hb dMD_isBefore_59 rfl (lv_at hl 1 rfl) ?_
    refine lv_iload hx hb dMD_isBefore_60 (lv_at hl 0 rfl) ?_
    refine lv_icmp_eq hx hb dMD_isBefore_62 rfl (fun hh2 => ?_) (fun hh2 => ?_)
    · skip
      refine lv_aload_n hx hb dMD_isBefore_79 rfl (lv_at hl 2 rfl) ?_
      refine xg_MD_41 C w (xJ20 hJ) dMD_isBefore_80 ?_
      refine lv_iload_n hx hb dMD_isBefore_83 rfl (lv_at hl 3 rfl) ?_
      refine xr_iald C w (xJ31 hJ) rfl 0 rfl r rfl (by omega) (by decide) dMD_isBefore_84 ?_
      refine lv_aload_n hx hb dMD_isBefore_85 rfl (lv_at hl 2 rfl) ?_
      refine xg_MD_41 C w (xJ20 hJ) dMD_isBefore_86 ?_
      refine lv_iload_n hx hb dMD_isBefore_89 rfl (lv_at hl 4 rfl) ?_
      refine xr_iald C w (xJ31 hJ) rfl 0 rfl q rfl (by omega) (by decide) dMD_isBefore_90 ?_
      refine lv_icmp_ge hx hb dMD_isBefore_91 rfl (fun hh3 => ?_) (fun hh3 => ?_)
      · skip
        refine lv_iconst (v := nI 0) hx hb dMD_isBefore_98 xk_i0 ?_
        exact xd_zf C w hr hlk dMD_isBefore_99 (by have q1 := nI_eq (a := (r / 4 + 3 - gg) % 4) (b := (q / 4 + 3 - gg) % 4) (by omega) (by omega); have q2 := nI_leI (a := (q / 4 + 3 - gg) % 4) (b := (r / 4 + 3 - gg) % 4) (by omega) (by omega); have q3 := @Int32.not_lt; have q4 := @Int32.not_le; unfold mp_before; grind) rfl
      · skip
        refine lv_iconst (v := nI 1) hx hb dMD_isBefore_94 xk_i1 ?_
        refine lv_goto hx hb dMD_isBefore_95 rfl ?_
        exact xd_zt C w hr hlk dMD_isBefore_99 (by have q1 := nI_eq (a := (r / 4 + 3 - gg) % 4) (b := (q / 4 + 3 - gg) % 4) (by omega) (by omega); have q2 := nI_leI (a := (q / 4 + 3 - gg) % 4) (b := (r / 4 + 3 - gg) % 4) (by omega) (by omega); have q3 := @Int32.not_lt; have q4 := @Int32.not_le; unfold mp_before; grind) rfl
    · skip
      refine lv_iload_n hx hb dMD_isBefore_65 rfl (lv_at hl 1 rfl) ?_
      refine lv_iload hx hb dMD_isBefore_66 (lv_at hl 0 rfl) ?_
      refine lv_icmp_ge hx hb dMD_isBefore_68 rfl (fun hh4 => ?_) (fun hh4 => ?_)
      · skip
        refine lv_iconst (v := nI 0) hx hb dMD_isBefore_75 xk_i0 ?_
        refine lv_goto hx hb dMD_isBefore_76 rfl ?_
        exact xd_zf C w hr hlk dMD_isBefore_99 (by have q1 := nI_eq (a := (r / 4 + 3 - gg) % 4) (b := (q / 4 + 3 - gg) % 4) (by omega) (by omega); have q2 := nI_leI (a := (q / 4 + 3 - gg) % 4) (b := (r / 4 + 3 - gg) % 4) (by omega) (by omega); have q3 := @Int32.not_lt; have q4 := @Int32.not_le; unfold mp_before; grind) rfl
      · skip
        refine lv_iconst (v := nI 1) hx hb dMD_isBefore_71 xk_i1 ?_
        refine lv_goto hx hb dMD_isBefore_72 rfl ?_
        exact xd_zt C w hr hlk dMD_isBefore_99 (by have q1 := nI_eq (a := (r / 4 + 3 - gg) % 4) (b := (q / 4 + 3 - gg) % 4) (by omega) (by omega); have q2 := nI_leI (a := (q / 4 + 3 - gg) % 4) (b := (r / 4 + 3 - gg) % 4) (by omega) (by omega); have q3 := @Int32.not_lt; have q4 := @Int32.not_le; unfold mp_before; grind) rfl
  · skip
    refine lv_aload_n hx hb dMD_isBefore_13 rfl (lv_at hl 0 rfl) ?_
    refine lv_iload_n hx hb dMD_isBefore_14 rfl (lv_at hl 1 rfl) ?_
    refine xd_callV C w hz hml hl.1 xk_MD_113 (cMD_classOf l D cA tz I ad σ r hJ (by omega)) (xJ20 hJ) rfl rfl rfl rfl (Nat.le_of_ble_eq_true rfl) (by decide) (by decide) dMD_isBefore_15 (fun H locs w => ?_)
    refine W.eq (g2 := F0 m 18 ls [.int (mf_class σ r)]) rfl ?_
    refine lv_aload_n hx hb dMD_isBefore_18 rfl (lv_at hl 0 rfl) ?_
    refine lv_iload_n hx hb dMD_isBefore_19 rfl (lv_at hl 2 rfl) ?_
    refine xd_callV C w hz hml hl.1 xk_MD_113 (cMD_classOf l D cA tz I ad σ q hJ (by omega)) (xJ20 hJ) rfl rfl rfl rfl (Nat.le_of_ble_eq_true rfl) (by decide) (by decide) dMD_isBefore_20 (fun H locs w => ?_)
    refine W.eq (g2 := F0 m 23 ls [.int (mf_class σ q), .int (mf_class σ r)]) rfl ?_
    refine lv_icmp_le hx hb dMD_isBefore_23 rfl (fun hh5 => ?_) (fun hh5 => ?_)
    · skip
      refine lv_iconst (v := nI 0) hx hb dMD_isBefore_30 xk_i0 ?_
      exact xd_zf C w hr hlk dMD_isBefore_31 (by have q1 := nI_eq (a := (r / 4 + 3 - gg) % 4) (b := (q / 4 + 3 - gg) % 4) (by omega) (by omega); have q2 := nI_leI (a := (q / 4 + 3 - gg) % 4) (b := (r / 4 + 3 - gg) % 4) (by omega) (by omega); have q3 := @Int32.not_lt; have q4 := @Int32.not_le; unfold mp_before; grind) rfl
    · skip
      refine lv_iconst (v := nI 1) hx hb dMD_isBefore_26 xk_i1 ?_
      refine lv_goto hx hb dMD_isBefore_27 rfl ?_
      exact xd_zt C w hr hlk dMD_isBefore_31 (by have q1 := nI_eq (a := (r / 4 + 3 - gg) % 4) (b := (q / 4 + 3 - gg) % 4) (by omega) (by omega); have q2 := nI_leI (a := (q / 4 + 3 - gg) % 4) (b := (r / 4 + 3 - gg) % 4) (by omega) (by omega); have q3 := @Int32.not_lt; have q4 := @Int32.not_le; unfold mp_before; grind) rfl
set_option maxRecDepth 100000 in
set_option maxHeartbeats 4000000 in
theorem cMD_isEligible (l : Launch) (D : va_G) (cA : Nat → ClassId) (tz : Nat) (I : List (Nat × Nat)) (ad : Nat → Nat → Nat) (σ : xMem) (r : Nat) (hJ : xJ I) (hr16 : r < 16) (hqs : ¬ σ 27 0 r = nI 4 → ∃ q, q < 64 ∧ σ 28 0 r = nI q) : xD l yMD_isEligible bMD_isEligible 5 (some .boolean) 3 [.ref (ad 20 0), .int (nI r)] D cA tz I ad σ (some (.int (xb (mp_elig σ r)))) σ := by
  refine xd_of (by decide) (by simp [lg_sl, Value.category]) ?_
  intro p e s m args below meth c A ls C hr hlk hml hl w hz
  obtain ⟨hx, hb, hown, hts⟩ := id C
  have hl : lv_has ls 5 [(0, .ref (ad 20 0)), (1, .int (nI r))] := hl
  refine lv_aload_n hx hb dMD_isEligible_0 rfl (lv_at hl 0 rfl) ?_
  refine xg_MD_26 C w (xJ20 hJ) dMD_isEligible_1 ?_
  refine lv_iload_n hx hb dMD_isEligible_4 rfl (lv_at hl 1 rfl) ?_
  refine xr_iald C w (xJ26 hJ) rfl 0 rfl r rfl (by omega) (by decide) dMD_isEligible_5 ?_
  refine lv_iconst (v := nI 1) hx hb dMD_isEligible_6 xk_i1 ?_
  refine lv_icmp_eq hx hb dMD_isEligible_7 rfl (fun hh1 => ?_) (fun hh1 => ?_)
  · skip
    refine lv_iconst (v := nI 0) hx hb dMD_isEligible_12 xk_i0 ?_
    refine lv_istore_n (lv' := [(2, .int (nI 0)), (0, .ref (ad 20 0)), (1, .int (nI r))]) hx hb dMD_isEligible_13 rfl hl (by decide) rfl (fun ls hl => ?_)
    refine xl_up (Wg := fun H locs ls => W p l e _ s m args below meth c H locs _ _ _ (F0 m 14 ls [])) (K := fun i H locs ls => xr_W xCl (xT cA) D I ad (xc cA tz ad σ) A s H locs ∧ lv_has ls 5 [(0, .ref (ad 20 0)), (1, .int (nI r)), (2, .int (nI i))] ∧ (∀ t, t < i → ¬ mp_bars σ r (4 * (r / 4) + t))) 4 ?_ ?_ 0 _ _ _ (by omega) ⟨w, lv_sub hl [1, 2, 0] rfl, xl_0⟩
    · skip
      intro H locs ls ⟨w, hl, hn⟩
      refine lv_iload_n hx hb dMD_isEligible_14 rfl (lv_at hl 2 rfl) ?_
      refine lv_iconst (v := nI 4) hx hb dMD_isEligible_15 xk_i4 ?_
      refine lv_icmp_ge hx hb dMD_isEligible_16 rfl (fun _ => ?_) (fun hq => absurd (nI_le (by omega) (by omega)) hq)
      refine lv_aload_n hx hb dMD_isEligible_109 rfl (lv_at hl 0 rfl) ?_
      refine lv_iload_n hx hb dMD_isEligible_110 rfl (lv_at hl 1 rfl) ?_
      refine xd_callV C w hz hml hl.1 xk_MD_107 (cMD_isMapped l D cA tz I ad σ r hJ hr16) (xJ20 hJ) rfl rfl rfl rfl (Nat.le_of_ble_eq_true rfl) (by decide) (by decide) dMD_isEligible_111 (fun H locs w => ?_)
      refine W.eq (g2 := F0 m 114 ls [.int (xb (mp_map σ r))]) rfl ?_
      refine xz_ifne hx hb dMD_isEligible_114 rfl (fun hh2 => ?_) (fun hh2 => ?_)
      · skip
        have hmp : mp_map σ r := by grind
        obtain ⟨q, h64, hq⟩ := hqs hmp.1
        have h48 : q < 48 := Nat.not_le.mp (fun z => hmp.2 (by rw [hq]; exact nI_le z (by omega)))
        have hdq : σ 28 0 r / nI 16 = nI (q / 16) := by rw [hq]; exact pk_div (by omega) (by decide) (by decide)
        have hcl : (σ 28 0 r).toNatClampNeg = q := by rw [hq]; exact nI_clamp (by omega)
        refine lv_aload_n hx hb dMD_isEligible_119 rfl (lv_at hl 0 rfl) ?_
        refine xg_MD_23 C w (xJ20 hJ) dMD_isEligible_120 ?_
        refine lv_aload_n hx hb dMD_isEligible_123 rfl (lv_at hl 0 rfl) ?_
        refine lv_iload_n hx hb dMD_isEligible_124 rfl (lv_at hl 1 rfl) ?_
        refine xd_callV C w hz hml hl.1 xk_MD_91 (cMD_target l D cA tz I ad σ r hJ hr16) (xJ20 hJ) rfl rfl rfl rfl (Nat.le_of_ble_eq_true rfl) (by decide) (by decide) dMD_isEligible_125 (fun H locs w => ?_)
        refine W.eq (g2 := F0 m 128 ls [.int (σ 28 0 r / nI 16), .ref (ad 25 0)]) rfl ?_
        refine xn_eq (y := nI (q / 16)) hdq ?_
        refine xr_iald C w (xJ25 hJ) rfl 0 rfl (q / 16) rfl (by omega) (by decide) dMD_isEligible_128 ?_
        refine lv_istore_n (lv' := [(2, .int (σ 25 0 (q / 16))), (0, .ref (ad 20 0)), (1, .int (nI r))]) hx hb dMD_isEligible_129 rfl hl (by decide) rfl (fun ls hl => ?_)
        refine lv_aload_n hx hb dMD_isEligible_130 rfl (lv_at hl 1 rfl) ?_
        refine lv_aload_n hx hb dMD_isEligible_131 rfl (lv_at hl 1 rfl) ?_
        refine lv_iload_n hx hb dMD_isEligible_132 rfl (lv_at hl 2 rfl) ?_
        refine xd_callV C w hz hml hl.1 xk_MD_91 (cMD_target l D cA tz I ad σ r hJ hr16) (xJ20 hJ) rfl rfl rfl rfl (Nat.le_of_ble_eq_true rfl) (by decide) (by decide) dMD_isEligible_133 (fun H locs w => ?_)
        refine W.eq (g2 := F0 m 136 ls [.int (σ 28 0 r / nI 16), .ref (ad 20 0)]) rfl ?_
        refine xd_callV C w hz hml hl.1 xk_MD_110 (cMD_creditsOf l D cA tz I ad σ (σ 28 0 r / nI 16) hJ) (xJ20 hJ) rfl rfl rfl rfl (Nat.le_of_ble_eq_true rfl) (by decide) (by decide) dMD_isEligible_136 (fun H locs w => ?_)
        refine W.eq (g2 := F0 m 139 ls [.int (mf_cr σ (σ 28 0 r / nI 16) 16)]) rfl ?_
        refine lv_if_le hx hb dMD_isEligible_139 rfl (fun hh3 => ?_) (fun hh3 => ?_)
        · skip
          refine lv_iconst (v := nI 0) hx hb dMD_isEligible_168 xk_i0 ?_
          exact xd_zf C w hr hlk dMD_isEligible_169 (by unfold mp_elig; rw [hcl]; have q3 := @Int32.not_lt; have q4 := @Int32.not_le; grind) rfl
        · skip
          refine lv_iload_n hx hb dMD_isEligible_142 rfl (lv_at hl 0 rfl) ?_
          refine lv_iconst (v := -1) hx hb dMD_isEligible_143 xk_im1 ?_
          refine lv_icmp_eq hx hb dMD_isEligible_144 rfl (fun hh4 => ?_) (fun hh4 => ?_)
          · skip
            refine lv_iconst (v := nI 1) hx hb dMD_isEligible_164 xk_i1 ?_
            refine lv_goto hx hb dMD_isEligible_165 rfl ?_
            exact xd_zt C w hr hlk dMD_isEligible_169 (by unfold mp_elig; rw [hcl]; have q3 := @Int32.not_lt; have q4 := @Int32.not_le; grind) rfl
          · skip
            refine lv_aload_n hx hb dMD_isEligible_147 rfl (lv_at hl 1 rfl) ?_
            refine xg_MD_29 C w (xJ20 hJ) dMD_isEligible_148 ?_
            refine lv_iload_n hx hb dMD_isEligible_151 rfl (lv_at hl 2 rfl) ?_
            refine xr_iald C w (xJ27 hJ) rfl 0 rfl r rfl (by omega) (by decide) dMD_isEligible_152 ?_
            refine lv_iconst (v := nI 3) hx hb dMD_isEligible_153 xk_i3 ?_
            refine lv_icmp_ne hx hb dMD_isEligible_154 rfl (fun hh5 => ?_) (fun hh5 => ?_)
            · skip
              refine lv_iconst (v := nI 0) hx hb dMD_isEligible_168 xk_i0 ?_
              exact xd_zf C w hr hlk dMD_isEligible_169 (by unfold mp_elig; rw [hcl]; have q3 := @Int32.not_lt; have q4 := @Int32.not_le; grind) rfl
            · skip
              refine lv_iload_n hx hb dMD_isEligible_157 rfl (lv_at hl 0 rfl) ?_
              refine lv_iload_n hx hb dMD_isEligible_158 rfl (lv_at hl 2 rfl) ?_
              refine lv_iconst (v := nI 4) hx hb dMD_isEligible_159 xk_i4 ?_
              refine xn_div hx hb dMD_isEligible_160 (by omega) (by decide) (by decide) ?_
              refine lv_icmp_ne hx hb dMD_isEligible_161 rfl (fun hh6 => ?_) (fun hh6 => ?_)
              · skip
                refine lv_iconst (v := nI 0) hx hb dMD_isEligible_168 xk_i0 ?_
                exact xd_zf C w hr hlk dMD_isEligible_169 (by unfold mp_elig; rw [hcl]; have q3 := @Int32.not_lt; have q4 := @Int32.not_le; grind) rfl
              · skip
                refine lv_iconst (v := nI 1) hx hb dMD_isEligible_164 xk_i1 ?_
                refine lv_goto hx hb dMD_isEligible_165 rfl ?_
                exact xd_zt C w hr hlk dMD_isEligible_169 (by unfold mp_elig; rw [hcl]; have q3 := @Int32.not_lt; have q4 := @Int32.not_le; grind) rfl
      · skip
        refine lv_iconst (v := nI 1) hx hb dMD_isEligible_117 xk_i1 ?_
        exact xd_zt C w hr hlk dMD_isEligible_118 (by unfold mp_elig; have q3 := @Int32.not_lt; have q4 := @Int32.not_le; grind) rfl
    · skip
      intro i H locs ls hii ⟨w, hl, hn⟩ ihi
      refine lv_iload_n hx hb dMD_isEligible_14 rfl (lv_at hl 2 rfl) ?_
      refine lv_iconst (v := nI 4) hx hb dMD_isEligible_15 xk_i4 ?_
      refine lv_icmp_ge hx hb dMD_isEligible_16 rfl (fun hq => absurd hq (nI_ge (by omega) (by omega))) (fun _ => ?_)
      refine lv_iconst (v := nI 4) hx hb dMD_isEligible_19 xk_i4 ?_
      refine lv_iload_n hx hb dMD_isEligible_20 rfl (lv_at hl 1 rfl) ?_
      refine lv_iconst (v := nI 4) hx hb dMD_isEligible_21 xk_i4 ?_
      refine xn_div hx hb dMD_isEligible_22 (by omega) (by decide) (by decide) ?_
      refine xn_mul hx hb dMD_isEligible_23 ?_
      refine lv_iload_n hx hb dMD_isEligible_24 rfl (lv_at hl 2 rfl) ?_
      refine xn_add hx hb dMD_isEligible_25 ?_
      refine lv_istore_n (lv' := [(3, .int (nI ((4 * (r / 4)) + i))), (0, .ref (ad 20 0)), (1, .int (nI r)), (2, .int (nI i))]) hx hb dMD_isEligible_26 rfl hl (by decide) rfl (fun ls hl => ?_)
      refine lv_aload_n hx hb dMD_isEligible_27 rfl (lv_at hl 1 rfl) ?_
      refine lv_iload_n hx hb dMD_isEligible_28 rfl (lv_at hl 0 rfl) ?_
      refine xd_callV C w hz hml hl.1 xk_MD_101 (cMD_isOpen l D cA tz I ad σ (4 * (r / 4) + i) hJ (by omega)) (xJ20 hJ) rfl rfl rfl rfl (Nat.le_of_ble_eq_true rfl) (by decide) (by decide) dMD_isEligible_29 (fun H locs w => ?_)
      refine W.eq (g2 := F0 m 32 ls [.int (xb (mp_open σ (4 * (r / 4) + i)))]) rfl ?_
      refine xz_ifeq hx hb dMD_isEligible_32 rfl (fun hh7 => ?_) (fun hh7 => ?_)
      · skip
        refine lv_iinc (lv' := [(2, .int (nI (i + 1))), (3, .int (nI ((4 * (r / 4)) + i))), (0, .ref (ad 20 0)), (1, .int (nI r))]) hx hb dMD_isEligible_103 hl (k := 3) rfl (xn_inc _) (by decide) rfl (fun ls hl => ?_)
        refine lv_goto hx hb dMD_isEligible_106 rfl ?_
        exact ihi _ _ _ ⟨w, lv_sub hl [2, 3, 0] rfl, xl_s hn (by unfold mp_bars; have q3 := @Int32.not_lt; grind)⟩
      · skip
        refine lv_aload_n hx hb dMD_isEligible_35 rfl (lv_at hl 1 rfl) ?_
        refine xg_MD_41 C w (xJ20 hJ) dMD_isEligible_36 ?_
        refine lv_iload_n hx hb dMD_isEligible_39 rfl (lv_at hl 0 rfl) ?_
        refine xr_iald C w (xJ31 hJ) rfl 0 rfl ((4 * (r / 4)) + i) rfl (by omega) (by decide) dMD_isEligible_40 ?_
        refine lv_aload_n hx hb dMD_isEligible_41 rfl (lv_at hl 1 rfl) ?_
        refine xg_MD_41 C w (xJ20 hJ) dMD_isEligible_42 ?_
        refine lv_iload_n hx hb dMD_isEligible_45 rfl (lv_at hl 2 rfl) ?_
        refine xr_iald C w (xJ31 hJ) rfl 0 rfl r rfl (by omega) (by decide) dMD_isEligible_46 ?_
        refine lv_icmp_ge hx hb dMD_isEligible_47 rfl (fun hh8 => ?_) (fun hh8 => ?_)
        · skip
          refine lv_iinc (lv' := [(2, .int (nI (i + 1))), (3, .int (nI ((4 * (r / 4)) + i))), (0, .ref (ad 20 0)), (1, .int (nI r))]) hx hb dMD_isEligible_103 hl (k := 3) rfl (xn_inc _) (by decide) rfl (fun ls hl => ?_)
          refine lv_goto hx hb dMD_isEligible_106 rfl ?_
          exact ihi _ _ _ ⟨w, lv_sub hl [2, 3, 0] rfl, xl_s hn (by unfold mp_bars; have q3 := @Int32.not_lt; grind)⟩
        · skip
          refine lv_aload_n hx hb dMD_isEligible_50 rfl (lv_at hl 1 rfl) ?_
          refine xg_MD_29 C w (xJ20 hJ) dMD_isEligible_51 ?_
          refine lv_iload_n hx hb dMD_isEligible_54 rfl (lv_at hl 0 rfl) ?_
          refine xr_iald C w (xJ27 hJ) rfl 0 rfl ((4 * (r / 4)) + i) rfl (by omega) (by decide) dMD_isEligible_55 ?_
          refine lv_iconst (v := nI 4) hx hb dMD_isEligible_56 xk_i4 ?_
          refine lv_icmp_eq hx hb dMD_isEligible_57 rfl (fun hh9 => ?_) (fun hh9 => ?_)
          · skip
            refine lv_iconst (v := nI 1) hx hb dMD_isEligible_89 xk_i1 ?_
            refine lv_goto hx hb dMD_isEligible_90 rfl ?_
            refine lv_istore (lv' := [(4, .int (nI 1)), (3, .int (nI ((4 * (r / 4)) + i))), (0, .ref (ad 20 0)), (1, .int (nI r)), (2, .int (nI i))]) hx hb dMD_isEligible_94 hl (by decide) rfl (fun ls hl => ?_)
            refine lv_iload hx hb dMD_isEligible_96 (lv_at hl 0 rfl) ?_
            refine lv_if_eq hx hb dMD_isEligible_98 rfl (fun hq => absurd hq (by decide)) (fun _ => ?_)
            refine lv_iconst (v := nI 0) hx hb dMD_isEligible_101 xk_i0 ?_
            exact xd_zf C w hr hlk dMD_isEligible_102 (by rintro ⟨-, hz, -⟩; exact hz i (by omega) (by unfold mp_bars; have q3 := @Int32.not_lt; grind)) rfl
          · skip
            refine lv_aload_n hx hb dMD_isEligible_60 rfl (lv_at hl 1 rfl) ?_
            refine xg_MD_29 C w (xJ20 hJ) dMD_isEligible_61 ?_
            refine lv_iload_n hx hb dMD_isEligible_64 rfl (lv_at hl 2 rfl) ?_
            refine xr_iald C w (xJ27 hJ) rfl 0 rfl r rfl (by omega) (by decide) dMD_isEligible_65 ?_
            refine lv_iconst (v := nI 4) hx hb dMD_isEligible_66 xk_i4 ?_
            refine lv_icmp_eq hx hb dMD_isEligible_67 rfl (fun hh10 => ?_) (fun hh10 => ?_)
            · skip
              refine lv_iconst (v := nI 1) hx hb dMD_isEligible_89 xk_i1 ?_
              refine lv_goto hx hb dMD_isEligible_90 rfl ?_
              refine lv_istore (lv' := [(4, .int (nI 1)), (3, .int (nI ((4 * (r / 4)) + i))), (0, .ref (ad 20 0)), (1, .int (nI r)), (2, .int (nI i))]) hx hb dMD_isEligible_94 hl (by decide) rfl (fun ls hl => ?_)
              refine lv_iload hx hb dMD_isEligible_96 (lv_at hl 0 rfl) ?_
              refine lv_if_eq hx hb dMD_isEligible_98 rfl (fun hq => absurd hq (by decide)) (fun _ => ?_)
              refine lv_iconst (v := nI 0) hx hb dMD_isEligible_101 xk_i0 ?_
              exact xd_zf C w hr hlk dMD_isEligible_102 (by rintro ⟨-, hz, -⟩; exact hz i (by omega) (by unfold mp_bars; have q3 := @Int32.not_lt; grind)) rfl
            · skip
              refine lv_aload_n hx hb dMD_isEligible_70 rfl (lv_at hl 1 rfl) ?_
              refine xg_MD_26 C w (xJ20 hJ) dMD_isEligible_71 ?_
              refine lv_iload_n hx hb dMD_isEligible_74 rfl (lv_at hl 0 rfl) ?_
              refine xr_iald C w (xJ26 hJ) rfl 0 rfl ((4 * (r / 4)) + i) rfl (by omega) (by decide) dMD_isEligible_75 ?_
              refine lv_iconst (v := nI 1) hx hb dMD_isEligible_76 xk_i1 ?_
              refine lv_icmp_ne hx hb dMD_isEligible_77 rfl (fun hh11 => ?_) (fun hh11 => ?_)
              · skip
                refine lv_iconst (v := nI 0) hx hb dMD_isEligible_93 xk_i0 ?_
                refine lv_istore (lv' := [(4, .int (nI 0)), (3, .int (nI ((4 * (r / 4)) + i))), (0, .ref (ad 20 0)), (1, .int (nI r)), (2, .int (nI i))]) hx hb dMD_isEligible_94 hl (by decide) rfl (fun ls hl => ?_)
                refine lv_iload hx hb dMD_isEligible_96 (lv_at hl 0 rfl) ?_
                refine lv_if_eq hx hb dMD_isEligible_98 rfl (fun _ => ?_) (fun hq => absurd nI_0 hq)
                refine lv_iinc (lv' := [(2, .int (nI (i + 1))), (4, .int (nI 0)), (3, .int (nI ((4 * (r / 4)) + i))), (0, .ref (ad 20 0)), (1, .int (nI r))]) hx hb dMD_isEligible_103 hl (k := 4) rfl (xn_inc _) (by decide) rfl (fun ls hl => ?_)
                refine lv_goto hx hb dMD_isEligible_106 rfl ?_
                exact ihi _ _ _ ⟨w, lv_sub hl [3, 4, 0] rfl, xl_s hn (by unfold mp_bars; have q3 := @Int32.not_lt; grind)⟩
              · skip
                refine lv_aload_n hx hb dMD_isEligible_80 rfl (lv_at hl 1 rfl) ?_
                refine lv_iload_n hx hb dMD_isEligible_81 rfl (lv_at hl 2 rfl) ?_
                refine lv_iload_n hx hb dMD_isEligible_82 rfl (lv_at hl 0 rfl) ?_
                refine xd_callV C w hz hml hl.1 xk_MD_104 (cMD_meet l D cA tz I ad σ r (4 * (r / 4) + i) hJ hr16 (by omega)) (xJ20 hJ) rfl rfl rfl rfl (Nat.le_of_ble_eq_true rfl) (by decide) (by decide) dMD_isEligible_83 (fun H locs w => ?_)
                refine W.eq (g2 := F0 m 86 ls [.int (xb (mp_meet σ r (4 * (r / 4) + i)))]) rfl ?_
                refine xz_ifeq hx hb dMD_isEligible_86 rfl (fun hh12 => ?_) (fun hh12 => ?_)
                · skip
                  refine lv_iconst (v := nI 0) hx hb dMD_isEligible_93 xk_i0 ?_
                  refine lv_istore (lv' := [(4, .int (nI 0)), (3, .int (nI ((4 * (r / 4)) + i))), (0, .ref (ad 20 0)), (1, .int (nI r)), (2, .int (nI i))]) hx hb dMD_isEligible_94 hl (by decide) rfl (fun ls hl => ?_)
                  refine lv_iload hx hb dMD_isEligible_96 (lv_at hl 0 rfl) ?_
                  refine lv_if_eq hx hb dMD_isEligible_98 rfl (fun _ => ?_) (fun hq => absurd nI_0 hq)
                  refine lv_iinc (lv' := [(2, .int (nI (i + 1))), (4, .int (nI 0)), (3, .int (nI ((4 * (r / 4)) + i))), (0, .ref (ad 20 0)), (1, .int (nI r))]) hx hb dMD_isEligible_103 hl (k := 4) rfl (xn_inc _) (by decide) rfl (fun ls hl => ?_)
                  refine lv_goto hx hb dMD_isEligible_106 rfl ?_
                  exact ihi _ _ _ ⟨w, lv_sub hl [3, 4, 0] rfl, xl_s hn (by unfold mp_bars; have q3 := @Int32.not_lt; grind)⟩
                · skip
                  refine lv_iconst (v := nI 1) hx hb dMD_isEligible_89 xk_i1 ?_
                  refine lv_goto hx hb dMD_isEligible_90 rfl ?_
                  refine lv_istore (lv' := [(4, .int (nI 1)), (3, .int (nI ((4 * (r / 4)) + i))), (0, .ref (ad 20 0)), (1, .int (nI r)), (2, .int (nI i))]) hx hb dMD_isEligible_94 hl (by decide) rfl (fun ls hl => ?_)
                  refine lv_iload hx hb dMD_isEligible_96 (lv_at hl 0 rfl) ?_
                  refine lv_if_eq hx hb dMD_isEligible_98 rfl (fun hq => absurd hq (by decide)) (fun _ => ?_)
                  refine lv_iconst (v := nI 0) hx hb dMD_isEligible_101 xk_i0 ?_
                  exact xd_zf C w hr hlk dMD_isEligible_102 (by rintro ⟨-, hz, -⟩; exact hz i (by omega) (by unfold mp_bars; have q3 := @Int32.not_lt; grind)) rfl
  · skip
    refine lv_iconst (v := nI 0) hx hb dMD_isEligible_10 xk_i0 ?_
    exact xd_zf C w hr hlk dMD_isEligible_11 (by unfold mp_elig; have q3 := @Int32.not_lt; have q4 := @Int32.not_le; grind) rfl
