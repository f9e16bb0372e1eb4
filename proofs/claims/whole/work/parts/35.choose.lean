/-! Whom the grant goes to. -/
set_option maxRecDepth 100000 in
set_option maxHeartbeats 4000000 in
theorem cSF_chooseGrant (l : Launch) (D : va_G) (cA : Nat → ClassId) (tz : Nat) (I : List (Nat × Nat)) (ad : Nat → Nat → Nat) (σ : xMem) (g : Nat) (hI : xI I) (hv : xv_tags σ) (hg : σ 5 0 8 = nI g) (hg4 : g < 4) : xD l ySF_chooseGrant bSF_chooseGrant 6 (some (.object "SplitFabric$Tag")) 4 [.ref (ad 5 0)] D cA tz I ad σ (some (xo ad (xf_best σ g 16))) σ := by
  refine xd_of (by decide) (by simp [lg_sl, Value.category]) ?_
  intro p e s m args below meth c A ls C hr hlk hml hl w hz
  obtain ⟨hx, hb, hown, hts⟩ := id C
  have hl : lv_has ls 6 [(0, .ref (ad 5 0))] := hl
  have h6 := hv.1
  have h7 := hv.2.1
  refine lv_null hx hb dSF_chooseGrant_0 ?_
  refine lv_astore_nN (lv' := [(1, .null), (0, .ref (ad 5 0))]) hx hb dSF_chooseGrant_1 rfl hl (by decide) rfl (fun ls hl => ?_)
  refine lv_iconst (v := nI 1) hx hb dSF_chooseGrant_2 xk_i1 ?_
  refine lv_istore_n (lv' := [(2, .int (nI 1)), (1, .null), (0, .ref (ad 5 0))]) hx hb dSF_chooseGrant_3 rfl hl (by decide) rfl (fun ls hl => ?_)
  refine xl_up (Wg := fun H locs ls => W p l e _ s m args below meth c H locs _ _ _ (F0 m 4 ls [])) (K := fun i H locs ls => xr_W xCl (xT cA) D I ad (xc cA tz ad σ) A s H locs ∧ lv_has ls 6 [(0, .ref (ad 5 0)), (1, xo ad (xf_best σ g (4 * (i - 1)))), (2, .int (nI i))] ∧ (1 ≤ i)) 5 ?_ ?_ 1 _ _ _ (by omega) ⟨w, lv_sub hl [2, 1, 0] rfl, by decide⟩
  · skip
    intro H locs ls ⟨w, hl, h1i⟩
    refine lv_iload_n hx hb dSF_chooseGrant_4 rfl (lv_at hl 2 rfl) ?_
    refine lv_iconst (v := nI 4) hx hb dSF_chooseGrant_5 xk_i4 ?_
    refine lv_icmp_gt hx hb dSF_chooseGrant_6 rfl (fun _ => ?_) (fun hq => absurd (nI_lt (by omega) (by omega)) hq)
    rcases hbe : xf_best σ g (4 * (5 - 1)) with _ | b
    · skip
      have hl : lv_has ls 6 [(0, .ref (ad 5 0)), (1, .null), (2, .int (nI 5))] := by rw [hbe] at hl; exact hl
      refine lv_aload_nN hx hb dSF_chooseGrant_74 rfl (lv_at hl 1 rfl) ?_
      exact xd_aret C w hr hlk dSF_chooseGrant_75 (Or.inl rfl) (rfl) rfl
    · skip
      have hl : lv_has ls 6 [(0, .ref (ad 5 0)), (1, .ref (ad 0 b)), (2, .int (nI 5))] := by rw [hbe] at hl; exact hl
      refine lv_aload_n hx hb dSF_chooseGrant_74 rfl (lv_at hl 1 rfl) ?_
      exact xd_aret C w hr hlk dSF_chooseGrant_75 (Or.inr ⟨_, rfl⟩) (rfl) rfl
  · skip
    intro i H locs ls hii ⟨w, hl, h1i⟩ ihi
    refine lv_iload_n hx hb dSF_chooseGrant_4 rfl (lv_at hl 2 rfl) ?_
    refine lv_iconst (v := nI 4) hx hb dSF_chooseGrant_5 xk_i4 ?_
    refine lv_icmp_gt hx hb dSF_chooseGrant_6 rfl (fun hq => absurd hq (nI_nlt (by omega) (by omega))) (fun _ => ?_)
    refine lv_aload_n hx hb dSF_chooseGrant_9 rfl (lv_at hl 0 rfl) ?_
    refine xg_SF_47 C w (xI5 hI) dSF_chooseGrant_10 ?_
    refine xn_eq (y := nI g) hg ?_
    refine lv_iload_n hx hb dSF_chooseGrant_13 rfl (lv_at hl 2 rfl) ?_
    refine xn_add hx hb dSF_chooseGrant_14 ?_
    refine lv_iconst (v := nI 4) hx hb dSF_chooseGrant_15 xk_i4 ?_
    refine xn_rem hx hb dSF_chooseGrant_16 (by omega) (by decide) (by decide) ?_
    refine lv_istore_n (lv' := [(3, .int (nI ((g + i) % 4))), (0, .ref (ad 5 0)), (1, xo ad (xf_best σ g (4 * (i - 1)))), (2, .int (nI i))]) hx hb dSF_chooseGrant_17 rfl hl (by decide) rfl (fun ls hl => ?_)
    refine lv_iconst (v := nI 0) hx hb dSF_chooseGrant_18 xk_i0 ?_
    refine lv_istore (lv' := [(4, .int (nI 0)), (3, .int (nI ((g + i) % 4))), (0, .ref (ad 5 0)), (1, xo ad (xf_best σ g (4 * (i - 1)))), (2, .int (nI i))]) hx hb dSF_chooseGrant_19 hl (by decide) rfl (fun ls hl => ?_)
    refine xl_up (Wg := fun H locs ls => W p l e _ s m args below meth c H locs _ _ _ (F0 m 21 ls [])) (K := fun j H locs ls => xr_W xCl (xT cA) D I ad (xc cA tz ad σ) A s H locs ∧ lv_has ls 6 [(0, .ref (ad 5 0)), (1, xo ad (xf_best σ g (4 * (i - 1) + j))), (2, .int (nI i)), (3, .int (nI ((g + i) % 4))), (4, .int (nI j))]) 4 ?_ ?_ 0 _ _ _ (by omega) ⟨w, lv_sub hl [2, 3, 4, 1, 0] rfl⟩
    · skip
      intro H locs ls ⟨w, hl⟩
      refine lv_iload hx hb dSF_chooseGrant_21 (lv_at hl 4 rfl) ?_
      refine lv_iconst (v := nI 4) hx hb dSF_chooseGrant_23 xk_i4 ?_
      refine lv_icmp_ge hx hb dSF_chooseGrant_24 rfl (fun _ => ?_) (fun hq => absurd (nI_le (by omega) (by omega)) hq)
      have hl : lv_has ls 6 [(0, .ref (ad 5 0)), (1, xo ad (xf_best σ g (4 * (i + 1 - 1)))), (2, .int (nI i)), (3, .int (nI ((g + i) % 4))), (4, .int (nI 4))] := by rw [show 4 * (i + 1 - 1) = 4 * (i - 1) + 4 by omega]; exact hl
      refine lv_iinc (lv' := [(2, .int (nI (i + 1))), (0, .ref (ad 5 0)), (1, xo ad (xf_best σ g (4 * (i + 1 - 1)))), (3, .int (nI ((g + i) % 4))), (4, .int (nI 4))]) hx hb dSF_chooseGrant_68 hl (k := 2) rfl (xn_inc _) (by decide) (by simp [xo_cat]) (fun ls hl => ?_)
      refine lv_goto hx hb dSF_chooseGrant_71 rfl ?_
      exact ihi _ _ _ ⟨w, lv_sub hl [1, 2, 0] rfl, by omega⟩
    · skip
      intro j H locs ls hij ⟨w, hl⟩ ihj
      have hc := xf_cand_at (g := g) h1i hij
      obtain ⟨h0, h1k, ⟨q, h64, hq⟩, nn, hn4, hnn⟩ := hv.2.2 (4 * ((g + i) % 4) + j) (by omega)
      have hkk : 4 * ((g + i) % 4) + j < 16 := by omega
      refine lv_iload hx hb dSF_chooseGrant_21 (lv_at hl 4 rfl) ?_
      refine lv_iconst (v := nI 4) hx hb dSF_chooseGrant_23 xk_i4 ?_
      refine lv_icmp_ge hx hb dSF_chooseGrant_24 rfl (fun hq => absurd hq (nI_ge (by omega) (by omega))) (fun _ => ?_)
      refine lv_aload_n hx hb dSF_chooseGrant_27 rfl (lv_at hl 0 rfl) ?_
      refine lv_iload_n hx hb dSF_chooseGrant_28 rfl (lv_at hl 3 rfl) ?_
      refine lv_iload hx hb dSF_chooseGrant_29 (lv_at hl 4 rfl) ?_
      refine xd_callV C w hz hml hl.1 xk_SF_64 (cSF_tagOf l D cA tz I ad σ ((g + i) % 4) j hI h6 (by omega)) (xI5 hI) rfl rfl rfl rfl (Nat.le_of_ble_eq_true rfl) (by decide) (by decide) dSF_chooseGrant_31 (fun H locs w => ?_)
      refine W.eq (g2 := F0 m 34 ls [.ref (ad 0 (4 * ((g + i) % 4) + j))]) rfl ?_
      refine lv_astore (lv' := [(5, .ref (ad 0 (4 * ((g + i) % 4) + j))), (0, .ref (ad 5 0)), (1, xo ad (xf_best σ g (4 * (i - 1) + j))), (2, .int (nI i)), (3, .int (nI ((g + i) % 4))), (4, .int (nI j))]) hx hb dSF_chooseGrant_34 hl (by decide) rfl (fun ls hl => ?_)
      refine lv_aload_n hx hb dSF_chooseGrant_36 rfl (lv_at hl 1 rfl) ?_
      refine lv_aload hx hb dSF_chooseGrant_37 (lv_at hl 0 rfl) ?_
      refine xd_callV C w hz hml hl.1 xk_SF_211 (cSF_isEligible l D cA tz I ad σ (4 * ((g + i) % 4) + j) q hI h6 h7 hkk h0 hq h64) (xI5 hI) rfl rfl rfl rfl (Nat.le_of_ble_eq_true rfl) (by decide) (by decide) dSF_chooseGrant_39 (fun H locs w => ?_)
      refine W.eq (g2 := F0 m 42 ls [.int (xb (xp_elig σ (4 * ((g + i) % 4) + j)))]) rfl ?_
      refine xz_ifeq hx hb dSF_chooseGrant_42 rfl (fun hh1 => ?_) (fun hh1 => ?_)
      · skip
        have hbn : xf_best σ g (4 * (i - 1) + (j + 1)) = xf_best σ g (4 * (i - 1) + j) := by
          rw [show 4 * (i - 1) + (j + 1) = (4 * (i - 1) + j) + 1 by omega, xf_best_s, hc]; unfold xf_step; rw [xif_f (fun z => hh1 z.1)]
        have hl : lv_has ls 6 [(5, .ref (ad 0 (4 * ((g + i) % 4) + j))), (0, .ref (ad 5 0)), (1, xo ad (xf_best σ g (4 * (i - 1) + (j + 1)))), (2, .int (nI i)), (3, .int (nI ((g + i) % 4))), (4, .int (nI j))] := by rw [hbn]; exact hl
        refine lv_iinc (lv' := [(4, .int (nI (j + 1))), (5, .ref (ad 0 (4 * ((g + i) % 4) + j))), (0, .ref (ad 5 0)), (1, xo ad (xf_best σ g (4 * (i - 1) + (j + 1)))), (2, .int (nI i)), (3, .int (nI ((g + i) % 4)))]) hx hb dSF_chooseGrant_62 hl (k := 5) rfl (xn_inc _) (by decide) rfl (fun ls hl => ?_)
        refine lv_goto hx hb dSF_chooseGrant_65 rfl ?_
        exact ihj _ _ _ ⟨w, lv_sub hl [2, 3, 4, 5, 0] rfl⟩
      · skip
        rcases hbe : xf_best σ g (4 * (i - 1) + j) with _ | b
        · skip
          have hl : lv_has ls 6 [(5, .ref (ad 0 (4 * ((g + i) % 4) + j))), (0, .ref (ad 5 0)), (1, .null), (2, .int (nI i)), (3, .int (nI ((g + i) % 4))), (4, .int (nI j))] := by rw [hbe] at hl; exact hl
          refine lv_aload_nN hx hb dSF_chooseGrant_45 rfl (lv_at hl 2 rfl) ?_
          refine lv_ifnullN hx hb dSF_chooseGrant_46 rfl ?_
          refine lv_aload hx hb dSF_chooseGrant_59 (lv_at hl 0 rfl) ?_
          refine lv_astore_n (lv' := [(1, .ref (ad 0 (4 * ((g + i) % 4) + j))), (5, .ref (ad 0 (4 * ((g + i) % 4) + j))), (0, .ref (ad 5 0)), (2, .int (nI i)), (3, .int (nI ((g + i) % 4))), (4, .int (nI j))]) hx hb dSF_chooseGrant_61 rfl hl (by decide) rfl (fun ls hl => ?_)
          have hbn : xf_best σ g (4 * (i - 1) + (j + 1)) = some (4 * ((g + i) % 4) + j) := by
            rw [show 4 * (i - 1) + (j + 1) = (4 * (i - 1) + j) + 1 by omega, xf_best_s, hc]; unfold xf_step; rw [xif_t ⟨hh1, fun x hx => (by rw [hbe] at hx; cases hx)⟩]
          have hl : lv_has ls 6 [(1, xo ad (xf_best σ g (4 * (i - 1) + (j + 1)))), (5, .ref (ad 0 (4 * ((g + i) % 4) + j))), (0, .ref (ad 5 0)), (2, .int (nI i)), (3, .int (nI ((g + i) % 4))), (4, .int (nI j))] := by rw [hbn]; exact hl
          refine lv_iinc (lv' := [(4, .int (nI (j + 1))), (1, xo ad (xf_best σ g (4 * (i - 1) + (j + 1)))), (5, .ref (ad 0 (4 * ((g + i) % 4) + j))), (0, .ref (ad 5 0)), (2, .int (nI i)), (3, .int (nI ((g + i) % 4)))]) hx hb dSF_chooseGrant_62 hl (k := 5) rfl (xn_inc _) (by decide) rfl (fun ls hl => ?_)
          refine lv_goto hx hb dSF_chooseGrant_65 rfl ?_
          exact ihj _ _ _ ⟨w, lv_sub hl [3, 1, 4, 5, 0] rfl⟩
        · skip
          have hl : lv_has ls 6 [(5, .ref (ad 0 (4 * ((g + i) % 4) + j))), (0, .ref (ad 5 0)), (1, .ref (ad 0 b)), (2, .int (nI i)), (3, .int (nI ((g + i) % 4))), (4, .int (nI j))] := by rw [hbe] at hl; exact hl
          have hb16 := xf_best_lt hbe
          have h0b := (hv.2.2 b hb16).1
          refine lv_aload_n hx hb dSF_chooseGrant_45 rfl (lv_at hl 2 rfl) ?_
          refine lv_ifnull hx hb dSF_chooseGrant_46 ?_
          refine lv_aload_n hx hb dSF_chooseGrant_49 rfl (lv_at hl 1 rfl) ?_
          refine lv_aload hx hb dSF_chooseGrant_50 (lv_at hl 0 rfl) ?_
          refine lv_aload_n hx hb dSF_chooseGrant_52 rfl (lv_at hl 2 rfl) ?_
          refine xd_callV C w hz hml hl.1 xk_SF_214 (cSF_goesBefore l D cA tz I ad σ (4 * ((g + i) % 4) + j) b hI hkk hb16 h0 h0b) (xI5 hI) rfl rfl rfl rfl (Nat.le_of_ble_eq_true rfl) (by decide) (by decide) dSF_chooseGrant_53 (fun H locs w => ?_)
          refine W.eq (g2 := F0 m 56 ls [.int (xb (xp_goes σ (4 * ((g + i) % 4) + j) b))]) rfl ?_
          refine xz_ifeq hx hb dSF_chooseGrant_56 rfl (fun hh2 => ?_) (fun hh2 => ?_)
          · skip
            have hbn : xf_best σ g (4 * (i - 1) + (j + 1)) = some b := by
              rw [show 4 * (i - 1) + (j + 1) = (4 * (i - 1) + j) + 1 by omega, xf_best_s, hc]; unfold xf_step; rw [xif_f (fun z => hh2 (z.2 b hbe)), hbe]
            have hl : lv_has ls 6 [(5, .ref (ad 0 (4 * ((g + i) % 4) + j))), (0, .ref (ad 5 0)), (1, xo ad (xf_best σ g (4 * (i - 1) + (j + 1)))), (2, .int (nI i)), (3, .int (nI ((g + i) % 4))), (4, .int (nI j))] := by rw [hbn]; exact hl
            refine lv_iinc (lv' := [(4, .int (nI (j + 1))), (5, .ref (ad 0 (4 * ((g + i) % 4) + j))), (0, .ref (ad 5 0)), (1, xo ad (xf_best σ g (4 * (i - 1) + (j + 1)))), (2, .int (nI i)), (3, .int (nI ((g + i) % 4)))]) hx hb dSF_chooseGrant_62 hl (k := 5) rfl (xn_inc _) (by decide) rfl (fun ls hl => ?_)
            refine lv_goto hx hb dSF_chooseGrant_65 rfl ?_
            exact ihj _ _ _ ⟨w, lv_sub hl [2, 3, 4, 5, 0] rfl⟩
          · skip
            refine lv_aload hx hb dSF_chooseGrant_59 (lv_at hl 0 rfl) ?_
            refine lv_astore_n (lv' := [(1, .ref (ad 0 (4 * ((g + i) % 4) + j))), (5, .ref (ad 0 (4 * ((g + i) % 4) + j))), (0, .ref (ad 5 0)), (2, .int (nI i)), (3, .int (nI ((g + i) % 4))), (4, .int (nI j))]) hx hb dSF_chooseGrant_61 rfl hl (by decide) rfl (fun ls hl => ?_)
            have hbn : xf_best σ g (4 * (i - 1) + (j + 1)) = some (4 * ((g + i) % 4) + j) := by
              rw [show 4 * (i - 1) + (j + 1) = (4 * (i - 1) + j) + 1 by omega, xf_best_s, hc]; unfold xf_step; rw [xif_t ⟨hh1, fun x hx => (by rw [hbe] at hx; cases hx; exact hh2)⟩]
            have hl : lv_has ls 6 [(1, xo ad (xf_best σ g (4 * (i - 1) + (j + 1)))), (5, .ref (ad 0 (4 * ((g + i) % 4) + j))), (0, .ref (ad 5 0)), (2, .int (nI i)), (3, .int (nI ((g + i) % 4))), (4, .int (nI j))] := by rw [hbn]; exact hl
            refine lv_iinc (lv' := [(4, .int (nI (j + 1))), (1, xo ad (xf_best σ g (4 * (i - 1) + (j + 1)))), (5, .ref (ad 0 (4 * ((g + i) % 4) + j))), (0, .ref (ad 5 0)), (2, .int (nI i)), (3, .int (nI ((g + i) % 4)))]) hx hb dSF_chooseGrant_62 hl (k := 5) rfl (xn_inc _) (by decide) rfl (fun ls hl => ?_)
            refine lv_goto hx hb dSF_chooseGrant_65 rfl ?_
            exact ihj _ _ _ ⟨w, lv_sub hl [3, 1, 4, 5, 0] rfl⟩
