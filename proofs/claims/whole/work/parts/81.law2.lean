/-! The law: more calls. -/
section
variable {p : Program} {l : Launch} {e : Env} {R : Room} {s : State} {m : MethodId} {args : Array Value} {below : List Frame} {meth : Method} {c : Code} {H : Heap} {locs : List Loc} {c0 d0 : Nat} {Q : State → Prop} {ls : Array Slot} {rest : List Value} {pc : Nat} {cc : ByteArray} {D : va_G} {cA : Nat → ClassId} {tz : Nat} {A : Nat → Prop} {b L j : Nat} {xs : Nat → Int32} {I : List (Nat × Nat)} {ad : Nat → Nat → Nat} {σ : xMem} {I0 T G : Nat}
set_option maxRecDepth 100000 in
set_option maxHeartbeats 4000000 in
theorem la_take (Cx : lx_C p l R s m args c tz A b L xs) (h : lx_K D cA tz A s j I ad σ I0 T G H locs c0 d0) (hj : 6 * j + 6 ≤ L) (hl : lv_has ls 7 [(4, .int (nI (6 * j))), (3, .ref (ad 40 0)), (2, .ref (ad 20 0)), (1, .ref (ad 5 0)), (0, .ref b)]) (hk : ∀ (I : List (Nat × Nat)) (ad : Nat → Nat → Nat) (σ : xMem) (I0 T G : Nat) (H : Heap) (locs : List Loc) (ls : Array Slot) (c0 d0 : Nat), lx_K D cA tz A s (j + 1) I ad σ I0 T G H locs c0 d0 → lv_has ls 7 [(4, .int (nI (6 * j))), (3, .ref (ad 40 0)), (2, .ref (ad 20 0)), (1, .ref (ad 5 0)), (0, .ref b)] → W p l e R s m args below meth c H locs c0 d0 Q (F0 m 1046 ls [])) : W p l e R s m args below meth c H locs c0 d0 Q (F0 m 562 ls []) := by
  obtain ⟨C, hml, htr, hX, hbl, hbA, hL3, hz, hR1, hR2c, hR3, hR4⟩ := Cx
  obtain ⟨hI, hJ, h40, hL, hR, hI0, hT, hc0, hd0, w⟩ := h
  obtain ⟨hx, hb, hown, hts⟩ := id C
  have hn0 := lx_n hR
  obtain ⟨k, σ1, σ2, I1, G1, v, hH, hD, hk3, hf, hw, hv, hR2, hI1, hn2, hg2⟩ := st_take l htr D cA tz I ad σ hI h40 hL hR (xs (6 * j + 1)) (xs (6 * j + 2))
  have hn9 := lx_n hR2
  refine lv_aload_n hx hb dlaw_562 rfl (lv_at hl 3 rfl) ?_
  refine lv_aload_n hx hb dlaw_563 rfl (lv_at hl 4 rfl) ?_
  refine lv_iload hx hb dlaw_564 (lv_at hl 0 rfl) ?_
  refine lv_iconst (v := nI 1) hx hb dlaw_566 xk_i1 ?_
  refine xn_add hx hb dlaw_567 ?_
  refine xs_scr hx hb hX hbl hbA w.2.2.2.1 ((6 * j) + 1) (by omega) (by omega) dlaw_568 ?_
  refine lv_aload_n hx hb dlaw_569 rfl (lv_at hl 4 rfl) ?_
  refine lv_iload hx hb dlaw_570 (lv_at hl 0 rfl) ?_
  refine lv_iconst (v := nI 2) hx hb dlaw_572 xk_i2 ?_
  refine xn_add hx hb dlaw_573 ?_
  refine xs_scr hx hb hX hbl hbA w.2.2.2.1 ((6 * j) + 2) (by omega) (by omega) dlaw_574 ?_
  refine lv_aload_n hx hb dlaw_575 rfl (lv_at hl 1 rfl) ?_
  refine xh_call C w hz hml hl.1 xl_LW_take xs_LW_take xk_nLW xq_LW_take ⟨by decide, by decide, rfl⟩ hH rfl rfl (Nat.le_of_ble_eq_true rfl) ⟨by omega, by omega⟩ ⟨by omega, by omega⟩ dlaw_576 (fun I ad H locs hE hL w => ?_)
  have e5 := hE.2 5 0 (xI5 hI)
  have e20 := hE.2 20 0 (xJ20 hJ)
  have e40 := hE.2 40 0 h40
  have hI := hE.I hI
  have hJ := hE.J hJ
  have h40 := hE.1 _ h40
  have hl : lv_has ls 7 [(4, .int (nI (6 * j))), (3, .ref (ad 40 0)), (2, .ref (ad 20 0)), (1, .ref (ad 5 0)), (0, .ref b)] := by rw [e5, e20, e40]; exact hl
  refine W.eq (g2 := F0 m 579 ls [.int (nI k)]) rfl ?_
  refine lv_istore (lv' := [(5, .int (nI k)), (4, .int (nI (6 * j))), (3, .ref (ad 40 0)), (2, .ref (ad 20 0)), (1, .ref (ad 5 0)), (0, .ref b)]) hx hb dlaw_579 hl (by decide) rfl (fun ls hl => ?_)
  refine lv_aload_n hx hb dlaw_581 rfl (lv_at hl 3 rfl) ?_
  refine lv_aload_n hx hb dlaw_582 rfl (lv_at hl 5 rfl) ?_
  refine lv_iload hx hb dlaw_583 (lv_at hl 1 rfl) ?_
  refine lv_iconst (v := nI 1) hx hb dlaw_585 xk_i1 ?_
  refine xn_add hx hb dlaw_586 ?_
  refine xs_scr hx hb hX hbl hbA w.2.2.2.1 ((6 * j) + 1) (by omega) (by omega) dlaw_587 ?_
  refine lv_aload_n hx hb dlaw_588 rfl (lv_at hl 5 rfl) ?_
  refine lv_iload hx hb dlaw_589 (lv_at hl 1 rfl) ?_
  refine lv_iconst (v := nI 2) hx hb dlaw_591 xk_i2 ?_
  refine xn_add hx hb dlaw_592 ?_
  refine xs_scr hx hb hX hbl hbA w.2.2.2.1 ((6 * j) + 2) (by omega) (by omega) dlaw_593 ?_
  refine xd_callV C w hz hml hl.1 xk_LW_109 (hD I ad hJ) (xJ20 hJ) rfl rfl rfl rfl (Nat.le_of_ble_eq_true rfl) ⟨by omega, by omega⟩ ⟨by omega, by omega⟩ dlaw_594 (fun H locs w => ?_)
  refine W.eq (g2 := F0 m 597 ls [.int v]) rfl ?_
  refine lv_istore (lv' := [(6, .int v), (5, .int (nI k)), (4, .int (nI (6 * j))), (3, .ref (ad 40 0)), (2, .ref (ad 20 0)), (1, .ref (ad 5 0)), (0, .ref b)]) hx hb dlaw_597 hl (by decide) rfl (fun ls hl => ?_)
  refine lv_aload_n hx hb dlaw_599 rfl (lv_at hl 4 rfl) ?_
  refine xd_callV C w hz hml hl.1 xk_LW_75 (cMD_thrown l D cA tz I ad σ2 hJ) (xJ20 hJ) rfl rfl rfl rfl (Nat.le_of_ble_eq_true rfl) ⟨by omega, by omega⟩ ⟨by omega, by omega⟩ dlaw_600 (fun H locs w => ?_)
  refine W.eq (g2 := F0 m 603 ls [.int (σ2 20 0 0)]) rfl ?_
  refine lv_iload hx hb dlaw_603 (lv_at hl 1 rfl) ?_
  refine lv_icmp_eq hx hb dlaw_605 rfl (fun _ => ?_) (fun hq => absurd hf hq)
  refine lv_iload hx hb dlaw_610 (lv_at hl 1 rfl) ?_
  refine lv_if_ne hx hb dlaw_612 rfl (fun _ => ?_) (fun hq => ?_)
  · skip
    refine lv_goto hx hb dlaw_634 rfl ?_
    exact hk I ad σ2 I1 T G1 H locs ls _ _ ⟨hI, hJ, h40, (by rw [hn2, hg2]; exact hL), hR2, by omega, by omega, by omega, by omega, w⟩ (lv_sub hl [2, 3, 4, 5, 6] rfl)
  · skip
    have hk0 : k = 0 := nI_inj (by omega) (by decide) (hq.trans nI_0.symm)
    have hw := hw hk0
    refine lv_aload_n hx hb dlaw_615 rfl (lv_at hl 3 rfl) ?_
    refine lv_iconst (v := nI 0) hx hb dlaw_616 xk_i0 ?_
    refine xs_lald C w h40 dlaw_617 ?_
    refine lv_iload hx hb dlaw_618 (lv_at hl 0 rfl) ?_
    refine lv_if_eq hx hb dlaw_620 rfl (fun hq0 => ?_) (fun hq0 => ?_)
    · skip
      refine lv_lconst hx hb dlaw_627 rfl ?_
      refine W.eq (g2 := F0 m 628 ls [.long v.toInt64, .long v.toInt64]) (by rw [hw]; rw [hq0]; rfl) ?_
      refine lv_lcmpE hx hb dlaw_628 ?_
      refine lv_if_eq hx hb dlaw_629 rfl (fun _ => ?_) (fun hq => absurd nI_0 hq)
      refine lv_goto hx hb dlaw_634 rfl ?_
      exact hk I ad σ2 I1 T G1 H locs ls _ _ ⟨hI, hJ, h40, (by rw [hn2, hg2]; exact hL), hR2, by omega, by omega, by omega, by omega, w⟩ (lv_sub hl [2, 3, 4, 5, 6] rfl)
    · skip
      have hv1 : v = nI 1 := by rcases hv with z | z; exact absurd (z.trans nI_0) hq0; exact z
      refine lv_lconst hx hb dlaw_623 rfl ?_
      refine lv_goto hx hb dlaw_624 rfl ?_
      refine W.eq (g2 := F0 m 628 ls [.long v.toInt64, .long v.toInt64]) (by rw [hw]; rw [hv1]; rfl) ?_
      refine lv_lcmpE hx hb dlaw_628 ?_
      refine lv_if_eq hx hb dlaw_629 rfl (fun _ => ?_) (fun hq => absurd nI_0 hq)
      refine lv_goto hx hb dlaw_634 rfl ?_
      exact hk I ad σ2 I1 T G1 H locs ls _ _ ⟨hI, hJ, h40, (by rw [hn2, hg2]; exact hL), hR2, by omega, by omega, by omega, by omega, w⟩ (lv_sub hl [2, 3, 4, 5, 6] rfl)
set_option maxRecDepth 100000 in
set_option maxHeartbeats 4000000 in
theorem la_base (Cx : lx_C p l R s m args c tz A b L xs) (h : lx_K D cA tz A s j I ad σ I0 T G H locs c0 d0) (hj : 6 * j + 6 ≤ L) (hl : lv_has ls 7 [(4, .int (nI (6 * j))), (3, .ref (ad 40 0)), (2, .ref (ad 20 0)), (1, .ref (ad 5 0)), (0, .ref b)]) (hk : ∀ (I : List (Nat × Nat)) (ad : Nat → Nat → Nat) (σ : xMem) (I0 T G : Nat) (H : Heap) (locs : List Loc) (ls : Array Slot) (c0 d0 : Nat), lx_K D cA tz A s (j + 1) I ad σ I0 T G H locs c0 d0 → lv_has ls 7 [(4, .int (nI (6 * j))), (3, .ref (ad 40 0)), (2, .ref (ad 20 0)), (1, .ref (ad 5 0)), (0, .ref b)] → W p l e R s m args below meth c H locs c0 d0 Q (F0 m 1046 ls [])) : W p l e R s m args below meth c H locs c0 d0 Q (F0 m 637 ls []) := by
  obtain ⟨C, hml, htr, hX, hbl, hbA, hL3, hz, hR1, hR2c, hR3, hR4⟩ := Cx
  obtain ⟨hI, hJ, h40, hL, hR, hI0, hT, hc0, hd0, w⟩ := h
  obtain ⟨hx, hb, hown, hts⟩ := id C
  have hn0 := lx_n hR
  obtain ⟨k, σ1, σ2, I1, G1, hH, hD, hk3, hf, hR2, hI1, hn2, hg2⟩ := st_base l htr D cA tz I ad σ hI h40 hL hR (xs (6 * j + 1)) (xs (6 * j + 2))
  have hn9 := lx_n hR2
  refine lv_aload_n hx hb dlaw_637 rfl (lv_at hl 3 rfl) ?_
  refine lv_aload_n hx hb dlaw_638 rfl (lv_at hl 4 rfl) ?_
  refine lv_iload hx hb dlaw_639 (lv_at hl 0 rfl) ?_
  refine lv_iconst (v := nI 1) hx hb dlaw_641 xk_i1 ?_
  refine xn_add hx hb dlaw_642 ?_
  refine xs_scr hx hb hX hbl hbA w.2.2.2.1 ((6 * j) + 1) (by omega) (by omega) dlaw_643 ?_
  refine lv_aload_n hx hb dlaw_644 rfl (lv_at hl 4 rfl) ?_
  refine lv_iload hx hb dlaw_645 (lv_at hl 0 rfl) ?_
  refine lv_iconst (v := nI 2) hx hb dlaw_647 xk_i2 ?_
  refine xn_add hx hb dlaw_648 ?_
  refine xs_scr hx hb hX hbl hbA w.2.2.2.1 ((6 * j) + 2) (by omega) (by omega) dlaw_649 ?_
  refine xh_call C w hz hml hl.1 xl_LW_base xs_LW_base xk_nLW xq_LW_base ⟨by decide, by decide, rfl⟩ hH rfl rfl (Nat.le_of_ble_eq_true rfl) ⟨by omega, by omega⟩ ⟨by omega, by omega⟩ dlaw_650 (fun I ad H locs hE hL w => ?_)
  have e5 := hE.2 5 0 (xI5 hI)
  have e20 := hE.2 20 0 (xJ20 hJ)
  have e40 := hE.2 40 0 h40
  have hI := hE.I hI
  have hJ := hE.J hJ
  have h40 := hE.1 _ h40
  have hl : lv_has ls 7 [(4, .int (nI (6 * j))), (3, .ref (ad 40 0)), (2, .ref (ad 20 0)), (1, .ref (ad 5 0)), (0, .ref b)] := by rw [e5, e20, e40]; exact hl
  refine W.eq (g2 := F0 m 653 ls [.int (nI k)]) rfl ?_
  refine lv_istore (lv' := [(5, .int (nI k)), (4, .int (nI (6 * j))), (3, .ref (ad 40 0)), (2, .ref (ad 20 0)), (1, .ref (ad 5 0)), (0, .ref b)]) hx hb dlaw_653 hl (by decide) rfl (fun ls hl => ?_)
  refine lv_aload_n hx hb dlaw_655 rfl (lv_at hl 3 rfl) ?_
  refine lv_aload_n hx hb dlaw_656 rfl (lv_at hl 5 rfl) ?_
  refine lv_iload hx hb dlaw_657 (lv_at hl 1 rfl) ?_
  refine lv_iconst (v := nI 1) hx hb dlaw_659 xk_i1 ?_
  refine xn_add hx hb dlaw_660 ?_
  refine xs_scr hx hb hX hbl hbA w.2.2.2.1 ((6 * j) + 1) (by omega) (by omega) dlaw_661 ?_
  refine lv_aload_n hx hb dlaw_662 rfl (lv_at hl 5 rfl) ?_
  refine lv_iload hx hb dlaw_663 (lv_at hl 1 rfl) ?_
  refine lv_iconst (v := nI 2) hx hb dlaw_665 xk_i2 ?_
  refine xn_add hx hb dlaw_666 ?_
  refine xs_scr hx hb hX hbl hbA w.2.2.2.1 ((6 * j) + 2) (by omega) (by omega) dlaw_667 ?_
  refine xd_callV C w hz hml hl.1 xk_LW_113 (hD I ad hJ) (xJ20 hJ) rfl rfl rfl rfl (Nat.le_of_ble_eq_true rfl) ⟨by omega, by omega⟩ ⟨by omega, by omega⟩ dlaw_668 (fun H locs w => ?_)
  refine W.eq (g2 := F0 m 671 ls []) rfl ?_
  refine lv_aload_n hx hb dlaw_671 rfl (lv_at hl 3 rfl) ?_
  refine xd_callV C w hz hml hl.1 xk_LW_75 (cMD_thrown l D cA tz I ad σ2 hJ) (xJ20 hJ) rfl rfl rfl rfl (Nat.le_of_ble_eq_true rfl) ⟨by omega, by omega⟩ ⟨by omega, by omega⟩ dlaw_672 (fun H locs w => ?_)
  refine W.eq (g2 := F0 m 675 ls [.int (σ2 20 0 0)]) rfl ?_
  refine lv_iload hx hb dlaw_675 (lv_at hl 0 rfl) ?_
  refine lv_icmp_eq hx hb dlaw_677 rfl (fun _ => ?_) (fun hq => absurd hf hq)
  refine lv_goto hx hb dlaw_682 rfl ?_
  exact hk I ad σ2 I1 T G1 H locs ls _ _ ⟨hI, hJ, h40, (by rw [hn2, hg2]; exact hL), hR2, by omega, by omega, by omega, by omega, w⟩ (lv_sub hl [1, 2, 3, 4, 5] rfl)
set_option maxRecDepth 100000 in
set_option maxHeartbeats 4000000 in
theorem la_waits (Cx : lx_C p l R s m args c tz A b L xs) (h : lx_K D cA tz A s j I ad σ I0 T G H locs c0 d0) (hj : 6 * j + 6 ≤ L) (hl : lv_has ls 7 [(4, .int (nI (6 * j))), (3, .ref (ad 40 0)), (2, .ref (ad 20 0)), (1, .ref (ad 5 0)), (0, .ref b)]) (hk : ∀ (I : List (Nat × Nat)) (ad : Nat → Nat → Nat) (σ : xMem) (I0 T G : Nat) (H : Heap) (locs : List Loc) (ls : Array Slot) (c0 d0 : Nat), lx_K D cA tz A s (j + 1) I ad σ I0 T G H locs c0 d0 → lv_has ls 7 [(4, .int (nI (6 * j))), (3, .ref (ad 40 0)), (2, .ref (ad 20 0)), (1, .ref (ad 5 0)), (0, .ref b)] → W p l e R s m args below meth c H locs c0 d0 Q (F0 m 1046 ls [])) : W p l e R s m args below meth c H locs c0 d0 Q (F0 m 685 ls []) := by
  obtain ⟨C, hml, htr, hX, hbl, hbA, hL3, hz, hR1, hR2c, hR3, hR4⟩ := Cx
  obtain ⟨hI, hJ, h40, hL, hR, hI0, hT, hc0, hd0, w⟩ := h
  obtain ⟨hx, hb, hown, hts⟩ := id C
  have hn0 := lx_n hR
  obtain ⟨k, σ1, σ2, I1, G1, v, hH, hD, hk3, hf, hw, hR2, hI1, hn2, hg2⟩ := st_waits l htr D cA tz I ad σ hI h40 hL hR (xs (6 * j + 1))
  have hn9 := lx_n hR2
  refine lv_aload_n hx hb dlaw_685 rfl (lv_at hl 3 rfl) ?_
  refine lv_aload_n hx hb dlaw_686 rfl (lv_at hl 4 rfl) ?_
  refine lv_iload hx hb dlaw_687 (lv_at hl 0 rfl) ?_
  refine lv_iconst (v := nI 1) hx hb dlaw_689 xk_i1 ?_
  refine xn_add hx hb dlaw_690 ?_
  refine xs_scr hx hb hX hbl hbA w.2.2.2.1 ((6 * j) + 1) (by omega) (by omega) dlaw_691 ?_
  refine lv_aload_n hx hb dlaw_692 rfl (lv_at hl 1 rfl) ?_
  refine xh_call C w hz hml hl.1 xl_LW_waits xs_LW_waits xk_nLW xq_LW_waits ⟨by decide, by decide, rfl⟩ hH rfl rfl (Nat.le_of_ble_eq_true rfl) ⟨by omega, by omega⟩ ⟨by omega, by omega⟩ dlaw_693 (fun I ad H locs hE hL w => ?_)
  have e5 := hE.2 5 0 (xI5 hI)
  have e20 := hE.2 20 0 (xJ20 hJ)
  have e40 := hE.2 40 0 h40
  have hI := hE.I hI
  have hJ := hE.J hJ
  have h40 := hE.1 _ h40
  have hl : lv_has ls 7 [(4, .int (nI (6 * j))), (3, .ref (ad 40 0)), (2, .ref (ad 20 0)), (1, .ref (ad 5 0)), (0, .ref b)] := by rw [e5, e20, e40]; exact hl
  refine W.eq (g2 := F0 m 696 ls [.int (nI k)]) rfl ?_
  refine lv_istore (lv' := [(5, .int (nI k)), (4, .int (nI (6 * j))), (3, .ref (ad 40 0)), (2, .ref (ad 20 0)), (1, .ref (ad 5 0)), (0, .ref b)]) hx hb dlaw_696 hl (by decide) rfl (fun ls hl => ?_)
  refine lv_aload_n hx hb dlaw_698 rfl (lv_at hl 3 rfl) ?_
  refine lv_aload_n hx hb dlaw_699 rfl (lv_at hl 5 rfl) ?_
  refine lv_iload hx hb dlaw_700 (lv_at hl 1 rfl) ?_
  refine lv_iconst (v := nI 1) hx hb dlaw_702 xk_i1 ?_
  refine xn_add hx hb dlaw_703 ?_
  refine xs_scr hx hb hX hbl hbA w.2.2.2.1 ((6 * j) + 1) (by omega) (by omega) dlaw_704 ?_
  refine xd_callV C w hz hml hl.1 xk_LW_116 (hD I ad hJ) (xJ20 hJ) rfl rfl rfl rfl (Nat.le_of_ble_eq_true rfl) ⟨by omega, by omega⟩ ⟨by omega, by omega⟩ dlaw_705 (fun H locs w => ?_)
  refine W.eq (g2 := F0 m 708 ls [.int v]) rfl ?_
  refine lv_istore (lv' := [(6, .int v), (5, .int (nI k)), (4, .int (nI (6 * j))), (3, .ref (ad 40 0)), (2, .ref (ad 20 0)), (1, .ref (ad 5 0)), (0, .ref b)]) hx hb dlaw_708 hl (by decide) rfl (fun ls hl => ?_)
  refine lv_aload_n hx hb dlaw_710 rfl (lv_at hl 4 rfl) ?_
  refine xd_callV C w hz hml hl.1 xk_LW_75 (cMD_thrown l D cA tz I ad σ2 hJ) (xJ20 hJ) rfl rfl rfl rfl (Nat.le_of_ble_eq_true rfl) ⟨by omega, by omega⟩ ⟨by omega, by omega⟩ dlaw_711 (fun H locs w => ?_)
  refine W.eq (g2 := F0 m 714 ls [.int (σ2 20 0 0)]) rfl ?_
  refine lv_iload hx hb dlaw_714 (lv_at hl 1 rfl) ?_
  refine lv_icmp_eq hx hb dlaw_716 rfl (fun _ => ?_) (fun hq => absurd hf hq)
  refine lv_iload hx hb dlaw_721 (lv_at hl 1 rfl) ?_
  refine lv_if_ne hx hb dlaw_723 rfl (fun _ => ?_) (fun hq => ?_)
  · skip
    refine lv_goto hx hb dlaw_738 rfl ?_
    exact hk I ad σ2 I1 T G1 H locs ls _ _ ⟨hI, hJ, h40, (by rw [hn2, hg2]; exact hL), hR2, by omega, by omega, by omega, by omega, w⟩ (lv_sub hl [2, 3, 4, 5, 6] rfl)
  · skip
    have hk0 : k = 0 := nI_inj (by omega) (by decide) (hq.trans nI_0.symm)
    have hw := hw hk0
    refine lv_aload_n hx hb dlaw_726 rfl (lv_at hl 3 rfl) ?_
    refine lv_iconst (v := nI 0) hx hb dlaw_727 xk_i0 ?_
    refine xs_lald C w h40 dlaw_728 ?_
    refine lv_iload hx hb dlaw_729 (lv_at hl 0 rfl) ?_
    refine lv_i2l hx hb dlaw_731 rfl ?_
    refine W.eq (g2 := F0 m 732 ls [.long v.toInt64, .long v.toInt64]) (by rw [hw]) ?_
    refine lv_lcmpE hx hb dlaw_732 ?_
    refine lv_if_eq hx hb dlaw_733 rfl (fun _ => ?_) (fun hq => absurd nI_0 hq)
    refine lv_goto hx hb dlaw_738 rfl ?_
    exact hk I ad σ2 I1 T G1 H locs ls _ _ ⟨hI, hJ, h40, (by rw [hn2, hg2]; exact hL), hR2, by omega, by omega, by omega, by omega, w⟩ (lv_sub hl [2, 3, 4, 5, 6] rfl)
set_option maxRecDepth 100000 in
set_option maxHeartbeats 4000000 in
theorem la_reset (Cx : lx_C p l R s m args c tz A b L xs) (h : lx_K D cA tz A s j I ad σ I0 T G H locs c0 d0) (hj : 6 * j + 6 ≤ L) (hl : lv_has ls 7 [(4, .int (nI (6 * j))), (3, .ref (ad 40 0)), (2, .ref (ad 20 0)), (1, .ref (ad 5 0)), (0, .ref b)]) (hk : ∀ (I : List (Nat × Nat)) (ad : Nat → Nat → Nat) (σ : xMem) (I0 T G : Nat) (H : Heap) (locs : List Loc) (ls : Array Slot) (c0 d0 : Nat), lx_K D cA tz A s (j + 1) I ad σ I0 T G H locs c0 d0 → lv_has ls 7 [(4, .int (nI (6 * j))), (3, .ref (ad 40 0)), (2, .ref (ad 20 0)), (1, .ref (ad 5 0)), (0, .ref b)] → W p l e R s m args below meth c H locs c0 d0 Q (F0 m 1046 ls [])) : W p l e R s m args below meth c H locs c0 d0 Q (F0 m 741 ls []) := by
  obtain ⟨C, hml, htr, hX, hbl, hbA, hL3, hz, hR1, hR2c, hR3, hR4⟩ := Cx
  obtain ⟨hI, hJ, h40, hL, hR, hI0, hT, hc0, hd0, w⟩ := h
  obtain ⟨hx, hb, hown, hts⟩ := id C
  have hn0 := lx_n hR
  obtain ⟨k, σ1, σ2, I1, G1, v, hH, hD, hk3, hf, hw, hR2, hI1, hn2, hg2⟩ := st_reset l htr D cA tz I ad σ hI h40 hL hR (xs (6 * j + 1))
  have hn9 := lx_n hR2
  refine lv_aload_n hx hb dlaw_741 rfl (lv_at hl 3 rfl) ?_
  refine lv_aload_n hx hb dlaw_742 rfl (lv_at hl 4 rfl) ?_
  refine lv_iload hx hb dlaw_743 (lv_at hl 0 rfl) ?_
  refine lv_iconst (v := nI 1) hx hb dlaw_745 xk_i1 ?_
  refine xn_add hx hb dlaw_746 ?_
  refine xs_scr hx hb hX hbl hbA w.2.2.2.1 ((6 * j) + 1) (by omega) (by omega) dlaw_747 ?_
  refine lv_aload_n hx hb dlaw_748 rfl (lv_at hl 1 rfl) ?_
  refine xh_call C w hz hml hl.1 xl_LW_reset xs_LW_reset xk_nLW xq_LW_reset ⟨by decide, by decide, rfl⟩ hH rfl rfl (Nat.le_of_ble_eq_true rfl) ⟨by omega, by omega⟩ ⟨by omega, by omega⟩ dlaw_749 (fun I ad H locs hE hL w => ?_)
  have e5 := hE.2 5 0 (xI5 hI)
  have e20 := hE.2 20 0 (xJ20 hJ)
  have e40 := hE.2 40 0 h40
  have hI := hE.I hI
  have hJ := hE.J hJ
  have h40 := hE.1 _ h40
  have hl : lv_has ls 7 [(4, .int (nI (6 * j))), (3, .ref (ad 40 0)), (2, .ref (ad 20 0)), (1, .ref (ad 5 0)), (0, .ref b)] := by rw [e5, e20, e40]; exact hl
  refine W.eq (g2 := F0 m 752 ls [.int (nI k)]) rfl ?_
  refine lv_istore (lv' := [(5, .int (nI k)), (4, .int (nI (6 * j))), (3, .ref (ad 40 0)), (2, .ref (ad 20 0)), (1, .ref (ad 5 0)), (0, .ref b)]) hx hb dlaw_752 hl (by decide) rfl (fun ls hl => ?_)
  refine lv_aload_n hx hb dlaw_754 rfl (lv_at hl 3 rfl) ?_
  refine lv_aload_n hx hb dlaw_755 rfl (lv_at hl 5 rfl) ?_
  refine lv_iload hx hb dlaw_756 (lv_at hl 1 rfl) ?_
  refine lv_iconst (v := nI 1) hx hb dlaw_758 xk_i1 ?_
  refine xn_add hx hb dlaw_759 ?_
  refine xs_scr hx hb hX hbl hbA w.2.2.2.1 ((6 * j) + 1) (by omega) (by omega) dlaw_760 ?_
  refine xd_callV C w hz hml hl.1 xk_LW_119 (hD I ad hJ) (xJ20 hJ) rfl rfl rfl rfl (Nat.le_of_ble_eq_true rfl) ⟨by omega, by omega⟩ ⟨by omega, by omega⟩ dlaw_761 (fun H locs w => ?_)
  refine W.eq (g2 := F0 m 764 ls [.int v]) rfl ?_
  refine lv_istore (lv' := [(6, .int v), (5, .int (nI k)), (4, .int (nI (6 * j))), (3, .ref (ad 40 0)), (2, .ref (ad 20 0)), (1, .ref (ad 5 0)), (0, .ref b)]) hx hb dlaw_764 hl (by decide) rfl (fun ls hl => ?_)
  refine lv_aload_n hx hb dlaw_766 rfl (lv_at hl 4 rfl) ?_
  refine xd_callV C w hz hml hl.1 xk_LW_75 (cMD_thrown l D cA tz I ad σ2 hJ) (xJ20 hJ) rfl rfl rfl rfl (Nat.le_of_ble_eq_true rfl) ⟨by omega, by omega⟩ ⟨by omega, by omega⟩ dlaw_767 (fun H locs w => ?_)
  refine W.eq (g2 := F0 m 770 ls [.int (σ2 20 0 0)]) rfl ?_
  refine lv_iload hx hb dlaw_770 (lv_at hl 1 rfl) ?_
  refine lv_icmp_eq hx hb dlaw_772 rfl (fun _ => ?_) (fun hq => absurd hf hq)
  refine lv_iload hx hb dlaw_777 (lv_at hl 1 rfl) ?_
  refine lv_if_ne hx hb dlaw_779 rfl (fun _ => ?_) (fun hq => ?_)
  · skip
    refine lv_goto hx hb dlaw_794 rfl ?_
    exact hk I ad σ2 I1 T G1 H locs ls _ _ ⟨hI, hJ, h40, (by rw [hn2, hg2]; exact hL), hR2, by omega, by omega, by omega, by omega, w⟩ (lv_sub hl [2, 3, 4, 5, 6] rfl)
  · skip
    have hk0 : k = 0 := nI_inj (by omega) (by decide) (hq.trans nI_0.symm)
    have hw := hw hk0
    refine lv_aload_n hx hb dlaw_782 rfl (lv_at hl 3 rfl) ?_
    refine lv_iconst (v := nI 0) hx hb dlaw_783 xk_i0 ?_
    refine xs_lald C w h40 dlaw_784 ?_
    refine lv_iload hx hb dlaw_785 (lv_at hl 0 rfl) ?_
    refine lv_i2l hx hb dlaw_787 rfl ?_
    refine W.eq (g2 := F0 m 788 ls [.long v.toInt64, .long v.toInt64]) (by rw [hw]) ?_
    refine lv_lcmpE hx hb dlaw_788 ?_
    refine lv_if_eq hx hb dlaw_789 rfl (fun _ => ?_) (fun hq => absurd nI_0 hq)
    refine lv_goto hx hb dlaw_794 rfl ?_
    exact hk I ad σ2 I1 T G1 H locs ls _ _ ⟨hI, hJ, h40, (by rw [hn2, hg2]; exact hL), hR2, by omega, by omega, by omega, by omega, w⟩ (lv_sub hl [2, 3, 4, 5, 6] rfl)
set_option maxRecDepth 100000 in
set_option maxHeartbeats 4000000 in
theorem la_credits (Cx : lx_C p l R s m args c tz A b L xs) (h : lx_K D cA tz A s j I ad σ I0 T G H locs c0 d0) (hj : 6 * j + 6 ≤ L) (hl : lv_has ls 7 [(4, .int (nI (6 * j))), (3, .ref (ad 40 0)), (2, .ref (ad 20 0)), (1, .ref (ad 5 0)), (0, .ref b)]) (hk : ∀ (I : List (Nat × Nat)) (ad : Nat → Nat → Nat) (σ : xMem) (I0 T G : Nat) (H : Heap) (locs : List Loc) (ls : Array Slot) (c0 d0 : Nat), lx_K D cA tz A s (j + 1) I ad σ I0 T G H locs c0 d0 → lv_has ls 7 [(4, .int (nI (6 * j))), (3, .ref (ad 40 0)), (2, .ref (ad 20 0)), (1, .ref (ad 5 0)), (0, .ref b)] → W p l e R s m args below meth c H locs c0 d0 Q (F0 m 1046 ls [])) : W p l e R s m args below meth c H locs c0 d0 Q (F0 m 797 ls []) := by
  obtain ⟨C, hml, htr, hX, hbl, hbA, hL3, hz, hR1, hR2c, hR3, hR4⟩ := Cx
  obtain ⟨hI, hJ, h40, hL, hR, hI0, hT, hc0, hd0, w⟩ := h
  obtain ⟨hx, hb, hown, hts⟩ := id C
  have hn0 := lx_n hR
  obtain ⟨k, σ1, σ2, I1, G1, v, hH, hD, hk3, hf, hw, hR2, hI1, hn2, hg2⟩ := st_credits l htr D cA tz I ad σ hI h40 hL hR (xs (6 * j + 1))
  have hn9 := lx_n hR2
  refine lv_aload_n hx hb dlaw_797 rfl (lv_at hl 3 rfl) ?_
  refine lv_aload_n hx hb dlaw_798 rfl (lv_at hl 4 rfl) ?_
  refine lv_iload hx hb dlaw_799 (lv_at hl 0 rfl) ?_
  refine lv_iconst (v := nI 1) hx hb dlaw_801 xk_i1 ?_
  refine xn_add hx hb dlaw_802 ?_
  refine xs_scr hx hb hX hbl hbA w.2.2.2.1 ((6 * j) + 1) (by omega) (by omega) dlaw_803 ?_
  refine lv_aload_n hx hb dlaw_804 rfl (lv_at hl 1 rfl) ?_
  refine xh_call C w hz hml hl.1 xl_LW_credits xs_LW_credits xk_nLW xq_LW_credits ⟨by decide, by decide, rfl⟩ hH rfl rfl (Nat.le_of_ble_eq_true rfl) ⟨by omega, by omega⟩ ⟨by omega, by omega⟩ dlaw_805 (fun I ad H locs hE hL w => ?_)
  have e5 := hE.2 5 0 (xI5 hI)
  have e20 := hE.2 20 0 (xJ20 hJ)
  have e40 := hE.2 40 0 h40
  have hI := hE.I hI
  have hJ := hE.J hJ
  have h40 := hE.1 _ h40
  have hl : lv_has ls 7 [(4, .int (nI (6 * j))), (3, .ref (ad 40 0)), (2, .ref (ad 20 0)), (1, .ref (ad 5 0)), (0, .ref b)] := by rw [e5, e20, e40]; exact hl
  refine W.eq (g2 := F0 m 808 ls [.int (nI k)]) rfl ?_
  refine lv_istore (lv' := [(5, .int (nI k)), (4, .int (nI (6 * j))), (3, .ref (ad 40 0)), (2, .ref (ad 20 0)), (1, .ref (ad 5 0)), (0, .ref b)]) hx hb dlaw_808 hl (by decide) rfl (fun ls hl => ?_)
  refine lv_aload_n hx hb dlaw_810 rfl (lv_at hl 3 rfl) ?_
  refine lv_aload_n hx hb dlaw_811 rfl (lv_at hl 5 rfl) ?_
  refine lv_iload hx hb dlaw_812 (lv_at hl 1 rfl) ?_
  refine lv_iconst (v := nI 1) hx hb dlaw_814 xk_i1 ?_
  refine xn_add hx hb dlaw_815 ?_
  refine xs_scr hx hb hX hbl hbA w.2.2.2.1 ((6 * j) + 1) (by omega) (by omega) dlaw_816 ?_
  refine xd_callV C w hz hml hl.1 xk_LW_122 (hD I ad hJ) (xJ20 hJ) rfl rfl rfl rfl (Nat.le_of_ble_eq_true rfl) ⟨by omega, by omega⟩ ⟨by omega, by omega⟩ dlaw_817 (fun H locs w => ?_)
  refine W.eq (g2 := F0 m 820 ls [.int v]) rfl ?_
  refine lv_istore (lv' := [(6, .int v), (5, .int (nI k)), (4, .int (nI (6 * j))), (3, .ref (ad 40 0)), (2, .ref (ad 20 0)), (1, .ref (ad 5 0)), (0, .ref b)]) hx hb dlaw_820 hl (by decide) rfl (fun ls hl => ?_)
  refine lv_aload_n hx hb dlaw_822 rfl (lv_at hl 4 rfl) ?_
  refine xd_callV C w hz hml hl.1 xk_LW_75 (cMD_thrown l D cA tz I ad σ2 hJ) (xJ20 hJ) rfl rfl rfl rfl (Nat.le_of_ble_eq_true rfl) ⟨by omega, by omega⟩ ⟨by omega, by omega⟩ dlaw_823 (fun H locs w => ?_)
  refine W.eq (g2 := F0 m 826 ls [.int (σ2 20 0 0)]) rfl ?_
  refine lv_iload hx hb dlaw_826 (lv_at hl 1 rfl) ?_
  refine lv_icmp_eq hx hb dlaw_828 rfl (fun _ => ?_) (fun hq => absurd hf hq)
  refine lv_iload hx hb dlaw_833 (lv_at hl 1 rfl) ?_
  refine lv_if_ne hx hb dlaw_835 rfl (fun _ => ?_) (fun hq => ?_)
  · skip
    refine lv_goto hx hb dlaw_850 rfl ?_
    exact hk I ad σ2 I1 T G1 H locs ls _ _ ⟨hI, hJ, h40, (by rw [hn2, hg2]; exact hL), hR2, by omega, by omega, by omega, by omega, w⟩ (lv_sub hl [2, 3, 4, 5, 6] rfl)
  · skip
    have hk0 : k = 0 := nI_inj (by omega) (by decide) (hq.trans nI_0.symm)
    have hw := hw hk0
    refine lv_aload_n hx hb dlaw_838 rfl (lv_at hl 3 rfl) ?_
    refine lv_iconst (v := nI 0) hx hb dlaw_839 xk_i0 ?_
    refine xs_lald C w h40 dlaw_840 ?_
    refine lv_iload hx hb dlaw_841 (lv_at hl 0 rfl) ?_
    refine lv_i2l hx hb dlaw_843 rfl ?_
    refine W.eq (g2 := F0 m 844 ls [.long v.toInt64, .long v.toInt64]) (by rw [hw]) ?_
    refine lv_lcmpE hx hb dlaw_844 ?_
    refine lv_if_eq hx hb dlaw_845 rfl (fun _ => ?_) (fun hq => absurd nI_0 hq)
    refine lv_goto hx hb dlaw_850 rfl ?_
    exact hk I ad σ2 I1 T G1 H locs ls _ _ ⟨hI, hJ, h40, (by rw [hn2, hg2]; exact hL), hR2, by omega, by omega, by omega, by omega, w⟩ (lv_sub hl [2, 3, 4, 5, 6] rfl)
set_option maxRecDepth 100000 in
set_option maxHeartbeats 4000000 in
theorem la_holder (Cx : lx_C p l R s m args c tz A b L xs) (h : lx_K D cA tz A s j I ad σ I0 T G H locs c0 d0) (hj : 6 * j + 6 ≤ L) (hl : lv_has ls 7 [(4, .int (nI (6 * j))), (3, .ref (ad 40 0)), (2, .ref (ad 20 0)), (1, .ref (ad 5 0)), (0, .ref b)]) (hk : ∀ (I : List (Nat × Nat)) (ad : Nat → Nat → Nat) (σ : xMem) (I0 T G : Nat) (H : Heap) (locs : List Loc) (ls : Array Slot) (c0 d0 : Nat), lx_K D cA tz A s (j + 1) I ad σ I0 T G H locs c0 d0 → lv_has ls 7 [(4, .int (nI (6 * j))), (3, .ref (ad 40 0)), (2, .ref (ad 20 0)), (1, .ref (ad 5 0)), (0, .ref b)] → W p l e R s m args below meth c H locs c0 d0 Q (F0 m 1046 ls [])) : W p l e R s m args below meth c H locs c0 d0 Q (F0 m 853 ls []) := by
  obtain ⟨C, hml, htr, hX, hbl, hbA, hL3, hz, hR1, hR2c, hR3, hR4⟩ := Cx
  obtain ⟨hI, hJ, h40, hL, hR, hI0, hT, hc0, hd0, w⟩ := h
  obtain ⟨hx, hb, hown, hts⟩ := id C
  have hn0 := lx_n hR
  obtain ⟨k, σ1, σ2, I1, G1, v, hH, hD, hk3, hf, hw, hR2, hI1, hn2, hg2⟩ := st_holder l htr D cA tz I ad σ hI h40 hL hR (xs (6 * j + 1))
  have hn9 := lx_n hR2
  refine lv_aload_n hx hb dlaw_853 rfl (lv_at hl 3 rfl) ?_
  refine lv_aload_n hx hb dlaw_854 rfl (lv_at hl 4 rfl) ?_
  refine lv_iload hx hb dlaw_855 (lv_at hl 0 rfl) ?_
  refine lv_iconst (v := nI 1) hx hb dlaw_857 xk_i1 ?_
  refine xn_add hx hb dlaw_858 ?_
  refine xs_scr hx hb hX hbl hbA w.2.2.2.1 ((6 * j) + 1) (by omega) (by omega) dlaw_859 ?_
  refine lv_aload_n hx hb dlaw_860 rfl (lv_at hl 1 rfl) ?_
  refine xh_call C w hz hml hl.1 xl_LW_holder xs_LW_holder xk_nLW xq_LW_holder ⟨by decide, by decide, rfl⟩ hH rfl rfl (Nat.le_of_ble_eq_true rfl) ⟨by omega, by omega⟩ ⟨by omega, by omega⟩ dlaw_861 (fun I ad H locs hE hL w => ?_)
  have e5 := hE.2 5 0 (xI5 hI)
  have e20 := hE.2 20 0 (xJ20 hJ)
  have e40 := hE.2 40 0 h40
  have hI := hE.I hI
  have hJ := hE.J hJ
  have h40 := hE.1 _ h40
  have hl : lv_has ls 7 [(4, .int (nI (6 * j))), (3, .ref (ad 40 0)), (2, .ref (ad 20 0)), (1, .ref (ad 5 0)), (0, .ref b)] := by rw [e5, e20, e40]; exact hl
  refine W.eq (g2 := F0 m 864 ls [.int (nI k)]) rfl ?_
  refine lv_istore (lv' := [(5, .int (nI k)), (4, .int (nI (6 * j))), (3, .ref (ad 40 0)), (2, .ref (ad 20 0)), (1, .ref (ad 5 0)), (0, .ref b)]) hx hb dlaw_864 hl (by decide) rfl (fun ls hl => ?_)
  refine lv_aload_n hx hb dlaw_866 rfl (lv_at hl 3 rfl) ?_
  refine lv_aload_n hx hb dlaw_867 rfl (lv_at hl 5 rfl) ?_
  refine lv_iload hx hb dlaw_868 (lv_at hl 1 rfl) ?_
  refine lv_iconst (v := nI 1) hx hb dlaw_870 xk_i1 ?_
  refine xn_add hx hb dlaw_871 ?_
  refine xs_scr hx hb hX hbl hbA w.2.2.2.1 ((6 * j) + 1) (by omega) (by omega) dlaw_872 ?_
  refine xd_callV C w hz hml hl.1 xk_LW_125 (hD I ad hJ) (xJ20 hJ) rfl rfl rfl rfl (Nat.le_of_ble_eq_true rfl) ⟨by omega, by omega⟩ ⟨by omega, by omega⟩ dlaw_873 (fun H locs w => ?_)
  refine W.eq (g2 := F0 m 876 ls [.int v]) rfl ?_
  refine lv_istore (lv' := [(6, .int v), (5, .int (nI k)), (4, .int (nI (6 * j))), (3, .ref (ad 40 0)), (2, .ref (ad 20 0)), (1, .ref (ad 5 0)), (0, .ref b)]) hx hb dlaw_876 hl (by decide) rfl (fun ls hl => ?_)
  refine lv_aload_n hx hb dlaw_878 rfl (lv_at hl 4 rfl) ?_
  refine xd_callV C w hz hml hl.1 xk_LW_75 (cMD_thrown l D cA tz I ad σ2 hJ) (xJ20 hJ) rfl rfl rfl rfl (Nat.le_of_ble_eq_true rfl) ⟨by omega, by omega⟩ ⟨by omega, by omega⟩ dlaw_879 (fun H locs w => ?_)
  refine W.eq (g2 := F0 m 882 ls [.int (σ2 20 0 0)]) rfl ?_
  refine lv_iload hx hb dlaw_882 (lv_at hl 1 rfl) ?_
  refine lv_icmp_eq hx hb dlaw_884 rfl (fun _ => ?_) (fun hq => absurd hf hq)
  refine lv_iload hx hb dlaw_889 (lv_at hl 1 rfl) ?_
  refine lv_if_ne hx hb dlaw_891 rfl (fun _ => ?_) (fun hq => ?_)
  · skip
    refine lv_goto hx hb dlaw_906 rfl ?_
    exact hk I ad σ2 I1 T G1 H locs ls _ _ ⟨hI, hJ, h40, (by rw [hn2, hg2]; exact hL), hR2, by omega, by omega, by omega, by omega, w⟩ (lv_sub hl [2, 3, 4, 5, 6] rfl)
  · skip
    have hk0 : k = 0 := nI_inj (by omega) (by decide) (hq.trans nI_0.symm)
    have hw := hw hk0
    refine lv_aload_n hx hb dlaw_894 rfl (lv_at hl 3 rfl) ?_
    refine lv_iconst (v := nI 0) hx hb dlaw_895 xk_i0 ?_
    refine xs_lald C w h40 dlaw_896 ?_
    refine lv_iload hx hb dlaw_897 (lv_at hl 0 rfl) ?_
    refine lv_i2l hx hb dlaw_899 rfl ?_
    refine W.eq (g2 := F0 m 900 ls [.long v.toInt64, .long v.toInt64]) (by rw [hw]) ?_
    refine lv_lcmpE hx hb dlaw_900 ?_
    refine lv_if_eq hx hb dlaw_901 rfl (fun _ => ?_) (fun hq => absurd nI_0 hq)
    refine lv_goto hx hb dlaw_906 rfl ?_
    exact hk I ad σ2 I1 T G1 H locs ls _ _ ⟨hI, hJ, h40, (by rw [hn2, hg2]; exact hL), hR2, by omega, by omega, by omega, by omega, w⟩ (lv_sub hl [2, 3, 4, 5, 6] rfl)
set_option maxRecDepth 100000 in
set_option maxHeartbeats 4000000 in
theorem la_memory (Cx : lx_C p l R s m args c tz A b L xs) (h : lx_K D cA tz A s j I ad σ I0 T G H locs c0 d0) (hj : 6 * j + 6 ≤ L) (hl : lv_has ls 7 [(4, .int (nI (6 * j))), (3, .ref (ad 40 0)), (2, .ref (ad 20 0)), (1, .ref (ad 5 0)), (0, .ref b)]) (hk : ∀ (I : List (Nat × Nat)) (ad : Nat → Nat → Nat) (σ : xMem) (I0 T G : Nat) (H : Heap) (locs : List Loc) (ls : Array Slot) (c0 d0 : Nat), lx_K D cA tz A s (j + 1) I ad σ I0 T G H locs c0 d0 → lv_has ls 7 [(4, .int (nI (6 * j))), (3, .ref (ad 40 0)), (2, .ref (ad 20 0)), (1, .ref (ad 5 0)), (0, .ref b)] → W p l e R s m args below meth c H locs c0 d0 Q (F0 m 1046 ls [])) : W p l e R s m args below meth c H locs c0 d0 Q (F0 m 909 ls []) := by
  obtain ⟨C, hml, htr, hX, hbl, hbA, hL3, hz, hR1, hR2c, hR3, hR4⟩ := Cx
  obtain ⟨hI, hJ, h40, hL, hR, hI0, hT, hc0, hd0, w⟩ := h
  obtain ⟨hx, hb, hown, hts⟩ := id C
  have hn0 := lx_n hR
  obtain ⟨k, σ1, σ2, I1, G1, v, hH, hD, hk3, hf, hw, hR2, hI1, hn2, hg2⟩ := st_memory l htr D cA tz I ad σ hI h40 hL hR (xs (6 * j + 1))
  have hn9 := lx_n hR2
  refine lv_aload_n hx hb dlaw_909 rfl (lv_at hl 3 rfl) ?_
  refine lv_aload_n hx hb dlaw_910 rfl (lv_at hl 4 rfl) ?_
  refine lv_iload hx hb dlaw_911 (lv_at hl 0 rfl) ?_
  refine lv_iconst (v := nI 1) hx hb dlaw_913 xk_i1 ?_
  refine xn_add hx hb dlaw_914 ?_
  refine xs_scr hx hb hX hbl hbA w.2.2.2.1 ((6 * j) + 1) (by omega) (by omega) dlaw_915 ?_
  refine lv_aload_n hx hb dlaw_916 rfl (lv_at hl 1 rfl) ?_
  refine xh_call C w hz hml hl.1 xl_LW_memory xs_LW_memory xk_nLW xq_LW_memory ⟨by decide, by decide, rfl⟩ hH rfl rfl (Nat.le_of_ble_eq_true rfl) ⟨by omega, by omega⟩ ⟨by omega, by omega⟩ dlaw_917 (fun I ad H locs hE hL w => ?_)
  have e5 := hE.2 5 0 (xI5 hI)
  have e20 := hE.2 20 0 (xJ20 hJ)
  have e40 := hE.2 40 0 h40
  have hI := hE.I hI
  have hJ := hE.J hJ
  have h40 := hE.1 _ h40
  have hl : lv_has ls 7 [(4, .int (nI (6 * j))), (3, .ref (ad 40 0)), (2, .ref (ad 20 0)), (1, .ref (ad 5 0)), (0, .ref b)] := by rw [e5, e20, e40]; exact hl
  refine W.eq (g2 := F0 m 920 ls [.int (nI k)]) rfl ?_
  refine lv_istore (lv' := [(5, .int (nI k)), (4, .int (nI (6 * j))), (3, .ref (ad 40 0)), (2, .ref (ad 20 0)), (1, .ref (ad 5 0)), (0, .ref b)]) hx hb dlaw_920 hl (by decide) rfl (fun ls hl => ?_)
  refine lv_aload_n hx hb dlaw_922 rfl (lv_at hl 3 rfl) ?_
  refine lv_aload_n hx hb dlaw_923 rfl (lv_at hl 5 rfl) ?_
  refine lv_iload hx hb dlaw_924 (lv_at hl 1 rfl) ?_
  refine lv_iconst (v := nI 1) hx hb dlaw_926 xk_i1 ?_
  refine xn_add hx hb dlaw_927 ?_
  refine xs_scr hx hb hX hbl hbA w.2.2.2.1 ((6 * j) + 1) (by omega) (by omega) dlaw_928 ?_
  refine xd_callV C w hz hml hl.1 xk_LW_128 (hD I ad hJ) (xJ20 hJ) rfl rfl rfl rfl (Nat.le_of_ble_eq_true rfl) ⟨by omega, by omega⟩ ⟨by omega, by omega⟩ dlaw_929 (fun H locs w => ?_)
  refine W.eq (g2 := F0 m 932 ls [.int v]) rfl ?_
  refine lv_istore (lv' := [(6, .int v), (5, .int (nI k)), (4, .int (nI (6 * j))), (3, .ref (ad 40 0)), (2, .ref (ad 20 0)), (1, .ref (ad 5 0)), (0, .ref b)]) hx hb dlaw_932 hl (by decide) rfl (fun ls hl => ?_)
  refine lv_aload_n hx hb dlaw_934 rfl (lv_at hl 4 rfl) ?_
  refine xd_callV C w hz hml hl.1 xk_LW_75 (cMD_thrown l D cA tz I ad σ2 hJ) (xJ20 hJ) rfl rfl rfl rfl (Nat.le_of_ble_eq_true rfl) ⟨by omega, by omega⟩ ⟨by omega, by omega⟩ dlaw_935 (fun H locs w => ?_)
  refine W.eq (g2 := F0 m 938 ls [.int (σ2 20 0 0)]) rfl ?_
  refine lv_iload hx hb dlaw_938 (lv_at hl 1 rfl) ?_
  refine lv_icmp_eq hx hb dlaw_940 rfl (fun _ => ?_) (fun hq => absurd hf hq)
  refine lv_iload hx hb dlaw_945 (lv_at hl 1 rfl) ?_
  refine lv_if_ne hx hb dlaw_947 rfl (fun _ => ?_) (fun hq => ?_)
  · skip
    refine lv_goto hx hb dlaw_962 rfl ?_
    exact hk I ad σ2 I1 T G1 H locs ls _ _ ⟨hI, hJ, h40, (by rw [hn2, hg2]; exact hL), hR2, by omega, by omega, by omega, by omega, w⟩ (lv_sub hl [2, 3, 4, 5, 6] rfl)
  · skip
    have hk0 : k = 0 := nI_inj (by omega) (by decide) (hq.trans nI_0.symm)
    have hw := hw hk0
    refine lv_aload_n hx hb dlaw_950 rfl (lv_at hl 3 rfl) ?_
    refine lv_iconst (v := nI 0) hx hb dlaw_951 xk_i0 ?_
    refine xs_lald C w h40 dlaw_952 ?_
    refine lv_iload hx hb dlaw_953 (lv_at hl 0 rfl) ?_
    refine lv_i2l hx hb dlaw_955 rfl ?_
    refine W.eq (g2 := F0 m 956 ls [.long v.toInt64, .long v.toInt64]) (by rw [hw]) ?_
    refine lv_lcmpE hx hb dlaw_956 ?_
    refine lv_if_eq hx hb dlaw_957 rfl (fun _ => ?_) (fun hq => absurd nI_0 hq)
    refine lv_goto hx hb dlaw_962 rfl ?_
    exact hk I ad σ2 I1 T G1 H locs ls _ _ ⟨hI, hJ, h40, (by rw [hn2, hg2]; exact hL), hR2, by omega, by omega, by omega, by omega, w⟩ (lv_sub hl [2, 3, 4, 5, 6] rfl)
set_option maxRecDepth 100000 in
set_option maxHeartbeats 4000000 in
theorem la_served (Cx : lx_C p l R s m args c tz A b L xs) (h : lx_K D cA tz A s j I ad σ I0 T G H locs c0 d0) (hj : 6 * j + 6 ≤ L) (hl : lv_has ls 7 [(4, .int (nI (6 * j))), (3, .ref (ad 40 0)), (2, .ref (ad 20 0)), (1, .ref (ad 5 0)), (0, .ref b)]) (hk : ∀ (I : List (Nat × Nat)) (ad : Nat → Nat → Nat) (σ : xMem) (I0 T G : Nat) (H : Heap) (locs : List Loc) (ls : Array Slot) (c0 d0 : Nat), lx_K D cA tz A s (j + 1) I ad σ I0 T G H locs c0 d0 → lv_has ls 7 [(4, .int (nI (6 * j))), (3, .ref (ad 40 0)), (2, .ref (ad 20 0)), (1, .ref (ad 5 0)), (0, .ref b)] → W p l e R s m args below meth c H locs c0 d0 Q (F0 m 1046 ls [])) : W p l e R s m args below meth c H locs c0 d0 Q (F0 m 965 ls []) := by
  obtain ⟨C, hml, htr, hX, hbl, hbA, hL3, hz, hR1, hR2c, hR3, hR4⟩ := Cx
  obtain ⟨hI, hJ, h40, hL, hR, hI0, hT, hc0, hd0, w⟩ := h
  obtain ⟨hx, hb, hown, hts⟩ := id C
  have hn0 := lx_n hR
  have hR2 := Rel_f2 (x := nI 0) hR
  have hf : σ 11 0 2 = σ 20 0 21 := hR.rg.xs.1.trans hR.rg.sv.symm
  have hn2 : xf_n (xu3 σ 20 0 0 (nI 0)) = xf_n σ := rfl
  have hg2 : xf_g (xu3 σ 20 0 0 (nI 0)) = xf_g σ := rfl
  refine lv_aload_n hx hb dlaw_965 rfl (lv_at hl 3 rfl) ?_
  refine xd_callV C w hz hml hl.1 xk_LW_129 (cSF_served l D cA tz I ad σ hI) (xI5 hI) rfl rfl rfl rfl (Nat.le_of_ble_eq_true rfl) ⟨by omega, by omega⟩ ⟨by omega, by omega⟩ dlaw_966 (fun H locs w => ?_)
  refine W.eq (g2 := F0 m 969 ls [.int (σ 11 0 2)]) rfl ?_
  refine lv_aload_n hx hb dlaw_969 rfl (lv_at hl 2 rfl) ?_
  refine xd_callV C w hz hml hl.1 xk_LW_132 (cMD_served l D cA tz I ad σ hJ) (xJ20 hJ) rfl rfl rfl rfl (Nat.le_of_ble_eq_true rfl) ⟨by omega, by omega⟩ ⟨by omega, by omega⟩ dlaw_970 (fun H locs w => ?_)
  refine W.eq (g2 := F0 m 973 ls [.int (σ 20 0 21), .int (σ 11 0 2)]) rfl ?_
  refine lv_icmp_eq hx hb dlaw_973 rfl (fun _ => ?_) (fun hq => absurd hf hq)
  exact hk I ad (xu3 σ 20 0 0 (nI 0)) I0 T G H locs ls _ _ ⟨hI, hJ, h40, (by rw [hn2, hg2]; exact hL), hR2, by omega, by omega, by omega, by omega, w⟩ (lv_sub hl [0, 1, 2, 3, 4] rfl)
set_option maxRecDepth 100000 in
set_option maxHeartbeats 4000000 in
theorem la_service (Cx : lx_C p l R s m args c tz A b L xs) (h : lx_K D cA tz A s j I ad σ I0 T G H locs c0 d0) (hj : 6 * j + 6 ≤ L) (hl : lv_has ls 7 [(4, .int (nI (6 * j))), (3, .ref (ad 40 0)), (2, .ref (ad 20 0)), (1, .ref (ad 5 0)), (0, .ref b)]) (hk : ∀ (I : List (Nat × Nat)) (ad : Nat → Nat → Nat) (σ : xMem) (I0 T G : Nat) (H : Heap) (locs : List Loc) (ls : Array Slot) (c0 d0 : Nat), lx_K D cA tz A s (j + 1) I ad σ I0 T G H locs c0 d0 → lv_has ls 7 [(4, .int (nI (6 * j))), (3, .ref (ad 40 0)), (2, .ref (ad 20 0)), (1, .ref (ad 5 0)), (0, .ref b)] → W p l e R s m args below meth c H locs c0 d0 Q (F0 m 1046 ls [])) : W p l e R s m args below meth c H locs c0 d0 Q (F0 m 978 ls []) := by
  obtain ⟨C, hml, htr, hX, hbl, hbA, hL3, hz, hR1, hR2c, hR3, hR4⟩ := Cx
  obtain ⟨hI, hJ, h40, hL, hR, hI0, hT, hc0, hd0, w⟩ := h
  obtain ⟨hx, hb, hown, hts⟩ := id C
  have hn0 := lx_n hR
  obtain ⟨k, σ1, σ2, I1, G1, v, hH, hD, hk3, hf, hw, hR2, hI1, hn2, hg2⟩ := st_service l htr D cA tz I ad σ hI h40 hL hR (xs (6 * j + 1)) (xs (6 * j + 2))
  have hn9 := lx_n hR2
  refine lv_aload_n hx hb dlaw_978 rfl (lv_at hl 3 rfl) ?_
  refine lv_aload_n hx hb dlaw_979 rfl (lv_at hl 4 rfl) ?_
  refine lv_iload hx hb dlaw_980 (lv_at hl 0 rfl) ?_
  refine lv_iconst (v := nI 1) hx hb dlaw_982 xk_i1 ?_
  refine xn_add hx hb dlaw_983 ?_
  refine xs_scr hx hb hX hbl hbA w.2.2.2.1 ((6 * j) + 1) (by omega) (by omega) dlaw_984 ?_
  refine lv_aload_n hx hb dlaw_985 rfl (lv_at hl 4 rfl) ?_
  refine lv_iload hx hb dlaw_986 (lv_at hl 0 rfl) ?_
  refine lv_iconst (v := nI 2) hx hb dlaw_988 xk_i2 ?_
  refine xn_add hx hb dlaw_989 ?_
  refine xs_scr hx hb hX hbl hbA w.2.2.2.1 ((6 * j) + 2) (by omega) (by omega) dlaw_990 ?_
  refine lv_aload_n hx hb dlaw_991 rfl (lv_at hl 1 rfl) ?_
  refine xh_call C w hz hml hl.1 xl_LW_service xs_LW_service xk_nLW xq_LW_service ⟨by decide, by decide, rfl⟩ hH rfl rfl (Nat.le_of_ble_eq_true rfl) ⟨by omega, by omega⟩ ⟨by omega, by omega⟩ dlaw_992 (fun I ad H locs hE hL w => ?_)
  have e5 := hE.2 5 0 (xI5 hI)
  have e20 := hE.2 20 0 (xJ20 hJ)
  have e40 := hE.2 40 0 h40
  have hI := hE.I hI
  have hJ := hE.J hJ
  have h40 := hE.1 _ h40
  have hl : lv_has ls 7 [(4, .int (nI (6 * j))), (3, .ref (ad 40 0)), (2, .ref (ad 20 0)), (1, .ref (ad 5 0)), (0, .ref b)] := by rw [e5, e20, e40]; exact hl
  refine W.eq (g2 := F0 m 995 ls [.int (nI k)]) rfl ?_
  refine lv_istore (lv' := [(5, .int (nI k)), (4, .int (nI (6 * j))), (3, .ref (ad 40 0)), (2, .ref (ad 20 0)), (1, .ref (ad 5 0)), (0, .ref b)]) hx hb dlaw_995 hl (by decide) rfl (fun ls hl => ?_)
  refine lv_aload_n hx hb dlaw_997 rfl (lv_at hl 3 rfl) ?_
  refine lv_aload_n hx hb dlaw_998 rfl (lv_at hl 5 rfl) ?_
  refine lv_iload hx hb dlaw_999 (lv_at hl 1 rfl) ?_
  refine lv_iconst (v := nI 1) hx hb dlaw_1001 xk_i1 ?_
  refine xn_add hx hb dlaw_1002 ?_
  refine xs_scr hx hb hX hbl hbA w.2.2.2.1 ((6 * j) + 1) (by omega) (by omega) dlaw_1003 ?_
  refine lv_aload_n hx hb dlaw_1004 rfl (lv_at hl 5 rfl) ?_
  refine lv_iload hx hb dlaw_1005 (lv_at hl 1 rfl) ?_
  refine lv_iconst (v := nI 2) hx hb dlaw_1007 xk_i2 ?_
  refine xn_add hx hb dlaw_1008 ?_
  refine xs_scr hx hb hX hbl hbA w.2.2.2.1 ((6 * j) + 2) (by omega) (by omega) dlaw_1009 ?_
  refine xd_callV C w hz hml hl.1 xk_LW_135 (hD I ad hJ) (xJ20 hJ) rfl rfl rfl rfl (Nat.le_of_ble_eq_true rfl) ⟨by omega, by omega⟩ ⟨by omega, by omega⟩ dlaw_1010 (fun H locs w => ?_)
  refine W.eq (g2 := F0 m 1013 ls [.int v]) rfl ?_
  refine lv_istore (lv' := [(6, .int v), (5, .int (nI k)), (4, .int (nI (6 * j))), (3, .ref (ad 40 0)), (2, .ref (ad 20 0)), (1, .ref (ad 5 0)), (0, .ref b)]) hx hb dlaw_1013 hl (by decide) rfl (fun ls hl => ?_)
  refine lv_aload_n hx hb dlaw_1015 rfl (lv_at hl 4 rfl) ?_
  refine xd_callV C w hz hml hl.1 xk_LW_75 (cMD_thrown l D cA tz I ad σ2 hJ) (xJ20 hJ) rfl rfl rfl rfl (Nat.le_of_ble_eq_true rfl) ⟨by omega, by omega⟩ ⟨by omega, by omega⟩ dlaw_1016 (fun H locs w => ?_)
  refine W.eq (g2 := F0 m 1019 ls [.int (σ2 20 0 0)]) rfl ?_
  refine lv_iload hx hb dlaw_1019 (lv_at hl 1 rfl) ?_
  refine lv_icmp_eq hx hb dlaw_1021 rfl (fun _ => ?_) (fun hq => absurd hf hq)
  refine lv_iload hx hb dlaw_1026 (lv_at hl 1 rfl) ?_
  refine lv_if_ne hx hb dlaw_1028 rfl (fun _ => ?_) (fun hq => ?_)
  · skip
    refine lv_goto hx hb dlaw_1043 rfl ?_
    exact hk I ad σ2 I1 T G1 H locs ls _ _ ⟨hI, hJ, h40, (by rw [hn2, hg2]; exact hL), hR2, by omega, by omega, by omega, by omega, w⟩ (lv_sub hl [2, 3, 4, 5, 6] rfl)
  · skip
    have hk0 : k = 0 := nI_inj (by omega) (by decide) (hq.trans nI_0.symm)
    have hw := hw hk0
    refine lv_aload_n hx hb dlaw_1031 rfl (lv_at hl 3 rfl) ?_
    refine lv_iconst (v := nI 0) hx hb dlaw_1032 xk_i0 ?_
    refine xs_lald C w h40 dlaw_1033 ?_
    refine lv_iload hx hb dlaw_1034 (lv_at hl 0 rfl) ?_
    refine lv_i2l hx hb dlaw_1036 rfl ?_
    refine W.eq (g2 := F0 m 1037 ls [.long v.toInt64, .long v.toInt64]) (by rw [hw]) ?_
    refine lv_lcmpE hx hb dlaw_1037 ?_
    refine lv_if_eq hx hb dlaw_1038 rfl (fun _ => ?_) (fun hq => absurd nI_0 hq)
    refine lv_goto hx hb dlaw_1043 rfl ?_
    exact hk I ad σ2 I1 T G1 H locs ls _ _ ⟨hI, hJ, h40, (by rw [hn2, hg2]; exact hL), hR2, by omega, by omega, by omega, by omega, w⟩ (lv_sub hl [2, 3, 4, 5, 6] rfl)
end
