/-! The law's loop. -/
theorem lw_out {L : Nat} (h : L ≤ 3072) : Int32.ofNat L - nI 6 < nI (6 * (L / 6)) := by
  show nI L - nI 6 < _
  rw [Int32.lt_iff_toInt_lt, pk_sub_toInt (by omega) (by omega), nI_toInt (by omega)]
  omega
theorem lw_in {L j : Nat} (h : L ≤ 3072) (hj : 6 * j + 6 ≤ L) : ¬ Int32.ofNat L - nI 6 < nI (6 * j) := by
  show ¬ nI L - nI 6 < _
  rw [Int32.lt_iff_toInt_lt, pk_sub_toInt (by omega) (by omega), nI_toInt (by omega)]
  omega
theorem lx_K_up {D : va_G} {cA : Nat → ClassId} {tz : Nat} {A : Nat → Prop} {s : State} {j : Nat} {I : List (Nat × Nat)} {ad : Nat → Nat → Nat} {σ : xMem} {I0 T G : Nat} {H : Heap} {locs : List Loc} {c0 d0 : Nat} (h : lx_K D cA tz A s j I ad σ I0 T G H locs c0 d0) : lx_K D cA tz A s (j + 1) I ad σ I0 T G H locs c0 d0 := by
  obtain ⟨h1, h2, h3, h4, h5, h6, h7, h8, h9, h10⟩ := h
  exact ⟨h1, h2, h3, h4, h5, by omega, by omega, by omega, by omega, h10⟩
section
variable {p : Program} {l : Launch} {e : Env} {R : Room} {s : State} {m : MethodId} {args : Array Value} {below : List Frame} {meth : Method} {c : Code} {Q : State → Prop} {D : va_G} {cA : Nat → ClassId} {tz : Nat} {A : Nat → Prop} {b L : Nat} {xs : Nat → Int32}
set_option maxRecDepth 100000 in
set_option maxHeartbeats 4000000 in
theorem law_loop (Cx : lx_C p l R s m args c tz A b L xs) (hend : ∀ (H : Heap) (locs : List Loc) (ls : Array Slot) (c0 d0 : Nat), c0 ≤ 601024 → d0 ≤ 7293034 → va_S A s.heap H locs → W p l e R s m args below meth c H locs c0 d0 Q (F0 m 1053 ls [.int (nI 1)])) :
    ∀ (j : Nat) (H : Heap) (locs : List Loc) (ls : Array Slot) (c0 d0 : Nat), j ≤ L / 6 → (∃ (I : List (Nat × Nat)) (ad : Nat → Nat → Nat) (σ : xMem) (I0 T G : Nat), lx_K D cA tz A s j I ad σ I0 T G H locs c0 d0 ∧ lv_has ls 7 [(4, .int (nI (6 * j))), (3, .ref (ad 40 0)), (2, .ref (ad 20 0)), (1, .ref (ad 5 0)), (0, .ref b)]) → W p l e R s m args below meth c H locs c0 d0 Q (F0 m 23 ls []) := by
  obtain ⟨C, hml, htr, hX, hbl, hbA, hL3, hz, hR1, hR2c, hR3, hR4⟩ := id Cx
  obtain ⟨hx, hb, hown, hts⟩ := id C
  refine xl_upA (Wg := fun H locs ls c0 d0 => W p l e R s m args below meth c H locs c0 d0 Q (F0 m 23 ls [])) (K := fun j H locs ls c0 d0 => ∃ (I : List (Nat × Nat)) (ad : Nat → Nat → Nat) (σ : xMem) (I0 T G : Nat), lx_K D cA tz A s j I ad σ I0 T G H locs c0 d0 ∧ lv_has ls 7 [(4, .int (nI (6 * j))), (3, .ref (ad 40 0)), (2, .ref (ad 20 0)), (1, .ref (ad 5 0)), (0, .ref b)]) (L / 6) ?_ ?_
  · intro H locs ls c0 d0 ⟨I, ad, σ, I0, T, G, h, hl⟩
    obtain ⟨hI, hJ, h40, hL, hR, hI0, hT, hc0, hd0, w⟩ := id h
    have hn0 := lx_n hR
    refine lv_iload hx hb dlaw_23 (lv_at hl 0 rfl) ?_
    refine lv_aload_n hx hb dlaw_25 rfl (lv_at hl 4 rfl) ?_
    refine va_slen hx hb hX hbl hbA w.2.2.2.1 dlaw_26 ?_
    refine lv_bipush (v := nI 6) hx hb dlaw_27 xk_b6 ?_
    refine lv_isub hx hb dlaw_29 ?_
    refine lv_icmp_gt hx hb dlaw_30 rfl (fun _ => ?_) (fun hq => absurd (lw_out hL3) hq)
    refine lv_iconst (v := nI 1) hx hb dlaw_1052 xk_i1 ?_
    exact hend _ _ _ _ _ (by omega) (by omega) w.2.2.2.1
  · intro j H locs ls c0 d0 hj ⟨I, ad, σ, I0, T, G, h, hl⟩ ih
    obtain ⟨hI, hJ, h40, hL, hR, hI0, hT, hc0, hd0, w⟩ := id h
    have hjL : 6 * j + 6 ≤ L := by omega
    have hback : ∀ (I : List (Nat × Nat)) (ad : Nat → Nat → Nat) (σ : xMem) (I0 T G : Nat) (H : Heap) (locs : List Loc) (ls : Array Slot) (c0 d0 : Nat), lx_K D cA tz A s (j + 1) I ad σ I0 T G H locs c0 d0 → lv_has ls 7 [(4, .int (nI (6 * j))), (3, .ref (ad 40 0)), (2, .ref (ad 20 0)), (1, .ref (ad 5 0)), (0, .ref b)] → W p l e R s m args below meth c H locs c0 d0 Q (F0 m 1046 ls []) := by
      intro I ad σ I0 T G H locs ls c0 d0 h hl
      refine lv_iinc (lv' := [(4, .int (nI (6 * (j + 1)))), (3, .ref (ad 40 0)), (2, .ref (ad 20 0)), (1, .ref (ad 5 0)), (0, .ref b)]) hx hb dlaw_1046 hl (k := 0) rfl (by rw [show Int32.ofInt 6 = nI 6 by decide, nI_add, show 6 * j + 6 = 6 * (j + 1) by omega]) (by decide) rfl (fun ls hl => ?_)
      refine lv_goto hx hb dlaw_1049 rfl ?_
      exact ih _ _ _ _ _ ⟨I, ad, σ, I0, T, G, h, hl⟩
    refine lv_iload hx hb dlaw_23 (lv_at hl 0 rfl) ?_
    refine lv_aload_n hx hb dlaw_25 rfl (lv_at hl 4 rfl) ?_
    refine va_slen hx hb hX hbl hbA w.2.2.2.1 dlaw_26 ?_
    refine lv_bipush (v := nI 6) hx hb dlaw_27 xk_b6 ?_
    refine lv_isub hx hb dlaw_29 ?_
    refine lv_icmp_gt hx hb dlaw_30 rfl (fun hq => absurd hq (lw_in hL3 hjL)) (fun _ => ?_)
    refine lv_aload_n hx hb dlaw_33 rfl (lv_at hl 4 rfl) ?_
    refine lv_iload hx hb dlaw_34 (lv_at hl 0 rfl) ?_
    refine xs_scr hx hb hX hbl hbA w.2.2.2.1 (6 * j) (by omega) (by omega) dlaw_36 ?_
    refine lv_bipush (v := nI 31) hx hb dlaw_37 xk_b31 ?_
    refine lv_iand hx hb dlaw_39 ?_
    generalize xs (6 * j) &&& nI 31 = x
    by_cases hneg : x < 0
    · refine lv_tableOut (tgt := 1046) hx hb dlaw_40 (Or.inl (Int32.lt_iff_toInt_lt.mp hneg)) rfl ?_
      exact hback _ _ _ _ _ _ _ _ _ _ _ (lx_K_up h) hl
    · obtain ⟨k, hk, rfl⟩ := nI_of hneg
      by_cases h17 : 17 ≤ k
      · refine lv_tableOut (tgt := 1046) hx hb dlaw_40 (Or.inr (by rw [nI_toInt hk]; omega)) rfl ?_
        exact hback _ _ _ _ _ _ _ _ _ _ _ (lx_K_up h) hl
      rcases Nat.lt_or_ge k 1 with k0 | k0
      · have hk0 : k = 0 := by omega
        subst hk0
        refine lv_tableIn (tgt := 124) hx hb dlaw_40 (by decide) (by decide) rfl rfl ?_
        exact la_data Cx h hjL hl hback
      rcases Nat.lt_or_ge k 2 with k1 | k1
      · have hk0 : k = 1 := by omega
        subst hk0
        refine lv_tableIn (tgt := 184) hx hb dlaw_40 (by decide) (by decide) rfl rfl ?_
        exact la_issue Cx h hjL hl hback
      rcases Nat.lt_or_ge k 3 with k2 | k2
      · have hk0 : k = 2 := by omega
        subst hk0
        refine lv_tableIn (tgt := 268) hx hb dlaw_40 (by decide) (by decide) rfl rfl ?_
        exact la_ready Cx h hjL hl hback
      rcases Nat.lt_or_ge k 4 with k3 | k3
      · have hk0 : k = 3 := by omega
        subst hk0
        refine lv_tableIn (tgt := 332) hx hb dlaw_40 (by decide) (by decide) rfl rfl ?_
        exact la_cycle Cx h hjL hl hback
      rcases Nat.lt_or_ge k 5 with k4 | k4
      · have hk0 : k = 4 := by omega
        subst hk0
        refine lv_tableIn (tgt := 345) hx hb dlaw_40 (by decide) (by decide) rfl rfl ?_
        exact la_cycles Cx h hjL hl hback
      rcases Nat.lt_or_ge k 6 with k5 | k5
      · have hk0 : k = 5 := by omega
        subst hk0
        refine lv_tableIn (tgt := 401) hx hb dlaw_40 (by decide) (by decide) rfl rfl ?_
        exact la_time Cx h hjL hl hback
      rcases Nat.lt_or_ge k 7 with k6 | k6
      · have hk0 : k = 6 := by omega
        subst hk0
        refine lv_tableIn (tgt := 414) hx hb dlaw_40 (by decide) (by decide) rfl rfl ?_
        exact la_state Cx h hjL hl hback
      rcases Nat.lt_or_ge k 8 with k7 | k7
      · have hk0 : k = 7 := by omega
        subst hk0
        refine lv_tableIn (tgt := 482) hx hb dlaw_40 (by decide) (by decide) rfl rfl ?_
        exact la_word Cx h hjL hl hback
      rcases Nat.lt_or_ge k 9 with k8 | k8
      · have hk0 : k = 8 := by omega
        subst hk0
        refine lv_tableIn (tgt := 562) hx hb dlaw_40 (by decide) (by decide) rfl rfl ?_
        exact la_take Cx h hjL hl hback
      rcases Nat.lt_or_ge k 10 with k9 | k9
      · have hk0 : k = 9 := by omega
        subst hk0
        refine lv_tableIn (tgt := 637) hx hb dlaw_40 (by decide) (by decide) rfl rfl ?_
        exact la_base Cx h hjL hl hback
      rcases Nat.lt_or_ge k 11 with k10 | k10
      · have hk0 : k = 10 := by omega
        subst hk0
        refine lv_tableIn (tgt := 685) hx hb dlaw_40 (by decide) (by decide) rfl rfl ?_
        exact la_waits Cx h hjL hl hback
      rcases Nat.lt_or_ge k 12 with k11 | k11
      · have hk0 : k = 11 := by omega
        subst hk0
        refine lv_tableIn (tgt := 741) hx hb dlaw_40 (by decide) (by decide) rfl rfl ?_
        exact la_reset Cx h hjL hl hback
      rcases Nat.lt_or_ge k 13 with k12 | k12
      · have hk0 : k = 12 := by omega
        subst hk0
        refine lv_tableIn (tgt := 797) hx hb dlaw_40 (by decide) (by decide) rfl rfl ?_
        exact la_credits Cx h hjL hl hback
      rcases Nat.lt_or_ge k 14 with k13 | k13
      · have hk0 : k = 13 := by omega
        subst hk0
        refine lv_tableIn (tgt := 853) hx hb dlaw_40 (by decide) (by decide) rfl rfl ?_
        exact la_holder Cx h hjL hl hback
      rcases Nat.lt_or_ge k 15 with k14 | k14
      · have hk0 : k = 14 := by omega
        subst hk0
        refine lv_tableIn (tgt := 909) hx hb dlaw_40 (by decide) (by decide) rfl rfl ?_
        exact la_memory Cx h hjL hl hback
      rcases Nat.lt_or_ge k 16 with k15 | k15
      · have hk0 : k = 15 := by omega
        subst hk0
        refine lv_tableIn (tgt := 965) hx hb dlaw_40 (by decide) (by decide) rfl rfl ?_
        exact la_served Cx h hjL hl hback
      have hk0 : k = 16 := by omega
      subst hk0
      refine lv_tableIn (tgt := 978) hx hb dlaw_40 (by decide) (by decide) rfl rfl ?_
      exact la_service Cx h hjL hl hback
end
