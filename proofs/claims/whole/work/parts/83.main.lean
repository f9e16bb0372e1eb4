/-! The law, from its first instruction to its loop. -/
theorem xk_cLSF : Cond.classLink "SplitFabricLaw" 8 "SplitFabric" ∈ xBIG := (xmi 21 (by decide +kernel) rfl)
theorem xk_cLMD : Cond.classLink "SplitFabricLaw" 66 "SplitFabricModel" ∈ xBIG := (xmi 604 (by decide +kernel) rfl)
section
variable {p : Program} {l : Launch} {e : Env} {R : Room} {s : State} {m : MethodId} {args : Array Value} {below : List Frame} {meth : Method} {c : Code} {Q : State → Prop} {D : va_G} {cA : Nat → ClassId} {tz : Nat} {A : Nat → Prop} {b L : Nat} {xs : Nat → Int32} {ls : Array Slot}
set_option maxRecDepth 100000 in
set_option maxHeartbeats 4000000 in
theorem law_main (Cx : lx_C p l R s m args c tz A b L xs) (hA : ∀ q, s.heap.size ≤ q → A q) (hz0 : xZ0 cA tz A s s.heap) (hK : va_K D xCl (xT cA) s) (hl : lv_has ls 7 [(0, .ref b)]) (hend : ∀ (H : Heap) (locs : List Loc) (ls : Array Slot) (c0 d0 : Nat), c0 ≤ 601024 → d0 ≤ 7293034 → va_S A s.heap H locs → W p l e R s m args below meth c H locs c0 d0 Q (F0 m 1053 ls [.int (nI 1)])) :
    W p l e R s m args below meth c s.heap [] 0 0 Q (F0 m 0 ls []) := by
  obtain ⟨C, hml, htr, hX, hbl, hbA, hL3, hz, hR1, hR2c, hR3, hR4⟩ := id Cx
  obtain ⟨hx, hb, hown, hts⟩ := id C
  have w : xr_W xCl (xT cA) D [] (fun _ _ => 0) (fun _ _ => .inr (0, [])) A s s.heap [] := ⟨fun k q h => (by cases h), ⟨fun i j x y h => (by cases h), fun k q h => (by cases h)⟩, hK, va_S.rf, hA⟩
  refine xr_new (r := 5) (k := 0) C w (by simp) (ci := 2) (fs := [.null, .null, .null, .null, .null, .null, .int 0, .int 0, .int 0, .int 0]) xin_SF xY_SF xY_SF_ok xk_cLSF xk_iSF xk_nSF rfl (by decide +kernel) (by omega) (by omega) dlaw_0 (fun q5 H w => ?_)
  refine lv_dup hx hb dlaw_3 rfl ?_
  refine xr_callIW xG (xZ0W cA tz) C w hz0 hml hl.1 xk_LW_65 (cSF_init l D cA tz _ _ q5 (xw_u2_s _ _ _ _) (xw_u2_s _ _ _ _)) rfl rfl (Nat.le_of_ble_eq_true rfl) ⟨by omega, by omega⟩ ⟨by omega, by omega⟩ dlaw_4 (fun o I ad E9 H locs hB w => ?_)
  obtain ⟨rfl, rfl, hN, ha5⟩ := hB
  refine W.eq (g2 := F0 m 7 ls [.ref q5]) rfl ?_
  refine lv_astore_n (lv' := [(1, .ref q5), (0, .ref b)]) hx hb dlaw_7 rfl hl (by decide) rfl (fun ls hl => ?_)
  have n20 : (20, 0) ∉ I := fun z => by have := (hN 20 0).mp z; omega
  refine xr_new (r := 20) (k := 0) C w n20 (ci := 5) (fs := [.int 0, .null, .null, .null, .null, .null, .null, .null, .null, .null, .null, .null, .null, .null, .null, .null, .int 0, .int 0, .int 0, .int 0, .int 0, .int 0, .null]) xin_MD xY_MD xY_MD_ok xk_cLMD xk_iMD xk_nMD rfl (by decide +kernel) (by omega) (by omega) dlaw_8 (fun q20 H w => ?_)
  refine lv_dup hx hb dlaw_11 rfl ?_
  have hlt : ∀ j ∈ I ++ [(20, 0)], j.1 < 14 ∨ j = (20, 0) := by
    intro j hj
    rcases List.mem_append.mp hj with z | z
    · have := (hN j.1 j.2).mp z
      exact Or.inl (by omega)
    · exact Or.inr (List.mem_singleton.mp z)
  have hEE : ∀ x y, (x, y) ∈ I ++ [(20, 0)] → x < 14 → xw_u2 (xc cA tz ad (xsm 16 3)) 20 0 (.inr (5, [.int 0, .null, .null, .null, .null, .null, .null, .null, .null, .null, .null, .null, .null, .null, .null, .null, .int 0, .int 0, .int 0, .int 0, .int 0, .int 0, .null])) x y = xc cA tz (xw_u2 ad 20 0 q20) (xsm 16 3) x y := by
    intro x y _ hx14
    rw [xw_u2_n _ _ (by omega)]
    exact (xcell_lt hx14 (fun a ha => funext fun z => xw_u2_n _ _ (by omega))).symm
  refine xr_callI xG (xZL tz) C w hz hml hl.1 xk_LW_68 (cMD_init l D cA tz _ _ _ q20 (by simp) (xw_u2_s _ _ _ _) hlt hEE (xw_u2_s _ _ _ _)) rfl rfl (Nat.le_of_ble_eq_true rfl) ⟨by omega, by omega⟩ ⟨by omega, by omega⟩ dlaw_12 (fun o I2 ad2 E9 H locs hB w => ?_)
  obtain ⟨rfl, rfl, hE2, hJ2, hI2⟩ := hB
  refine W.eq (g2 := F0 m 15 ls [.ref q20]) rfl ?_
  refine lv_astore_n (lv' := [(2, .ref q20), (1, .ref q5), (0, .ref b)]) hx hb dlaw_15 rfl hl (by decide) rfl (fun ls hl => ?_)
  refine lv_iconst (v := nI 1) hx hb dlaw_16 xk_i1 ?_
  have hin : ∀ j ∈ I2, j.1 < 40 ∧ (j.1 < 14 → j ∈ I) := by
    intro j hj
    rcases hI2 j hj with z | z
    · rcases List.mem_append.mp z with z | z
      · have := (hN j.1 j.2).mp z
        exact ⟨by omega, fun _ => z⟩
      · rw [List.mem_singleton.mp z]
        exact ⟨by decide, fun h => absurd h (by decide)⟩
    · exact ⟨by omega, fun h => by omega⟩
  have n40 : (40, 0) ∉ I2 := fun z => by have := (hin _ z).1; simp at this
  refine xr_newa (atype := .long) (r := 40) (k := 0) C w n40 xk_arrJ rfl 6 rfl 1 (1, .inr (.inl (fun _ => 0))) (fun _ => rfl) rfl (by decide) (by decide) (by omega) (by omega) dlaw_17 (fun q40 H w => ?_)
  refine lv_astore_n (lv' := [(3, .ref q40), (2, .ref q20), (1, .ref q5), (0, .ref b)]) hx hb dlaw_19 rfl hl (by decide) rfl (fun ls hl => ?_)
  refine lv_iconst (v := nI 0) hx hb dlaw_20 xk_i0 ?_
  refine lv_istore (lv' := [(4, .int (nI 0)), (3, .ref q40), (2, .ref q20), (1, .ref q5), (0, .ref b)]) hx hb dlaw_21 hl (by decide) rfl (fun ls hl => ?_)
  have e5 : xw_u2 ad2 40 0 q40 5 0 = q5 := by
    rw [xw_u2_n _ _ (by omega), hE2.2 5 0 (List.mem_append_left _ ((hN 5 0).mpr (by omega))), xw_u2_n _ _ (by omega)]
    exact ha5
  have e20 : xw_u2 ad2 40 0 q40 20 0 = q20 := by
    rw [xw_u2_n _ _ (by omega), hE2.2 20 0 (by simp), xw_u2_s]
  have e40 : xw_u2 ad2 40 0 q40 40 0 = q40 := xw_u2_s _ _ _ _
  have w : xr_W xCl (xT cA) D (I2 ++ [(40, 0)]) (xw_u2 ad2 40 0 q40) (xc cA tz (xw_u2 ad2 40 0 q40) (xsm 16 3)) A s H locs := by
    refine xw_conv w (fun j hj => ?_)
    obtain ⟨x, y⟩ := j
    by_cases h40 : x = 40 ∧ y = 0
    · obtain ⟨rfl, rfl⟩ := h40
      show xw_u2 _ 40 0 _ 40 0 = _
      rw [xw_u2_s]
      show (.inl (cA 6, 1, .inr (.inl (fun _ => 0))) : va_E) = .inl (cA 6, 1, .inr (.inl (fun _ => (0 : Int32).toInt64)))
      rw [show (0 : Int32).toInt64 = 0 by decide]
    · show xw_u2 _ 40 0 _ x y = _
      rw [xw_u2_n _ _ h40]
      exact (xcell_40 (fun a ha => funext fun z => xw_u2_n _ _ (by omega))).symm
  have hin2 : ∀ j ∈ I2 ++ [(40, 0)], j.1 < 14 → j ∈ I := by
    intro j hj h
    rcases List.mem_append.mp hj with z | z
    · exact (hin j z).2 h
    · rw [List.mem_singleton.mp z] at h
      exact absurd h (by decide)
  have hsub : ∀ j ∈ I, j ∈ I2 ++ [(40, 0)] := fun j hj => List.mem_append_left _ (hE2.1 j (List.mem_append_left _ hj))
  have hI : xI (I2 ++ [(40, 0)]) := by
    obtain ⟨g0, g1, g2, g3, g4, g5⟩ := xNm_I hN
    exact ⟨fun k hk => hsub _ (g0 k hk), fun k hk => hsub _ (g1 k hk), fun k hk => hsub _ (g2 k hk), fun k hk => hsub _ (g3 k hk), fun k hk => hsub _ (g4 k hk), fun k h1 h2 => hsub _ (g5 k h1 h2)⟩
  have hJ : xJ (I2 ++ [(40, 0)]) := fun k h1 h2 => List.mem_append_left _ (hJ2 k h1 h2)
  have hLL : xL (I2 ++ [(40, 0)]) (xf_n (xsm 16 3)) (xf_g (xsm 16 3)) := by
    rw [rel0_n, rel0_g]
    refine ⟨fun j => ⟨fun z => ?_, fun z => by omega⟩, fun a => ⟨fun z => ?_, fun z => by omega⟩, fun b' z => ?_⟩
    · have := (hN _ _).mp (hin2 _ z (show (13 : Nat) < 14 by decide))
      omega
    · have := (hN _ _).mp (hin2 _ z (show (12 : Nat) < 14 by decide))
      omega
    · have := (hN _ _).mp (hin2 _ z (show (11 : Nat) < 14 by decide))
      omega
  refine law_loop (D := D) (cA := cA) Cx hend 0 _ _ _ _ _ (Nat.zero_le _) ⟨I2 ++ [(40, 0)], xw_u2 ad2 40 0 q40, xsm 16 3, 0, 0, 0, ⟨hI, hJ, by simp, hLL, rel0, by omega, by omega, ?_, ?_, w⟩, ?_⟩
  · rw [rel0_n]
    omega
  · rw [rel0_n]
    omega
  · rw [e5, e20, e40]
    exact hl
end
