/-! SplitFabric's constructor. -/
def xZ0 (cA : Nat → ClassId) (tz : Nat) (A : Nat → Prop) (U : State) (H : Heap) : Prop := xZ tz A U H ∧ va_AO "SplitFabric$Tag" U ∧ va_AO "SplitFabric$Target" U ∧ va_Nw (.methodLinkNest "SplitFabric" 56 yTA_init "SplitFabric") U ∧ xs_MA cA U
def xr_ZW (Z : (Nat → Prop) → State → Heap → Prop) : Prop :=
  (∀ (A : Nat → Prop) (u U : State) (H : Heap), u.WarmedH U.vm → Z A u H → Z A U H) ∧ (∀ (A : Nat → Prop) (U : State) (H H1 : Heap), (∀ a : Nat, a < H.size → ¬ A a → H1[a]? = H[a]?) → Z A U H → Z A U H1) ∧ ∀ (A B : Nat → Prop) (U : State) (H : Heap), (∀ q, B q → A q) → Z A U H → Z B U H
theorem xZ0W (cA : Nat → ClassId) (tz : Nat) : xr_ZW (xZ0 cA tz) :=
  ⟨fun A u U H hW h => ⟨(xZL tz).1 A u U H hW.alike h.1, h.2.1.moved hW.alike, h.2.2.1.moved hW.alike, va_Nw.warmM hW h.2.2.2.1, h.2.2.2.2.moved hW.alike⟩, fun A U H H1 hq h => ⟨(xZL tz).2.1 A U H H1 hq h.1, h.2⟩, fun A B U H hAB h => ⟨(xZL tz).2.2 A B U H hAB h.1, h.2⟩⟩
section
variable {p : Program} {l : Launch} {e : Env} {R : Room} {s : State} {m : MethodId} {args : Array Value} {below : List Frame} {meth : Method} {c : Code} {H : Heap} {locs : List Loc} {cells slots : Nat} {Q : State → Prop}
variable {cc : ByteArray} {pc : Nat} {ls : Array Slot} {rest st0 : List Value} {D : va_G} {cl : List vw_C} {tys : List (ClassId × FieldType)} {A : Nat → Prop} {own : String} {Ts : List Cond} {I : List (Nat × Nat)} {ad : Nat → Nat → Nat} {E : Nat → Nat → va_E} {Z : (Nat → Prop) → State → Heap → Prop}
variable {y : MethodName} {bytes : ByteArray} {maxL d mc ms nL n index : Nat} {As : List Value} {B : xr_B}
theorem xr_callIW (hG : ∀ w ∈ Ts, goodWord w = true) (hZ : xr_ZW Z) (C : xr_C Ts p c cc own s m args) (w : xr_W cl tys D I ad E A s H locs) (hz : Z A s s.heap) (hml : c.maxLocals = nL) (hls : ls.size = nL)
    (hK : xr_KI Ts own index y bytes maxL n) {b : Nat} (hM : xr_M Ts cl tys D Z l y bytes maxL none d mc ms (.ref b :: As) I ad E B)
    (hn : As.length = n) (hst : st0 = As.reverse ++ .ref b :: rest) (hrest : (rest.map fun v => v.category).sum ≤ 8) (hR : d + 1 ≤ R.frames ∧ 8 + (maxL + 11) + 40 * d ≤ R.locals) (hf : cells + mc ≤ R.cells ∧ slots + ms ≤ R.slots) (hdg : decode cc pc = .ok (.invokespecial index, 3))
    (kk : ∀ (o : Option Value) (I' : List (Nat × Nat)) (ad' : Nat → Nat → Nat) (E' : Nat → Nat → va_E) (H1 : Heap) (locs1 : List Loc), B o I' ad' E' → xr_W cl tys D I' ad' E' A s H1 locs1 → W p l e R s m args below meth c H1 locs1 (cells + mc) (slots + ms) Q (F0 m (pc + 3) ls (o.toList ++ rest))) : W p l e R s m args below meth c H locs cells slots Q (F0 m pc ls st0) := by
  obtain ⟨k1, k2, k3, k4, k5, k6⟩ := hK
  obtain ⟨hx, hb, hown, hts⟩ := id C
  have hbl : FrameBlind (va_Pc (.ref b :: As) (xr_Pre cl tys D Z I ad E H.size)) := by
    intro a U g mk q
    obtain ⟨q0, q1, qP, qD, qK, qZ⟩ := q
    exact ⟨q0, q1, qP, qD, va_K.moved (u := U) (U := U.calling g mk a) (Vm.Alike.refl U.vm) qK, hZ.1 _ U (U.calling g mk a) _ (State.WarmedH.refl U) qZ⟩
  have hpre : ∀ U : State, U.heap = H → s.WarmedH U.vm → xr_Pre cl tys D Z I ad E H.size U := by
    intro U hU hW
    obtain ⟨hP, hD, hK, hS, hA⟩ := id w
    refine ⟨by rw [hU], by rw [hU]; exact hP, hD.weaken (fun _ _ _ _ => trivial), va_K.moved hW.alike hK, ?_⟩
    rw [hU]
    exact hZ.2.2 _ _ _ _ (xw_free (sz := H.size) hD (fun q hq => hA q (Nat.le_trans hS.1 hq))) (hZ.1 _ _ _ _ hW (hZ.2.1 _ _ _ _ hS.2.1 hz))
  refine xr_after w (a := (Value.ref b :: As).toArray) (va_runI (Ts := Ts) (As := As) (rest := rest) ⟨hx, hb, hml, hown, hts⟩ (hM H.size) (cwI n hts (xr_good hG k4) rfl rfl rfl (hts _ k3) (hts _ k1) (hts _ k2) k5 k6 hR) ⟨hbl, fun U hU hW => ⟨rfl, hpre U hU hW⟩⟩ rfl hn hls hst (lv_room hrest) hdg hf) kk
end
theorem tg_conv {s : State} {H : Heap} {locs : List Loc} {D : va_G} {cA : Nat → ClassId} {tz : Nat} {A : Nat → Prop} {I : List (Nat × Nat)} {ad : Nat → Nat → Nat} {i q q2 : Nat} (hN : xNm I i 0) (hi : i < 100)
    (w : xr_W xCl (xT cA) D (I ++ [(0, i)] ++ [(1, i)]) (xw_u2 (xw_u2 ad 0 i q) 1 i q2) (xw_u2 (xw_u2 (xw_u2 (xw_u2 (xc cA tz ad (xsm i 0)) 0 i (.inr (0, [.int 0, .int 0, .null, .int 0, .int 0, .int 0, .int 0, .int 0, .int 0, .int 0, .int 0]))) 1 i (.inl (cA 0, 4, .inl (fun _ => 0)))) 0 i (.inr (0, [.int (nI (i / 4)), .int (nI (i % 4)), .ref q2, .int (nI 0), .int (nI 0), .int (nI 0), .int (nI 0), .int (nI 0), .int (nI 0), .int (nI 0), .int (nI 0)]))) 6 0 (.inl (cA 1, 16, .inr (.inr (.inr (.inr (va_up (xv_fill ((xsm i 0) 6 0 0).toNatClampNeg (ad 0)) i (some ((xw_u2 (xw_u2 ad 0 i q) 1 i q2) 0 i))))))))) A s H locs) : xr_W xCl (xT cA) D (I ++ [(0, i)] ++ [(1, i)]) (xw_u2 (xw_u2 ad 0 i q) 1 i q2) (xc cA tz (xw_u2 (xw_u2 ad 0 i q) 1 i q2) (xsm (i + 1) 0)) A s H locs := by
  refine xw_conv w (fun j hj => ?_)
  obtain ⟨x, y⟩ := j
  by_cases c6 : x = 6 ∧ y = 0
  · obtain ⟨rfl, rfl⟩ := c6
    show xw_u2 _ 6 0 _ 6 0 = _
    rw [xw_u2_s]
    have e1 : va_up (xv_fill i (ad 0)) i (some ((xw_u2 (xw_u2 ad 0 i q) 1 i q2) 0 i)) = xv_fill (i + 1) ((xw_u2 (xw_u2 ad 0 i q) 1 i q2) 0) := by
      rw [xv_fill_congr (g := ad 0) (g' := (xw_u2 (xw_u2 ad 0 i q) 1 i q2) 0) (fun z hz => ((xw_u2_n _ _ (by omega)).trans (xw_u2_n _ _ (by omega))).symm)]
      exact xv_fill_up i ((xw_u2 (xw_u2 ad 0 i q) 1 i q2) 0)
    show (.inl (cA 1, 16, .inr (.inr (.inr (.inr (va_up (xv_fill (nI i).toNatClampNeg (ad 0)) i (some ((xw_u2 (xw_u2 ad 0 i q) 1 i q2) 0 i))))))) : va_E) = .inl (cA 1, 16, .inr (.inr (.inr (.inr (xv_fill (nI (i + 1)).toNatClampNeg ((xw_u2 (xw_u2 ad 0 i q) 1 i q2) 0))))))
    rw [nI_clamp (by omega), nI_clamp (by omega), e1]
  · show xw_u2 _ 6 0 _ x y = _
    rw [xw_u2_n _ _ c6]
    by_cases c0 : x = 0 ∧ y = i
    · obtain ⟨rfl, rfl⟩ := c0
      rw [xw_u2_s]
      have e1 : xw_u2 (xw_u2 ad 0 y q) 1 y q2 1 y = q2 := xw_u2_s _ _ _ _
      show _ = xcell cA tz (xw_u2 (xw_u2 ad 0 y q) 1 y q2) 0 y _
      show _ = (.inr (0, [.int (nI (y / 4)), .int (nI (y % 4)), .ref (xw_u2 (xw_u2 ad 0 y q) 1 y q2 1 y), .int (nI 0), .int (nI 0), .int (nI 0), .int (nI 0), .int (nI 0), .int (nI 0), .int (nI 0), .int (nI 0)]) : va_E)
      rw [e1]
    · rw [xw_u2_n _ _ c0]
      by_cases c1 : x = 1 ∧ y = i
      · obtain ⟨rfl, rfl⟩ := c1
        rw [xw_u2_s]
        rfl
      · rw [xw_u2_n _ _ c1, xw_u2_n _ _ c0]
        have hm : (x, y) ∈ I := by
          rcases List.mem_append.mp hj with z | z
          · rcases List.mem_append.mp z with z | z
            · exact z
            · rw [List.mem_singleton, Prod.mk.injEq] at z
              exact absurd z c0
          · rw [List.mem_singleton, Prod.mk.injEq] at z
            exact absurd z c1
        have h6 : x ≠ 6 := by
          intro z
          have := (hN x y).mp hm
          exact c6 ⟨z, by omega⟩
        show xcell cA tz ad x y ((xsm i 0) x y) = xcell cA tz (xw_u2 (xw_u2 ad 0 i q) 1 i q2) x y ((xsm (i + 1) 0) x y)
        rw [xsm_6 (a' := i + 1) h6]
        exact (xcell_cg (ad := ad) (ad' := (xw_u2 (xw_u2 ad 0 i q) 1 i q2)) (fun a h4 _ => funext fun z => (xw_u2_n _ _ (by omega)).trans (xw_u2_n _ _ (by omega))) (fun hx => (xw_u2_n _ _ (fun z => c0 ⟨hx, z.2⟩)).trans (xw_u2_n _ _ (by omega))) (fun _ => (xw_u2_n _ _ (by omega)).trans (xw_u2_n _ _ (by omega))) (fun z => absurd z h6) (fun _ z _ => (xw_u2_n _ _ (by omega)).trans (xw_u2_n _ _ (by omega)))).symm
theorem tg_conv_N {I : List (Nat × Nat)} {i : Nat} (hN : xNm I i 0) : xNm (I ++ [(0, i)] ++ [(1, i)]) (i + 1) 0 := by
  intro r k
  rw [List.mem_append, List.mem_append, hN r k]
  simp only [List.mem_singleton, Prod.mk.injEq]
  omega
theorem ta_conv {s : State} {H : Heap} {locs : List Loc} {D : va_G} {cA : Nat → ClassId} {tz : Nat} {A : Nat → Prop} {I : List (Nat × Nat)} {ad : Nat → Nat → Nat} {i q q2 : Nat} (hN : xNm I 16 i) (hi : i < 100)
    (w : xr_W xCl (xT cA) D (I ++ [(2, i)] ++ [(3, i)]) (xw_u2 (xw_u2 ad 2 i q) 3 i q2) (xw_u2 (xw_u2 (xw_u2 (xw_u2 (xc cA tz ad (xsm 16 i)) 2 i (.inr (1, [.null, .int 0, .int 0, .int 0, .int 0]))) 3 i (.inl (cA 0, 4, .inl (fun _ => 0)))) 2 i (.inr (1, [.ref q2, .int (nI 0), .int (nI 4), .int (-1), .int (nI 0)]))) 7 0 (.inl (cA 2, 3, .inr (.inr (.inr (.inr (va_up (xv_fill ((xsm 16 i) 7 0 0).toNatClampNeg (ad 2)) i (some ((xw_u2 (xw_u2 ad 2 i q) 3 i q2) 2 i))))))))) A s H locs) : xr_W xCl (xT cA) D (I ++ [(2, i)] ++ [(3, i)]) (xw_u2 (xw_u2 ad 2 i q) 3 i q2) (xc cA tz (xw_u2 (xw_u2 ad 2 i q) 3 i q2) (xsm 16 (i + 1))) A s H locs := by
  refine xw_conv w (fun j hj => ?_)
  obtain ⟨x, y⟩ := j
  by_cases c6 : x = 7 ∧ y = 0
  · obtain ⟨rfl, rfl⟩ := c6
    show xw_u2 _ 7 0 _ 7 0 = _
    rw [xw_u2_s]
    have e1 : va_up (xv_fill i (ad 2)) i (some ((xw_u2 (xw_u2 ad 2 i q) 3 i q2) 2 i)) = xv_fill (i + 1) ((xw_u2 (xw_u2 ad 2 i q) 3 i q2) 2) := by
      rw [xv_fill_congr (g := ad 2) (g' := (xw_u2 (xw_u2 ad 2 i q) 3 i q2) 2) (fun z hz => ((xw_u2_n _ _ (by omega)).trans (xw_u2_n _ _ (by omega))).symm)]
      exact xv_fill_up i ((xw_u2 (xw_u2 ad 2 i q) 3 i q2) 2)
    show (.inl (cA 2, 3, .inr (.inr (.inr (.inr (va_up (xv_fill (nI i).toNatClampNeg (ad 2)) i (some ((xw_u2 (xw_u2 ad 2 i q) 3 i q2) 2 i))))))) : va_E) = .inl (cA 2, 3, .inr (.inr (.inr (.inr (xv_fill (nI (i + 1)).toNatClampNeg ((xw_u2 (xw_u2 ad 2 i q) 3 i q2) 2))))))
    rw [nI_clamp (by omega), nI_clamp (by omega), e1]
  · show xw_u2 _ 7 0 _ x y = _
    rw [xw_u2_n _ _ c6]
    by_cases c0 : x = 2 ∧ y = i
    · obtain ⟨rfl, rfl⟩ := c0
      rw [xw_u2_s]
      have e1 : xw_u2 (xw_u2 ad 2 y q) 3 y q2 3 y = q2 := xw_u2_s _ _ _ _
      show _ = xcell cA tz (xw_u2 (xw_u2 ad 2 y q) 3 y q2) 2 y _
      show _ = (.inr (1, [.ref (xw_u2 (xw_u2 ad 2 y q) 3 y q2 3 y), .int (nI 0), .int (nI 4), .int (-1), .int (nI 0)]) : va_E)
      rw [e1]
    · rw [xw_u2_n _ _ c0]
      by_cases c1 : x = 3 ∧ y = i
      · obtain ⟨rfl, rfl⟩ := c1
        rw [xw_u2_s]
        rfl
      · rw [xw_u2_n _ _ c1, xw_u2_n _ _ c0]
        have hm : (x, y) ∈ I := by
          rcases List.mem_append.mp hj with z | z
          · rcases List.mem_append.mp z with z | z
            · exact z
            · rw [List.mem_singleton, Prod.mk.injEq] at z
              exact absurd z c0
          · rw [List.mem_singleton, Prod.mk.injEq] at z
            exact absurd z c1
        have h6 : x ≠ 7 := by
          intro z
          have := (hN x y).mp hm
          exact c6 ⟨z, by omega⟩
        show xcell cA tz ad x y ((xsm 16 i) x y) = xcell cA tz (xw_u2 (xw_u2 ad 2 i q) 3 i q2) x y ((xsm 16 (i + 1)) x y)
        rw [xsm_7 (b' := i + 1) h6]
        exact (xcell_cg (ad := ad) (ad' := (xw_u2 (xw_u2 ad 2 i q) 3 i q2)) (fun a h4 _ => funext fun z => (xw_u2_n _ _ (by omega)).trans (xw_u2_n _ _ (by omega))) (fun _ => (xw_u2_n _ _ (by omega)).trans (xw_u2_n _ _ (by omega))) (fun hx => (xw_u2_n _ _ (fun z => c0 ⟨hx, z.2⟩)).trans (xw_u2_n _ _ (by omega))) (fun _ z _ => (xw_u2_n _ _ (by omega)).trans (xw_u2_n _ _ (by omega))) (fun z => absurd z h6)).symm
theorem ta_conv_N {I : List (Nat × Nat)} {i : Nat} (hN : xNm I 16 i) : xNm (I ++ [(2, i)] ++ [(3, i)]) 16 (i + 1) := by
  intro r k
  rw [List.mem_append, List.mem_append, hN r k]
  simp only [List.mem_singleton, Prod.mk.injEq]
  omega
theorem xk_cTG : Cond.classLink "SplitFabric" 9 "SplitFabric$Tag" ∈ xBIG := (xmi 29 (by decide +kernel) rfl)
theorem xk_cTA : Cond.classLink "SplitFabric" 15 "SplitFabric$Target" ∈ xBIG := (xmi 31 (by decide +kernel) rfl)
theorem xk_cII : Cond.classLink "SplitFabric" 25 "[[I" ∈ xBIG := (xmi 33 (by decide +kernel) rfl)
theorem xk_cAL : Cond.classLink "SplitFabric" 33 "java/util/ArrayList" ∈ xBIG := (xmi 35 (by decide +kernel) rfl)
theorem xk_iTG : Cond.instantiable "SplitFabric$Tag" 11 ∈ xBIG := (xmi 62 (by decide +kernel) rfl)
theorem xk_nTG : Cond.initialized "SplitFabric$Tag" ∈ xBIG := (xmi 5 (by decide +kernel) rfl)
theorem xk_iTA : Cond.instantiable "SplitFabric$Target" 5 ∈ xBIG := (xmi 116 (by decide +kernel) rfl)
theorem xk_nTA : Cond.initialized "SplitFabric$Target" ∈ xBIG := (xmi 6 (by decide +kernel) rfl)
theorem xk_iAL : Cond.instantiable "java/util/ArrayList" 3 ∈ xBIG := (xmi 36 (by decide +kernel) rfl)
theorem xk_nAL : Cond.initialized "java/util/ArrayList" ∈ xBIG := (xmi 4 (by decide +kernel) rfl)
theorem xk_iSF : Cond.instantiable "SplitFabric" 10 ∈ xBIG := (xmi 22 (by decide +kernel) rfl)
theorem xk_nSF : Cond.initialized "SplitFabric" ∈ xBIG := (xmi 1 (by decide +kernel) rfl)
theorem xk_iMD : Cond.instantiable "SplitFabricModel" 23 ∈ xBIG := (xmi 605 (by decide +kernel) rfl)
theorem xk_nMD : Cond.initialized "SplitFabricModel" ∈ xBIG := (xmi 7 (by decide +kernel) rfl)
set_option maxRecDepth 100000 in
set_option maxHeartbeats 4000000 in
theorem cSF_init (l : Launch) (D : va_G) (cA : Nat → ClassId) (tz : Nat) (ad : Nat → Nat → Nat) (E : Nat → Nat → va_E) (a : Nat) (ha : ad 5 0 = a) (he : E 5 0 = .inr (2, [.null, .null, .null, .null, .null, .null, .int 0, .int 0, .int 0, .int 0])) : xr_M xBIG xCl (xT cA) D (xZ0 cA tz) l ySF_init bSF_init 2 none 4 48 361 [.ref a] [(5, 0)] ad E (fun o I' ad' E' => o = none ∧ E' = xc cA tz ad' (xsm 16 3) ∧ xNm I' 16 3 ∧ ad' 5 0 = a) := by
  refine xr_of (by decide) (by simp [lg_sl, Value.category]) ?_
  intro p e s m args below meth c A ls C hr hlk hml hin hl w hz
  obtain ⟨hx, hb, hown, hts⟩ := id C
  have hl : lv_has ls 2 [(0, .ref a)] := hl
  rw [← xw_u2_id E he] at w
  refine lv_aload_n hx hb dSF_init_0 rfl (lv_at hl 0 rfl) ?_
  refine W.objInit hx hb hown (hts (.methodLink "SplitFabric" 3 objectInit) (xmi 26 (by decide +kernel) rfl)) (hts (.instanceMethod objectInit) (xmi 27 (by decide +kernel) rfl)) (hts _ (xmi 28 (by decide +kernel) rfl)) rfl (by rw [hml]; exact hl.1) rfl dSF_init_1 (Nat.le_of_ble_eq_true rfl) (Nat.le_of_ble_eq_true rfl) ?_
  refine W.eq (g2 := F0 m 4 ls []) rfl ?_
  refine lv_aload_n hx hb dSF_init_4 rfl (lv_at hl 0 rfl) ?_
  refine lv_bipush (v := nI 16) hx hb dSF_init_5 xk_b16 ?_
  refine xr_newqC 6 0 C w (by decide) (by simp) xk_cTG hz.2.1 1 rfl 16 rfl (by decide) (Nat.le_of_ble_eq_true rfl) (Nat.le_of_ble_eq_true rfl) dSF_init_7 (fun q6 H w => ?_)
  refine xr_putFC (r := 5) (k := 0) C w (by simp) ha rfl xin_SF xY_SF xY_SF_ok xF_SF_nm hin 0 (by decide) (xmi 141 (by decide +kernel) rfl) rfl rfl rfl rfl rfl (Nat.le_of_ble_eq_true rfl) dSF_init_10 (fun H locs w => ?_)
  refine lv_aload_n hx hb dSF_init_13 rfl (lv_at hl 0 rfl) ?_
  refine lv_iconst (v := nI 3) hx hb dSF_init_14 xk_i3 ?_
  refine xr_newqC 7 0 C w (by decide) (by simp) xk_cTA hz.2.2.1 2 rfl 3 rfl (by decide) (Nat.le_of_ble_eq_true rfl) (Nat.le_of_ble_eq_true rfl) dSF_init_15 (fun q7 H w => ?_)
  refine xr_putFC (r := 5) (k := 0) C w (by simp) ha rfl xin_SF xY_SF xY_SF_ok xF_SF_nm hin 1 (by decide) (xmi 142 (by decide +kernel) rfl) rfl rfl rfl rfl rfl (Nat.le_of_ble_eq_true rfl) dSF_init_18 (fun H locs w => ?_)
  refine lv_aload_n hx hb dSF_init_21 rfl (lv_at hl 0 rfl) ?_
  refine lv_bipush (v := nI 48) hx hb dSF_init_22 xk_b48 ?_
  refine xr_newaC (atype := .int) 8 0 C w (by decide) (by simp) xk_arrI rfl 0 rfl 48 (48, .inl (fun _ => 0)) (fun _ => rfl) rfl (by decide) (by decide) (Nat.le_of_ble_eq_true rfl) (Nat.le_of_ble_eq_true rfl) dSF_init_24 (fun q8 H w => ?_)
  refine xr_putFC (r := 5) (k := 0) C w (by simp) ha rfl xin_SF xY_SF xY_SF_ok xF_SF_nm hin 2 (by decide) (xmi 143 (by decide +kernel) rfl) rfl rfl rfl rfl rfl (Nat.le_of_ble_eq_true rfl) dSF_init_26 (fun H locs w => ?_)
  refine lv_aload_n hx hb dSF_init_29 rfl (lv_at hl 0 rfl) ?_
  refine lv_iconst (v := nI 4) hx hb dSF_init_30 xk_i4 ?_
  refine lv_iconst (v := nI 4) hx hb dSF_init_31 xk_i4 ?_
  refine xr_multi C w hz.2.2.2.2 xk_cII (by simp) (by simp) (Nat.le_of_ble_eq_true rfl) (Nat.le_of_ble_eq_true rfl) dSF_init_32 (fun q9 H locs w => ?_)
  rw [ma_E_comm] at w
  refine xr_putFC (r := 5) (k := 0) C w (by simp) ha rfl xin_SF xY_SF xY_SF_ok xF_SF_nm hin 3 (by decide) (xmi 144 (by decide +kernel) rfl) rfl rfl rfl rfl rfl (Nat.le_of_ble_eq_true rfl) dSF_init_36 (fun H locs w => ?_)
  refine lv_aload_n hx hb dSF_init_39 rfl (lv_at hl 0 rfl) ?_
  refine lv_iconst (v := nI 4) hx hb dSF_init_40 xk_i4 ?_
  refine xr_newaC (atype := .int) 10 0 C w (by decide) (by simp) xk_arrI rfl 0 rfl 4 (4, .inl (fun _ => 0)) (fun _ => rfl) rfl (by decide) (by decide) (Nat.le_of_ble_eq_true rfl) (Nat.le_of_ble_eq_true rfl) dSF_init_41 (fun q10 H w => ?_)
  refine xr_putFC (r := 5) (k := 0) C w (by simp) ha rfl xin_SF xY_SF xY_SF_ok xF_SF_nm hin 4 (by decide) (xmi 145 (by decide +kernel) rfl) rfl rfl rfl rfl rfl (Nat.le_of_ble_eq_true rfl) dSF_init_43 (fun H locs w => ?_)
  refine lv_aload_n hx hb dSF_init_46 rfl (lv_at hl 0 rfl) ?_
  refine xr_new (r := 11) (k := 0) C w (by simp) (ci := 4) (fs := [.int 0, .null, .int 0]) xin_AL xY_AL xY_AL_ok xk_cAL xk_iAL xk_nAL rfl (by decide +kernel) (Nat.le_of_ble_eq_true rfl) (Nat.le_of_ble_eq_true rfl) dSF_init_47 (fun q11 H w => ?_)
  refine lv_dup hx hb dSF_init_50 rfl ?_
  refine xr_callI xG (xZL tz) C w hz.1 hml hl.1 xk_SF_35 (cAL_init l D cA tz _ _ _ q11 (by simp) rfl (xw_u2_s _ _ _ _) (xZL tz) (fun _ _ _ h => h)) rfl rfl (Nat.le_of_ble_eq_true rfl) (by decide) (by decide) dSF_init_51 (fun o I9 ad9 E9 H locs hB w => ?_)
  obtain ⟨rfl, rfl, rfl, rfl⟩ := hB
  rw [xw_u2_u2, xw_u2_comm (α := va_E) _ _ _ (show ¬ ((11 : Nat) = 5 ∧ (0 : Nat) = 0) by decide)] at w
  refine W.eq (g2 := F0 m 54 ls [.ref q11, .ref a]) rfl ?_
  refine xr_putFC (r := 5) (k := 0) C w (by simp) ha rfl xin_SF xY_SF xY_SF_ok xF_SF_nm hin 5 (by decide) (xmi 146 (by decide +kernel) rfl) rfl rfl rfl rfl rfl (Nat.le_of_ble_eq_true rfl) dSF_init_54 (fun H locs w => ?_)
  refine lv_aload_n hx hb dSF_init_57 rfl (lv_at hl 0 rfl) ?_
  refine lv_iconst (v := nI 0) hx hb dSF_init_58 xk_i0 ?_
  refine xr_putC (r := 5) (k := 0) C w (by simp) ha rfl xin_SF xY_SF xY_SF_ok xF_SF_nm 6 (by decide) (xmi 147 (by decide +kernel) rfl) rfl rfl rfl rfl (Nat.le_of_ble_eq_true rfl) dSF_init_59 (fun H locs w => ?_)
  refine lv_aload_n hx hb dSF_init_62 rfl (lv_at hl 0 rfl) ?_
  refine lv_iconst (v := nI 0) hx hb dSF_init_63 xk_i0 ?_
  refine xr_putC (r := 5) (k := 0) C w (by simp) ha rfl xin_SF xY_SF xY_SF_ok xF_SF_nm 7 (by decide) (xmi 148 (by decide +kernel) rfl) rfl rfl rfl rfl (Nat.le_of_ble_eq_true rfl) dSF_init_64 (fun H locs w => ?_)
  refine lv_aload_n hx hb dSF_init_67 rfl (lv_at hl 0 rfl) ?_
  refine lv_iconst (v := nI 3) hx hb dSF_init_68 xk_i3 ?_
  refine xr_putC (r := 5) (k := 0) C w (by simp) ha rfl xin_SF xY_SF xY_SF_ok xF_SF_nm 8 (by decide) (xmi 149 (by decide +kernel) rfl) rfl rfl rfl rfl (Nat.le_of_ble_eq_true rfl) dSF_init_69 (fun H locs w => ?_)
  refine lv_aload_n hx hb dSF_init_72 rfl (lv_at hl 0 rfl) ?_
  refine lv_bipush (v := nI 15) hx hb dSF_init_73 xk_b15 ?_
  refine xr_putC (r := 5) (k := 0) C w (by simp) ha rfl xin_SF xY_SF xY_SF_ok xF_SF_nm 9 (by decide) (xmi 150 (by decide +kernel) rfl) rfl rfl rfl rfl (Nat.le_of_ble_eq_true rfl) dSF_init_75 (fun H locs w => ?_)
  refine lv_iconst (v := nI 0) hx hb dSF_init_78 xk_i0 ?_
  refine lv_istore_n (lv' := [(1, .int (nI 0)), (0, .ref a)]) hx hb dSF_init_79 rfl hl (by decide) rfl (fun ls hl => ?_)
  obtain ⟨I1, ad1, hN1, ha1, w⟩ : ∃ I1 ad1, xNm I1 0 0 ∧ ad1 5 0 = a ∧ xr_W xCl (xT cA) D I1 ad1 (xc cA tz ad1 (xsm 0 0)) A s H locs := by
    refine ⟨_, _, ?_, ?_, xw_conv w ?_⟩
    · intro r k
      simp only [List.mem_append, List.mem_singleton, Prod.mk.injEq]
      omega
    · exact ha
    · intro j hj
      simp only [List.mem_append, List.mem_singleton] at hj
      rcases hj with ((((((((((h | h) | h) | h) | h) | h) | h) | h) | h) | h) | h)
      all_goals subst h
      all_goals first
        | rfl
        | (show (.inl (cA 1, 16, .inr (.inr (.inr (.inr (fun _ => none))))) : va_E) = .inl (cA 1, 16, .inr (.inr (.inr (.inr (xv_fill (nI 0).toNatClampNeg _))))); rw [nI_clamp (by decide)]; rfl)
        | (show (.inl (cA 2, 3, .inr (.inr (.inr (.inr (fun _ => none))))) : va_E) = .inl (cA 2, 3, .inr (.inr (.inr (.inr (xv_fill (nI 0).toNatClampNeg _))))); rw [nI_clamp (by decide)]; rfl)
        | (show (.inr (4, [.int (nI 0), .ref tz, .int 0]) : va_E) = .inr (4, [.int (nI 0), .ref (if (0 : Int32) = 0 then tz else _), .int 0]); rw [if_pos rfl])
  have hl : lv_has ls 2 [(1, .int (nI 0)), (0, .ref a)] := hl
  refine xl_upA (Wg := fun H locs ls c0 d0 => W p l e _ s m args below meth c H locs c0 d0 _ (F0 m 80 ls [])) (K := fun i H locs ls c0 d0 => ∃ (I : List (Nat × Nat)) (ad : Nat → Nat → Nat), lv_has ls 2 [(1, .int (nI i)), (0, .ref a)] ∧ xNm I i 0 ∧ ad 5 0 = a ∧ xr_W xCl (xT cA) D I ad (xc cA tz ad (xsm i 0)) A s H locs ∧ c0 = 10 + 2 * i ∧ d0 = 94 + 15 * i) 16 ?_ ?_ 0 _ _ _ _ _ (by omega) ⟨I1, ad1, hl, hN1, ha1, w, rfl, rfl⟩
  · skip
    intro H locs ls c0 d0 ⟨I, ad, hl, hN, ha, w, hc0, hd0⟩
    subst hc0
    subst hd0
    refine lv_iload_n hx hb dSF_init_80 rfl (lv_at hl 0 rfl) ?_
    refine lv_bipush (v := nI 16) hx hb dSF_init_81 xk_b16 ?_
    refine lv_icmp_ge hx hb dSF_init_83 rfl (fun _ => ?_) (fun hq => absurd (by decide) hq)
    refine lv_iconst (v := nI 0) hx hb dSF_init_111 xk_i0 ?_
    refine lv_istore_n (lv' := [(1, .int (nI 0)), (0, .ref a)]) hx hb dSF_init_112 rfl hl (by decide) rfl (fun ls hl => ?_)
    refine xl_upA (Wg := fun H locs ls c0 d0 => W p l e _ s m args below meth c H locs c0 d0 _ (F0 m 113 ls [])) (K := fun t H locs ls c0 d0 => ∃ (I : List (Nat × Nat)) (ad : Nat → Nat → Nat), lv_has ls 2 [(1, .int (nI t)), (0, .ref a)] ∧ xNm I 16 t ∧ ad 5 0 = a ∧ xr_W xCl (xT cA) D I ad (xc cA tz ad (xsm 16 t)) A s H locs ∧ c0 = 42 + 2 * t ∧ d0 = 334 + 9 * t) 3 ?_ ?_ 0 _ _ _ _ _ (by omega) ⟨I, ad, lv_sub hl [0, 1] rfl, hN, ha, w, rfl, rfl⟩
    · skip
      intro H locs ls c0 d0 ⟨I, ad, hl, hN, ha, w, hc0, hd0⟩
      subst hc0
      subst hd0
      refine lv_iload_n hx hb dSF_init_113 rfl (lv_at hl 0 rfl) ?_
      refine lv_iconst (v := nI 3) hx hb dSF_init_114 xk_i3 ?_
      refine lv_icmp_ge hx hb dSF_init_115 rfl (fun _ => ?_) (fun hq => absurd (by decide) hq)
      exact xr_vret C w hr hlk ⟨rfl, rfl, hN, ha⟩ (Nat.le_of_ble_eq_true rfl) (Nat.le_of_ble_eq_true rfl) dSF_init_137
    · skip
      intro t H locs ls c0 d0 hi ⟨I, ad, hl, hN, ha, w, hc0, hd0⟩ ih
      subst hc0
      subst hd0
      refine lv_iload_n hx hb dSF_init_113 rfl (lv_at hl 0 rfl) ?_
      refine lv_iconst (v := nI 3) hx hb dSF_init_114 xk_i3 ?_
      refine lv_icmp_ge hx hb dSF_init_115 rfl (fun hq => absurd hq (nI_ge (by omega) (by omega))) (fun _ => ?_)
      refine lv_aload_n hx hb dSF_init_118 rfl (lv_at hl 1 rfl) ?_
      refine W.eq (g2 := F0 m 119 ls [.ref (ad 5 0)]) (by rw [ha]) ?_
      refine xg_SF_17 C w ((hN 5 0).mpr (by omega)) dSF_init_119 ?_
      refine lv_iload_n hx hb dSF_init_122 rfl (lv_at hl 0 rfl) ?_
      have n0 : (2, t) ∉ I := fun z => by have := (hN 2 t).mp z; omega
      refine xr_new (r := 2) (k := t) C w n0 (ci := 1) (fs := [.null, .int 0, .int 0, .int 0, .int 0]) xin_TA xY_TA xY_TA_ok xk_cTA xk_iTA xk_nTA rfl (by decide +kernel) (by simp only [xr_R]; omega) (by simp only [xr_R]; omega) dSF_init_123 (fun q H w => ?_)
      refine lv_dup hx hb dSF_init_126 rfl ?_
      have n1 : (3, t) ∉ I ++ [(2, t)] := fun z => by rcases List.mem_append.mp z with z | z; exact (by have := (hN 3 t).mp z; omega); simp at z
      refine xr_callIN xG (xZL tz) C w hz.1 hml hl.1 hz.2.2.2.1 (xmi 118 (by decide +kernel) rfl) xk_nTA (xmi 119 (by decide +kernel) rfl) rfl ⟨by decide, by decide, rfl⟩ (cTA_init l D cA tz (I ++ [(2, t)]) (xw_u2 ad 2 t q) _ t q (by simp) (xw_u2_s _ _ _ _) n1 (xw_u2_s _ _ _ _)) rfl rfl (Nat.le_of_ble_eq_true rfl) (by simp only [xr_R]; omega) (by simp only [xr_R]; omega) dSF_init_127 (fun o I9 ad9 E9 H locs hB w => ?_)
      obtain ⟨rfl, q2, rfl, rfl, rfl⟩ := hB
      have hq : (xw_u2 (xw_u2 ad 2 t q) 3 t q2) 2 t = q := (xw_u2_n _ _ (by omega)).trans (xw_u2_s _ _ _ _)
      refine W.eq (g2 := F0 m 130 ls [.ref ((xw_u2 (xw_u2 ad 2 t q) 3 t q2) 2 t), .int (nI t), .ref ((xw_u2 (xw_u2 ad 2 t q) 3 t q2) 7 0)]) (by rw [hq] <;> rfl) ?_
      refine xr_aast (r := 7) (k := 0) (r2 := 2) (k2 := t) (q9 := ("SplitFabric$Target", xF_TA, 5)) C w (List.mem_append_left _ (List.mem_append_left _ ((hN 7 0).mpr (by omega)))) rfl 2 rfl (by simp) (xw_u2_s _ _ _ _) rfl t rfl (by omega) (by decide) dSF_init_130 (fun H locs w => ?_)
      have hA2 := ha
      have w := ta_conv hN (by omega) w
      refine lv_iinc (lv' := [(1, .int (nI (t + 1))), (0, .ref a)]) hx hb dSF_init_131 hl (k := 0) rfl (xn_inc _) (by decide) rfl (fun ls hl => ?_)
      refine lv_goto hx hb dSF_init_134 rfl ?_
      exact ih _ _ _ _ _ ⟨_, xw_u2 (xw_u2 ad 2 t q) 3 t q2, hl, ta_conv_N hN, hA2, w, by omega, by omega⟩
  · skip
    intro i H locs ls c0 d0 hi ⟨I, ad, hl, hN, ha, w, hc0, hd0⟩ ih
    subst hc0
    subst hd0
    refine lv_iload_n hx hb dSF_init_80 rfl (lv_at hl 0 rfl) ?_
    refine lv_bipush (v := nI 16) hx hb dSF_init_81 xk_b16 ?_
    refine lv_icmp_ge hx hb dSF_init_83 rfl (fun hq => absurd hq (nI_ge (by omega) (by omega))) (fun _ => ?_)
    refine lv_aload_n hx hb dSF_init_86 rfl (lv_at hl 1 rfl) ?_
    refine W.eq (g2 := F0 m 87 ls [.ref (ad 5 0)]) (by rw [ha]) ?_
    refine xg_SF_11 C w ((hN 5 0).mpr (by omega)) dSF_init_87 ?_
    refine lv_iload_n hx hb dSF_init_90 rfl (lv_at hl 0 rfl) ?_
    have n0 : (0, i) ∉ I := fun z => by have := (hN 0 i).mp z; omega
    refine xr_new (r := 0) (k := i) C w n0 (ci := 0) (fs := [.int 0, .int 0, .null, .int 0, .int 0, .int 0, .int 0, .int 0, .int 0, .int 0, .int 0]) xin_TG xY_TG xY_TG_ok xk_cTG xk_iTG xk_nTG rfl (by decide +kernel) (by simp only [xr_R]; omega) (by simp only [xr_R]; omega) dSF_init_91 (fun q H w => ?_)
    refine lv_dup hx hb dSF_init_94 rfl ?_
    refine lv_iload_n hx hb dSF_init_95 rfl (lv_at hl 0 rfl) ?_
    refine lv_iconst (v := nI 4) hx hb dSF_init_96 xk_i4 ?_
    refine xn_div hx hb dSF_init_97 (by omega) (by decide) (by decide) ?_
    refine lv_iload_n hx hb dSF_init_98 rfl (lv_at hl 0 rfl) ?_
    refine lv_iconst (v := nI 4) hx hb dSF_init_99 xk_i4 ?_
    refine xn_rem hx hb dSF_init_100 (by omega) (by decide) (by decide) ?_
    have n1 : (1, i) ∉ I ++ [(0, i)] := fun z => by rcases List.mem_append.mp z with z | z; exact (by have := (hN 1 i).mp z; omega); simp at z
    refine xr_callI xG (xZL tz) C w hz.1 hml hl.1 xk_SF_53 (cTG_init l D cA tz (I ++ [(0, i)]) (xw_u2 ad 0 i q) _ i q (nI (i / 4)) (nI (i % 4)) (by simp) (xw_u2_s _ _ _ _) n1 (xw_u2_s _ _ _ _)) rfl rfl (Nat.le_of_ble_eq_true rfl) (by simp only [xr_R]; omega) (by simp only [xr_R]; omega) dSF_init_101 (fun o I9 ad9 E9 H locs hB w => ?_)
    obtain ⟨rfl, q2, rfl, rfl, rfl⟩ := hB
    have hq : (xw_u2 (xw_u2 ad 0 i q) 1 i q2) 0 i = q := (xw_u2_n _ _ (by omega)).trans (xw_u2_s _ _ _ _)
    refine W.eq (g2 := F0 m 104 ls [.ref ((xw_u2 (xw_u2 ad 0 i q) 1 i q2) 0 i), .int (nI i), .ref ((xw_u2 (xw_u2 ad 0 i q) 1 i q2) 6 0)]) (by rw [hq] <;> rfl) ?_
    refine xr_aast (r := 6) (k := 0) (r2 := 0) (k2 := i) (q9 := ("SplitFabric$Tag", xF_TG, 11)) C w (List.mem_append_left _ (List.mem_append_left _ ((hN 6 0).mpr (by omega)))) rfl 1 rfl (by simp) (xw_u2_s _ _ _ _) rfl i rfl (by omega) (by decide) dSF_init_104 (fun H locs w => ?_)
    have hA2 := ha
    have w := tg_conv hN (by omega) w
    refine lv_iinc (lv' := [(1, .int (nI (i + 1))), (0, .ref a)]) hx hb dSF_init_105 hl (k := 0) rfl (xn_inc _) (by decide) rfl (fun ls hl => ?_)
    refine lv_goto hx hb dSF_init_108 rfl ?_
    exact ih _ _ _ _ _ ⟨_, xw_u2 (xw_u2 ad 0 i q) 1 i q2, hl, tg_conv_N hN, hA2, w, by omega, by omega⟩
