/-! Constructors. -/
theorem xk_arrI : Cond.arrayClass .int ∈ xBIG := (xmi 61 (by decide +kernel) rfl)
theorem xk_arrZ : Cond.arrayClass .boolean ∈ xBIG := (xmi 680 (by decide +kernel) rfl)
theorem xk_arrJ : Cond.arrayClass .long ∈ xBIG := (xmi 823 (by decide +kernel) rfl)
set_option maxRecDepth 100000 in
set_option maxHeartbeats 4000000 in
theorem cTG_init (l : Launch) (D : va_G) (cA : Nat → ClassId) (tz : Nat) {Z : (Nat → Prop) → State → Heap → Prop} (I : List (Nat × Nat)) (ad : Nat → Nat → Nat) (E : Nat → Nat → va_E) (k a : Nat) (x y : Int32) (hI : (0, k) ∈ I) (ha : ad 0 k = a) (hn : (1, k) ∉ I) (he : E 0 k = .inr (0, [.int 0, .int 0, .null, .int 0, .int 0, .int 0, .int 0, .int 0, .int 0, .int 0, .int 0])) : xr_M xBIG xCl (xT cA) D Z l yTG_init bTG_init 3 none 1 1 4 [.ref a, .int x, .int y] I ad E (fun o I' ad' E' => o = none ∧ ∃ q, I' = I ++ [(1, k)] ∧ ad' = xw_u2 ad 1 k q ∧ E' = xw_u2 (xw_u2 E 1 k (.inl (cA 0, 4, .inl (fun _ => 0)))) 0 k (.inr (0, [.int x, .int y, .ref q, .int (nI 0), .int (nI 0), .int (nI 0), .int (nI 0), .int (nI 0), .int (nI 0), .int (nI 0), .int (nI 0)]))) := by
  refine xr_of (by decide) (by simp [lg_sl, Value.category]) ?_
  intro p e s m args below meth c A ls C hr hlk hml hin hl w hz
  obtain ⟨hx, hb, hown, hts⟩ := id C
  have hl : lv_has ls 3 [(0, .ref a), (1, .int x), (2, .int y)] := hl
  rw [← xw_u2_id E he] at w
  refine lv_aload_n hx hb dTG_init_0 rfl (lv_at hl 0 rfl) ?_
  refine W.objInit hx hb hown (hts (.methodLink "SplitFabric$Tag" 3 objectInit) (xmi 66 (by decide +kernel) rfl)) (hts (.instanceMethod objectInit) (xmi 27 (by decide +kernel) rfl)) (hts _ (xmi 28 (by decide +kernel) rfl)) rfl (by rw [hml]; exact hl.1) rfl dTG_init_1 (Nat.le_of_ble_eq_true rfl) (Nat.le_of_ble_eq_true rfl) ?_
  refine W.eq (g2 := F0 m 4 ls []) rfl ?_
  refine lv_aload_n hx hb dTG_init_4 rfl (lv_at hl 0 rfl) ?_
  refine lv_iconst (v := nI 4) hx hb dTG_init_5 xk_i4 ?_
  refine xr_newaC (atype := .int) 1 k C w (by omega) hn xk_arrI rfl 0 rfl 4 (4, .inl (fun _ => 0)) (fun _ => rfl) rfl (by decide) (by decide) (Nat.le_of_ble_eq_true rfl) (Nat.le_of_ble_eq_true rfl) dTG_init_6 (fun q1 H w => ?_)
  refine xr_putFC (r := 0) (k := k) C w (List.mem_append_left _ hI) ha rfl xin_TG xY_TG xY_TG_ok xF_TG_nm hin 2 (by decide) (xmi 73 (by decide +kernel) rfl) rfl rfl rfl rfl rfl (Nat.le_of_ble_eq_true rfl) dTG_init_8 (fun H locs w => ?_)
  refine lv_aload_n hx hb dTG_init_11 rfl (lv_at hl 0 rfl) ?_
  refine lv_iconst (v := nI 0) hx hb dTG_init_12 xk_i0 ?_
  refine xr_putC (r := 0) (k := k) C w (List.mem_append_left _ hI) ha rfl xin_TG xY_TG xY_TG_ok xF_TG_nm 3 (by decide) (xmi 75 (by decide +kernel) rfl) rfl rfl rfl rfl (Nat.le_of_ble_eq_true rfl) dTG_init_13 (fun H locs w => ?_)
  refine lv_aload_n hx hb dTG_init_16 rfl (lv_at hl 0 rfl) ?_
  refine lv_iconst (v := nI 0) hx hb dTG_init_17 xk_i0 ?_
  refine xr_putC (r := 0) (k := k) C w (List.mem_append_left _ hI) ha rfl xin_TG xY_TG xY_TG_ok xF_TG_nm 4 (by decide) (xmi 77 (by decide +kernel) rfl) rfl rfl rfl rfl (Nat.le_of_ble_eq_true rfl) dTG_init_18 (fun H locs w => ?_)
  refine lv_aload_n hx hb dTG_init_21 rfl (lv_at hl 0 rfl) ?_
  refine lv_iconst (v := nI 0) hx hb dTG_init_22 xk_i0 ?_
  refine xr_putC (r := 0) (k := k) C w (List.mem_append_left _ hI) ha rfl xin_TG xY_TG xY_TG_ok xF_TG_nm 5 (by decide) (xmi 80 (by decide +kernel) rfl) rfl rfl rfl rfl (Nat.le_of_ble_eq_true rfl) dTG_init_23 (fun H locs w => ?_)
  refine lv_aload_n hx hb dTG_init_26 rfl (lv_at hl 0 rfl) ?_
  refine lv_iconst (v := nI 0) hx hb dTG_init_27 xk_i0 ?_
  refine xr_putC (r := 0) (k := k) C w (List.mem_append_left _ hI) ha rfl xin_TG xY_TG xY_TG_ok xF_TG_nm 6 (by decide) (xmi 83 (by decide +kernel) rfl) rfl rfl rfl rfl (Nat.le_of_ble_eq_true rfl) dTG_init_28 (fun H locs w => ?_)
  refine lv_aload_n hx hb dTG_init_31 rfl (lv_at hl 0 rfl) ?_
  refine lv_iconst (v := nI 0) hx hb dTG_init_32 xk_i0 ?_
  refine xr_putC (r := 0) (k := k) C w (List.mem_append_left _ hI) ha rfl xin_TG xY_TG xY_TG_ok xF_TG_nm 7 (by decide) (xmi 86 (by decide +kernel) rfl) rfl rfl rfl rfl (Nat.le_of_ble_eq_true rfl) dTG_init_33 (fun H locs w => ?_)
  refine lv_aload_n hx hb dTG_init_36 rfl (lv_at hl 0 rfl) ?_
  refine lv_iconst (v := nI 0) hx hb dTG_init_37 xk_i0 ?_
  refine xr_putC (r := 0) (k := k) C w (List.mem_append_left _ hI) ha rfl xin_TG xY_TG xY_TG_ok xF_TG_nm 8 (by decide) (xmi 87 (by decide +kernel) rfl) rfl rfl rfl rfl (Nat.le_of_ble_eq_true rfl) dTG_init_38 (fun H locs w => ?_)
  refine lv_aload_n hx hb dTG_init_41 rfl (lv_at hl 0 rfl) ?_
  refine lv_iconst (v := nI 0) hx hb dTG_init_42 xk_i0 ?_
  refine xr_putC (r := 0) (k := k) C w (List.mem_append_left _ hI) ha rfl xin_TG xY_TG xY_TG_ok xF_TG_nm 9 (by decide) (xmi 89 (by decide +kernel) rfl) rfl rfl rfl rfl (Nat.le_of_ble_eq_true rfl) dTG_init_43 (fun H locs w => ?_)
  refine lv_aload_n hx hb dTG_init_46 rfl (lv_at hl 0 rfl) ?_
  refine lv_iconst (v := nI 0) hx hb dTG_init_47 xk_i0 ?_
  refine xr_putC (r := 0) (k := k) C w (List.mem_append_left _ hI) ha rfl xin_TG xY_TG xY_TG_ok xF_TG_nm 10 (by decide) (xmi 91 (by decide +kernel) rfl) rfl rfl rfl rfl (Nat.le_of_ble_eq_true rfl) dTG_init_48 (fun H locs w => ?_)
  refine lv_aload_n hx hb dTG_init_51 rfl (lv_at hl 0 rfl) ?_
  refine lv_iload_n hx hb dTG_init_52 rfl (lv_at hl 1 rfl) ?_
  refine xr_putFC (r := 0) (k := k) C w (List.mem_append_left _ hI) ha rfl xin_TG xY_TG xY_TG_ok xF_TG_nm hin 0 (by decide) (xmi 68 (by decide +kernel) rfl) rfl rfl rfl rfl rfl (Nat.le_of_ble_eq_true rfl) dTG_init_53 (fun H locs w => ?_)
  refine lv_aload_n hx hb dTG_init_56 rfl (lv_at hl 0 rfl) ?_
  refine lv_iload_n hx hb dTG_init_57 rfl (lv_at hl 2 rfl) ?_
  refine xr_putFC (r := 0) (k := k) C w (List.mem_append_left _ hI) ha rfl xin_TG xY_TG xY_TG_ok xF_TG_nm hin 1 (by decide) (xmi 71 (by decide +kernel) rfl) rfl rfl rfl rfl rfl (Nat.le_of_ble_eq_true rfl) dTG_init_58 (fun H locs w => ?_)
  exact xr_vret C w hr hlk ⟨rfl, q1, rfl, rfl, rfl⟩ (Nat.le_of_ble_eq_true rfl) (Nat.le_of_ble_eq_true rfl) dTG_init_61
set_option maxRecDepth 100000 in
set_option maxHeartbeats 4000000 in
theorem cTA_init (l : Launch) (D : va_G) (cA : Nat → ClassId) (tz : Nat) {Z : (Nat → Prop) → State → Heap → Prop} (I : List (Nat × Nat)) (ad : Nat → Nat → Nat) (E : Nat → Nat → va_E) (k a : Nat) (hI : (2, k) ∈ I) (ha : ad 2 k = a) (hn : (3, k) ∉ I) (he : E 2 k = .inr (1, [.null, .int 0, .int 0, .int 0, .int 0])) : xr_M xBIG xCl (xT cA) D Z l yTA_init bTA_init 1 none 1 1 4 [.ref a] I ad E (fun o I' ad' E' => o = none ∧ ∃ q, I' = I ++ [(3, k)] ∧ ad' = xw_u2 ad 3 k q ∧ E' = xw_u2 (xw_u2 E 3 k (.inl (cA 0, 4, .inl (fun _ => 0)))) 2 k (.inr (1, [.ref q, .int (nI 0), .int (nI 4), .int (-1), .int (nI 0)]))) := by
  refine xr_of (by decide) (by simp [lg_sl, Value.category]) ?_
  intro p e s m args below meth c A ls C hr hlk hml hin hl w hz
  obtain ⟨hx, hb, hown, hts⟩ := id C
  have hl : lv_has ls 1 [(0, .ref a)] := hl
  rw [← xw_u2_id E he] at w
  refine lv_aload_n hx hb dTA_init_0 rfl (lv_at hl 0 rfl) ?_
  refine W.objInit hx hb hown (hts (.methodLink "SplitFabric$Target" 3 objectInit) (xmi 120 (by decide +kernel) rfl)) (hts (.instanceMethod objectInit) (xmi 27 (by decide +kernel) rfl)) (hts _ (xmi 28 (by decide +kernel) rfl)) rfl (by rw [hml]; exact hl.1) rfl dTA_init_1 (Nat.le_of_ble_eq_true rfl) (Nat.le_of_ble_eq_true rfl) ?_
  refine W.eq (g2 := F0 m 4 ls []) rfl ?_
  refine lv_aload_n hx hb dTA_init_4 rfl (lv_at hl 0 rfl) ?_
  refine lv_iconst (v := nI 4) hx hb dTA_init_5 xk_i4 ?_
  refine xr_newaC (atype := .int) 3 k C w (by omega) hn xk_arrI rfl 0 rfl 4 (4, .inl (fun _ => 0)) (fun _ => rfl) rfl (by decide) (by decide) (Nat.le_of_ble_eq_true rfl) (Nat.le_of_ble_eq_true rfl) dTA_init_6 (fun q3 H w => ?_)
  refine xr_putFC (r := 2) (k := k) C w (List.mem_append_left _ hI) ha rfl xin_TA xY_TA xY_TA_ok xF_TA_nm hin 0 (by decide) (xmi 121 (by decide +kernel) rfl) rfl rfl rfl rfl rfl (Nat.le_of_ble_eq_true rfl) dTA_init_8 (fun H locs w => ?_)
  refine lv_aload_n hx hb dTA_init_11 rfl (lv_at hl 0 rfl) ?_
  refine lv_iconst (v := nI 0) hx hb dTA_init_12 xk_i0 ?_
  refine xr_putC (r := 2) (k := k) C w (List.mem_append_left _ hI) ha rfl xin_TA xY_TA xY_TA_ok xF_TA_nm 1 (by decide) (xmi 122 (by decide +kernel) rfl) rfl rfl rfl rfl (Nat.le_of_ble_eq_true rfl) dTA_init_13 (fun H locs w => ?_)
  refine lv_aload_n hx hb dTA_init_16 rfl (lv_at hl 0 rfl) ?_
  refine lv_iconst (v := nI 4) hx hb dTA_init_17 xk_i4 ?_
  refine xr_putC (r := 2) (k := k) C w (List.mem_append_left _ hI) ha rfl xin_TA xY_TA xY_TA_ok xF_TA_nm 2 (by decide) (xmi 124 (by decide +kernel) rfl) rfl rfl rfl rfl (Nat.le_of_ble_eq_true rfl) dTA_init_18 (fun H locs w => ?_)
  refine lv_aload_n hx hb dTA_init_21 rfl (lv_at hl 0 rfl) ?_
  refine lv_iconst (v := -1) hx hb dTA_init_22 xk_im1 ?_
  refine xr_putC (r := 2) (k := k) C w (List.mem_append_left _ hI) ha rfl xin_TA xY_TA xY_TA_ok xF_TA_nm 3 (by decide) (xmi 126 (by decide +kernel) rfl) rfl rfl rfl rfl (Nat.le_of_ble_eq_true rfl) dTA_init_23 (fun H locs w => ?_)
  refine lv_aload_n hx hb dTA_init_26 rfl (lv_at hl 0 rfl) ?_
  refine lv_iconst (v := nI 0) hx hb dTA_init_27 xk_i0 ?_
  refine xr_putC (r := 2) (k := k) C w (List.mem_append_left _ hI) ha rfl xin_TA xY_TA xY_TA_ok xF_TA_nm 4 (by decide) (xmi 128 (by decide +kernel) rfl) rfl rfl rfl rfl (Nat.le_of_ble_eq_true rfl) dTA_init_28 (fun H locs w => ?_)
  exact xr_vret C w hr hlk ⟨rfl, q3, rfl, rfl, rfl⟩ (Nat.le_of_ble_eq_true rfl) (Nat.le_of_ble_eq_true rfl) dTA_init_31
set_option maxRecDepth 100000 in
set_option maxHeartbeats 4000000 in
theorem cAC_init (l : Launch) (D : va_G) (cA : Nat → ClassId) (tz : Nat) {Z : (Nat → Prop) → State → Heap → Prop} (I : List (Nat × Nat)) (ad : Nat → Nat → Nat) (E : Nat → Nat → va_E) (a : Nat) : xr_M xBIG xCl (xT cA) D Z l yAC_init bAC_init 1 none 1 0 0 [.ref a] I ad E (xB none I ad (E)) := by
  refine xr_of (by decide) (by simp [lg_sl, Value.category]) ?_
  intro p e s m args below meth c A ls C hr hlk hml hin hl w hz
  obtain ⟨hx, hb, hown, hts⟩ := id C
  have hl : lv_has ls 1 [(0, .ref a)] := hl
  refine lv_aload_n hx hb dAC_init_0 rfl (lv_at hl 0 rfl) ?_
  refine W.objInit hx hb hown (hts (.methodLink "java/util/AbstractCollection" 1 objectInit) (xmi 46 (by decide +kernel) rfl)) (hts (.instanceMethod objectInit) (xmi 27 (by decide +kernel) rfl)) (hts _ (xmi 28 (by decide +kernel) rfl)) rfl (by rw [hml]; exact hl.1) rfl dAC_init_1 (Nat.le_of_ble_eq_true rfl) (Nat.le_of_ble_eq_true rfl) ?_
  refine W.eq (g2 := F0 m 4 ls []) rfl ?_
  exact xr_vret C w hr hlk ⟨rfl, rfl, rfl, rfl⟩ (Nat.le_of_ble_eq_true rfl) (Nat.le_of_ble_eq_true rfl) dAC_init_4
set_option maxRecDepth 100000 in
set_option maxHeartbeats 4000000 in
theorem cAB_init (l : Launch) (D : va_G) (cA : Nat → ClassId) (tz : Nat) {Z : (Nat → Prop) → State → Heap → Prop} (I : List (Nat × Nat)) (ad : Nat → Nat → Nat) (E : Nat → Nat → va_E) (a : Nat) (hI : (11, 0) ∈ I) (ha : ad 11 0 = a) (he : E 11 0 = .inr (4, [.int 0, .null, .int 0])) (hZL : xr_ZL Z) : xr_M xBIG xCl (xT cA) D Z l yAB_init bAB_init 1 none 2 0 0 [.ref a] I ad E (xB none I ad (xw_u2 E 11 0 (.inr (4, [.int (nI 0), .null, .int 0])))) := by
  refine xr_of (by decide) (by simp [lg_sl, Value.category]) ?_
  intro p e s m args below meth c A ls C hr hlk hml hin hl w hz
  obtain ⟨hx, hb, hown, hts⟩ := id C
  have hl : lv_has ls 1 [(0, .ref a)] := hl
  refine lv_aload_n hx hb dAB_init_0 rfl (lv_at hl 0 rfl) ?_
  refine xr_callI xG hZL C w hz hml hl.1 xk_AB_1 (cAC_init l D cA tz I ad E a) rfl rfl (Nat.le_of_ble_eq_true rfl) (by decide) (by decide) dAB_init_1 (fun o I9 ad9 E9 H locs hB w => ?_)
  obtain ⟨rfl, hI9, ha9, hE9⟩ := hB
  rw [hI9, ha9, hE9] at w
  refine W.eq (g2 := F0 m 4 ls []) rfl ?_
  refine lv_aload_n hx hb dAB_init_4 rfl (lv_at hl 0 rfl) ?_
  refine lv_iconst (v := nI 0) hx hb dAB_init_5 xk_i0 ?_
  obtain ⟨hP, hD, hK, hS, hA⟩ := w
  obtain ⟨q, hq⟩ := xw_at ad E hI
  rw [he] at hq
  subst ha
  refine va_put (ci := 4) (v := .int (nI 0)) hx hb hts xin_AL xY_AL xY_AL_ok xF_AL_nm hown hK hP hD hS q hq rfl 0 (by decide) (hts _ (xmi 51 (by decide +kernel) rfl)) (fun x h => h) rfl (xY_AL_ok 0 (by decide)) rfl rfl (Nat.le_of_ble_eq_true rfl) dAB_init_6 (fun H1 locs1 hP1 hD1 hS1 => ?_)
  rw [xw_set hD hI hq] at hP1 hD1
  have w : xr_W xCl (xT cA) D I ad (xw_u2 E 11 0 (.inr (4, [.int (nI 0), .null, .int 0]))) A s H1 locs1 := ⟨hP1, hD1, hK, hS1, hA⟩
  exact xr_vret C w hr hlk ⟨rfl, rfl, rfl, rfl⟩ (Nat.le_of_ble_eq_true rfl) (Nat.le_of_ble_eq_true rfl) dAB_init_9
set_option maxRecDepth 100000 in
set_option maxHeartbeats 4000000 in
theorem cAL_init (l : Launch) (D : va_G) (cA : Nat → ClassId) (tz : Nat) {Z : (Nat → Prop) → State → Heap → Prop} (I : List (Nat × Nat)) (ad : Nat → Nat → Nat) (E : Nat → Nat → va_E) (a : Nat) (hI : (11, 0) ∈ I) (ha : ad 11 0 = a) (he : E 11 0 = .inr (4, [.int 0, .null, .int 0])) (hZL : xr_ZL Z) (hZx : ∀ A U H, Z A U H → xZ tz A U H) : xr_M xBIG xCl (xT cA) D Z l yAL_init bAL_init 1 none 3 0 0 [.ref a] I ad E (xB none I ad (xw_u2 E 11 0 (.inr (4, [.int (nI 0), .ref tz, .int 0])))) := by
  refine xr_of (by decide) (by simp [lg_sl, Value.category]) ?_
  intro p e s m args below meth c A ls C hr hlk hml hin hl w hz
  obtain ⟨hx, hb, hown, hts⟩ := id C
  have hl : lv_has ls 1 [(0, .ref a)] := hl
  refine lv_aload_n hx hb dAL_init_0 rfl (lv_at hl 0 rfl) ?_
  refine xr_callI xG hZL C w hz hml hl.1 xk_AL_1 (cAB_init l D cA tz I ad E a hI ha he hZL) rfl rfl (Nat.le_of_ble_eq_true rfl) (by decide) (by decide) dAL_init_1 (fun o I9 ad9 E9 H locs hB w => ?_)
  obtain ⟨rfl, hI9, ha9, hE9⟩ := hB
  rw [hI9, ha9, hE9] at w
  refine W.eq (g2 := F0 m 4 ls []) rfl ?_
  refine lv_aload_n hx hb dAL_init_4 rfl (lv_at hl 0 rfl) ?_
  obtain ⟨hP, hD, hK, hS, hA⟩ := id w
  refine va_gets hx hb (xs_S.va (hZx _ _ _ hz).2.2.2.1) hS hown (hts _ (xmi 47 (by decide +kernel) rfl)) (fun x h => h) dAL_init_5 ?_
  refine xr_putC (r := 11) (k := 0) C w hI ha rfl xin_AL xY_AL xY_AL_ok xF_AL_nm 1 (by decide) (xmi 49 (by decide +kernel) rfl) rfl rfl rfl rfl (Nat.le_of_ble_eq_true rfl) dAL_init_8 (fun H locs w => ?_)
  exact xr_vret C w hr hlk ⟨rfl, rfl, rfl, rfl⟩ (Nat.le_of_ble_eq_true rfl) (Nat.le_of_ble_eq_true rfl) dAL_init_11
