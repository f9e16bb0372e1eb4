/-! The reference's constructor. -/
theorem bd_no {I : List (Nat × Nat)} {r k : Nat} (h : ∀ j ∈ I, j.1 < r) : (r, k) ∉ I := fun z => Nat.lt_irrefl r (h (r, k) z)
theorem bd_app {I : List (Nat × Nat)} {r : Nat} (h : ∀ j ∈ I, j.1 < r) : ∀ j ∈ I ++ [(r, 0)], j.1 < r + 1 := by
  intro j hj
  rcases List.mem_append.mp hj with z | z
  · exact Nat.lt_succ_of_lt (h j z)
  · rw [List.mem_singleton.mp z]
    exact Nat.lt_succ_self r
section
variable {p : Program} {l : Launch} {e : Env} {R : Room} {s : State} {m : MethodId} {args : Array Value} {below : List Frame} {meth : Method} {c : Code} {H : Heap} {locs : List Loc} {cells slots : Nat} {Q : State → Prop}
variable {cc : ByteArray} {pc : Nat} {ls : Array Slot} {rest : List Value} {D : va_G} {cl : List vw_C} {tys : List (ClassId × FieldType)} {A : Nat → Prop} {own : String} {Ts : List Cond} {I : List (Nat × Nat)} {ad : Nat → Nat → Nat} {E : Nat → Nat → va_E} {r k : Nat}
theorem xr_getC (C : xr_C Ts p c cc own s m args) (w : xr_W cl tys D I ad E A s H locs) (hI : (r, k) ∈ I) {a : Nat} (ha : ad r k = a) {ci : Nat} {fs : List Value} (he : E r k = .inr (ci, fs)) {Cn : String} {T : u_T} {N : Nat} (hc : cl[ci]? = some (Cn, T, N)) (hin : ∀ w ∈ u_ws Cn T N, w ∈ Ts)
    (i : Nat) (hi : i < N) {index : Nat} (hlink : Cond.fieldLink own index Cn (T i).2.1 (T i).2.2.1 ∈ Ts) (hs : (T i).1 = Cn) {v : Value} (hv : fs[i]? = some v) (hdg : decode cc pc = .ok (.getfield index, 3))
    (kk : W p l e R s m args below meth c H locs cells slots Q (F0 m (pc + 3) ls (v :: rest))) : W p l e R s m args below meth c H locs cells slots Q (F0 m pc ls (.ref a :: rest)) := by
  subst ha
  exact xr_get C w hI he hc hin i hi hlink hs hv hdg kk
theorem xr_iastC (C : xr_C Ts p c cc own s m args) (w : xr_W cl tys D I ad E A s H locs) (hI : (r, k) ∈ I) {a : Nat} (ha : ad r k = a) {cA : ClassId} {n : Nat} {f : Nat → Int32} (he : E r k = .inl (cA, n, .inl f)) (t0 : Nat) (ht : tys[t0]? = some (cA, .int)) {i x : Int32} (j : Nat) (hi : i = nI j) (hj : j < n) (hn : n < 2 ^ 31) (hdg : decode cc pc = .ok (.iastore, 1))
    (kk : ∀ (H1 : Heap) (locs1 : List Loc), xr_W cl tys D I ad (xw_u2 E r k (.inl (cA, n, .inl (va_up f j x)))) A s H1 locs1 → W p l e R s m args below meth c H1 locs1 cells slots Q (F0 m (pc + 1) ls rest)) : W p l e R s m args below meth c H locs cells slots Q (F0 m pc ls (.int x :: .int i :: .ref a :: rest)) := by
  subst ha
  exact xr_iast C w hI he t0 ht j hi hj hn hdg kk
end
set_option maxRecDepth 100000 in
set_option maxHeartbeats 4000000 in
theorem cMD_init (l : Launch) (D : va_G) (cA : Nat → ClassId) (tz : Nat) {Z : (Nat → Prop) → State → Heap → Prop} (I : List (Nat × Nat)) (ad : Nat → Nat → Nat) (E : Nat → Nat → va_E) (a : Nat) (hI : (20, 0) ∈ I) (ha : ad 20 0 = a) (hlt : ∀ j ∈ I, j.1 < 14 ∨ j = (20, 0)) (hEE : ∀ x y, (x, y) ∈ I → x < 14 → E x y = xc cA tz ad (xsm 16 3) x y) (he : E 20 0 = .inr (5, [.int 0, .null, .null, .null, .null, .null, .null, .null, .null, .null, .null, .null, .null, .null, .null, .null, .int 0, .int 0, .int 0, .int 0, .int 0, .int 0, .null])) : xr_M xBIG xCl (xT cA) D Z l yMD_init bMD_init 2 none 1 16 3930 [.ref a] I ad E (fun o I' ad' E' => o = none ∧ E' = xc cA tz ad' (xsm 16 3) ∧ xE I ad I' ad' ∧ (∀ j, 20 ≤ j → j < 37 → (j, 0) ∈ I') ∧ ∀ j ∈ I', j ∈ I ∨ (21 ≤ j.1 ∧ j.1 ≤ 36)) := by
  refine xr_of (by decide) (by simp [lg_sl, Value.category]) ?_
  intro p e s m args below meth c A ls C hr hlk hml hin hl w hz
  obtain ⟨hx, hb, hown, hts⟩ := id C
  have hl : lv_has ls 2 [(0, .ref a)] := hl
  have hB : ∀ j ∈ I, j.1 < 21 := fun j hj => by rcases hlt _ hj with z | z; exact Nat.lt_trans z (by decide); exact (by rw [z]; decide)
  rw [← xw_u2_id E he] at w
  refine lv_aload_n hx hb dMD_init_0 rfl (lv_at hl 0 rfl) ?_
  refine W.objInit hx hb hown (hts (.methodLink "SplitFabricModel" 1 objectInit) (xmi 609 (by decide +kernel) rfl)) (hts (.instanceMethod objectInit) (xmi 27 (by decide +kernel) rfl)) (hts _ (xmi 28 (by decide +kernel) rfl)) rfl (by rw [hml]; exact hl.1) rfl dMD_init_1 (Nat.le_of_ble_eq_true rfl) (Nat.le_of_ble_eq_true rfl) ?_
  refine W.eq (g2 := F0 m 4 ls []) rfl ?_
  refine lv_aload_n hx hb dMD_init_4 rfl (lv_at hl 0 rfl) ?_
  refine lv_bipush (v := nI 48) hx hb dMD_init_5 xk_b48 ?_
  refine xr_newaC (atype := .int) 21 0 C w (by decide) (bd_no hB) xk_arrI rfl 0 rfl 48 (48, .inl (fun _ => 0)) (fun _ => rfl) rfl (by decide) (by decide) (Nat.le_of_ble_eq_true rfl) (Nat.le_of_ble_eq_true rfl) dMD_init_7 (fun q21 H w => ?_)
  have hB := bd_app (r := 21) hB
  have hI := List.mem_append_left [(21, 0)] hI
  have ha := (xw_u2_n _ q21 (show ¬ ((20 : Nat) = 21 ∧ (0 : Nat) = 0) by decide)).trans ha
  refine xr_putFC (r := 20) (k := 0) C w hI ha rfl xin_MD xY_MD xY_MD_ok xF_MD_nm hin 1 (by decide) (xmi 611 (by decide +kernel) rfl) rfl rfl rfl rfl rfl (Nat.le_of_ble_eq_true rfl) dMD_init_9 (fun H locs w => ?_)
  have w : xr_W xCl (xT cA) D _ _ (xw_u2 _ 20 0 (.inr (5, [.int 0, .ref q21, .null, .null, .null, .null, .null, .null, .null, .null, .null, .null, .null, .null, .null, .null, .int 0, .int 0, .int 0, .int 0, .int 0, .int 0, .null]))) A s H locs := w
  refine lv_aload_n hx hb dMD_init_12 rfl (lv_at hl 0 rfl) ?_
  refine lv_bipush (v := nI 16) hx hb dMD_init_13 xk_b16 ?_
  refine xr_newaC (atype := .int) 22 0 C w (by decide) (bd_no hB) xk_arrI rfl 0 rfl 16 (16, .inl (fun _ => 0)) (fun _ => rfl) rfl (by decide) (by decide) (Nat.le_of_ble_eq_true rfl) (Nat.le_of_ble_eq_true rfl) dMD_init_15 (fun q22 H w => ?_)
  have hB := bd_app (r := 22) hB
  have hI := List.mem_append_left [(22, 0)] hI
  have ha := (xw_u2_n _ q22 (show ¬ ((20 : Nat) = 22 ∧ (0 : Nat) = 0) by decide)).trans ha
  refine xr_putFC (r := 20) (k := 0) C w hI ha rfl xin_MD xY_MD xY_MD_ok xF_MD_nm hin 2 (by decide) (xmi 612 (by decide +kernel) rfl) rfl rfl rfl rfl rfl (Nat.le_of_ble_eq_true rfl) dMD_init_17 (fun H locs w => ?_)
  have w : xr_W xCl (xT cA) D _ _ (xw_u2 _ 20 0 (.inr (5, [.int 0, .ref q21, .ref q22, .null, .null, .null, .null, .null, .null, .null, .null, .null, .null, .null, .null, .null, .int 0, .int 0, .int 0, .int 0, .int 0, .int 0, .null]))) A s H locs := w
  refine lv_aload_n hx hb dMD_init_20 rfl (lv_at hl 0 rfl) ?_
  refine lv_iconst (v := nI 4) hx hb dMD_init_21 xk_i4 ?_
  refine xr_newaC (atype := .int) 23 0 C w (by decide) (bd_no hB) xk_arrI rfl 0 rfl 4 (4, .inl (fun _ => 0)) (fun _ => rfl) rfl (by decide) (by decide) (Nat.le_of_ble_eq_true rfl) (Nat.le_of_ble_eq_true rfl) dMD_init_22 (fun q23 H w => ?_)
  have hB := bd_app (r := 23) hB
  have hI := List.mem_append_left [(23, 0)] hI
  have ha := (xw_u2_n _ q23 (show ¬ ((20 : Nat) = 23 ∧ (0 : Nat) = 0) by decide)).trans ha
  refine xr_putFC (r := 20) (k := 0) C w hI ha rfl xin_MD xY_MD xY_MD_ok xF_MD_nm hin 3 (by decide) (xmi 613 (by decide +kernel) rfl) rfl rfl rfl rfl rfl (Nat.le_of_ble_eq_true rfl) dMD_init_24 (fun H locs w => ?_)
  have w : xr_W xCl (xT cA) D _ _ (xw_u2 _ 20 0 (.inr (5, [.int 0, .ref q21, .ref q22, .ref q23, .null, .null, .null, .null, .null, .null, .null, .null, .null, .null, .null, .null, .int 0, .int 0, .int 0, .int 0, .int 0, .int 0, .null]))) A s H locs := w
  refine lv_aload_n hx hb dMD_init_27 rfl (lv_at hl 0 rfl) ?_
  refine lv_iconst (v := nI 3) hx hb dMD_init_28 xk_i3 ?_
  refine xr_newaC (atype := .boolean) 24 0 C w (by decide) (bd_no hB) xk_arrZ rfl 5 rfl 3 (3, .inl (fun _ => 0)) (fun _ => rfl) rfl (by decide) (by decide) (Nat.le_of_ble_eq_true rfl) (Nat.le_of_ble_eq_true rfl) dMD_init_29 (fun q24 H w => ?_)
  have hB := bd_app (r := 24) hB
  have hI := List.mem_append_left [(24, 0)] hI
  have ha := (xw_u2_n _ q24 (show ¬ ((20 : Nat) = 24 ∧ (0 : Nat) = 0) by decide)).trans ha
  refine xr_putFC (r := 20) (k := 0) C w hI ha rfl xin_MD xY_MD xY_MD_ok xF_MD_nm hin 4 (by decide) (xmi 614 (by decide +kernel) rfl) rfl rfl rfl rfl rfl (Nat.le_of_ble_eq_true rfl) dMD_init_31 (fun H locs w => ?_)
  have w : xr_W xCl (xT cA) D _ _ (xw_u2 _ 20 0 (.inr (5, [.int 0, .ref q21, .ref q22, .ref q23, .ref q24, .null, .null, .null, .null, .null, .null, .null, .null, .null, .null, .null, .int 0, .int 0, .int 0, .int 0, .int 0, .int 0, .null]))) A s H locs := w
  refine lv_aload_n hx hb dMD_init_34 rfl (lv_at hl 0 rfl) ?_
  refine lv_iconst (v := nI 3) hx hb dMD_init_35 xk_i3 ?_
  refine xr_newaC (atype := .int) 25 0 C w (by decide) (bd_no hB) xk_arrI rfl 0 rfl 3 (3, .inl (fun _ => 0)) (fun _ => rfl) rfl (by decide) (by decide) (Nat.le_of_ble_eq_true rfl) (Nat.le_of_ble_eq_true rfl) dMD_init_36 (fun q25 H w => ?_)
  have hB := bd_app (r := 25) hB
  have h25 := List.mem_append_right (I ++ [(21, 0)] ++ [(22, 0)] ++ [(23, 0)] ++ [(24, 0)]) (List.mem_singleton.mpr (rfl : ((25, 0) : Nat × Nat) = (25, 0)))
  have hI := List.mem_append_left [(25, 0)] hI
  have ha := (xw_u2_n _ q25 (show ¬ ((20 : Nat) = 25 ∧ (0 : Nat) = 0) by decide)).trans ha
  refine xr_putFC (r := 20) (k := 0) C w hI ha rfl xin_MD xY_MD xY_MD_ok xF_MD_nm hin 5 (by decide) (xmi 615 (by decide +kernel) rfl) rfl rfl rfl rfl rfl (Nat.le_of_ble_eq_true rfl) dMD_init_38 (fun H locs w => ?_)
  have w : xr_W xCl (xT cA) D _ _ (xw_u2 _ 20 0 (.inr (5, [.int 0, .ref q21, .ref q22, .ref q23, .ref q24, .ref q25, .null, .null, .null, .null, .null, .null, .null, .null, .null, .null, .int 0, .int 0, .int 0, .int 0, .int 0, .int 0, .null]))) A s H locs := w
  refine lv_aload_n hx hb dMD_init_41 rfl (lv_at hl 0 rfl) ?_
  refine lv_bipush (v := nI 16) hx hb dMD_init_42 xk_b16 ?_
  refine xr_newaC (atype := .int) 26 0 C w (by decide) (bd_no hB) xk_arrI rfl 0 rfl 16 (16, .inl (fun _ => 0)) (fun _ => rfl) rfl (by decide) (by decide) (Nat.le_of_ble_eq_true rfl) (Nat.le_of_ble_eq_true rfl) dMD_init_44 (fun q26 H w => ?_)
  have hB := bd_app (r := 26) hB
  have h25 := List.mem_append_left [(26, 0)] h25
  have hI := List.mem_append_left [(26, 0)] hI
  have ha := (xw_u2_n _ q26 (show ¬ ((20 : Nat) = 26 ∧ (0 : Nat) = 0) by decide)).trans ha
  refine xr_putFC (r := 20) (k := 0) C w hI ha rfl xin_MD xY_MD xY_MD_ok xF_MD_nm hin 6 (by decide) (xmi 616 (by decide +kernel) rfl) rfl rfl rfl rfl rfl (Nat.le_of_ble_eq_true rfl) dMD_init_46 (fun H locs w => ?_)
  have w : xr_W xCl (xT cA) D _ _ (xw_u2 _ 20 0 (.inr (5, [.int 0, .ref q21, .ref q22, .ref q23, .ref q24, .ref q25, .ref q26, .null, .null, .null, .null, .null, .null, .null, .null, .null, .int 0, .int 0, .int 0, .int 0, .int 0, .int 0, .null]))) A s H locs := w
  refine lv_aload_n hx hb dMD_init_49 rfl (lv_at hl 0 rfl) ?_
  refine lv_bipush (v := nI 16) hx hb dMD_init_50 xk_b16 ?_
  refine xr_newaC (atype := .int) 27 0 C w (by decide) (bd_no hB) xk_arrI rfl 0 rfl 16 (16, .inl (fun _ => 0)) (fun _ => rfl) rfl (by decide) (by decide) (Nat.le_of_ble_eq_true rfl) (Nat.le_of_ble_eq_true rfl) dMD_init_52 (fun q27 H w => ?_)
  have hB := bd_app (r := 27) hB
  have h25 := List.mem_append_left [(27, 0)] h25
  have hI := List.mem_append_left [(27, 0)] hI
  have ha := (xw_u2_n _ q27 (show ¬ ((20 : Nat) = 27 ∧ (0 : Nat) = 0) by decide)).trans ha
  refine xr_putFC (r := 20) (k := 0) C w hI ha rfl xin_MD xY_MD xY_MD_ok xF_MD_nm hin 7 (by decide) (xmi 617 (by decide +kernel) rfl) rfl rfl rfl rfl rfl (Nat.le_of_ble_eq_true rfl) dMD_init_54 (fun H locs w => ?_)
  have w : xr_W xCl (xT cA) D _ _ (xw_u2 _ 20 0 (.inr (5, [.int 0, .ref q21, .ref q22, .ref q23, .ref q24, .ref q25, .ref q26, .ref q27, .null, .null, .null, .null, .null, .null, .null, .null, .int 0, .int 0, .int 0, .int 0, .int 0, .int 0, .null]))) A s H locs := w
  refine lv_aload_n hx hb dMD_init_57 rfl (lv_at hl 0 rfl) ?_
  refine lv_bipush (v := nI 16) hx hb dMD_init_58 xk_b16 ?_
  refine xr_newaC (atype := .int) 28 0 C w (by decide) (bd_no hB) xk_arrI rfl 0 rfl 16 (16, .inl (fun _ => 0)) (fun _ => rfl) rfl (by decide) (by decide) (Nat.le_of_ble_eq_true rfl) (Nat.le_of_ble_eq_true rfl) dMD_init_60 (fun q28 H w => ?_)
  have hB := bd_app (r := 28) hB
  have h25 := List.mem_append_left [(28, 0)] h25
  have hI := List.mem_append_left [(28, 0)] hI
  have ha := (xw_u2_n _ q28 (show ¬ ((20 : Nat) = 28 ∧ (0 : Nat) = 0) by decide)).trans ha
  refine xr_putFC (r := 20) (k := 0) C w hI ha rfl xin_MD xY_MD xY_MD_ok xF_MD_nm hin 8 (by decide) (xmi 618 (by decide +kernel) rfl) rfl rfl rfl rfl rfl (Nat.le_of_ble_eq_true rfl) dMD_init_62 (fun H locs w => ?_)
  have w : xr_W xCl (xT cA) D _ _ (xw_u2 _ 20 0 (.inr (5, [.int 0, .ref q21, .ref q22, .ref q23, .ref q24, .ref q25, .ref q26, .ref q27, .ref q28, .null, .null, .null, .null, .null, .null, .null, .int 0, .int 0, .int 0, .int 0, .int 0, .int 0, .null]))) A s H locs := w
  refine lv_aload_n hx hb dMD_init_65 rfl (lv_at hl 0 rfl) ?_
  refine lv_bipush (v := nI 16) hx hb dMD_init_66 xk_b16 ?_
  refine xr_newaC (atype := .int) 29 0 C w (by decide) (bd_no hB) xk_arrI rfl 0 rfl 16 (16, .inl (fun _ => 0)) (fun _ => rfl) rfl (by decide) (by decide) (Nat.le_of_ble_eq_true rfl) (Nat.le_of_ble_eq_true rfl) dMD_init_68 (fun q29 H w => ?_)
  have hB := bd_app (r := 29) hB
  have h25 := List.mem_append_left [(29, 0)] h25
  have hI := List.mem_append_left [(29, 0)] hI
  have ha := (xw_u2_n _ q29 (show ¬ ((20 : Nat) = 29 ∧ (0 : Nat) = 0) by decide)).trans ha
  refine xr_putFC (r := 20) (k := 0) C w hI ha rfl xin_MD xY_MD xY_MD_ok xF_MD_nm hin 9 (by decide) (xmi 619 (by decide +kernel) rfl) rfl rfl rfl rfl rfl (Nat.le_of_ble_eq_true rfl) dMD_init_70 (fun H locs w => ?_)
  have w : xr_W xCl (xT cA) D _ _ (xw_u2 _ 20 0 (.inr (5, [.int 0, .ref q21, .ref q22, .ref q23, .ref q24, .ref q25, .ref q26, .ref q27, .ref q28, .ref q29, .null, .null, .null, .null, .null, .null, .int 0, .int 0, .int 0, .int 0, .int 0, .int 0, .null]))) A s H locs := w
  refine lv_aload_n hx hb dMD_init_73 rfl (lv_at hl 0 rfl) ?_
  refine lv_bipush (v := nI 16) hx hb dMD_init_74 xk_b16 ?_
  refine xr_newaC (atype := .int) 30 0 C w (by decide) (bd_no hB) xk_arrI rfl 0 rfl 16 (16, .inl (fun _ => 0)) (fun _ => rfl) rfl (by decide) (by decide) (Nat.le_of_ble_eq_true rfl) (Nat.le_of_ble_eq_true rfl) dMD_init_76 (fun q30 H w => ?_)
  have hB := bd_app (r := 30) hB
  have h25 := List.mem_append_left [(30, 0)] h25
  have hI := List.mem_append_left [(30, 0)] hI
  have ha := (xw_u2_n _ q30 (show ¬ ((20 : Nat) = 30 ∧ (0 : Nat) = 0) by decide)).trans ha
  refine xr_putFC (r := 20) (k := 0) C w hI ha rfl xin_MD xY_MD xY_MD_ok xF_MD_nm hin 10 (by decide) (xmi 620 (by decide +kernel) rfl) rfl rfl rfl rfl rfl (Nat.le_of_ble_eq_true rfl) dMD_init_78 (fun H locs w => ?_)
  have w : xr_W xCl (xT cA) D _ _ (xw_u2 _ 20 0 (.inr (5, [.int 0, .ref q21, .ref q22, .ref q23, .ref q24, .ref q25, .ref q26, .ref q27, .ref q28, .ref q29, .ref q30, .null, .null, .null, .null, .null, .int 0, .int 0, .int 0, .int 0, .int 0, .int 0, .null]))) A s H locs := w
  refine lv_aload_n hx hb dMD_init_81 rfl (lv_at hl 0 rfl) ?_
  refine lv_bipush (v := nI 16) hx hb dMD_init_82 xk_b16 ?_
  refine xr_newaC (atype := .int) 31 0 C w (by decide) (bd_no hB) xk_arrI rfl 0 rfl 16 (16, .inl (fun _ => 0)) (fun _ => rfl) rfl (by decide) (by decide) (Nat.le_of_ble_eq_true rfl) (Nat.le_of_ble_eq_true rfl) dMD_init_84 (fun q31 H w => ?_)
  have hB := bd_app (r := 31) hB
  have h25 := List.mem_append_left [(31, 0)] h25
  have hI := List.mem_append_left [(31, 0)] hI
  have ha := (xw_u2_n _ q31 (show ¬ ((20 : Nat) = 31 ∧ (0 : Nat) = 0) by decide)).trans ha
  refine xr_putFC (r := 20) (k := 0) C w hI ha rfl xin_MD xY_MD xY_MD_ok xF_MD_nm hin 11 (by decide) (xmi 621 (by decide +kernel) rfl) rfl rfl rfl rfl rfl (Nat.le_of_ble_eq_true rfl) dMD_init_86 (fun H locs w => ?_)
  have w : xr_W xCl (xT cA) D _ _ (xw_u2 _ 20 0 (.inr (5, [.int 0, .ref q21, .ref q22, .ref q23, .ref q24, .ref q25, .ref q26, .ref q27, .ref q28, .ref q29, .ref q30, .ref q31, .null, .null, .null, .null, .int 0, .int 0, .int 0, .int 0, .int 0, .int 0, .null]))) A s H locs := w
  refine lv_aload_n hx hb dMD_init_89 rfl (lv_at hl 0 rfl) ?_
  refine lv_bipush (v := nI 16) hx hb dMD_init_90 xk_b16 ?_
  refine xr_newaC (atype := .int) 32 0 C w (by decide) (bd_no hB) xk_arrI rfl 0 rfl 16 (16, .inl (fun _ => 0)) (fun _ => rfl) rfl (by decide) (by decide) (Nat.le_of_ble_eq_true rfl) (Nat.le_of_ble_eq_true rfl) dMD_init_92 (fun q32 H w => ?_)
  have hB := bd_app (r := 32) hB
  have h25 := List.mem_append_left [(32, 0)] h25
  have hI := List.mem_append_left [(32, 0)] hI
  have ha := (xw_u2_n _ q32 (show ¬ ((20 : Nat) = 32 ∧ (0 : Nat) = 0) by decide)).trans ha
  refine xr_putFC (r := 20) (k := 0) C w hI ha rfl xin_MD xY_MD xY_MD_ok xF_MD_nm hin 12 (by decide) (xmi 622 (by decide +kernel) rfl) rfl rfl rfl rfl rfl (Nat.le_of_ble_eq_true rfl) dMD_init_94 (fun H locs w => ?_)
  have w : xr_W xCl (xT cA) D _ _ (xw_u2 _ 20 0 (.inr (5, [.int 0, .ref q21, .ref q22, .ref q23, .ref q24, .ref q25, .ref q26, .ref q27, .ref q28, .ref q29, .ref q30, .ref q31, .ref q32, .null, .null, .null, .int 0, .int 0, .int 0, .int 0, .int 0, .int 0, .null]))) A s H locs := w
  refine lv_aload_n hx hb dMD_init_97 rfl (lv_at hl 0 rfl) ?_
  refine lv_bipush (v := nI 64) hx hb dMD_init_98 xk_b64 ?_
  refine xr_newaC (atype := .int) 33 0 C w (by decide) (bd_no hB) xk_arrI rfl 0 rfl 64 (64, .inl (fun _ => 0)) (fun _ => rfl) rfl (by decide) (by decide) (Nat.le_of_ble_eq_true rfl) (Nat.le_of_ble_eq_true rfl) dMD_init_100 (fun q33 H w => ?_)
  have hB := bd_app (r := 33) hB
  have h25 := List.mem_append_left [(33, 0)] h25
  have hI := List.mem_append_left [(33, 0)] hI
  have ha := (xw_u2_n _ q33 (show ¬ ((20 : Nat) = 33 ∧ (0 : Nat) = 0) by decide)).trans ha
  refine xr_putFC (r := 20) (k := 0) C w hI ha rfl xin_MD xY_MD xY_MD_ok xF_MD_nm hin 13 (by decide) (xmi 623 (by decide +kernel) rfl) rfl rfl rfl rfl rfl (Nat.le_of_ble_eq_true rfl) dMD_init_102 (fun H locs w => ?_)
  have w : xr_W xCl (xT cA) D _ _ (xw_u2 _ 20 0 (.inr (5, [.int 0, .ref q21, .ref q22, .ref q23, .ref q24, .ref q25, .ref q26, .ref q27, .ref q28, .ref q29, .ref q30, .ref q31, .ref q32, .ref q33, .null, .null, .int 0, .int 0, .int 0, .int 0, .int 0, .int 0, .null]))) A s H locs := w
  refine lv_aload_n hx hb dMD_init_105 rfl (lv_at hl 0 rfl) ?_
  refine lv_bipush (v := nI 64) hx hb dMD_init_106 xk_b64 ?_
  refine xr_newaC (atype := .int) 34 0 C w (by decide) (bd_no hB) xk_arrI rfl 0 rfl 64 (64, .inl (fun _ => 0)) (fun _ => rfl) rfl (by decide) (by decide) (Nat.le_of_ble_eq_true rfl) (Nat.le_of_ble_eq_true rfl) dMD_init_108 (fun q34 H w => ?_)
  have hB := bd_app (r := 34) hB
  have h25 := List.mem_append_left [(34, 0)] h25
  have hI := List.mem_append_left [(34, 0)] hI
  have ha := (xw_u2_n _ q34 (show ¬ ((20 : Nat) = 34 ∧ (0 : Nat) = 0) by decide)).trans ha
  refine xr_putFC (r := 20) (k := 0) C w hI ha rfl xin_MD xY_MD xY_MD_ok xF_MD_nm hin 14 (by decide) (xmi 624 (by decide +kernel) rfl) rfl rfl rfl rfl rfl (Nat.le_of_ble_eq_true rfl) dMD_init_110 (fun H locs w => ?_)
  have w : xr_W xCl (xT cA) D _ _ (xw_u2 _ 20 0 (.inr (5, [.int 0, .ref q21, .ref q22, .ref q23, .ref q24, .ref q25, .ref q26, .ref q27, .ref q28, .ref q29, .ref q30, .ref q31, .ref q32, .ref q33, .ref q34, .null, .int 0, .int 0, .int 0, .int 0, .int 0, .int 0, .null]))) A s H locs := w
  refine lv_aload_n hx hb dMD_init_113 rfl (lv_at hl 0 rfl) ?_
  refine lv_bipush (v := nI 16) hx hb dMD_init_114 xk_b16 ?_
  refine xr_newaC (atype := .int) 35 0 C w (by decide) (bd_no hB) xk_arrI rfl 0 rfl 16 (16, .inl (fun _ => 0)) (fun _ => rfl) rfl (by decide) (by decide) (Nat.le_of_ble_eq_true rfl) (Nat.le_of_ble_eq_true rfl) dMD_init_116 (fun q35 H w => ?_)
  have hB := bd_app (r := 35) hB
  have h25 := List.mem_append_left [(35, 0)] h25
  have hI := List.mem_append_left [(35, 0)] hI
  have ha := (xw_u2_n _ q35 (show ¬ ((20 : Nat) = 35 ∧ (0 : Nat) = 0) by decide)).trans ha
  refine xr_putFC (r := 20) (k := 0) C w hI ha rfl xin_MD xY_MD xY_MD_ok xF_MD_nm hin 15 (by decide) (xmi 625 (by decide +kernel) rfl) rfl rfl rfl rfl rfl (Nat.le_of_ble_eq_true rfl) dMD_init_118 (fun H locs w => ?_)
  have w : xr_W xCl (xT cA) D _ _ (xw_u2 _ 20 0 (.inr (5, [.int 0, .ref q21, .ref q22, .ref q23, .ref q24, .ref q25, .ref q26, .ref q27, .ref q28, .ref q29, .ref q30, .ref q31, .ref q32, .ref q33, .ref q34, .ref q35, .int 0, .int 0, .int 0, .int 0, .int 0, .int 0, .null]))) A s H locs := w
  refine lv_aload_n hx hb dMD_init_121 rfl (lv_at hl 0 rfl) ?_
  refine lv_bipush (v := nI 15) hx hb dMD_init_122 xk_b15 ?_
  refine xr_putC (r := 20) (k := 0) C w hI ha rfl xin_MD xY_MD xY_MD_ok xF_MD_nm 18 (by decide) (xmi 628 (by decide +kernel) rfl) rfl rfl rfl rfl (Nat.le_of_ble_eq_true rfl) dMD_init_124 (fun H locs w => ?_)
  have w : xr_W xCl (xT cA) D _ _ (xw_u2 _ 20 0 (.inr (5, [.int 0, .ref q21, .ref q22, .ref q23, .ref q24, .ref q25, .ref q26, .ref q27, .ref q28, .ref q29, .ref q30, .ref q31, .ref q32, .ref q33, .ref q34, .ref q35, .int 0, .int 0, .int (nI 15), .int 0, .int 0, .int 0, .null]))) A s H locs := w
  refine lv_aload_n hx hb dMD_init_127 rfl (lv_at hl 0 rfl) ?_
  refine lv_iconst (v := nI 3) hx hb dMD_init_128 xk_i3 ?_
  refine xr_putC (r := 20) (k := 0) C w hI ha rfl xin_MD xY_MD xY_MD_ok xF_MD_nm 19 (by decide) (xmi 629 (by decide +kernel) rfl) rfl rfl rfl rfl (Nat.le_of_ble_eq_true rfl) dMD_init_129 (fun H locs w => ?_)
  have w : xr_W xCl (xT cA) D _ _ (xw_u2 _ 20 0 (.inr (5, [.int 0, .ref q21, .ref q22, .ref q23, .ref q24, .ref q25, .ref q26, .ref q27, .ref q28, .ref q29, .ref q30, .ref q31, .ref q32, .ref q33, .ref q34, .ref q35, .int 0, .int 0, .int (nI 15), .int (nI 3), .int 0, .int 0, .null]))) A s H locs := w
  refine lv_aload_n hx hb dMD_init_132 rfl (lv_at hl 0 rfl) ?_
  refine lv_sipush (v := nI 3600) hx hb dMD_init_133 xk_s3600 ?_
  refine xr_newaC (atype := .int) 36 0 C w (by decide) (bd_no hB) xk_arrI rfl 0 rfl 3600 (3600, .inl (fun _ => 0)) (fun _ => rfl) rfl (by decide) (by decide) (Nat.le_of_ble_eq_true rfl) (Nat.le_of_ble_eq_true rfl) dMD_init_136 (fun q36 H w => ?_)
  have hB := bd_app (r := 36) hB
  have h25 := List.mem_append_left [(36, 0)] h25
  have hI := List.mem_append_left [(36, 0)] hI
  have ha := (xw_u2_n _ q36 (show ¬ ((20 : Nat) = 36 ∧ (0 : Nat) = 0) by decide)).trans ha
  refine xr_putFC (r := 20) (k := 0) C w hI ha rfl xin_MD xY_MD xY_MD_ok xF_MD_nm hin 22 (by decide) (xmi 632 (by decide +kernel) rfl) rfl rfl rfl rfl rfl (Nat.le_of_ble_eq_true rfl) dMD_init_138 (fun H locs w => ?_)
  have w : xr_W xCl (xT cA) D _ _ (xw_u2 _ 20 0 (.inr (5, [.int 0, .ref q21, .ref q22, .ref q23, .ref q24, .ref q25, .ref q26, .ref q27, .ref q28, .ref q29, .ref q30, .ref q31, .ref q32, .ref q33, .ref q34, .ref q35, .int 0, .int 0, .int (nI 15), .int (nI 3), .int 0, .int 0, .ref q36]))) A s H locs := w
  refine lv_iconst (v := nI 0) hx hb dMD_init_141 xk_i0 ?_
  refine lv_istore_n (lv' := [(1, .int (nI 0)), (0, .ref a)]) hx hb dMD_init_142 rfl hl (by decide) rfl (fun ls hl => ?_)
  refine lv_iload_n hx hb dMD_init_143 rfl (lv_at hl 0 rfl) ?_
  refine lv_iconst (v := nI 3) hx hb dMD_init_144 xk_i3 ?_
  refine lv_icmp_ge hx hb dMD_init_145 rfl (fun hq => absurd hq (by decide)) (fun _ => ?_)
  refine lv_aload_n hx hb dMD_init_148 rfl (lv_at hl 1 rfl) ?_
  refine xr_getC (r := 20) (k := 0) (v := .ref q25) C w hI ha (xw_u2_s _ _ _ _) rfl xin_MD 5 (by decide) (xmi 615 (by decide +kernel) rfl) rfl rfl dMD_init_149 ?_
  refine lv_iload_n hx hb dMD_init_152 rfl (lv_at hl 0 rfl) ?_
  refine lv_iconst (v := -1) hx hb dMD_init_153 xk_im1 ?_
  refine xr_iastC (r := 25) (k := 0) C w h25 (a := q25) rfl rfl 0 rfl 0 rfl (by decide) (by decide) dMD_init_154 (fun H locs w => ?_)
  rw [xw_u2_comm (α := va_E) _ _ _ (show ¬ ((25 : Nat) = 20 ∧ (0 : Nat) = 0) by decide)] at w
  refine lv_iinc (lv' := [(1, .int (nI (0 + 1))), (0, .ref a)]) hx hb dMD_init_155 hl (k := 0) rfl (xn_inc _) (by decide) rfl (fun ls hl => ?_)
  have hl : lv_has ls 2 [(1, .int (nI 1)), (0, .ref a)] := hl
  refine lv_goto hx hb dMD_init_158 rfl ?_
  refine lv_iload_n hx hb dMD_init_143 rfl (lv_at hl 0 rfl) ?_
  refine lv_iconst (v := nI 3) hx hb dMD_init_144 xk_i3 ?_
  refine lv_icmp_ge hx hb dMD_init_145 rfl (fun hq => absurd hq (by decide)) (fun _ => ?_)
  refine lv_aload_n hx hb dMD_init_148 rfl (lv_at hl 1 rfl) ?_
  refine xr_getC (r := 20) (k := 0) (v := .ref q25) C w hI ha (xw_u2_s _ _ _ _) rfl xin_MD 5 (by decide) (xmi 615 (by decide +kernel) rfl) rfl rfl dMD_init_149 ?_
  refine lv_iload_n hx hb dMD_init_152 rfl (lv_at hl 0 rfl) ?_
  refine lv_iconst (v := -1) hx hb dMD_init_153 xk_im1 ?_
  refine xr_iastC (r := 25) (k := 0) C w h25 (a := q25) rfl rfl 0 rfl 1 rfl (by decide) (by decide) dMD_init_154 (fun H locs w => ?_)
  rw [xw_u2_comm (α := va_E) _ _ _ (show ¬ ((25 : Nat) = 20 ∧ (0 : Nat) = 0) by decide)] at w
  refine lv_iinc (lv' := [(1, .int (nI (1 + 1))), (0, .ref a)]) hx hb dMD_init_155 hl (k := 0) rfl (xn_inc _) (by decide) rfl (fun ls hl => ?_)
  have hl : lv_has ls 2 [(1, .int (nI 2)), (0, .ref a)] := hl
  refine lv_goto hx hb dMD_init_158 rfl ?_
  refine lv_iload_n hx hb dMD_init_143 rfl (lv_at hl 0 rfl) ?_
  refine lv_iconst (v := nI 3) hx hb dMD_init_144 xk_i3 ?_
  refine lv_icmp_ge hx hb dMD_init_145 rfl (fun hq => absurd hq (by decide)) (fun _ => ?_)
  refine lv_aload_n hx hb dMD_init_148 rfl (lv_at hl 1 rfl) ?_
  refine xr_getC (r := 20) (k := 0) (v := .ref q25) C w hI ha (xw_u2_s _ _ _ _) rfl xin_MD 5 (by decide) (xmi 615 (by decide +kernel) rfl) rfl rfl dMD_init_149 ?_
  refine lv_iload_n hx hb dMD_init_152 rfl (lv_at hl 0 rfl) ?_
  refine lv_iconst (v := -1) hx hb dMD_init_153 xk_im1 ?_
  refine xr_iastC (r := 25) (k := 0) C w h25 (a := q25) rfl rfl 0 rfl 2 rfl (by decide) (by decide) dMD_init_154 (fun H locs w => ?_)
  rw [xw_u2_comm (α := va_E) _ _ _ (show ¬ ((25 : Nat) = 20 ∧ (0 : Nat) = 0) by decide)] at w
  refine lv_iinc (lv' := [(1, .int (nI (2 + 1))), (0, .ref a)]) hx hb dMD_init_155 hl (k := 0) rfl (xn_inc _) (by decide) rfl (fun ls hl => ?_)
  have hl : lv_has ls 2 [(1, .int (nI 3)), (0, .ref a)] := hl
  refine lv_goto hx hb dMD_init_158 rfl ?_
  refine lv_iload_n hx hb dMD_init_143 rfl (lv_at hl 0 rfl) ?_
  refine lv_iconst (v := nI 3) hx hb dMD_init_144 xk_i3 ?_
  refine lv_icmp_ge hx hb dMD_init_145 rfl (fun _ => ?_) (fun hq => absurd (by decide) hq)
  obtain ⟨I1, ad1, hE1, w⟩ : ∃ I1 ad1, (xE I ad I1 ad1 ∧ (∀ j, 20 ≤ j → j < 37 → (j, 0) ∈ I1) ∧ ∀ j ∈ I1, j ∈ I ∨ (21 ≤ j.1 ∧ j.1 ≤ 36)) ∧ xr_W xCl (xT cA) D I1 ad1 (xc cA tz ad1 (xsm 16 3)) A s H locs := by
    refine ⟨_, _, ⟨?_, ?_, ?_⟩, xw_conv w ?_⟩
    · refine ⟨fun j hj => List.mem_append_left _ (List.mem_append_left _ (List.mem_append_left _ (List.mem_append_left _ (List.mem_append_left _ (List.mem_append_left _ (List.mem_append_left _ (List.mem_append_left _ (List.mem_append_left _ (List.mem_append_left _ (List.mem_append_left _ (List.mem_append_left _ (List.mem_append_left _ (List.mem_append_left _ (List.mem_append_left _ (List.mem_append_left _ (hj)))))))))))))))), fun r k hj => ?_⟩
      have hr := hlt _ hj
      simp only [Prod.mk.injEq] at hr
      rw [xw_u2_n _ _ (by omega), xw_u2_n _ _ (by omega), xw_u2_n _ _ (by omega), xw_u2_n _ _ (by omega), xw_u2_n _ _ (by omega), xw_u2_n _ _ (by omega), xw_u2_n _ _ (by omega), xw_u2_n _ _ (by omega), xw_u2_n _ _ (by omega), xw_u2_n _ _ (by omega), xw_u2_n _ _ (by omega), xw_u2_n _ _ (by omega), xw_u2_n _ _ (by omega), xw_u2_n _ _ (by omega), xw_u2_n _ _ (by omega), xw_u2_n _ _ (by omega)]
    · intro j h1 h2
      have : j = 20 ∨ (21 ≤ j ∧ j < 37) := by omega
      rcases this with rfl | ⟨h3, h4⟩
      · exact hI
      · simp only [List.mem_append, List.mem_singleton, Prod.mk.injEq, and_true]; omega
    · intro j hj
      obtain ⟨x, y⟩ := j
      simp only [List.mem_append, List.mem_singleton, Prod.mk.injEq] at hj ⊢
      by_cases hz9 : (x, y) ∈ I
      · exact Or.inl hz9
      · refine Or.inr ?_; simp only [hz9, false_or] at hj; omega
    · intro j hj
      by_cases hz9 : j ∈ I
      · skip
        by_cases h20 : j = (20, 0)
        · subst h20; rfl
        · skip
          have hr : j.1 < 14 := by rcases hlt _ hz9 with z | z; exact z; exact absurd z h20
          obtain ⟨x, y⟩ := j
          simp only at hr
          show xw_u2 _ 20 0 _ x y = xcell cA tz _ x y _
          rw [xw_u2_n _ _ (by omega), xw_u2_n _ _ (by omega), xw_u2_n _ _ (by omega), xw_u2_n _ _ (by omega), xw_u2_n _ _ (by omega), xw_u2_n _ _ (by omega), xw_u2_n _ _ (by omega), xw_u2_n _ _ (by omega), xw_u2_n _ _ (by omega), xw_u2_n _ _ (by omega), xw_u2_n _ _ (by omega), xw_u2_n _ _ (by omega), xw_u2_n _ _ (by omega), xw_u2_n _ _ (by omega), xw_u2_n _ _ (by omega), xw_u2_n _ _ (by omega), xw_u2_n _ _ (by omega), xw_u2_n _ _ (by omega), xw_u2_n _ _ (by omega), xw_u2_n _ _ (by omega)]
          rw [hEE x y hz9 hr]
          refine (xcell_lt hr (fun b hb => funext fun z => ?_)).symm
          rw [xw_u2_n _ _ (by omega), xw_u2_n _ _ (by omega), xw_u2_n _ _ (by omega), xw_u2_n _ _ (by omega), xw_u2_n _ _ (by omega), xw_u2_n _ _ (by omega), xw_u2_n _ _ (by omega), xw_u2_n _ _ (by omega), xw_u2_n _ _ (by omega), xw_u2_n _ _ (by omega), xw_u2_n _ _ (by omega), xw_u2_n _ _ (by omega), xw_u2_n _ _ (by omega), xw_u2_n _ _ (by omega), xw_u2_n _ _ (by omega), xw_u2_n _ _ (by omega)]
      · simp only [List.mem_append, List.mem_singleton, hz9, false_or] at hj
        rcases hj with ((((((((((((((h | h) | h) | h) | h) | h) | h) | h) | h) | h) | h) | h) | h) | h) | h) | h
        all_goals (subst h; rfl)
  exact xr_vret C w hr hlk ⟨rfl, rfl, hE1⟩ (Nat.le_of_ble_eq_true rfl) (Nat.le_of_ble_eq_true rfl) dMD_init_161
