/-! The log: what is added, what is served. -/
theorem xd_ofI {l : Launch} {y : MethodName} {bytes : ByteArray} {maxL d : Nat} {ret : Option FieldType} {av : List Value} {D : va_G} {cA : Nat → ClassId} {tz : Nat} {I : List (Nat × Nat)} {ad : Nat → Nat → Nat} {σ σ' : xMem} {o : Option Value} (hy : plainName y.cls = true) (hls : (lg_sl av).length ≤ maxL)
    (h : ∀ (p : Program) (e : Env) (s : State) (m : MethodId) (args : Array Value) (below : List Frame) (meth : Method) (c : Code) (A : Nat → Prop) (ls : Array Slot), xr_C xBIG p c bytes y.cls s m args → meth.sig.returnType = ret → meth.locks = false → c.maxLocals = maxL → meth.name = y.name → lv_has ls maxL (lv_args 0 av) → xr_W xCl (xT cA) D I ad (xc cA tz ad σ) A s s.heap [] → xZ tz A s s.heap →
      W p l e (xr_R d 0 0) s m args below meth c s.heap [] 0 0 (MQ below (xr_Q xCl D A (xB o I ad (xc cA tz ad σ'))) args s 0 0 A) (F0 m 0 ls [])) : xD l y bytes maxL ret d av D cA tz I ad σ o σ' :=
  xr_of hy hls h
section
variable {p : Program} {l : Launch} {e : Env} {R : Room} {s : State} {m : MethodId} {args : Array Value} {below : List Frame} {meth : Method} {c : Code} {H : Heap} {locs : List Loc} {cells slots : Nat} {Q : State → Prop} {cc : ByteArray} {pc : Nat} {ls : Array Slot} {rest : List Value} {D : va_G} {cA : Nat → ClassId} {tz : Nat} {A : Nat → Prop} {I : List (Nat × Nat)} {ad : Nat → Nat → Nat} {σ : xMem}
theorem xf_SV_13 (C : xr_C xBIG p c cc "SplitFabric$Served" s m args) (w : xr_W xCl (xT cA) D I ad (xc cA tz ad σ) A s H locs) (hin : meth.name = "<init>") {k : Nat} {x : Int32} (hI : (13, k) ∈ I) (hdg : decode cc pc = .ok (.putfield 13, 3)) (kk : ∀ (H1 : Heap) (locs1 : List Loc), xr_W xCl (xT cA) D I ad (xc cA tz ad (xu3 σ 13 k 0 x)) A s H1 locs1 → W p l e R s m args below meth c H1 locs1 cells slots Q (F0 m (pc + 3) ls (rest))) : W p l e R s m args below meth c H locs cells slots Q (F0 m pc ls (.int x :: .ref (ad 13 k) :: rest)) :=
  xr_putF C w hI rfl rfl xin_SV xY_SV xY_SV_ok xF_SV_nm hin 0 (by decide) (xmi 201 (by decide +kernel) rfl) rfl rfl rfl rfl rfl (Nat.le_of_ble_eq_true rfl) hdg (fun H1 locs1 w1 => kk H1 locs1 (Eq.mp (congrArg (fun E => xr_W xCl (xT cA) D I ad E A s H1 locs1) (xc_up cA tz ad σ 13 k (va_up (σ 13 k) 0 x))) w1))
theorem xf_SV_19 (C : xr_C xBIG p c cc "SplitFabric$Served" s m args) (w : xr_W xCl (xT cA) D I ad (xc cA tz ad σ) A s H locs) (hin : meth.name = "<init>") {k : Nat} {x : Int32} (hI : (13, k) ∈ I) (hdg : decode cc pc = .ok (.putfield 19, 3)) (kk : ∀ (H1 : Heap) (locs1 : List Loc), xr_W xCl (xT cA) D I ad (xc cA tz ad (xu3 σ 13 k 1 x)) A s H1 locs1 → W p l e R s m args below meth c H1 locs1 cells slots Q (F0 m (pc + 3) ls (rest))) : W p l e R s m args below meth c H locs cells slots Q (F0 m pc ls (.int x :: .ref (ad 13 k) :: rest)) :=
  xr_putF C w hI rfl rfl xin_SV xY_SV xY_SV_ok xF_SV_nm hin 1 (by decide) (xmi 202 (by decide +kernel) rfl) rfl rfl rfl rfl rfl (Nat.le_of_ble_eq_true rfl) hdg (fun H1 locs1 w1 => kk H1 locs1 (Eq.mp (congrArg (fun E => xr_W xCl (xT cA) D I ad E A s H1 locs1) (xc_up cA tz ad σ 13 k (va_up (σ 13 k) 1 x))) w1))
theorem xf_SV_25 (C : xr_C xBIG p c cc "SplitFabric$Served" s m args) (w : xr_W xCl (xT cA) D I ad (xc cA tz ad σ) A s H locs) (hin : meth.name = "<init>") {k : Nat} {x : Int32} (hI : (13, k) ∈ I) (hdg : decode cc pc = .ok (.putfield 25, 3)) (kk : ∀ (H1 : Heap) (locs1 : List Loc), xr_W xCl (xT cA) D I ad (xc cA tz ad (xu3 σ 13 k 2 x)) A s H1 locs1 → W p l e R s m args below meth c H1 locs1 cells slots Q (F0 m (pc + 3) ls (rest))) : W p l e R s m args below meth c H locs cells slots Q (F0 m pc ls (.int x :: .ref (ad 13 k) :: rest)) :=
  xr_putF C w hI rfl rfl xin_SV xY_SV xY_SV_ok xF_SV_nm hin 2 (by decide) (xmi 203 (by decide +kernel) rfl) rfl rfl rfl rfl rfl (Nat.le_of_ble_eq_true rfl) hdg (fun H1 locs1 w1 => kk H1 locs1 (Eq.mp (congrArg (fun E => xr_W xCl (xT cA) D I ad E A s H1 locs1) (xc_up cA tz ad σ 13 k (va_up (σ 13 k) 2 x))) w1))
theorem xf_SV_29 (C : xr_C xBIG p c cc "SplitFabric$Served" s m args) (w : xr_W xCl (xT cA) D I ad (xc cA tz ad σ) A s H locs) (hin : meth.name = "<init>") {k : Nat} {x : Int32} (hI : (13, k) ∈ I) (hdg : decode cc pc = .ok (.putfield 29, 3)) (kk : ∀ (H1 : Heap) (locs1 : List Loc), xr_W xCl (xT cA) D I ad (xc cA tz ad (xu3 σ 13 k 3 x)) A s H1 locs1 → W p l e R s m args below meth c H1 locs1 cells slots Q (F0 m (pc + 3) ls (rest))) : W p l e R s m args below meth c H locs cells slots Q (F0 m pc ls (.int x :: .ref (ad 13 k) :: rest)) :=
  xr_putF C w hI rfl rfl xin_SV xY_SV xY_SV_ok xF_SV_nm hin 3 (by decide) (xmi 204 (by decide +kernel) rfl) rfl rfl rfl rfl rfl (Nat.le_of_ble_eq_true rfl) hdg (fun H1 locs1 w1 => kk H1 locs1 (Eq.mp (congrArg (fun E => xr_W xCl (xT cA) D I ad E A s H1 locs1) (xc_up cA tz ad σ 13 k (va_up (σ 13 k) 3 x))) w1))
theorem xf_SV_33 (C : xr_C xBIG p c cc "SplitFabric$Served" s m args) (w : xr_W xCl (xT cA) D I ad (xc cA tz ad σ) A s H locs) (hin : meth.name = "<init>") {k : Nat} {x : Int32} (hI : (13, k) ∈ I) (hdg : decode cc pc = .ok (.putfield 33, 3)) (kk : ∀ (H1 : Heap) (locs1 : List Loc), xr_W xCl (xT cA) D I ad (xc cA tz ad (xu3 σ 13 k 4 x)) A s H1 locs1 → W p l e R s m args below meth c H1 locs1 cells slots Q (F0 m (pc + 3) ls (rest))) : W p l e R s m args below meth c H locs cells slots Q (F0 m pc ls (.int x :: .ref (ad 13 k) :: rest)) :=
  xr_putF C w hI rfl rfl xin_SV xY_SV xY_SV_ok xF_SV_nm hin 4 (by decide) (xmi 205 (by decide +kernel) rfl) rfl rfl rfl rfl rfl (Nat.le_of_ble_eq_true rfl) hdg (fun H1 locs1 w1 => kk H1 locs1 (Eq.mp (congrArg (fun E => xr_W xCl (xT cA) D I ad E A s H1 locs1) (xc_up cA tz ad σ 13 k (va_up (σ 13 k) 4 x))) w1))
theorem xf_SV_34 (C : xr_C xBIG p c cc "SplitFabric$Served" s m args) (w : xr_W xCl (xT cA) D I ad (xc cA tz ad σ) A s H locs) (hin : meth.name = "<init>") {k : Nat} {x : Int32} (hI : (13, k) ∈ I) (hdg : decode cc pc = .ok (.putfield 34, 3)) (kk : ∀ (H1 : Heap) (locs1 : List Loc), xr_W xCl (xT cA) D I ad (xc cA tz ad (xu3 σ 13 k 5 x)) A s H1 locs1 → W p l e R s m args below meth c H1 locs1 cells slots Q (F0 m (pc + 3) ls (rest))) : W p l e R s m args below meth c H locs cells slots Q (F0 m pc ls (.int x :: .ref (ad 13 k) :: rest)) :=
  xr_putF C w hI rfl rfl xin_SV xY_SV xY_SV_ok xF_SV_nm hin 5 (by decide) (xmi 206 (by decide +kernel) rfl) rfl rfl rfl rfl rfl (Nat.le_of_ble_eq_true rfl) hdg (fun H1 locs1 w1 => kk H1 locs1 (Eq.mp (congrArg (fun E => xr_W xCl (xT cA) D I ad E A s H1 locs1) (xc_up cA tz ad σ 13 k (va_up (σ 13 k) 5 x))) w1))
end
def xS (σ : xMem) (n g N : Nat) : Prop := σ 11 0 2 = nI n ∧ σ 11 0 9 = nI g ∧ (g = 0 → n = 0) ∧ (0 < g → σ 12 g 0 = nI n ∧ σ 12 g 1 = nI N ∧ n ≤ N ∧ 10 ≤ N ∧ N ≤ 766) ∧ g ≤ n ∧ n ≤ 512 ∧ ∀ a, 1 ≤ a → a ≤ g → xN (σ 12 a 0) ≤ n
noncomputable def xf_add (σ : xMem) (n g N : Nat) : xMem := if g = 0 then xu3 (xu3 (xu3 (xw_u2 (xu3 σ 11 0 0 (σ 11 0 0 + nI 1)) 12 (0 + 1) (fun i => if i = 1 then nI 10 else 0)) 11 0 9 (nI (0 + 1))) 12 (0 + 1) 0 (nI (n + 1))) 11 0 2 (nI (n + 1)) else if n = N then xu3 (xu3 (xu3 (xu3 (xw_u2 (xu3 σ 11 0 0 (σ 11 0 0 + nI 1)) 12 (g + 1) (fun i => if i = 1 then nI (N + N / 2) else 0)) 12 (g + 1) 0 (nI N)) 11 0 9 (nI (g + 1))) 12 (g + 1) 0 (nI (n + 1))) 11 0 2 (nI (n + 1)) else xu3 (xu3 (xu3 σ 11 0 0 (σ 11 0 0 + nI 1)) 12 (g) 0 (nI (n + 1))) 11 0 2 (nI (n + 1))
def xg_add (n g N : Nat) : Nat := if g = 0 then 1 else if n = N then g + 1 else g
def xN_add (n g N : Nat) : Nat := if g = 0 then 10 else if n = N then N + N / 2 else N
noncomputable def xf_sv (σ : xMem) (n k : Nat) : xMem := xu3 (xu3 (xu3 (xu3 (xu3 (xu3 (xw_u2 σ 13 n (fun _ => 0)) 13 n 0 (σ 0 k 0)) 13 n 1 (σ 0 k 1)) 13 n 2 (σ 0 k 4)) 13 n 3 (σ 0 k 5)) 13 n 4 (σ 0 k 6)) 13 n 5 (σ 5 0 6)
noncomputable def xf_log (σ : xMem) (k n g N : Nat) : xMem := xf_add (xf_sv σ n k) n g N
noncomputable def xf_move (σ : xMem) (k q ln : Nat) : xMem := xif (xp_read σ k) (xu3 (xw_u2 σ 1 k (va_cpy (σ 8 0) (σ 1 k) q 0 ln)) 0 k 9 (nI 1)) (xf_finish (xw_u2 σ 8 0 (va_cpy (σ 1 k) (σ 8 0) 0 q ln)) k (q / 16))
theorem xf_add_at {σ : xMem} {n g N r k i : Nat} (h1 : r ≠ 11) (h2 : r ≠ 12) : xf_add σ n g N r k i = σ r k i := by
  unfold xf_add
  split
  · simp only [xu3_at, xu2_at]; grind
  · split
    · simp only [xu3_at, xu2_at]; grind
    · simp only [xu3_at, xu2_at]; grind
theorem xf_log_at {σ : xMem} {k0 n g N r k i : Nat} (h1 : r ≠ 11) (h2 : r ≠ 12) (h3 : r ≠ 13) : xf_log σ k0 n g N r k i = σ r k i := by
  unfold xf_log
  rw [xf_add_at h1 h2]
  unfold xf_sv
  simp only [xu3_at, xu2_at]
  grind
theorem xS_add {σ : xMem} {n g N : Nat} (h : xS σ n g N) (hn : n < 512) : xS (xf_add σ n g N) (n + 1) (xg_add n g N) (xN_add n g N) := by
  obtain ⟨h2, h9, hz0, hzg, hgn, hn5, ha⟩ := h
  by_cases g0 : g = 0
  · subst g0
    have n0 := hz0 rfl
    subst n0
    refine ⟨?_, ?_, ?_, ?_, ?_, ?_, ?_⟩
    all_goals try simp only [xf_add, xg_add, xN_add, if_true]
    · simp only [xu3_at, xu2_at]; grind
    · simp only [xu3_at, xu2_at]; grind
    · omega
    · intro _
      refine ⟨?_, ?_, by omega, by omega, by omega⟩
      · simp only [xu3_at, xu2_at]; grind
      · simp only [xu3_at, xu2_at]; grind
    · omega
    · omega
    · intro a h1 h3
      have : a = 1 := by omega
      subst this
      refine (fun (z : Int32) (hz : z = nI (0 + 1)) => (by rw [xN_of hz (by omega)]; omega : xN z ≤ 0 + 1)) _ ?_
      simp only [xu3_at, xu2_at]
      grind
  · obtain ⟨z0, z1, z2, z3, z4⟩ := hzg (by omega)
    by_cases nN : n = N
    · refine ⟨?_, ?_, ?_, ?_, ?_, ?_, ?_⟩
      all_goals try simp only [xf_add, xg_add, xN_add, if_neg g0, if_pos nN]
      · simp only [xu3_at, xu2_at]; grind
      · simp only [xu3_at, xu2_at]; grind
      · omega
      · intro _
        refine ⟨?_, ?_, by omega, by omega, by omega⟩
        · simp only [xu3_at, xu2_at]; grind
        · simp only [xu3_at, xu2_at]; grind
      · omega
      · omega
      · intro a h1 h3
        by_cases hag : a = g + 1
        · subst hag
          refine (fun (z : Int32) (hz : z = nI (n + 1)) => (by rw [xN_of hz (by omega)]; omega : xN z ≤ n + 1)) _ ?_
          simp only [xu3_at, xu2_at]
          grind
        · have := ha a h1 (by omega)
          refine (fun (z : Int32) (hz : z = σ 12 a 0) => (by rw [hz]; omega : xN z ≤ n + 1)) _ ?_
          simp only [xu3_at, xu2_at]
          grind
    · refine ⟨?_, ?_, ?_, ?_, ?_, ?_, ?_⟩
      all_goals try simp only [xf_add, xg_add, xN_add, if_neg g0, if_neg nN]
      · simp only [xu3_at, xu2_at]; grind
      · simp only [xu3_at, xu2_at]; grind
      · omega
      · intro _
        refine ⟨?_, ?_, by omega, by omega, by omega⟩
        · simp only [xu3_at, xu2_at]; grind
        · simp only [xu3_at, xu2_at]; grind
      · omega
      · omega
      · intro a h1 h3
        by_cases hag : a = g
        · subst hag
          refine (fun (z : Int32) (hz : z = nI (n + 1)) => (by rw [xN_of hz (by omega)]; omega : xN z ≤ n + 1)) _ ?_
          simp only [xu3_at, xu2_at]
          grind
        · have := ha a h1 (by omega)
          refine (fun (z : Int32) (hz : z = σ 12 a 0) => (by rw [hz]; omega : xN z ≤ n + 1)) _ ?_
          simp only [xu3_at, xu2_at]
          grind
theorem cAL_add1 (l : Launch) (D : va_G) (cA : Nat → ClassId) (tz : Nat) (I : List (Nat × Nat)) (ad : Nat → Nat → Nat) (σ : xMem) (n g N : Nat) (hI : (11, 0) ∈ I) (hL : xL I (n + 1) g) (hS : xS σ n g N) (hn : n < 512) : xA (xZ tz) l yAL_add1 bAL_add1 2 (some .boolean) 6 1 766 [.ref (ad 11 0), .ref (ad 13 n)] D cA tz I ad σ (fun _ => some (.int (nI 1))) (xf_add σ n g N) (n + 1) (xg_add n g N) := by
  obtain ⟨h2, h9, hz0, hzg, hgn, hn5, -⟩ := hS
  by_cases g0 : g = 0
  · subst g0
    have n0 := hz0 rfl
    unfold xf_add xg_add
    rw [if_pos rfl, if_pos rfl]
    exact cAL_add1_z l D cA tz I ad σ n hI hL h9 h2 n0
  · obtain ⟨z0, z1, z2, z3, z4⟩ := hzg (by omega)
    have h12 := (hL.2.1 g).mpr (by omega)
    unfold xf_add xg_add
    rw [if_neg g0, if_neg g0]
    by_cases nN : n = N
    · rw [if_pos nN, if_pos nN]
      exact cAL_add1_g l D cA tz I ad σ g n N hI hL h12 h9 (by omega) (by omega) z0 z1 h2 z3 (by omega) nN
    · rw [if_neg nN, if_neg nN]
      exact cAL_add1_p l D cA tz I ad σ g n N hI hL h12 h9 (by omega) (by omega) z0 z1 h2 z4 (by omega)
set_option maxRecDepth 100000 in
set_option maxHeartbeats 4000000 in
theorem cSV_init (l : Launch) (D : va_G) (cA : Nat → ClassId) (tz : Nat) (I : List (Nat × Nat)) (ad : Nat → Nat → Nat) (σ : xMem) (j k : Nat) (x : Int32) (hI : xI I) (h13 : (13, j) ∈ I) (hk : k < 16) : xD l ySV_init bSV_init 3 none 1 [.ref (ad 13 j), .ref (ad 0 k), .int x] D cA tz I ad σ none (xu3 (xu3 (xu3 (xu3 (xu3 (xu3 (σ) 13 j 0 (σ 0 k 0)) 13 j 1 (σ 0 k 1)) 13 j 2 (σ 0 k 4)) 13 j 3 (σ 0 k 5)) 13 j 4 (σ 0 k 6)) 13 j 5 (x)) := by
  refine xd_ofI (by decide) (by simp [lg_sl, Value.category]) ?_
  intro p e s m args below meth c A ls C hr hlk hml hin hl w hz
  obtain ⟨hx, hb, hown, hts⟩ := id C
  have hl : lv_has ls 3 [(0, .ref (ad 13 j)), (1, .ref (ad 0 k)), (2, .int x)] := hl
  refine lv_aload_n hx hb dSV_init_0 rfl (lv_at hl 0 rfl) ?_
  refine W.objInit hx hb hown (hts (.methodLink "SplitFabric$Served" 1 objectInit) (xmi 200 (by decide +kernel) rfl)) (hts (.instanceMethod objectInit) (xmi 27 (by decide +kernel) rfl)) (hts _ (xmi 28 (by decide +kernel) rfl)) rfl (by rw [hml]; exact hl.1) rfl dSV_init_1 (Nat.le_of_ble_eq_true rfl) (Nat.le_of_ble_eq_true rfl) ?_
  refine W.eq (g2 := F0 m 4 ls []) rfl ?_
  refine lv_aload_n hx hb dSV_init_4 rfl (lv_at hl 0 rfl) ?_
  refine lv_aload_n hx hb dSV_init_5 rfl (lv_at hl 1 rfl) ?_
  refine xg_SV_7 C w (xI0 hI (by omega)) dSV_init_6 ?_
  refine xf_SV_13 C w hin h13 dSV_init_9 (fun H locs w => ?_)
  refine lv_aload_n hx hb dSV_init_12 rfl (lv_at hl 0 rfl) ?_
  refine lv_aload_n hx hb dSV_init_13 rfl (lv_at hl 1 rfl) ?_
  refine xg_SV_16 C w (xI0 hI (by omega)) dSV_init_14 ?_
  refine xn_eq (y := σ 0 k 1) (by simp [xu3, xw_u2, va_up]) ?_
  refine xf_SV_19 C w hin h13 dSV_init_17 (fun H locs w => ?_)
  refine lv_aload_n hx hb dSV_init_20 rfl (lv_at hl 0 rfl) ?_
  refine lv_aload_n hx hb dSV_init_21 rfl (lv_at hl 1 rfl) ?_
  refine xg_SV_22 C w (xI0 hI (by omega)) dSV_init_22 ?_
  refine xn_eq (y := σ 0 k 4) (by simp [xu3, xw_u2, va_up]) ?_
  refine xf_SV_25 C w hin h13 dSV_init_25 (fun H locs w => ?_)
  refine lv_aload_n hx hb dSV_init_28 rfl (lv_at hl 0 rfl) ?_
  refine lv_aload_n hx hb dSV_init_29 rfl (lv_at hl 1 rfl) ?_
  refine xg_SV_26 C w (xI0 hI (by omega)) dSV_init_30 ?_
  refine xn_eq (y := σ 0 k 5) (by simp [xu3, xw_u2, va_up]) ?_
  refine xf_SV_29 C w hin h13 dSV_init_33 (fun H locs w => ?_)
  refine lv_aload_n hx hb dSV_init_36 rfl (lv_at hl 0 rfl) ?_
  refine lv_aload_n hx hb dSV_init_37 rfl (lv_at hl 1 rfl) ?_
  refine xg_SV_30 C w (xI0 hI (by omega)) dSV_init_38 ?_
  refine xn_eq (y := σ 0 k 6) (by simp [xu3, xw_u2, va_up]) ?_
  refine xf_SV_33 C w hin h13 dSV_init_41 (fun H locs w => ?_)
  refine lv_aload_n hx hb dSV_init_44 rfl (lv_at hl 0 rfl) ?_
  refine lv_iload_n hx hb dSV_init_45 rfl (lv_at hl 2 rfl) ?_
  refine xf_SV_34 C w hin h13 dSV_init_46 (fun H locs w => ?_)
  exact xd_vret C w hr hlk dSV_init_49 rfl
set_option maxRecDepth 100000 in
set_option maxHeartbeats 4000000 in
theorem cSV_fact (l : Launch) (D : va_G) (cA : Nat → ClassId) (tz : Nat) (I : List (Nat × Nat)) (ad : Nat → Nat → Nat) (σ : xMem) (j b : Nat) (h13 : (13, j) ∈ I) (hb6 : b < 6) : xD l ySV_fact bSV_fact 2 (some .int) 1 [.ref (ad 13 j), .int (nI b)] D cA tz I ad σ (some (.int (σ 13 j b))) σ := by
  refine xd_of (by decide) (by simp [lg_sl, Value.category]) ?_
  intro p e s m args below meth c A ls C hr hlk hml hl w hz
  obtain ⟨hx, hb, hown, hts⟩ := id C
  have hl : lv_has ls 2 [(0, .ref (ad 13 j)), (1, .int (nI b))] := hl
  refine lv_iload_n hx hb dSV_fact_0 rfl (lv_at hl 1 rfl) ?_
  rcases Nat.lt_or_ge b 1 with hb0 | hb0
  · skip
    have hbe : b = 0 := by omega
    subst hbe
    refine lv_tableIn (tgt := 36) hx hb dSV_fact_1 (by decide) (by decide) rfl rfl ?_
    refine lv_aload_n hx hb dSV_fact_36 rfl (lv_at hl 0 rfl) ?_
    refine xg_SV_13 C w h13 dSV_fact_37 ?_
    exact xd_iret C w hr hlk dSV_fact_40 (rfl) rfl
  rcases Nat.lt_or_ge b 2 with hb1 | hb1
  · skip
    have hbe : b = 1 := by omega
    subst hbe
    refine lv_tableIn (tgt := 41) hx hb dSV_fact_1 (by decide) (by decide) rfl rfl ?_
    refine lv_aload_n hx hb dSV_fact_41 rfl (lv_at hl 0 rfl) ?_
    refine xg_SV_19 C w h13 dSV_fact_42 ?_
    exact xd_iret C w hr hlk dSV_fact_45 (rfl) rfl
  rcases Nat.lt_or_ge b 3 with hb2 | hb2
  · skip
    have hbe : b = 2 := by omega
    subst hbe
    refine lv_tableIn (tgt := 46) hx hb dSV_fact_1 (by decide) (by decide) rfl rfl ?_
    refine lv_aload_n hx hb dSV_fact_46 rfl (lv_at hl 0 rfl) ?_
    refine xg_SV_25 C w h13 dSV_fact_47 ?_
    exact xd_iret C w hr hlk dSV_fact_50 (rfl) rfl
  rcases Nat.lt_or_ge b 4 with hb3 | hb3
  · skip
    have hbe : b = 3 := by omega
    subst hbe
    refine lv_tableIn (tgt := 51) hx hb dSV_fact_1 (by decide) (by decide) rfl rfl ?_
    refine lv_aload_n hx hb dSV_fact_51 rfl (lv_at hl 0 rfl) ?_
    refine xg_SV_29 C w h13 dSV_fact_52 ?_
    exact xd_iret C w hr hlk dSV_fact_55 (rfl) rfl
  rcases Nat.lt_or_ge b 5 with hb4 | hb4
  · skip
    have hbe : b = 4 := by omega
    subst hbe
    refine lv_tableIn (tgt := 56) hx hb dSV_fact_1 (by decide) (by decide) rfl rfl ?_
    refine lv_aload_n hx hb dSV_fact_56 rfl (lv_at hl 0 rfl) ?_
    refine xg_SV_33 C w h13 dSV_fact_57 ?_
    exact xd_iret C w hr hlk dSV_fact_60 (rfl) rfl
  have hbe : b = 5 := by omega
  subst hbe
  refine lv_tableOut (tgt := 61) hx hb dSV_fact_1 (by decide) rfl ?_
  refine lv_aload_n hx hb dSV_fact_61 rfl (lv_at hl 0 rfl) ?_
  refine xg_SV_34 C w h13 dSV_fact_62 ?_
  exact xd_iret C w hr hlk dSV_fact_65 (rfl) rfl
set_option maxRecDepth 100000 in
set_option maxHeartbeats 4000000 in
theorem cSF_served (l : Launch) (D : va_G) (cA : Nat → ClassId) (tz : Nat) (I : List (Nat × Nat)) (ad : Nat → Nat → Nat) (σ : xMem) (hI : xI I) : xD l ySF_served bSF_served 1 (some .int) 2 [.ref (ad 5 0)] D cA tz I ad σ (some (.int (σ 11 0 2))) σ := by
  refine xd_of (by decide) (by simp [lg_sl, Value.category]) ?_
  intro p e s m args below meth c A ls C hr hlk hml hl w hz
  obtain ⟨hx, hb, hown, hts⟩ := id C
  have hl : lv_has ls 1 [(0, .ref (ad 5 0))] := hl
  refine lv_aload_n hx hb dSF_served_0 rfl (lv_at hl 0 rfl) ?_
  refine xg_SF_36 C w (xI5 hI) dSF_served_1 ?_
  refine xd_callV C w hz hml hl.1 xk_SF_148 (cAL_size l D cA tz I ad σ (xI11 hI)) (xI11 hI) rfl rfl rfl rfl (Nat.le_of_ble_eq_true rfl) (by decide) (by decide) dSF_served_4 (fun H locs w => ?_)
  refine W.eq (g2 := F0 m 7 ls [.int (σ 11 0 2)]) rfl ?_
  exact xd_iret C w hr hlk dSF_served_7 (rfl) rfl
set_option maxRecDepth 100000 in
set_option maxHeartbeats 4000000 in
theorem cSF_service_ok (l : Launch) (D : va_G) (cA : Nat → ClassId) (tz : Nat) (I : List (Nat × Nat)) (ad : Nat → Nat → Nat) (σ : xMem) (n g N a b : Nat) (hI : xI I) (hL : xL I n g) (hS : xS σ n g N) (ha : a < n) (hb6 : b < 6) : xD l ySF_service bSF_service 3 (some .int) 4 [.ref (ad 5 0), .int (nI a), .int (nI b)] D cA tz I ad σ (some (.int (σ 13 a b))) σ := by
  refine xd_of (by decide) (by simp [lg_sl, Value.category]) ?_
  intro p e s m args below meth c A ls C hr hlk hml hl w hz
  obtain ⟨hx, hb, hown, hts⟩ := id C
  have hl : lv_has ls 3 [(0, .ref (ad 5 0)), (1, .int (nI a)), (2, .int (nI b))] := hl
  obtain ⟨h2, h9, hz0, hzg, hgn, hn5, -⟩ := id hS
  have hg0 : 0 < g := Nat.pos_of_ne_zero (fun z => by have := hz0 z; omega)
  obtain ⟨h0, h1, hnN, h10, hN⟩ := hzg hg0
  refine lv_iload_n hx hb dSF_service_0 rfl (lv_at hl 1 rfl) ?_
  refine lv_aload_n hx hb dSF_service_1 rfl (lv_at hl 0 rfl) ?_
  refine xg_SF_36 C w (xI5 hI) dSF_service_2 ?_
  refine xd_callV C w hz hml hl.1 xk_SF_148 (cAL_size l D cA tz I ad σ (xI11 hI)) (xI11 hI) rfl rfl rfl rfl (Nat.le_of_ble_eq_true rfl) (by decide) (by decide) dSF_service_5 (fun H locs w => ?_)
  refine W.eq (g2 := F0 m 8 ls [.int (σ 11 0 2), .int (nI a)]) rfl ?_
  refine xn_eq (y := nI n) h2 ?_
  refine xd_callS C w hz hml hl.1 xk_SF_57 (cSF_checkIndex_ok l D cA tz I ad σ a n ha (by omega)) rfl rfl (Nat.le_of_ble_eq_true rfl) (by decide) (by decide) dSF_service_8 (fun H locs w => ?_)
  refine W.eq (g2 := F0 m 11 ls []) rfl ?_
  refine lv_iload_n hx hb dSF_service_11 rfl (lv_at hl 2 rfl) ?_
  refine lv_if_lt hx hb dSF_service_12 rfl (fun hh1 => absurd hh1 (nI_pos (by omega))) (fun hh1 => ?_)
  refine lv_iload_n hx hb dSF_service_15 rfl (lv_at hl 2 rfl) ?_
  refine lv_bipush (v := nI 6) hx hb dSF_service_16 xk_b6 ?_
  refine lv_icmp_ge hx hb dSF_service_18 rfl (fun hh2 => absurd hh2 (nI_ge (by omega) (by omega))) (fun hh2 => ?_)
  refine lv_iconst (v := nI 1) hx hb dSF_service_21 xk_i1 ?_
  refine lv_goto hx hb dSF_service_22 rfl ?_
  refine xd_callS C w hz hml hl.1 xk_SF_118 (cSF_checkArgument_ok l D cA tz I ad σ) rfl rfl (Nat.le_of_ble_eq_true rfl) (by decide) (by decide) dSF_service_26 (fun H locs w => ?_)
  refine W.eq (g2 := F0 m 29 ls []) rfl ?_
  refine lv_aload_n hx hb dSF_service_29 rfl (lv_at hl 0 rfl) ?_
  refine xg_SF_36 C w (xI5 hI) dSF_service_30 ?_
  refine lv_iload_n hx hb dSF_service_33 rfl (lv_at hl 1 rfl) ?_
  refine xd_callV C w hz hml hl.1 xk_SF_151 (cAL_get l D cA tz I ad σ g n N a (xI11 hI) ((hL.2.1 g).mpr (by omega)) h9 hg0 (by omega) h0 h1 hnN (by omega) ha h2) (xI11 hI) rfl rfl rfl rfl (Nat.le_of_ble_eq_true rfl) (by decide) (by decide) dSF_service_34 (fun H locs w => ?_)
  refine W.eq (g2 := F0 m 37 ls [.ref (ad 13 a)]) rfl ?_
  refine va_castY (C := "SplitFabric$Served") hx hb hown (hts _ xk_cSV) (xs_Ca.use hz.1.2.1.2.2.2.2) (xs_recv w ((hL.1 a).mpr (by omega)) rfl rfl) dSF_service_37 ?_
  refine lv_iload_n hx hb dSF_service_40 rfl (lv_at hl 2 rfl) ?_
  refine xd_callV C w hz hml hl.1 xk_SF_157 (cSV_fact l D cA tz I ad σ a b ((hL.1 a).mpr (by omega)) hb6) ((hL.1 a).mpr (by omega)) rfl rfl rfl rfl (Nat.le_of_ble_eq_true rfl) (by decide) (by decide) dSF_service_41 (fun H locs w => ?_)
  refine W.eq (g2 := F0 m 44 ls [.int (σ 13 a b)]) rfl ?_
  exact xd_iret C w hr hlk dSF_service_44 (rfl) rfl
set_option maxRecDepth 100000 in
set_option maxHeartbeats 4000000 in
theorem cSF_serve (l : Launch) (D : va_G) (cA : Nat → ClassId) (tz : Nat) (I : List (Nat × Nat)) (ad : Nat → Nat → Nat) (σ : xMem) (k n g N q ln : Nat) (hI : xI I) (hL : xL I n g) (hS : xS σ n g N) (hn : n < 512) (hk : k < 16) (h7 : σ 7 0 0 = nI 3) (hq : σ 0 k 5 = nI q) (hln : σ 0 k 6 = nI ln) (hqn : q + ln ≤ 48) (hq48 : q < 48) (hl4 : ln ≤ 4) : xA (xZ tz) l ySF_serve bSF_serve 2 none 7 2 772 [.ref (ad 5 0), .ref (ad 0 k)] D cA tz I ad σ (fun _ => none) (xf_move (xf_log σ k n g N) k q ln) (n + 1) (xg_add n g N) := by
  refine xa_of (by decide) (by simp [lg_sl, Value.category]) ?_
  intro p e s m args below meth c A ls C hr hlk hml hl w hz
  obtain ⟨hx, hb, hown, hts⟩ := id C
  have hl : lv_has ls 2 [(0, .ref (ad 5 0)), (1, .ref (ad 0 k))] := hl
  have hE0 := xE.rf I ad
  have hSa := hS.2.2.2.2.2.2
  refine lv_aload_n hx hb dSF_serve_0 rfl (lv_at hl 0 rfl) ?_
  refine xg_SF_36 C w (xI5 hI) dSF_serve_1 ?_
  refine xd_callV C w hz hml hl.1 xk_SF_148 (cAL_size l D cA tz I ad σ (xI11 hI)) (xI11 hI) rfl rfl rfl rfl (Nat.le_of_ble_eq_true rfl) (by simp only [xr_R]; omega) (by simp only [xr_R]; omega) dSF_serve_4 (fun H locs w => ?_)
  refine W.eq (g2 := F0 m 7 ls [.int (σ 11 0 2)]) rfl ?_
  refine xn_eq (y := nI n) hS.1 ?_
  refine lv_sipush (v := nI 512) hx hb dSF_serve_7 xk_s512 ?_
  refine lv_icmp_ge hx hb dSF_serve_10 rfl (fun hh1 => absurd hh1 (nI_ge (by omega) (by omega))) (fun hh1 => ?_)
  refine lv_aload_n hx hb dSF_serve_13 rfl (lv_at hl 0 rfl) ?_
  refine xg_SF_36 C w (xI5 hI) dSF_serve_14 ?_
  refine xs_newSV C w hL (fun a h1 h2 => hSa a h1 h2) (by simp only [xr_R]; omega) (by simp only [xr_R]; omega) dSF_serve_17 (fun I ad H hE hL w => ?_)
  have e0 := hE.2 5 0 (xI5 hI)
  have e1 := hE.2 0 k (xI0 hI (by omega))
  have e2 := hE.2 11 0 (xI11 hI)
  have hE0 := hE0.tr hE
  have hl : lv_has ls 2 [(0, .ref (ad 5 0)), (1, .ref (ad 0 k))] := by rw [e0, e1]; exact hl
  refine W.eq (g2 := F0 m 20 ls [.ref (ad 13 n), .ref (ad 11 0)]) (by rw [e2] <;> rfl) ?_
  have hI := hE.I hI
  refine lv_dup hx hb dSF_serve_20 rfl ?_
  refine lv_aload_n hx hb dSF_serve_21 rfl (lv_at hl 1 rfl) ?_
  refine lv_aload_n hx hb dSF_serve_22 rfl (lv_at hl 0 rfl) ?_
  refine xg_SF_40 C w (xI5 hI) dSF_serve_23 ?_
  refine xd_callI C w hz hml hl.1 xk_SF_185 (cSV_init l D cA tz I ad (xw_u2 σ 13 n (fun _ => 0)) n k (σ 5 0 6) hI ((hL.1 n).mpr (by omega)) hk) rfl rfl (Nat.le_of_ble_eq_true rfl) (by simp only [xr_R]; omega) (by simp only [xr_R]; omega) dSF_serve_26 (fun H locs w => ?_)
  have w : xr_W xCl (xT cA) D I ad (xc cA tz ad (xf_sv σ n k)) A s H locs := w
  have hS : xS (xf_sv σ n k) n g N := hS
  refine W.eq (g2 := F0 m 29 ls [.ref (ad 13 n), .ref (ad 11 0)]) rfl ?_
  refine xa_callV C w hz (xZL tz) hml hl.1 xk_SF_188 (cAL_add1 l D cA tz I ad (xf_sv σ n k) n g N (xI11 hI) hL hS hn) (xI11 hI) rfl rfl rfl rfl (Nat.le_of_ble_eq_true rfl) (by simp only [xr_R]; omega) (by simp only [xr_R]; omega) dSF_serve_29 (fun I ad H locs hE hL w => ?_)
  have e0 := hE.2 5 0 (xI5 hI)
  have e1 := hE.2 0 k (xI0 hI (by omega))
  have hE0 := hE0.tr hE
  have hl : lv_has ls 2 [(0, .ref (ad 5 0)), (1, .ref (ad 0 k))] := by rw [e0, e1]; exact hl
  refine W.eq (g2 := F0 m 32 ls [.int (nI 1)]) (by rfl) ?_
  have hI := hE.I hI
  refine lv_pop hx hb dSF_serve_32 rfl ?_
  have hq2 : (xf_log σ k n g N) 0 k 5 = nI q := by rw [xf_log_at (by decide) (by decide) (by decide)]; exact hq
  have hln2 : (xf_log σ k n g N) 0 k 6 = nI ln := by rw [xf_log_at (by decide) (by decide) (by decide)]; exact hln
  have h72 : (xf_log σ k n g N) 7 0 0 = nI 3 := by rw [xf_log_at (by decide) (by decide) (by decide)]; exact h7
  refine lv_aload_n hx hb dSF_serve_33 rfl (lv_at hl 1 rfl) ?_
  refine xd_callV C w hz hml hl.1 xk_SF_125 (cTG_isReading l D cA tz I ad (xf_log σ k n g N) k hI hk) (xI0 hI (by omega)) rfl rfl rfl rfl (Nat.le_of_ble_eq_true rfl) (by simp only [xr_R]; omega) (by simp only [xr_R]; omega) dSF_serve_34 (fun H locs w => ?_)
  refine W.eq (g2 := F0 m 37 ls [.int (xb (xp_read (xf_log σ k n g N) k))]) rfl ?_
  refine xz_ifeq hx hb dSF_serve_37 rfl (fun hh2 => ?_) (fun hh2 => ?_)
  · skip
    refine lv_aload_n hx hb dSF_serve_60 rfl (lv_at hl 1 rfl) ?_
    refine xg_SF_132 C w (xI0 hI (by omega)) dSF_serve_61 ?_
    refine lv_iconst (v := nI 0) hx hb dSF_serve_64 xk_i0 ?_
    refine lv_aload_n hx hb dSF_serve_65 rfl (lv_at hl 0 rfl) ?_
    refine xg_SF_21 C w (xI5 hI) dSF_serve_66 ?_
    refine lv_aload_n hx hb dSF_serve_69 rfl (lv_at hl 1 rfl) ?_
    refine xg_SF_170 C w (xI0 hI (by omega)) dSF_serve_70 ?_
    refine xn_eq (y := nI q) hq2 ?_
    refine lv_aload_n hx hb dSF_serve_73 rfl (lv_at hl 1 rfl) ?_
    refine xg_SF_129 C w (xI0 hI (by omega)) dSF_serve_74 ?_
    refine xn_eq (y := nI ln) hln2 ?_
    refine xs_copy C w (hml.trans hl.1.symm) (xI1 hI hk) (xI8 hI) (fun _ => rfl) (fun _ => rfl) xk_cp_SF xk_cpN xk_cpS xk_cpI 0 q ln rfl rfl rfl (by omega) (by omega) (by decide) (by decide) (Nat.le_of_ble_eq_true rfl) (Nat.le_of_ble_eq_true rfl) dSF_serve_77 (fun H locs w => ?_)
    refine W.eq (g2 := F0 m 80 ls []) rfl ?_
    refine lv_aload_n hx hb dSF_serve_80 rfl (lv_at hl 0 rfl) ?_
    refine lv_aload_n hx hb dSF_serve_81 rfl (lv_at hl 1 rfl) ?_
    refine xd_callV C w hz hml hl.1 xk_SF_201 (cSF_finish l D cA tz I ad (xw_u2 (xf_log σ k n g N) 8 0 (va_cpy ((xf_log σ k n g N) 1 k) ((xf_log σ k n g N) 8 0) 0 q ln)) k q hI (by rw [xu2_at, if_neg (by decide)]; exact h72) hk (by rw [xu2_at, if_neg (by omega)]; exact hq2) hq48) (xI5 hI) rfl rfl rfl rfl (Nat.le_of_ble_eq_true rfl) (by simp only [xr_R]; omega) (by simp only [xr_R]; omega) dSF_serve_82 (fun H locs w => ?_)
    refine W.eq (g2 := F0 m 85 ls []) rfl ?_
    exact xa_vret C w hr hlk dSF_serve_85 ((xif_f hh2 _ _).symm) hE0 hL (by omega) (by omega)
  · skip
    refine lv_aload_n hx hb dSF_serve_40 rfl (lv_at hl 1 rfl) ?_
    refine lv_aload_n hx hb dSF_serve_41 rfl (lv_at hl 0 rfl) ?_
    refine xg_SF_21 C w (xI5 hI) dSF_serve_42 ?_
    refine lv_aload_n hx hb dSF_serve_45 rfl (lv_at hl 1 rfl) ?_
    refine xg_SF_170 C w (xI0 hI (by omega)) dSF_serve_46 ?_
    refine xn_eq (y := nI q) hq2 ?_
    refine xd_callV C w hz hml hl.1 xk_SF_90 (cTG_keep l D cA tz I ad (xf_log σ k n g N) k 8 0 48 q ln hI hk (xI8 hI) (fun _ => rfl) hln2 hl4 (by omega) (by decide)) (xI0 hI (by omega)) rfl rfl rfl rfl (Nat.le_of_ble_eq_true rfl) (by simp only [xr_R]; omega) (by simp only [xr_R]; omega) dSF_serve_49 (fun H locs w => ?_)
    refine W.eq (g2 := F0 m 52 ls []) rfl ?_
    refine lv_aload_n hx hb dSF_serve_52 rfl (lv_at hl 1 rfl) ?_
    refine lv_iconst (v := nI 1) hx hb dSF_serve_53 xk_i1 ?_
    refine xp_SF_192 C w (xI0 hI (by omega)) (by first | exact Or.inl rfl | exact Or.inr rfl) dSF_serve_54 (fun H locs w => ?_)
    refine lv_goto hx hb dSF_serve_57 rfl ?_
    exact xa_vret C w hr hlk dSF_serve_85 ((xif_t hh2 _ _).symm) hE0 hL (by omega) (by omega)
