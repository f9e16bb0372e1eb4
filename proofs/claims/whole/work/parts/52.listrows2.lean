/-! The list: rows. -/
section
variable {p : Program} {l : Launch} {e : Env} {R : Room} {s : State} {m : MethodId} {args : Array Value} {below : List Frame} {meth : Method} {c : Code} {H : Heap} {locs : List Loc} {cells slots : Nat} {Q : State → Prop} {cc : ByteArray} {pc : Nat} {ls : Array Slot} {rest : List Value} {D : va_G} {cA : Nat → ClassId} {tz : Nat} {A : Nat → Prop} {I : List (Nat × Nat)} {ad : Nat → Nat → Nat} {σ : xMem} {own : String}
theorem xg_AL_48 (C : xr_C xBIG p c cc "java/util/ArrayList" s m args) (w : xr_W xCl (xT cA) D I ad (xc cA tz ad σ) A s H locs) (hI : (11, 0) ∈ I) (hdg : decode cc pc = .ok (.getfield 48, 3)) (kk : W p l e R s m args below meth c H locs cells slots Q (F0 m (pc + 3) ls (.int (σ 11 0 2) :: rest))) : W p l e R s m args below meth c H locs cells slots Q (F0 m pc ls (.ref (ad 11 0) :: rest)) := by
  refine xr_get (v := .int (σ 11 0 2)) C w hI rfl rfl xin_AL 2 (by decide) (xmi 50 (by decide +kernel) rfl) rfl rfl hdg kk
theorem xg_AL_9z (C : xr_C xBIG p c cc "java/util/ArrayList" s m args) (w : xr_W xCl (xT cA) D I ad (xc cA tz ad σ) A s H locs) (hI : (11, 0) ∈ I) (h9 : σ 11 0 9 = 0) (hdg : decode cc pc = .ok (.getfield 9, 3)) (kk : W p l e R s m args below meth c H locs cells slots Q (F0 m (pc + 3) ls (.ref tz :: rest))) : W p l e R s m args below meth c H locs cells slots Q (F0 m pc ls (.ref (ad 11 0) :: rest)) := by
  refine xr_get (v := .ref tz) C w hI rfl rfl xin_AL 1 (by decide) (xmi 49 (by decide +kernel) rfl) rfl (by show some (Value.ref (if σ 11 0 9 = 0 then _ else _)) = _; rw [if_pos h9]) hdg kk
theorem xg_AL_9g (C : xr_C xBIG p c cc "java/util/ArrayList" s m args) (w : xr_W xCl (xT cA) D I ad (xc cA tz ad σ) A s H locs) (hI : (11, 0) ∈ I) {g : Nat} (h9 : σ 11 0 9 = nI g) (h0 : 0 < g) (hg : g < 2 ^ 31) (hdg : decode cc pc = .ok (.getfield 9, 3)) (kk : W p l e R s m args below meth c H locs cells slots Q (F0 m (pc + 3) ls (.ref (ad 12 g) :: rest))) : W p l e R s m args below meth c H locs cells slots Q (F0 m pc ls (.ref (ad 11 0) :: rest)) := by
  refine xr_get (v := .ref (ad 12 g)) C w hI rfl rfl xin_AL 1 (by decide) (xmi 49 (by decide +kernel) rfl) rfl (by show some (Value.ref (if σ 11 0 9 = 0 then _ else _)) = _; rw [if_neg (by rw [h9]; exact nI_ne0 h0 hg), h9, nI_clamp hg]) hdg kk
theorem xg_AL_63 (C : xr_C xBIG p c cc "java/util/ArrayList" s m args) (w : xr_W xCl (xT cA) D I ad (xc cA tz ad σ) A s H locs) (hI : (11, 0) ∈ I) (hdg : decode cc pc = .ok (.getfield 63, 3)) (kk : W p l e R s m args below meth c H locs cells slots Q (F0 m (pc + 3) ls (.int (σ 11 0 0) :: rest))) : W p l e R s m args below meth c H locs cells slots Q (F0 m pc ls (.ref (ad 11 0) :: rest)) := by
  obtain ⟨hx, hb, hown, hts⟩ := C
  obtain ⟨hP, hD, hK, hS, hA⟩ := w
  obtain ⟨q, hq⟩ := xw_at ad (xc cA tz ad σ) hI
  exact va_get (ci := 4) hx hb hts xin_AL hown hK hP q hq rfl 0 (by decide) (hts _ (xmi 52 (by decide +kernel) rfl)) (fun x h => u_same (hts _ xk_same) x h) rfl hdg kk
theorem xp_AL_48 (C : xr_C xBIG p c cc "java/util/ArrayList" s m args) (w : xr_W xCl (xT cA) D I ad (xc cA tz ad σ) A s H locs) {x : Int32} (hI : (11, 0) ∈ I) (hdg : decode cc pc = .ok (.putfield 48, 3)) (kk : ∀ (H1 : Heap) (locs1 : List Loc), xr_W xCl (xT cA) D I ad (xc cA tz ad (xu3 σ 11 0 2 x)) A s H1 locs1 → W p l e R s m args below meth c H1 locs1 cells slots Q (F0 m (pc + 3) ls (rest))) : W p l e R s m args below meth c H locs cells slots Q (F0 m pc ls (.int x :: .ref (ad 11 0) :: rest)) :=
  xr_put C w hI rfl rfl xin_AL xY_AL xY_AL_ok xF_AL_nm 2 (by decide) (xmi 50 (by decide +kernel) rfl) rfl rfl rfl rfl (Nat.le_of_ble_eq_true rfl) hdg (fun H1 locs1 w1 => kk H1 locs1 (Eq.mp (congrArg (fun E => xr_W xCl (xT cA) D I ad E A s H1 locs1) (xc_up cA tz ad σ 11 0 (va_up (σ 11 0) 2 x))) w1))
theorem xp_AL_63 (C : xr_C xBIG p c cc "java/util/ArrayList" s m args) (w : xr_W xCl (xT cA) D I ad (xc cA tz ad σ) A s H locs) {x : Int32} (hI : (11, 0) ∈ I) (hdg : decode cc pc = .ok (.putfield 63, 3)) (kk : ∀ (H1 : Heap) (locs1 : List Loc), xr_W xCl (xT cA) D I ad (xc cA tz ad (xu3 σ 11 0 0 x)) A s H1 locs1 → W p l e R s m args below meth c H1 locs1 cells slots Q (F0 m (pc + 3) ls (rest))) : W p l e R s m args below meth c H locs cells slots Q (F0 m pc ls (.int x :: .ref (ad 11 0) :: rest)) := by
  obtain ⟨hx, hb, hown, hts⟩ := C
  obtain ⟨hP, hD, hK, hS, hA⟩ := w
  obtain ⟨q, hq⟩ := xw_at ad (xc cA tz ad σ) hI
  refine va_put (ci := 4) hx hb hts xin_AL xY_AL xY_AL_ok xF_AL_nm hown hK hP hD hS q hq rfl 0 (by decide) (hts _ (xmi 52 (by decide +kernel) rfl)) (fun x h => u_same (hts _ xk_same) x h) rfl (xY_AL_ok 0 (by decide)) rfl rfl (Nat.le_of_ble_eq_true rfl) hdg (fun H1 locs1 hP1 hD1 hS1 => ?_)
  rw [xw_set hD hI hq] at hP1 hD1
  exact kk H1 locs1 (Eq.mp (congrArg (fun E => xr_W xCl (xT cA) D I ad E A s H1 locs1) (xc_up cA tz ad σ 11 0 (va_up (σ 11 0) 0 x))) ⟨hP1, hD1, hK, hS1, hA⟩)
theorem xp_AL_9 (C : xr_C xBIG p c cc "java/util/ArrayList" s m args) (w : xr_W xCl (xT cA) D I ad (xc cA tz ad σ) A s H locs) {g : Nat} (hI : (11, 0) ∈ I) (h0 : 0 < g) (hg : g < 2 ^ 31) (hdg : decode cc pc = .ok (.putfield 9, 3)) (kk : ∀ (H1 : Heap) (locs1 : List Loc), xr_W xCl (xT cA) D I ad (xc cA tz ad (xu3 σ 11 0 9 (nI g))) A s H1 locs1 → W p l e R s m args below meth c H1 locs1 cells slots Q (F0 m (pc + 3) ls (rest))) : W p l e R s m args below meth c H locs cells slots Q (F0 m pc ls (.ref (ad 12 g) :: .ref (ad 11 0) :: rest)) := by
  refine xr_put C w hI rfl rfl xin_AL xY_AL xY_AL_ok xF_AL_nm 1 (by decide) (xmi 49 (by decide +kernel) rfl) rfl rfl rfl rfl (Nat.le_of_ble_eq_true rfl) hdg (fun H1 locs1 w1 => kk H1 locs1 ?_)
  have he : (.inr (4, ([.int (σ 11 0 0), .ref (if σ 11 0 9 = 0 then tz else ad 12 (σ 11 0 9).toNatClampNeg), .int (σ 11 0 2)] : List Value).set 1 (.ref (ad 12 g))) : va_E) = xcell cA tz ad 11 0 (va_up (σ 11 0) 9 (nI g)) := by
    show _ = (.inr (4, [.int (σ 11 0 0), .ref (if nI g = 0 then tz else ad 12 (nI g).toNatClampNeg), .int (σ 11 0 2)]) : va_E)
    rw [if_neg (nI_ne0 h0 hg), nI_clamp hg]
    rfl
  rw [he, xc_up] at w1
  exact w1
theorem xw_conv {E E' : Nat → Nat → va_E} (w : xr_W xCl (xT cA) D I ad E A s H locs) (h : ∀ j ∈ I, E j.1 j.2 = E' j.1 j.2) : xr_W xCl (xT cA) D I ad E' A s H locs := by
  obtain ⟨hP, hD, hK, hS, hA⟩ := w
  have e := xw_congr (I := I) (ad := ad) (ad' := ad) (E := E) (E' := E') (fun j hj => ⟨rfl, h j hj⟩)
  rw [e] at hP hD
  exact ⟨hP, hD, hK, hS, hA⟩
theorem xw_newc {r k q : Nat} {e0 : va_E} {f : Nat → Int32} (hn : (r, k) ∉ I) (hr : r = 12 ∨ r = 13) (he : e0 = xcell cA tz (xw_u2 ad r k q) r k f) (h11 : ∀ b, (11, b) ∈ I → σ 11 b 9 = 0 ∨ r = 13 ∨ (σ 11 b 9).toNatClampNeg ≠ k) (h12 : r = 13 → ∀ a, (12, a) ∈ I → (σ 12 a 0).toNatClampNeg ≤ k)
    (w : xr_W xCl (xT cA) D (I ++ [(r, k)]) (xw_u2 ad r k q) (xw_u2 (xc cA tz ad σ) r k e0) A s H locs) : xr_W xCl (xT cA) D (I ++ [(r, k)]) (xw_u2 ad r k q) (xc cA tz (xw_u2 ad r k q) (xw_u2 σ r k f)) A s H locs := by
  refine xw_conv w (fun j hj => ?_)
  obtain ⟨a, b⟩ := j
  by_cases h : a = r ∧ b = k
  · obtain ⟨rfl, rfl⟩ := h
    show xw_u2 _ a b _ a b = xcell _ _ _ a b (xw_u2 σ a b f a b)
    rw [xw_u2_s, xw_u2_s, he]
  · have hm : (a, b) ∈ I := by
      rcases List.mem_append.mp hj with z | z
      · exact z
      · rw [List.mem_singleton, Prod.mk.injEq] at z
        exact absurd z h
    show xw_u2 _ r k _ a b = xcell _ _ _ a b (xw_u2 σ r k f a b)
    rw [xw_u2_n _ _ h, xw_u2_n _ _ h]
    refine (xcell_congr (fun x y h1 h2 => xw_u2_n _ _ (by rintro ⟨rfl, rfl⟩; rcases hr with z | z <;> omega)) (fun h3 => ?_) (fun h3 i hi => xw_u2_n _ _ ?_)).symm
    · subst h3
      rcases h11 b hm with z | z | z
      · exact Or.inl z
      · exact Or.inr (xw_u2_n _ _ (by rintro ⟨z1, -⟩; omega))
      · exact Or.inr (xw_u2_n _ _ (by rintro ⟨-, z1⟩; exact z z1))
    · rintro ⟨rfl, rfl⟩
      subst h3
      have := h12 rfl b hm
      omega
theorem xk_cSV : Cond.classLink "SplitFabric" 155 "SplitFabric$Served" ∈ xBIG := xmi 195 (by decide +kernel) rfl
theorem xk_iSV : Cond.instantiable "SplitFabric$Served" 6 ∈ xBIG := xmi 196 (by decide +kernel) rfl
theorem xk_nSV : Cond.initialized "SplitFabric$Served" ∈ xBIG := xmi 15 (by decide +kernel) rfl
theorem xs_newSV (C : xr_C xBIG p c cc "SplitFabric" s m args) (w : xr_W xCl (xT cA) D I ad (xc cA tz ad σ) A s H locs) {n g : Nat} (hL : xL I n g) (h12 : ∀ a, 1 ≤ a → a ≤ g → (σ 12 a 0).toNatClampNeg ≤ n) (hcells : cells + 1 ≤ R.cells) (hslots : slots + 6 ≤ R.slots) (hdg : decode cc pc = .ok (.new 155, 3))
    (kk : ∀ (I1 : List (Nat × Nat)) (ad1 : Nat → Nat → Nat) (H1 : Heap), xE I ad I1 ad1 → xL I1 (n + 1) g → xr_W xCl (xT cA) D I1 ad1 (xc cA tz ad1 (xw_u2 σ 13 n (fun _ => 0))) A s H1 locs → W p l e R s m args below meth c H1 locs (cells + 1) (slots + 6) Q (F0 m (pc + 3) ls (.ref (ad1 13 n) :: rest))) : W p l e R s m args below meth c H locs cells slots Q (F0 m pc ls (rest)) := by
  refine xr_new C w hL.n13 (ci := 3) (fs := [.int 0, .int 0, .int 0, .int 0, .int 0, .int 0]) xin_SV xY_SV xY_SV_ok xk_cSV xk_iSV xk_nSV rfl (by decide +kernel) hcells hslots hdg (fun q H1 w1 => ?_)
  have := kk _ _ H1 (xE.new hL.n13 (q := q)) hL.a13 (xw_newc hL.n13 (Or.inr rfl) rfl (fun b hb => Or.inr (Or.inl rfl)) (fun _ a ha => h12 a ((hL.2.1 a).mp ha).1 ((hL.2.1 a).mp ha).2) w1)
  rw [xw_u2_s] at this
  exact this
theorem xs_newOA (C : xr_C xBIG p c cc own s m args) (w : xr_W xCl (xT cA) D I ad (xc cA tz ad σ) A s H locs) (hz : xZ tz A s s.heap) {n g N index : Nat} (hlink : Cond.classLink own index "java/lang/Object" ∈ xBIG) (hL : xL I n g) (h9 : σ 11 0 9 = nI g) (hg : g < 2 ^ 30) (hN : N ≤ 100000000) (hcells : cells + 1 ≤ R.cells) (hslots : slots + N ≤ R.slots) (hdg : decode cc pc = .ok (.anewarray index, 3))
    (kk : ∀ (I1 : List (Nat × Nat)) (ad1 : Nat → Nat → Nat) (H1 : Heap), xE I ad I1 ad1 → xL I1 n (g + 1) → xr_W xCl (xT cA) D I1 ad1 (xc cA tz ad1 (xw_u2 σ 12 (g + 1) (fun i => if i = 1 then nI N else 0))) A s H1 locs → W p l e R s m args below meth c H1 locs (cells + 1) (slots + N) Q (F0 m (pc + 3) ls (.ref (ad1 12 (g + 1)) :: rest))) : W p l e R s m args below meth c H locs cells slots Q (F0 m pc ls (.int (nI N) :: rest)) := by
  obtain ⟨hx, hb, hown, hts⟩ := C
  obtain ⟨hP, hD, hK, hS, hA⟩ := w
  refine va_newq (C := "java/lang/Object") hx hb hown (hts _ hlink) hz.1.2.2.2.2.1 hK hP hD hS hA (n := nI N) (N' := N) (nI_pos (by omega)) (nI_clamp (by omega)) (by omega) hcells hslots hdg (fun q cA1 H1 hK1 hP1 hD1 hS1 => ?_)
  have e1 : cA1 = cA 4 := by
    obtain ⟨_, _, _, _, _, h1⟩ := (hK1.2 7 (cA1, .object "java/lang/Object") rfl).2
    obtain ⟨_, _, _, _, _, h2⟩ := (hK.2 4 (cA 4, .object "java/lang/Object") rfl).2
    exact Option.some.inj (h1.symm.trans h2)
  subst e1
  rw [xw_new hL.n12] at hP1 hD1
  have he : (.inl (cA 4, N, .inr (.inr (.inr (.inr (fun _ => none))))) : va_E) = xcell cA tz (xw_u2 ad 12 (g + 1) q) 12 (g + 1) (fun i => if i = 1 then nI N else 0) := by
    show _ = (.inl (cA 4, (nI N).toNatClampNeg, .inr (.inr (.inr (.inr (xv_fill (0 : Int32).toNatClampNeg (xw_u2 ad 12 (g + 1) q 13)))))) : va_E)
    rw [nI_clamp (by omega)]
    rfl
  have := kk _ _ H1 (xE.new hL.n12 (q := q)) hL.a12 (xw_newc hL.n12 (Or.inl rfl) he (fun b hb => Or.inr (Or.inr (by rw [hL.2.2 b hb, h9, nI_clamp (by omega)]; omega))) (fun z => by omega) ⟨hP1, hD1, hK, hS1, hA⟩)
  rw [xw_u2_s] at this
  exact this
theorem xv_fill_up (n : Nat) (g : Nat → Nat) : va_up (xv_fill n g) n (some (g n)) = xv_fill (n + 1) g := by
  funext i
  unfold va_up xv_fill
  by_cases h : i = n
  · subst h
    simp
  · by_cases h2 : i < n
    · simp [h, h2, Nat.lt_succ_of_lt h2]
    · simp [h, h2]
      omega
theorem xs_ast12 (C : xr_C xBIG p c cc own s m args) (w : xr_W xCl (xT cA) D I ad (xc cA tz ad σ) A s H locs) (hz : xZ tz A s s.heap) {n g N : Nat} (hI : (12, g) ∈ I) (hI2 : (13, n) ∈ I) (h0 : σ 12 g 0 = nI n) (h1 : σ 12 g 1 = nI N) (hn : n < N) (hN : N < 2 ^ 31) (hdg : decode cc pc = .ok (.aastore, 1))
    (kk : ∀ (H1 : Heap) (locs1 : List Loc), xr_W xCl (xT cA) D I ad (xc cA tz ad (xu3 σ 12 g 0 (nI (n + 1)))) A s H1 locs1 → W p l e R s m args below meth c H1 locs1 cells slots Q (F0 m (pc + 1) ls (rest))) : W p l e R s m args below meth c H locs cells slots Q (F0 m pc ls (.ref (ad 13 n) :: .int (nI n) :: .ref (ad 12 g) :: rest)) := by
  obtain ⟨hx, hb, hown, hts⟩ := C
  obtain ⟨hP, hD, hK, hS, hA⟩ := w
  obtain ⟨q, hq⟩ := xw_at ad (xc cA tz ad σ) hI
  obtain ⟨q2, hq2⟩ := xw_at ad (xc cA tz ad σ) hI2
  refine va_astqO hx hb hK hP hD hS q 4 q2 3 (E := "java/lang/Object") hq rfl (xs_Ca.use hz.1.2.1.2.2.2.1) hq2 rfl (i := nI n) (by rw [h1, nI_clamp hN]; exact vp_in_nI hn hN) hdg (fun H1 locs1 hP1 hD1 hS1 => ?_)
  have he : (.inl (cA 4, (σ 12 g 1).toNatClampNeg, .inr (.inr (.inr (.inr (va_up (xv_fill (σ 12 g 0).toNatClampNeg (ad 13)) (nI n).toNatClampNeg (some (ad 13 n))))))) : va_E) = xcell cA tz ad 12 g (va_up (σ 12 g) 0 (nI (n + 1))) := by
    show _ = (.inl (cA 4, (σ 12 g 1).toNatClampNeg, .inr (.inr (.inr (.inr (xv_fill (nI (n + 1)).toNatClampNeg (ad 13)))))) : va_E)
    rw [h0, nI_clamp (by omega), nI_clamp (by omega), xv_fill_up]
  rw [he, xw_set hD hI hq, xc_up] at hP1 hD1
  exact kk H1 locs1 ⟨hP1, hD1, hK, hS1, hA⟩
theorem xs_ald12 (C : xr_C xBIG p c cc own s m args) (w : xr_W xCl (xT cA) D I ad (xc cA tz ad σ) A s H locs) {n g N j : Nat} (hI : (12, g) ∈ I) (h0 : σ 12 g 0 = nI n) (h1 : σ 12 g 1 = nI N) (hj : j < n) (hn : n ≤ N) (hN : N < 2 ^ 31) (hdg : decode cc pc = .ok (.aaload, 1))
    (kk : W p l e R s m args below meth c H locs cells slots Q (F0 m (pc + 1) ls (.ref (ad 13 j) :: rest))) : W p l e R s m args below meth c H locs cells slots Q (F0 m pc ls (.int (nI j) :: .ref (ad 12 g) :: rest)) :=
  xr_aald C w hI rfl 4 rfl rfl j rfl (by rw [h1, nI_clamp hN]; omega) (by rw [h1, nI_clamp hN]; omega) (xv_fill_at h0 (by omega) hj) hdg kk
theorem xs_len12 (C : xr_C xBIG p c cc own s m args) (w : xr_W xCl (xT cA) D I ad (xc cA tz ad σ) A s H locs) {g N : Nat} (hI : (12, g) ∈ I) (h1 : σ 12 g 1 = nI N) (hN : N < 2 ^ 31) (hdg : decode cc pc = .ok (.arraylength, 1)) (kk : W p l e R s m args below meth c H locs cells slots Q (F0 m (pc + 1) ls (.int (nI N) :: rest))) : W p l e R s m args below meth c H locs cells slots Q (F0 m pc ls (.ref (ad 12 g) :: rest)) := by
  obtain ⟨hx, hb, hown, hts⟩ := C
  obtain ⟨hP, hD, hK, hS, hA⟩ := w
  obtain ⟨q, hq⟩ := xw_at ad (xc cA tz ad σ) hI
  exact va_alen hx hb hK hP q 4 hq rfl (by show Int32.ofNat (σ 12 g 1).toNatClampNeg = _; rw [h1, nI_clamp hN]; rfl) hdg kk
theorem xs_lenz (C : xr_C xBIG p c cc own s m args) (w : xr_W xCl (xT cA) D I ad (xc cA tz ad σ) A s H locs) (hz : xZ tz A s s.heap) (hdg : decode cc pc = .ok (.arraylength, 1)) (kk : W p l e R s m args below meth c H locs cells slots Q (F0 m (pc + 1) ls (.int (nI 0) :: rest))) : W p l e R s m args below meth c H locs cells slots Q (F0 m pc ls (.ref tz :: rest)) := by
  obtain ⟨hx, hb, hown, hts⟩ := C
  obtain ⟨hP, hD, hK, hS, hA⟩ := w
  exact va_tlen hx hb hz.2.2.2.2 hS rfl hdg kk
theorem xs_getz (C : xr_C xBIG p c cc "java/util/ArrayList" s m args) (w : xr_W xCl (xT cA) D I ad (xc cA tz ad σ) A s H locs) (hz : xZ tz A s s.heap) (hdg : decode cc pc = .ok (.getstatic 39, 3)) (kk : W p l e R s m args below meth c H locs cells slots Q (F0 m (pc + 3) ls (.ref tz :: rest))) : W p l e R s m args below meth c H locs cells slots Q (F0 m pc ls (rest)) := by
  obtain ⟨hx, hb, hown, hts⟩ := C
  obtain ⟨hP, hD, hK, hS, hA⟩ := w
  exact va_gets hx hb (xs_S.va hz.2.2.2.1) hS hown (hts _ (xmi 47 (by decide +kernel) rfl)) (fun x h => h) hdg kk
theorem xs_recv {ci : Nat} {r k : Nat} {fs : List Value} {q9 : vw_C} (w : xr_W xCl (xT cA) D I ad (xc cA tz ad σ) A s H locs) (hI : (r, k) ∈ I) (he : xc cA tz ad σ r k = .inr (ci, fs)) (hc : xCl[ci]? = some q9) : ∃ cell : Cell, H[ad r k]? = some cell ∧ cell.vm.isStatics = false ∧ s.vm.findClass q9.1 = some cell.cls := by
  obtain ⟨q, hq⟩ := xw_at ad (xc cA tz ad σ) hI
  rw [he] at hq
  exact va_recv w.2.2.1 w.1 hc hq
theorem xs_cp12 (C : xr_C xBIG p c cc "java/util/Arrays" s m args) (w : xr_W xCl (xT cA) D I ad (xc cA tz ad σ) A s H locs) (hz : xZ tz A s s.heap) (hml : c.maxLocals = ls.size) {n g g2 N N2 : Nat} (hI : (12, g) ∈ I) (hI2 : (12, g2) ∈ I) (h13 : ∀ j, j < n → (13, j) ∈ I) (h0 : σ 12 g 0 = nI n) (h1 : σ 12 g 1 = nI N) (h2 : σ 12 g2 0 = 0) (h3 : σ 12 g2 1 = nI N2) (hn : n ≤ N) (hn2 : n ≤ N2) (hN : N < 2 ^ 31) (hN2 : N2 < 2 ^ 31)
    (hframes : 1 ≤ R.frames) (hlocals : (rest.map fun v => v.category).sum + (nativeFrameWords "java/lang/System" "arraycopy" 5 + 11) ≤ R.locals) (hdg : decode cc pc = .ok (.invokestatic 150, 3))
    (kk : ∀ (H1 : Heap) (locs1 : List Loc), xr_W xCl (xT cA) D I ad (xc cA tz ad (xu3 σ 12 g2 0 (nI n))) A s H1 locs1 → W p l e R s m args below meth c H1 locs1 cells slots Q (F0 m (pc + 3) ls (rest))) : W p l e R s m args below meth c H locs cells slots Q (F0 m pc ls (.int (nI n) :: .int (nI 0) :: .ref (ad 12 g2) :: .int (nI 0) :: .ref (ad 12 g) :: rest)) := by
  have hrv := fun j hj => xs_recv (r := 13) (k := j) w (h13 j hj) rfl rfl
  obtain ⟨hx, hb, hown, hts⟩ := C
  obtain ⟨hP, hD, hK, hS, hA⟩ := w
  obtain ⟨q, hq⟩ := xw_at ad (xc cA tz ad σ) hI
  obtain ⟨q2, hq2⟩ := xw_at ad (xc cA tz ad σ) hI2
  have cn : (nI n).toNatClampNeg = n := nI_clamp (by omega)
  have c0 : (nI 0).toNatClampNeg = 0 := nI_clamp (by omega)
  refine va_copyq (C := "SplitFabric$Served") hx hb hml hown (hts _ (xmi 271 (by decide +kernel) rfl)) (hts _ xk_cpN) (hts _ xk_cpS) (hts _ xk_cpI) hK hP hD hS q q2 4 4 hq hq2 rfl rfl (sp := nI 0) (dp := nI 0) (n := nI n) (nI_pos (by omega)) (nI_pos (by omega)) (nI_pos (by omega)) (by rw [cn, c0, h1, nI_clamp hN]; omega) (by rw [cn, c0, h3, nI_clamp hN2]; omega) ?_ ?_ hframes hlocals hdg (fun H1 locs1 hP1 hD1 hS1 => ?_)
  · intro i hi y hy
    rw [cn] at hi
    rw [c0, Nat.zero_add, xv_fill_at h0 (by omega) hi] at hy
    cases hy
    exact hrv i hi
  · intro cm cc0 e1 e2
    obtain ⟨a1, a2, a3, a4, a5⟩ := hz.1.2.1.2.2.2.1
    cases a3.symm.trans e2
    cases a4.symm.trans e1
    exact a5
  · have he : (.inl (cA 4, (σ 12 g2 1).toNatClampNeg, .inr (.inr (.inr (.inr (va_cpy (xv_fill (σ 12 g 0).toNatClampNeg (ad 13)) (xv_fill (σ 12 g2 0).toNatClampNeg (ad 13)) (nI 0).toNatClampNeg (nI 0).toNatClampNeg (nI n).toNatClampNeg))))) : va_E) = xcell cA tz ad 12 g2 (va_up (σ 12 g2) 0 (nI n)) := by
      show _ = (.inl (cA 4, (σ 12 g2 1).toNatClampNeg, .inr (.inr (.inr (.inr (xv_fill (nI n).toNatClampNeg (ad 13)))))) : va_E)
      rw [h0, cn, c0, h2]
      congr 7
      funext i
      unfold va_cpy xv_fill
      by_cases hi : i < n
      · simp [hi]
      · simp [hi]
    rw [he, xw_set hD hI2 hq2, xc_up] at hP1 hD1
    exact kk H1 locs1 ⟨hP1, hD1, hK, hS1, hA⟩
theorem xs_getC12 (C : xr_C xBIG p c cc "java/util/Arrays" s m args) (w : xr_W xCl (xT cA) D I ad (xc cA tz ad σ) A s H locs) (hz : xZ tz A s s.heap) (hml : c.maxLocals = ls.size) {g mi : Nat} (hM : va_Mi "[Ljava/lang/Object;" mi s) (hI : (12, g) ∈ I) (hframes : 1 ≤ R.frames) (hlocals : (rest.map fun v => v.category).sum + 14 ≤ R.locals) (hdg : decode cc pc = .ok (.invokevirtual 86, 3))
    (kk : W p l e R s m args below meth c H locs cells slots Q (F0 m (pc + 3) ls (.ref mi :: rest))) : W p l e R s m args below meth c H locs cells slots Q (F0 m pc ls (.ref (ad 12 g) :: rest)) := by
  obtain ⟨hx, hb, hown, hts⟩ := C
  obtain ⟨hP, hD, hK, hS, hA⟩ := w
  obtain ⟨q, hq⟩ := xw_at ad (xc cA tz ad σ) hI
  refine va_getC (C := "[Ljava/lang/Object;") hx hb hml hown (hts _ (xmi 249 (by decide +kernel) rfl)) (va_Dc.use hz.1.2.2.2.1) (hts _ (xmi 827 (by decide +kernel) rfl)) (hts _ (xmi 250 (by decide +kernel) rfl)) (hts _ (xmi 261 (by decide +kernel) rfl)) hM ⟨_, hP q _ hq, ?_, ?_⟩ hframes hlocals hdg kk
  · rfl
  · obtain ⟨_, _, _, _, _, h2⟩ := (hK.2 4 (cA 4, .object "java/lang/Object") rfl).2
    exact h2
end

