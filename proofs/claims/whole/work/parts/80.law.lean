/-! The law: one call of the script after another. -/
def lx_C (p : Program) (l : Launch) (R : Room) (s : State) (m : MethodId) (args : Array Value) (c : Code) (tz : Nat) (A : Nat → Prop) (b L : Nat) (xs : Nat → Int32) : Prop := xr_C xBIG p c code "SplitFabricLaw" s m args ∧ c.maxLocals = 7 ∧ l.stackTraces = false ∧ va_X b L xs s s.heap ∧ b < s.heap.size ∧ ¬ A b ∧ L ≤ 3072 ∧ xZ tz A s s.heap ∧ 14 ≤ R.frames ∧ R.cells = 601024 ∧ R.slots = 7293034 ∧ 528 ≤ R.locals
def lx_K (D : va_G) (cA : Nat → ClassId) (tz : Nat) (A : Nat → Prop) (s : State) (j : Nat) (I : List (Nat × Nat)) (ad : Nat → Nat → Nat) (σ : xMem) (I0 T G : Nat) (H : Heap) (locs : List Loc) (c0 d0 : Nat) : Prop := xI I ∧ xJ I ∧ (40, 0) ∈ I ∧ xL I (xf_n σ) (xf_g σ) ∧ Rel σ σ I0 T 0 G ∧ I0 ≤ j ∧ T ≤ 100 * j ∧ c0 ≤ 67 + 2 * xf_n σ + j ∧ d0 ≤ 4325 + 772 * xf_n σ + 6 * j ∧ xr_W xCl (xT cA) D I ad (xc cA tz ad σ) A s H locs
theorem lx_n {c m : xMem} {I T e G : Nat} (h : Rel c m I T e G) : xf_n c ≤ 512 := h.rg.xs.2.2.2.2.2.1
section
variable {p : Program} {l : Launch} {e : Env} {R : Room} {s : State} {m : MethodId} {args : Array Value} {below : List Frame} {meth : Method} {c : Code} {H : Heap} {locs : List Loc} {c0 d0 : Nat} {Q : State → Prop} {ls : Array Slot} {rest : List Value} {pc : Nat} {cc : ByteArray} {D : va_G} {cA : Nat → ClassId} {tz : Nat} {A : Nat → Prop} {b L j : Nat} {xs : Nat → Int32} {I : List (Nat × Nat)} {ad : Nat → Nat → Nat} {σ : xMem} {I0 T G : Nat}
theorem xs_scr (hexec : p.tables.exec = Jvm.exec) (hb : c.code = cc) (hX : va_X b L xs s s.heap) (hbl : b < s.heap.size) (hbA : ¬ A b) (hS : va_S A s.heap H locs) (i : Nat) (hi : i < L) (hL : L < 2 ^ 31) (hdg : decode cc pc = .ok (.iaload, 1))
    (kk : W p l e R s m args below meth c H locs c0 d0 Q (F0 m (pc + 1) ls (.int (xs i) :: rest))) : W p l e R s m args below meth c H locs c0 d0 Q (F0 m pc ls (.int (nI i) :: .ref b :: rest)) := by
  refine va_sld hexec hb hX hbl hbA hS (i := nI i) (vp_in_nI hi hL) hdg ?_
  rw [nI_clamp (by omega)]
  exact kk
end
theorem xk_nLW : Cond.initialized "SplitFabricLaw" ∈ xBIG := xmi 0 (by decide +kernel) rfl
noncomputable def xbit (x : Int32) : Int32 := xif (x = 0) (nI 0) (nI 1)
theorem xbit_or (x : Int32) : xbit x = nI 0 ∨ xbit x = nI 1 := by
  unfold xbit
  by_cases h : x = 0
  · rw [xif_t h]; exact Or.inl rfl
  · rw [xif_f h]; exact Or.inr rfl
section
variable {p : Program} {l : Launch} {e : Env} {R : Room} {s : State} {m : MethodId} {args : Array Value} {below : List Frame} {meth : Method} {c : Code} {H : Heap} {locs : List Loc} {c0 d0 : Nat} {Q : State → Prop} {ls : Array Slot} {rest : List Value} {pc : Nat} {cc : ByteArray} {D : va_G} {cA : Nat → ClassId} {tz : Nat} {A : Nat → Prop} {b L j : Nat} {xs : Nat → Int32} {I : List (Nat × Nat)} {ad : Nat → Nat → Nat} {σ : xMem} {I0 T G : Nat}
/-- x == 0 ? 0 : 1, as it stands in the law -/
theorem xs_bit {x : Int32} {o1 o2 : Int} (hx : p.tables.exec = Jvm.exec) (hb : c.code = cc) (h1 : decode cc pc = .ok (.ifCond .eq o1, 3)) (h2 : decode cc (pc + 3) = .ok (.iconst 1, 1)) (h3 : decode cc (pc + 4) = .ok (.goto o2, 3)) (h4 : decode cc (pc + 7) = .ok (.iconst 0, 1)) (e1 : o1 = 7) (e2 : o2 = 4)
    (kk : W p l e R s m args below meth c H locs c0 d0 Q (F0 m (pc + 8) ls (.int (xbit x) :: rest))) : W p l e R s m args below meth c H locs c0 d0 Q (F0 m pc ls (.int x :: rest)) := by
  subst e1
  subst e2
  refine lv_if_eq (tgt := pc + 7) hx hb h1 (by omega) (fun h => ?_) (fun h => ?_)
  · refine lv_iconst (v := nI 0) hx hb h4 xk_i0 ?_
    unfold xbit at kk
    rw [xif_t h] at kk
    exact kk
  · refine lv_iconst (v := nI 1) hx hb h2 xk_i1 ?_
    refine lv_goto (tgt := pc + 8) hx hb h3 (by omega) ?_
    unfold xbit at kk
    rw [xif_f h] at kk
    exact kk
end
section
variable {p : Program} {l : Launch} {e : Env} {R : Room} {s : State} {m : MethodId} {args : Array Value} {below : List Frame} {meth : Method} {c : Code} {H : Heap} {locs : List Loc} {c0 d0 : Nat} {Q : State → Prop} {ls : Array Slot} {rest : List Value} {pc : Nat} {cc : ByteArray} {D : va_G} {cA : Nat → ClassId} {tz : Nat} {A : Nat → Prop} {b L j : Nat} {xs : Nat → Int32} {I : List (Nat × Nat)} {ad : Nat → Nat → Nat} {σ : xMem} {I0 T G : Nat}
set_option maxRecDepth 100000 in
set_option maxHeartbeats 4000000 in
theorem la_data (Cx : lx_C p l R s m args c tz A b L xs) (h : lx_K D cA tz A s j I ad σ I0 T G H locs c0 d0) (hj : 6 * j + 6 ≤ L) (hl : lv_has ls 7 [(4, .int (nI (6 * j))), (3, .ref (ad 40 0)), (2, .ref (ad 20 0)), (1, .ref (ad 5 0)), (0, .ref b)]) (hk : ∀ (I : List (Nat × Nat)) (ad : Nat → Nat → Nat) (σ : xMem) (I0 T G : Nat) (H : Heap) (locs : List Loc) (ls : Array Slot) (c0 d0 : Nat), lx_K D cA tz A s (j + 1) I ad σ I0 T G H locs c0 d0 → lv_has ls 7 [(4, .int (nI (6 * j))), (3, .ref (ad 40 0)), (2, .ref (ad 20 0)), (1, .ref (ad 5 0)), (0, .ref b)] → W p l e R s m args below meth c H locs c0 d0 Q (F0 m 1046 ls [])) : W p l e R s m args below meth c H locs c0 d0 Q (F0 m 124 ls []) := by
  obtain ⟨C, hml, htr, hX, hbl, hbA, hL3, hz, hR1, hR2c, hR3, hR4⟩ := Cx
  obtain ⟨hI, hJ, h40, hL, hR, hI0, hT, hc0, hd0, w⟩ := h
  obtain ⟨hx, hb, hown, hts⟩ := id C
  have hn0 := lx_n hR
  obtain ⟨k, σ1, σ2, I1, G1, hH, hD, hk3, hf, hR2, hI1, hn2, hg2⟩ := st_data l htr D cA tz I ad σ hI h40 hL hR (xs (6 * j + 1)) (xs (6 * j + 2)) (xs (6 * j + 3))
  have hn9 := lx_n hR2
  refine lv_aload_n hx hb dlaw_124 rfl (lv_at hl 3 rfl) ?_
  refine lv_aload_n hx hb dlaw_125 rfl (lv_at hl 4 rfl) ?_
  refine lv_iload hx hb dlaw_126 (lv_at hl 0 rfl) ?_
  refine lv_iconst (v := nI 1) hx hb dlaw_128 xk_i1 ?_
  refine xn_add hx hb dlaw_129 ?_
  refine xs_scr hx hb hX hbl hbA w.2.2.2.1 ((6 * j) + 1) (by omega) (by omega) dlaw_130 ?_
  refine lv_aload_n hx hb dlaw_131 rfl (lv_at hl 4 rfl) ?_
  refine lv_iload hx hb dlaw_132 (lv_at hl 0 rfl) ?_
  refine lv_iconst (v := nI 2) hx hb dlaw_134 xk_i2 ?_
  refine xn_add hx hb dlaw_135 ?_
  refine xs_scr hx hb hX hbl hbA w.2.2.2.1 ((6 * j) + 2) (by omega) (by omega) dlaw_136 ?_
  refine lv_aload_n hx hb dlaw_137 rfl (lv_at hl 4 rfl) ?_
  refine lv_iload hx hb dlaw_138 (lv_at hl 0 rfl) ?_
  refine lv_iconst (v := nI 3) hx hb dlaw_140 xk_i3 ?_
  refine xn_add hx hb dlaw_141 ?_
  refine xs_scr hx hb hX hbl hbA w.2.2.2.1 ((6 * j) + 3) (by omega) (by omega) dlaw_142 ?_
  refine xh_call C w hz hml hl.1 xl_LW_data xs_LW_data xk_nLW xq_LW_data ⟨by decide, by decide, rfl⟩ hH rfl rfl (Nat.le_of_ble_eq_true rfl) ⟨by omega, by omega⟩ ⟨by omega, by omega⟩ dlaw_143 (fun I ad H locs hE hL w => ?_)
  have e5 := hE.2 5 0 (xI5 hI)
  have e20 := hE.2 20 0 (xJ20 hJ)
  have e40 := hE.2 40 0 h40
  have hI := hE.I hI
  have hJ := hE.J hJ
  have h40 := hE.1 _ h40
  have hl : lv_has ls 7 [(4, .int (nI (6 * j))), (3, .ref (ad 40 0)), (2, .ref (ad 20 0)), (1, .ref (ad 5 0)), (0, .ref b)] := by rw [e5, e20, e40]; exact hl
  refine W.eq (g2 := F0 m 146 ls [.int (nI k)]) rfl ?_
  refine lv_istore (lv' := [(5, .int (nI k)), (4, .int (nI (6 * j))), (3, .ref (ad 40 0)), (2, .ref (ad 20 0)), (1, .ref (ad 5 0)), (0, .ref b)]) hx hb dlaw_146 hl (by decide) rfl (fun ls hl => ?_)
  refine lv_aload_n hx hb dlaw_148 rfl (lv_at hl 3 rfl) ?_
  refine lv_aload_n hx hb dlaw_149 rfl (lv_at hl 5 rfl) ?_
  refine lv_iload hx hb dlaw_150 (lv_at hl 1 rfl) ?_
  refine lv_iconst (v := nI 1) hx hb dlaw_152 xk_i1 ?_
  refine xn_add hx hb dlaw_153 ?_
  refine xs_scr hx hb hX hbl hbA w.2.2.2.1 ((6 * j) + 1) (by omega) (by omega) dlaw_154 ?_
  refine lv_aload_n hx hb dlaw_155 rfl (lv_at hl 5 rfl) ?_
  refine lv_iload hx hb dlaw_156 (lv_at hl 1 rfl) ?_
  refine lv_iconst (v := nI 2) hx hb dlaw_158 xk_i2 ?_
  refine xn_add hx hb dlaw_159 ?_
  refine xs_scr hx hb hX hbl hbA w.2.2.2.1 ((6 * j) + 2) (by omega) (by omega) dlaw_160 ?_
  refine lv_aload_n hx hb dlaw_161 rfl (lv_at hl 5 rfl) ?_
  refine lv_iload hx hb dlaw_162 (lv_at hl 1 rfl) ?_
  refine lv_iconst (v := nI 3) hx hb dlaw_164 xk_i3 ?_
  refine xn_add hx hb dlaw_165 ?_
  refine xs_scr hx hb hX hbl hbA w.2.2.2.1 ((6 * j) + 3) (by omega) (by omega) dlaw_166 ?_
  refine xd_callV C w hz hml hl.1 xk_LW_74 (hD I ad hJ) (xJ20 hJ) rfl rfl rfl rfl (Nat.le_of_ble_eq_true rfl) ⟨by omega, by omega⟩ ⟨by omega, by omega⟩ dlaw_167 (fun H locs w => ?_)
  refine W.eq (g2 := F0 m 170 ls []) rfl ?_
  refine lv_aload_n hx hb dlaw_170 rfl (lv_at hl 3 rfl) ?_
  refine xd_callV C w hz hml hl.1 xk_LW_75 (cMD_thrown l D cA tz I ad σ2 hJ) (xJ20 hJ) rfl rfl rfl rfl (Nat.le_of_ble_eq_true rfl) ⟨by omega, by omega⟩ ⟨by omega, by omega⟩ dlaw_171 (fun H locs w => ?_)
  refine W.eq (g2 := F0 m 174 ls [.int (σ2 20 0 0)]) rfl ?_
  refine lv_iload hx hb dlaw_174 (lv_at hl 0 rfl) ?_
  refine lv_icmp_eq hx hb dlaw_176 rfl (fun _ => ?_) (fun hq => absurd hf hq)
  refine lv_goto hx hb dlaw_181 rfl ?_
  exact hk I ad σ2 I1 T G1 H locs ls _ _ ⟨hI, hJ, h40, (by rw [hn2, hg2]; exact hL), hR2, by omega, by omega, by omega, by omega, w⟩ (lv_sub hl [1, 2, 3, 4, 5] rfl)
set_option maxRecDepth 100000 in
set_option maxHeartbeats 4000000 in
theorem la_issue (Cx : lx_C p l R s m args c tz A b L xs) (h : lx_K D cA tz A s j I ad σ I0 T G H locs c0 d0) (hj : 6 * j + 6 ≤ L) (hl : lv_has ls 7 [(4, .int (nI (6 * j))), (3, .ref (ad 40 0)), (2, .ref (ad 20 0)), (1, .ref (ad 5 0)), (0, .ref b)]) (hk : ∀ (I : List (Nat × Nat)) (ad : Nat → Nat → Nat) (σ : xMem) (I0 T G : Nat) (H : Heap) (locs : List Loc) (ls : Array Slot) (c0 d0 : Nat), lx_K D cA tz A s (j + 1) I ad σ I0 T G H locs c0 d0 → lv_has ls 7 [(4, .int (nI (6 * j))), (3, .ref (ad 40 0)), (2, .ref (ad 20 0)), (1, .ref (ad 5 0)), (0, .ref b)] → W p l e R s m args below meth c H locs c0 d0 Q (F0 m 1046 ls [])) : W p l e R s m args below meth c H locs c0 d0 Q (F0 m 184 ls []) := by
  obtain ⟨C, hml, htr, hX, hbl, hbA, hL3, hz, hR1, hR2c, hR3, hR4⟩ := Cx
  obtain ⟨hI, hJ, h40, hL, hR, hI0, hT, hc0, hd0, w⟩ := h
  obtain ⟨hx, hb, hown, hts⟩ := id C
  have hn0 := lx_n hR
  obtain ⟨k, σ1, σ2, I1, G1, hH, hD, hk3, hf, hR2, hI1, hn2, hg2⟩ := st_issue l htr D cA tz I ad σ hI h40 hL hR (xs (6 * j + 1)) (xs (6 * j + 2)) (xs (6 * j + 3)) (xs (6 * j + 4)) (xs (6 * j + 5)) (by omega)
  have hn9 := lx_n hR2
  refine lv_aload_n hx hb dlaw_184 rfl (lv_at hl 3 rfl) ?_
  refine lv_aload_n hx hb dlaw_185 rfl (lv_at hl 4 rfl) ?_
  refine lv_iload hx hb dlaw_186 (lv_at hl 0 rfl) ?_
  refine lv_iconst (v := nI 1) hx hb dlaw_188 xk_i1 ?_
  refine xn_add hx hb dlaw_189 ?_
  refine xs_scr hx hb hX hbl hbA w.2.2.2.1 ((6 * j) + 1) (by omega) (by omega) dlaw_190 ?_
  refine lv_aload_n hx hb dlaw_191 rfl (lv_at hl 4 rfl) ?_
  refine lv_iload hx hb dlaw_192 (lv_at hl 0 rfl) ?_
  refine lv_iconst (v := nI 2) hx hb dlaw_194 xk_i2 ?_
  refine xn_add hx hb dlaw_195 ?_
  refine xs_scr hx hb hX hbl hbA w.2.2.2.1 ((6 * j) + 2) (by omega) (by omega) dlaw_196 ?_
  refine lv_aload_n hx hb dlaw_197 rfl (lv_at hl 4 rfl) ?_
  refine lv_iload hx hb dlaw_198 (lv_at hl 0 rfl) ?_
  refine lv_iconst (v := nI 3) hx hb dlaw_200 xk_i3 ?_
  refine xn_add hx hb dlaw_201 ?_
  refine xs_scr hx hb hX hbl hbA w.2.2.2.1 ((6 * j) + 3) (by omega) (by omega) dlaw_202 ?_
  refine lv_aload_n hx hb dlaw_203 rfl (lv_at hl 4 rfl) ?_
  refine lv_iload hx hb dlaw_204 (lv_at hl 0 rfl) ?_
  refine lv_iconst (v := nI 4) hx hb dlaw_206 xk_i4 ?_
  refine xn_add hx hb dlaw_207 ?_
  refine xs_scr hx hb hX hbl hbA w.2.2.2.1 ((6 * j) + 4) (by omega) (by omega) dlaw_208 ?_
  refine lv_aload_n hx hb dlaw_209 rfl (lv_at hl 4 rfl) ?_
  refine lv_iload hx hb dlaw_210 (lv_at hl 0 rfl) ?_
  refine lv_iconst (v := nI 5) hx hb dlaw_212 xk_i5 ?_
  refine xn_add hx hb dlaw_213 ?_
  refine xs_scr hx hb hX hbl hbA w.2.2.2.1 ((6 * j) + 5) (by omega) (by omega) dlaw_214 ?_
  refine xh_call C w hz hml hl.1 xl_LW_issue xs_LW_issue xk_nLW xq_LW_issue ⟨by decide, by decide, rfl⟩ hH rfl rfl (Nat.le_of_ble_eq_true rfl) ⟨by omega, by omega⟩ ⟨by omega, by omega⟩ dlaw_215 (fun I ad H locs hE hL w => ?_)
  have e5 := hE.2 5 0 (xI5 hI)
  have e20 := hE.2 20 0 (xJ20 hJ)
  have e40 := hE.2 40 0 h40
  have hI := hE.I hI
  have hJ := hE.J hJ
  have h40 := hE.1 _ h40
  have hl : lv_has ls 7 [(4, .int (nI (6 * j))), (3, .ref (ad 40 0)), (2, .ref (ad 20 0)), (1, .ref (ad 5 0)), (0, .ref b)] := by rw [e5, e20, e40]; exact hl
  refine W.eq (g2 := F0 m 218 ls [.int (nI k)]) rfl ?_
  refine lv_istore (lv' := [(5, .int (nI k)), (4, .int (nI (6 * j))), (3, .ref (ad 40 0)), (2, .ref (ad 20 0)), (1, .ref (ad 5 0)), (0, .ref b)]) hx hb dlaw_218 hl (by decide) rfl (fun ls hl => ?_)
  refine lv_aload_n hx hb dlaw_220 rfl (lv_at hl 3 rfl) ?_
  refine lv_aload_n hx hb dlaw_221 rfl (lv_at hl 5 rfl) ?_
  refine lv_iload hx hb dlaw_222 (lv_at hl 1 rfl) ?_
  refine lv_iconst (v := nI 1) hx hb dlaw_224 xk_i1 ?_
  refine xn_add hx hb dlaw_225 ?_
  refine xs_scr hx hb hX hbl hbA w.2.2.2.1 ((6 * j) + 1) (by omega) (by omega) dlaw_226 ?_
  refine lv_aload_n hx hb dlaw_227 rfl (lv_at hl 5 rfl) ?_
  refine lv_iload hx hb dlaw_228 (lv_at hl 1 rfl) ?_
  refine lv_iconst (v := nI 2) hx hb dlaw_230 xk_i2 ?_
  refine xn_add hx hb dlaw_231 ?_
  refine xs_scr hx hb hX hbl hbA w.2.2.2.1 ((6 * j) + 2) (by omega) (by omega) dlaw_232 ?_
  refine lv_aload_n hx hb dlaw_233 rfl (lv_at hl 5 rfl) ?_
  refine lv_iload hx hb dlaw_234 (lv_at hl 1 rfl) ?_
  refine lv_iconst (v := nI 3) hx hb dlaw_236 xk_i3 ?_
  refine xn_add hx hb dlaw_237 ?_
  refine xs_scr hx hb hX hbl hbA w.2.2.2.1 ((6 * j) + 3) (by omega) (by omega) dlaw_238 ?_
  refine lv_aload_n hx hb dlaw_239 rfl (lv_at hl 5 rfl) ?_
  refine lv_iload hx hb dlaw_240 (lv_at hl 1 rfl) ?_
  refine lv_iconst (v := nI 4) hx hb dlaw_242 xk_i4 ?_
  refine xn_add hx hb dlaw_243 ?_
  refine xs_scr hx hb hX hbl hbA w.2.2.2.1 ((6 * j) + 4) (by omega) (by omega) dlaw_244 ?_
  refine lv_aload_n hx hb dlaw_245 rfl (lv_at hl 5 rfl) ?_
  refine lv_iload hx hb dlaw_246 (lv_at hl 1 rfl) ?_
  refine lv_iconst (v := nI 5) hx hb dlaw_248 xk_i5 ?_
  refine xn_add hx hb dlaw_249 ?_
  refine xs_scr hx hb hX hbl hbA w.2.2.2.1 ((6 * j) + 5) (by omega) (by omega) dlaw_250 ?_
  refine xd_callV C w hz hml hl.1 xk_LW_82 (hD I ad hJ) (xJ20 hJ) rfl rfl rfl rfl (Nat.le_of_ble_eq_true rfl) ⟨by omega, by omega⟩ ⟨by omega, by omega⟩ dlaw_251 (fun H locs w => ?_)
  refine W.eq (g2 := F0 m 254 ls []) rfl ?_
  refine lv_aload_n hx hb dlaw_254 rfl (lv_at hl 3 rfl) ?_
  refine xd_callV C w hz hml hl.1 xk_LW_75 (cMD_thrown l D cA tz I ad σ2 hJ) (xJ20 hJ) rfl rfl rfl rfl (Nat.le_of_ble_eq_true rfl) ⟨by omega, by omega⟩ ⟨by omega, by omega⟩ dlaw_255 (fun H locs w => ?_)
  refine W.eq (g2 := F0 m 258 ls [.int (σ2 20 0 0)]) rfl ?_
  refine lv_iload hx hb dlaw_258 (lv_at hl 0 rfl) ?_
  refine lv_icmp_eq hx hb dlaw_260 rfl (fun _ => ?_) (fun hq => absurd hf hq)
  refine lv_goto hx hb dlaw_265 rfl ?_
  exact hk I ad σ2 I1 T G1 H locs ls _ _ ⟨hI, hJ, h40, (by rw [hn2, hg2]; exact hL), hR2, by omega, by omega, by omega, by omega, w⟩ (lv_sub hl [1, 2, 3, 4, 5] rfl)
set_option maxRecDepth 100000 in
set_option maxHeartbeats 4000000 in
theorem la_ready (Cx : lx_C p l R s m args c tz A b L xs) (h : lx_K D cA tz A s j I ad σ I0 T G H locs c0 d0) (hj : 6 * j + 6 ≤ L) (hl : lv_has ls 7 [(4, .int (nI (6 * j))), (3, .ref (ad 40 0)), (2, .ref (ad 20 0)), (1, .ref (ad 5 0)), (0, .ref b)]) (hk : ∀ (I : List (Nat × Nat)) (ad : Nat → Nat → Nat) (σ : xMem) (I0 T G : Nat) (H : Heap) (locs : List Loc) (ls : Array Slot) (c0 d0 : Nat), lx_K D cA tz A s (j + 1) I ad σ I0 T G H locs c0 d0 → lv_has ls 7 [(4, .int (nI (6 * j))), (3, .ref (ad 40 0)), (2, .ref (ad 20 0)), (1, .ref (ad 5 0)), (0, .ref b)] → W p l e R s m args below meth c H locs c0 d0 Q (F0 m 1046 ls [])) : W p l e R s m args below meth c H locs c0 d0 Q (F0 m 268 ls []) := by
  obtain ⟨C, hml, htr, hX, hbl, hbA, hL3, hz, hR1, hR2c, hR3, hR4⟩ := Cx
  obtain ⟨hI, hJ, h40, hL, hR, hI0, hT, hc0, hd0, w⟩ := h
  obtain ⟨hx, hb, hown, hts⟩ := id C
  have hn0 := lx_n hR
  obtain ⟨k, σ1, σ2, I1, G1, hH, hD, hk3, hf, hR2, hI1, hn2, hg2⟩ := st_ready l htr D cA tz I ad σ hI h40 hL hR (xs (6 * j + 1)) (xbit (xs (6 * j + 2))) (xbit_or _)
  have hn9 := lx_n hR2
  refine lv_aload_n hx hb dlaw_268 rfl (lv_at hl 3 rfl) ?_
  refine lv_aload_n hx hb dlaw_269 rfl (lv_at hl 4 rfl) ?_
  refine lv_iload hx hb dlaw_270 (lv_at hl 0 rfl) ?_
  refine lv_iconst (v := nI 1) hx hb dlaw_272 xk_i1 ?_
  refine xn_add hx hb dlaw_273 ?_
  refine xs_scr hx hb hX hbl hbA w.2.2.2.1 ((6 * j) + 1) (by omega) (by omega) dlaw_274 ?_
  refine lv_aload_n hx hb dlaw_275 rfl (lv_at hl 4 rfl) ?_
  refine lv_iload hx hb dlaw_276 (lv_at hl 0 rfl) ?_
  refine lv_iconst (v := nI 2) hx hb dlaw_278 xk_i2 ?_
  refine xn_add hx hb dlaw_279 ?_
  refine xs_scr hx hb hX hbl hbA w.2.2.2.1 ((6 * j) + 2) (by omega) (by omega) dlaw_280 ?_
  refine xs_bit hx hb dlaw_281 dlaw_284 dlaw_285 dlaw_288 rfl rfl ?_
  refine xh_call C w hz hml hl.1 xl_LW_ready xs_LW_ready xk_nLW xq_LW_ready ⟨by decide, by decide, rfl⟩ hH rfl rfl (Nat.le_of_ble_eq_true rfl) ⟨by omega, by omega⟩ ⟨by omega, by omega⟩ dlaw_289 (fun I ad H locs hE hL w => ?_)
  have e5 := hE.2 5 0 (xI5 hI)
  have e20 := hE.2 20 0 (xJ20 hJ)
  have e40 := hE.2 40 0 h40
  have hI := hE.I hI
  have hJ := hE.J hJ
  have h40 := hE.1 _ h40
  have hl : lv_has ls 7 [(4, .int (nI (6 * j))), (3, .ref (ad 40 0)), (2, .ref (ad 20 0)), (1, .ref (ad 5 0)), (0, .ref b)] := by rw [e5, e20, e40]; exact hl
  refine W.eq (g2 := F0 m 292 ls [.int (nI k)]) rfl ?_
  refine lv_istore (lv' := [(5, .int (nI k)), (4, .int (nI (6 * j))), (3, .ref (ad 40 0)), (2, .ref (ad 20 0)), (1, .ref (ad 5 0)), (0, .ref b)]) hx hb dlaw_292 hl (by decide) rfl (fun ls hl => ?_)
  refine lv_aload_n hx hb dlaw_294 rfl (lv_at hl 3 rfl) ?_
  refine lv_aload_n hx hb dlaw_295 rfl (lv_at hl 5 rfl) ?_
  refine lv_iload hx hb dlaw_296 (lv_at hl 1 rfl) ?_
  refine lv_iconst (v := nI 1) hx hb dlaw_298 xk_i1 ?_
  refine xn_add hx hb dlaw_299 ?_
  refine xs_scr hx hb hX hbl hbA w.2.2.2.1 ((6 * j) + 1) (by omega) (by omega) dlaw_300 ?_
  refine lv_aload_n hx hb dlaw_301 rfl (lv_at hl 5 rfl) ?_
  refine lv_iload hx hb dlaw_302 (lv_at hl 1 rfl) ?_
  refine lv_iconst (v := nI 2) hx hb dlaw_304 xk_i2 ?_
  refine xn_add hx hb dlaw_305 ?_
  refine xs_scr hx hb hX hbl hbA w.2.2.2.1 ((6 * j) + 2) (by omega) (by omega) dlaw_306 ?_
  refine xs_bit hx hb dlaw_307 dlaw_310 dlaw_311 dlaw_314 rfl rfl ?_
  refine xd_callV C w hz hml hl.1 xk_LW_86 (hD I ad hJ) (xJ20 hJ) rfl rfl rfl rfl (Nat.le_of_ble_eq_true rfl) ⟨by omega, by omega⟩ ⟨by omega, by omega⟩ dlaw_315 (fun H locs w => ?_)
  refine W.eq (g2 := F0 m 318 ls []) rfl ?_
  refine lv_aload_n hx hb dlaw_318 rfl (lv_at hl 3 rfl) ?_
  refine xd_callV C w hz hml hl.1 xk_LW_75 (cMD_thrown l D cA tz I ad σ2 hJ) (xJ20 hJ) rfl rfl rfl rfl (Nat.le_of_ble_eq_true rfl) ⟨by omega, by omega⟩ ⟨by omega, by omega⟩ dlaw_319 (fun H locs w => ?_)
  refine W.eq (g2 := F0 m 322 ls [.int (σ2 20 0 0)]) rfl ?_
  refine lv_iload hx hb dlaw_322 (lv_at hl 0 rfl) ?_
  refine lv_icmp_eq hx hb dlaw_324 rfl (fun _ => ?_) (fun hq => absurd hf hq)
  refine lv_goto hx hb dlaw_329 rfl ?_
  exact hk I ad σ2 I1 T G1 H locs ls _ _ ⟨hI, hJ, h40, (by rw [hn2, hg2]; exact hL), hR2, by omega, by omega, by omega, by omega, w⟩ (lv_sub hl [1, 2, 3, 4, 5] rfl)
set_option maxRecDepth 100000 in
set_option maxHeartbeats 4000000 in
theorem la_cycle (Cx : lx_C p l R s m args c tz A b L xs) (h : lx_K D cA tz A s j I ad σ I0 T G H locs c0 d0) (hj : 6 * j + 6 ≤ L) (hl : lv_has ls 7 [(4, .int (nI (6 * j))), (3, .ref (ad 40 0)), (2, .ref (ad 20 0)), (1, .ref (ad 5 0)), (0, .ref b)]) (hk : ∀ (I : List (Nat × Nat)) (ad : Nat → Nat → Nat) (σ : xMem) (I0 T G : Nat) (H : Heap) (locs : List Loc) (ls : Array Slot) (c0 d0 : Nat), lx_K D cA tz A s (j + 1) I ad σ I0 T G H locs c0 d0 → lv_has ls 7 [(4, .int (nI (6 * j))), (3, .ref (ad 40 0)), (2, .ref (ad 20 0)), (1, .ref (ad 5 0)), (0, .ref b)] → W p l e R s m args below meth c H locs c0 d0 Q (F0 m 1046 ls [])) : W p l e R s m args below meth c H locs c0 d0 Q (F0 m 332 ls []) := by
  obtain ⟨C, hml, htr, hX, hbl, hbA, hL3, hz, hR1, hR2c, hR3, hR4⟩ := Cx
  obtain ⟨hI, hJ, h40, hL, hR, hI0, hT, hc0, hd0, w⟩ := h
  obtain ⟨hx, hb, hown, hts⟩ := id C
  have hn0 := lx_n hR
  obtain ⟨σ1, σ2, G1, v, hA, hD, hR2, hn2, hg2, hle⟩ := st_cycle l D cA tz I ad σ hI hL hR (by omega)
  have hn9 := lx_n hR2
  refine lv_aload_n hx hb dlaw_332 rfl (lv_at hl 3 rfl) ?_
  refine xa_callV C w hz (xZL tz) hml hl.1 xk_LW_87 hA (xI5 hI) rfl rfl rfl rfl (Nat.le_of_ble_eq_true rfl) ⟨by omega, by omega⟩ ⟨by omega, by omega⟩ dlaw_333 (fun I ad H locs hE hL w => ?_)
  have e5 := hE.2 5 0 (xI5 hI)
  have e20 := hE.2 20 0 (xJ20 hJ)
  have e40 := hE.2 40 0 h40
  have hI := hE.I hI
  have hJ := hE.J hJ
  have h40 := hE.1 _ h40
  have hl : lv_has ls 7 [(4, .int (nI (6 * j))), (3, .ref (ad 40 0)), (2, .ref (ad 20 0)), (1, .ref (ad 5 0)), (0, .ref b)] := by rw [e5, e20, e40]; exact hl
  refine W.eq (g2 := F0 m 336 ls [.int v]) rfl ?_
  refine lv_aload_n hx hb dlaw_336 rfl (lv_at hl 2 rfl) ?_
  refine xd_callV C w hz hml hl.1 xk_LW_90 (hD I ad hJ) (xJ20 hJ) rfl rfl rfl rfl (Nat.le_of_ble_eq_true rfl) ⟨by omega, by omega⟩ ⟨by omega, by omega⟩ dlaw_337 (fun H locs w => ?_)
  refine W.eq (g2 := F0 m 340 ls [.int v, .int v]) rfl ?_
  refine lv_icmp_eq hx hb dlaw_340 rfl (fun _ => ?_) (fun hq => absurd rfl hq)
  exact hk I ad σ2 I0 (T + 1) G1 H locs ls _ _ ⟨hI, hJ, h40, (by rw [hn2, hg2]; exact hL), hR2, by omega, by omega, by omega, by omega, w⟩ (lv_sub hl [0, 1, 2, 3, 4] rfl)
set_option maxRecDepth 100000 in
set_option maxHeartbeats 4000000 in
theorem la_cycles (Cx : lx_C p l R s m args c tz A b L xs) (h : lx_K D cA tz A s j I ad σ I0 T G H locs c0 d0) (hj : 6 * j + 6 ≤ L) (hl : lv_has ls 7 [(4, .int (nI (6 * j))), (3, .ref (ad 40 0)), (2, .ref (ad 20 0)), (1, .ref (ad 5 0)), (0, .ref b)]) (hk : ∀ (I : List (Nat × Nat)) (ad : Nat → Nat → Nat) (σ : xMem) (I0 T G : Nat) (H : Heap) (locs : List Loc) (ls : Array Slot) (c0 d0 : Nat), lx_K D cA tz A s (j + 1) I ad σ I0 T G H locs c0 d0 → lv_has ls 7 [(4, .int (nI (6 * j))), (3, .ref (ad 40 0)), (2, .ref (ad 20 0)), (1, .ref (ad 5 0)), (0, .ref b)] → W p l e R s m args below meth c H locs c0 d0 Q (F0 m 1046 ls [])) : W p l e R s m args below meth c H locs c0 d0 Q (F0 m 345 ls []) := by
  obtain ⟨C, hml, htr, hX, hbl, hbA, hL3, hz, hR1, hR2c, hR3, hR4⟩ := Cx
  obtain ⟨hI, hJ, h40, hL, hR, hI0, hT, hc0, hd0, w⟩ := h
  obtain ⟨hx, hb, hown, hts⟩ := id C
  have hn0 := lx_n hR
  obtain ⟨k, σ1, σ2, T1, G1, mc, ms, v, hH, hD, hk3, hf, hw, hR2, hT1, hn2, hg2, hle, hmc, hms⟩ := st_cycles l htr D cA tz I ad σ hI h40 hL hR (xs (6 * j + 1)) (by omega)
  have hn9 := lx_n hR2
  refine lv_aload_n hx hb dlaw_345 rfl (lv_at hl 3 rfl) ?_
  refine lv_aload_n hx hb dlaw_346 rfl (lv_at hl 4 rfl) ?_
  refine lv_iload hx hb dlaw_347 (lv_at hl 0 rfl) ?_
  refine lv_iconst (v := nI 1) hx hb dlaw_349 xk_i1 ?_
  refine xn_add hx hb dlaw_350 ?_
  refine xs_scr hx hb hX hbl hbA w.2.2.2.1 ((6 * j) + 1) (by omega) (by omega) dlaw_351 ?_
  refine lv_aload_n hx hb dlaw_352 rfl (lv_at hl 1 rfl) ?_
  refine xh_call C w hz hml hl.1 xl_LW_cycles xs_LW_cycles xk_nLW xq_LW_cycles ⟨by decide, by decide, rfl⟩ hH rfl rfl (Nat.le_of_ble_eq_true rfl) ⟨by omega, by omega⟩ ⟨by omega, by omega⟩ dlaw_353 (fun I ad H locs hE hL w => ?_)
  have e5 := hE.2 5 0 (xI5 hI)
  have e20 := hE.2 20 0 (xJ20 hJ)
  have e40 := hE.2 40 0 h40
  have hI := hE.I hI
  have hJ := hE.J hJ
  have h40 := hE.1 _ h40
  have hl : lv_has ls 7 [(4, .int (nI (6 * j))), (3, .ref (ad 40 0)), (2, .ref (ad 20 0)), (1, .ref (ad 5 0)), (0, .ref b)] := by rw [e5, e20, e40]; exact hl
  refine W.eq (g2 := F0 m 356 ls [.int (nI k)]) rfl ?_
  refine lv_istore (lv' := [(5, .int (nI k)), (4, .int (nI (6 * j))), (3, .ref (ad 40 0)), (2, .ref (ad 20 0)), (1, .ref (ad 5 0)), (0, .ref b)]) hx hb dlaw_356 hl (by decide) rfl (fun ls hl => ?_)
  refine lv_aload_n hx hb dlaw_358 rfl (lv_at hl 3 rfl) ?_
  refine lv_aload_n hx hb dlaw_359 rfl (lv_at hl 5 rfl) ?_
  refine lv_iload hx hb dlaw_360 (lv_at hl 1 rfl) ?_
  refine lv_iconst (v := nI 1) hx hb dlaw_362 xk_i1 ?_
  refine xn_add hx hb dlaw_363 ?_
  refine xs_scr hx hb hX hbl hbA w.2.2.2.1 ((6 * j) + 1) (by omega) (by omega) dlaw_364 ?_
  refine xd_callV C w hz hml hl.1 xk_LW_94 (hD I ad hJ) (xJ20 hJ) rfl rfl rfl rfl (Nat.le_of_ble_eq_true rfl) ⟨by omega, by omega⟩ ⟨by omega, by omega⟩ dlaw_365 (fun H locs w => ?_)
  refine W.eq (g2 := F0 m 368 ls [.int v]) rfl ?_
  refine lv_istore (lv' := [(6, .int v), (5, .int (nI k)), (4, .int (nI (6 * j))), (3, .ref (ad 40 0)), (2, .ref (ad 20 0)), (1, .ref (ad 5 0)), (0, .ref b)]) hx hb dlaw_368 hl (by decide) rfl (fun ls hl => ?_)
  refine lv_aload_n hx hb dlaw_370 rfl (lv_at hl 4 rfl) ?_
  refine xd_callV C w hz hml hl.1 xk_LW_75 (cMD_thrown l D cA tz I ad σ2 hJ) (xJ20 hJ) rfl rfl rfl rfl (Nat.le_of_ble_eq_true rfl) ⟨by omega, by omega⟩ ⟨by omega, by omega⟩ dlaw_371 (fun H locs w => ?_)
  refine W.eq (g2 := F0 m 374 ls [.int (σ2 20 0 0)]) rfl ?_
  refine lv_iload hx hb dlaw_374 (lv_at hl 1 rfl) ?_
  refine lv_icmp_eq hx hb dlaw_376 rfl (fun _ => ?_) (fun hq => absurd hf hq)
  refine lv_iload hx hb dlaw_381 (lv_at hl 1 rfl) ?_
  refine lv_if_ne hx hb dlaw_383 rfl (fun _ => ?_) (fun hq => ?_)
  · skip
    refine lv_goto hx hb dlaw_398 rfl ?_
    exact hk I ad σ2 I0 T1 G1 H locs ls _ _ ⟨hI, hJ, h40, (by rw [hn2, hg2]; exact hL), hR2, by omega, by omega, by omega, by omega, w⟩ (lv_sub hl [2, 3, 4, 5, 6] rfl)
  · skip
    have hk0 : k = 0 := nI_inj (by omega) (by decide) (hq.trans nI_0.symm)
    have hw := hw hk0
    refine lv_aload_n hx hb dlaw_386 rfl (lv_at hl 3 rfl) ?_
    refine lv_iconst (v := nI 0) hx hb dlaw_387 xk_i0 ?_
    refine xs_lald C w h40 dlaw_388 ?_
    refine lv_iload hx hb dlaw_389 (lv_at hl 0 rfl) ?_
    refine lv_i2l hx hb dlaw_391 rfl ?_
    refine W.eq (g2 := F0 m 392 ls [.long v.toInt64, .long v.toInt64]) (by rw [hw]) ?_
    refine lv_lcmpE hx hb dlaw_392 ?_
    refine lv_if_eq hx hb dlaw_393 rfl (fun _ => ?_) (fun hq => absurd nI_0 hq)
    refine lv_goto hx hb dlaw_398 rfl ?_
    exact hk I ad σ2 I0 T1 G1 H locs ls _ _ ⟨hI, hJ, h40, (by rw [hn2, hg2]; exact hL), hR2, by omega, by omega, by omega, by omega, w⟩ (lv_sub hl [2, 3, 4, 5, 6] rfl)
set_option maxRecDepth 100000 in
set_option maxHeartbeats 4000000 in
theorem la_time (Cx : lx_C p l R s m args c tz A b L xs) (h : lx_K D cA tz A s j I ad σ I0 T G H locs c0 d0) (hj : 6 * j + 6 ≤ L) (hl : lv_has ls 7 [(4, .int (nI (6 * j))), (3, .ref (ad 40 0)), (2, .ref (ad 20 0)), (1, .ref (ad 5 0)), (0, .ref b)]) (hk : ∀ (I : List (Nat × Nat)) (ad : Nat → Nat → Nat) (σ : xMem) (I0 T G : Nat) (H : Heap) (locs : List Loc) (ls : Array Slot) (c0 d0 : Nat), lx_K D cA tz A s (j + 1) I ad σ I0 T G H locs c0 d0 → lv_has ls 7 [(4, .int (nI (6 * j))), (3, .ref (ad 40 0)), (2, .ref (ad 20 0)), (1, .ref (ad 5 0)), (0, .ref b)] → W p l e R s m args below meth c H locs c0 d0 Q (F0 m 1046 ls [])) : W p l e R s m args below meth c H locs c0 d0 Q (F0 m 401 ls []) := by
  obtain ⟨C, hml, htr, hX, hbl, hbA, hL3, hz, hR1, hR2c, hR3, hR4⟩ := Cx
  obtain ⟨hI, hJ, h40, hL, hR, hI0, hT, hc0, hd0, w⟩ := h
  obtain ⟨hx, hb, hown, hts⟩ := id C
  have hn0 := lx_n hR
  have hR2 := Rel_f2 (x := nI 0) hR
  have hf : σ 5 0 6 = σ 20 0 20 := hR.rg.tc.trans hR.rg.tm.symm
  have hn2 : xf_n (xu3 σ 20 0 0 (nI 0)) = xf_n σ := rfl
  have hg2 : xf_g (xu3 σ 20 0 0 (nI 0)) = xf_g σ := rfl
  refine lv_aload_n hx hb dlaw_401 rfl (lv_at hl 3 rfl) ?_
  refine xd_callV C w hz hml hl.1 xk_LW_95 (cSF_time l D cA tz I ad σ hI) (xI5 hI) rfl rfl rfl rfl (Nat.le_of_ble_eq_true rfl) ⟨by omega, by omega⟩ ⟨by omega, by omega⟩ dlaw_402 (fun H locs w => ?_)
  refine W.eq (g2 := F0 m 405 ls [.int (σ 5 0 6)]) rfl ?_
  refine lv_aload_n hx hb dlaw_405 rfl (lv_at hl 2 rfl) ?_
  refine xd_callV C w hz hml hl.1 xk_LW_98 (cMD_time l D cA tz I ad σ hJ) (xJ20 hJ) rfl rfl rfl rfl (Nat.le_of_ble_eq_true rfl) ⟨by omega, by omega⟩ ⟨by omega, by omega⟩ dlaw_406 (fun H locs w => ?_)
  refine W.eq (g2 := F0 m 409 ls [.int (σ 20 0 20), .int (σ 5 0 6)]) rfl ?_
  refine lv_icmp_eq hx hb dlaw_409 rfl (fun _ => ?_) (fun hq => absurd hf hq)
  exact hk I ad (xu3 σ 20 0 0 (nI 0)) I0 T G H locs ls _ _ ⟨hI, hJ, h40, (by rw [hn2, hg2]; exact hL), hR2, by omega, by omega, by omega, by omega, w⟩ (lv_sub hl [0, 1, 2, 3, 4] rfl)
set_option maxRecDepth 100000 in
set_option maxHeartbeats 4000000 in
theorem la_state (Cx : lx_C p l R s m args c tz A b L xs) (h : lx_K D cA tz A s j I ad σ I0 T G H locs c0 d0) (hj : 6 * j + 6 ≤ L) (hl : lv_has ls 7 [(4, .int (nI (6 * j))), (3, .ref (ad 40 0)), (2, .ref (ad 20 0)), (1, .ref (ad 5 0)), (0, .ref b)]) (hk : ∀ (I : List (Nat × Nat)) (ad : Nat → Nat → Nat) (σ : xMem) (I0 T G : Nat) (H : Heap) (locs : List Loc) (ls : Array Slot) (c0 d0 : Nat), lx_K D cA tz A s (j + 1) I ad σ I0 T G H locs c0 d0 → lv_has ls 7 [(4, .int (nI (6 * j))), (3, .ref (ad 40 0)), (2, .ref (ad 20 0)), (1, .ref (ad 5 0)), (0, .ref b)] → W p l e R s m args below meth c H locs c0 d0 Q (F0 m 1046 ls [])) : W p l e R s m args below meth c H locs c0 d0 Q (F0 m 414 ls []) := by
  obtain ⟨C, hml, htr, hX, hbl, hbA, hL3, hz, hR1, hR2c, hR3, hR4⟩ := Cx
  obtain ⟨hI, hJ, h40, hL, hR, hI0, hT, hc0, hd0, w⟩ := h
  obtain ⟨hx, hb, hown, hts⟩ := id C
  have hn0 := lx_n hR
  obtain ⟨k, σ1, σ2, I1, G1, v, hH, hD, hk3, hf, hw, hR2, hI1, hn2, hg2⟩ := st_state l htr D cA tz I ad σ hI h40 hL hR (xs (6 * j + 1)) (xs (6 * j + 2))
  have hn9 := lx_n hR2
  refine lv_aload_n hx hb dlaw_414 rfl (lv_at hl 3 rfl) ?_
  refine lv_aload_n hx hb dlaw_415 rfl (lv_at hl 4 rfl) ?_
  refine lv_iload hx hb dlaw_416 (lv_at hl 0 rfl) ?_
  refine lv_iconst (v := nI 1) hx hb dlaw_418 xk_i1 ?_
  refine xn_add hx hb dlaw_419 ?_
  refine xs_scr hx hb hX hbl hbA w.2.2.2.1 ((6 * j) + 1) (by omega) (by omega) dlaw_420 ?_
  refine lv_aload_n hx hb dlaw_421 rfl (lv_at hl 4 rfl) ?_
  refine lv_iload hx hb dlaw_422 (lv_at hl 0 rfl) ?_
  refine lv_iconst (v := nI 2) hx hb dlaw_424 xk_i2 ?_
  refine xn_add hx hb dlaw_425 ?_
  refine xs_scr hx hb hX hbl hbA w.2.2.2.1 ((6 * j) + 2) (by omega) (by omega) dlaw_426 ?_
  refine lv_aload_n hx hb dlaw_427 rfl (lv_at hl 1 rfl) ?_
  refine xh_call C w hz hml hl.1 xl_LW_state xs_LW_state xk_nLW xq_LW_state ⟨by decide, by decide, rfl⟩ hH rfl rfl (Nat.le_of_ble_eq_true rfl) ⟨by omega, by omega⟩ ⟨by omega, by omega⟩ dlaw_428 (fun I ad H locs hE hL w => ?_)
  have e5 := hE.2 5 0 (xI5 hI)
  have e20 := hE.2 20 0 (xJ20 hJ)
  have e40 := hE.2 40 0 h40
  have hI := hE.I hI
  have hJ := hE.J hJ
  have h40 := hE.1 _ h40
  have hl : lv_has ls 7 [(4, .int (nI (6 * j))), (3, .ref (ad 40 0)), (2, .ref (ad 20 0)), (1, .ref (ad 5 0)), (0, .ref b)] := by rw [e5, e20, e40]; exact hl
  refine W.eq (g2 := F0 m 431 ls [.int (nI k)]) rfl ?_
  refine lv_istore (lv' := [(5, .int (nI k)), (4, .int (nI (6 * j))), (3, .ref (ad 40 0)), (2, .ref (ad 20 0)), (1, .ref (ad 5 0)), (0, .ref b)]) hx hb dlaw_431 hl (by decide) rfl (fun ls hl => ?_)
  refine lv_aload_n hx hb dlaw_433 rfl (lv_at hl 3 rfl) ?_
  refine lv_aload_n hx hb dlaw_434 rfl (lv_at hl 5 rfl) ?_
  refine lv_iload hx hb dlaw_435 (lv_at hl 1 rfl) ?_
  refine lv_iconst (v := nI 1) hx hb dlaw_437 xk_i1 ?_
  refine xn_add hx hb dlaw_438 ?_
  refine xs_scr hx hb hX hbl hbA w.2.2.2.1 ((6 * j) + 1) (by omega) (by omega) dlaw_439 ?_
  refine lv_aload_n hx hb dlaw_440 rfl (lv_at hl 5 rfl) ?_
  refine lv_iload hx hb dlaw_441 (lv_at hl 1 rfl) ?_
  refine lv_iconst (v := nI 2) hx hb dlaw_443 xk_i2 ?_
  refine xn_add hx hb dlaw_444 ?_
  refine xs_scr hx hb hX hbl hbA w.2.2.2.1 ((6 * j) + 2) (by omega) (by omega) dlaw_445 ?_
  refine xd_callV C w hz hml hl.1 xk_LW_102 (hD I ad hJ) (xJ20 hJ) rfl rfl rfl rfl (Nat.le_of_ble_eq_true rfl) ⟨by omega, by omega⟩ ⟨by omega, by omega⟩ dlaw_446 (fun H locs w => ?_)
  refine W.eq (g2 := F0 m 449 ls [.int v]) rfl ?_
  refine lv_istore (lv' := [(6, .int v), (5, .int (nI k)), (4, .int (nI (6 * j))), (3, .ref (ad 40 0)), (2, .ref (ad 20 0)), (1, .ref (ad 5 0)), (0, .ref b)]) hx hb dlaw_449 hl (by decide) rfl (fun ls hl => ?_)
  refine lv_aload_n hx hb dlaw_451 rfl (lv_at hl 4 rfl) ?_
  refine xd_callV C w hz hml hl.1 xk_LW_75 (cMD_thrown l D cA tz I ad σ2 hJ) (xJ20 hJ) rfl rfl rfl rfl (Nat.le_of_ble_eq_true rfl) ⟨by omega, by omega⟩ ⟨by omega, by omega⟩ dlaw_452 (fun H locs w => ?_)
  refine W.eq (g2 := F0 m 455 ls [.int (σ2 20 0 0)]) rfl ?_
  refine lv_iload hx hb dlaw_455 (lv_at hl 1 rfl) ?_
  refine lv_icmp_eq hx hb dlaw_457 rfl (fun _ => ?_) (fun hq => absurd hf hq)
  refine lv_iload hx hb dlaw_462 (lv_at hl 1 rfl) ?_
  refine lv_if_ne hx hb dlaw_464 rfl (fun _ => ?_) (fun hq => ?_)
  · skip
    refine lv_goto hx hb dlaw_479 rfl ?_
    exact hk I ad σ2 I1 T G1 H locs ls _ _ ⟨hI, hJ, h40, (by rw [hn2, hg2]; exact hL), hR2, by omega, by omega, by omega, by omega, w⟩ (lv_sub hl [2, 3, 4, 5, 6] rfl)
  · skip
    have hk0 : k = 0 := nI_inj (by omega) (by decide) (hq.trans nI_0.symm)
    have hw := hw hk0
    refine lv_aload_n hx hb dlaw_467 rfl (lv_at hl 3 rfl) ?_
    refine lv_iconst (v := nI 0) hx hb dlaw_468 xk_i0 ?_
    refine xs_lald C w h40 dlaw_469 ?_
    refine lv_iload hx hb dlaw_470 (lv_at hl 0 rfl) ?_
    refine lv_i2l hx hb dlaw_472 rfl ?_
    refine W.eq (g2 := F0 m 473 ls [.long v.toInt64, .long v.toInt64]) (by rw [hw]) ?_
    refine lv_lcmpE hx hb dlaw_473 ?_
    refine lv_if_eq hx hb dlaw_474 rfl (fun _ => ?_) (fun hq => absurd nI_0 hq)
    refine lv_goto hx hb dlaw_479 rfl ?_
    exact hk I ad σ2 I1 T G1 H locs ls _ _ ⟨hI, hJ, h40, (by rw [hn2, hg2]; exact hL), hR2, by omega, by omega, by omega, by omega, w⟩ (lv_sub hl [2, 3, 4, 5, 6] rfl)
set_option maxRecDepth 100000 in
set_option maxHeartbeats 4000000 in
theorem la_word (Cx : lx_C p l R s m args c tz A b L xs) (h : lx_K D cA tz A s j I ad σ I0 T G H locs c0 d0) (hj : 6 * j + 6 ≤ L) (hl : lv_has ls 7 [(4, .int (nI (6 * j))), (3, .ref (ad 40 0)), (2, .ref (ad 20 0)), (1, .ref (ad 5 0)), (0, .ref b)]) (hk : ∀ (I : List (Nat × Nat)) (ad : Nat → Nat → Nat) (σ : xMem) (I0 T G : Nat) (H : Heap) (locs : List Loc) (ls : Array Slot) (c0 d0 : Nat), lx_K D cA tz A s (j + 1) I ad σ I0 T G H locs c0 d0 → lv_has ls 7 [(4, .int (nI (6 * j))), (3, .ref (ad 40 0)), (2, .ref (ad 20 0)), (1, .ref (ad 5 0)), (0, .ref b)] → W p l e R s m args below meth c H locs c0 d0 Q (F0 m 1046 ls [])) : W p l e R s m args below meth c H locs c0 d0 Q (F0 m 482 ls []) := by
  obtain ⟨C, hml, htr, hX, hbl, hbA, hL3, hz, hR1, hR2c, hR3, hR4⟩ := Cx
  obtain ⟨hI, hJ, h40, hL, hR, hI0, hT, hc0, hd0, w⟩ := h
  obtain ⟨hx, hb, hown, hts⟩ := id C
  have hn0 := lx_n hR
  obtain ⟨k, σ1, σ2, I1, G1, v, hH, hD, hk3, hf, hw, hR2, hI1, hn2, hg2⟩ := st_word l htr D cA tz I ad σ hI h40 hL hR (xs (6 * j + 1)) (xs (6 * j + 2)) (xs (6 * j + 3))
  have hn9 := lx_n hR2
  refine lv_aload_n hx hb dlaw_482 rfl (lv_at hl 3 rfl) ?_
  refine lv_aload_n hx hb dlaw_483 rfl (lv_at hl 4 rfl) ?_
  refine lv_iload hx hb dlaw_484 (lv_at hl 0 rfl) ?_
  refine lv_iconst (v := nI 1) hx hb dlaw_486 xk_i1 ?_
  refine xn_add hx hb dlaw_487 ?_
  refine xs_scr hx hb hX hbl hbA w.2.2.2.1 ((6 * j) + 1) (by omega) (by omega) dlaw_488 ?_
  refine lv_aload_n hx hb dlaw_489 rfl (lv_at hl 4 rfl) ?_
  refine lv_iload hx hb dlaw_490 (lv_at hl 0 rfl) ?_
  refine lv_iconst (v := nI 2) hx hb dlaw_492 xk_i2 ?_
  refine xn_add hx hb dlaw_493 ?_
  refine xs_scr hx hb hX hbl hbA w.2.2.2.1 ((6 * j) + 2) (by omega) (by omega) dlaw_494 ?_
  refine lv_aload_n hx hb dlaw_495 rfl (lv_at hl 4 rfl) ?_
  refine lv_iload hx hb dlaw_496 (lv_at hl 0 rfl) ?_
  refine lv_iconst (v := nI 3) hx hb dlaw_498 xk_i3 ?_
  refine xn_add hx hb dlaw_499 ?_
  refine xs_scr hx hb hX hbl hbA w.2.2.2.1 ((6 * j) + 3) (by omega) (by omega) dlaw_500 ?_
  refine lv_aload_n hx hb dlaw_501 rfl (lv_at hl 1 rfl) ?_
  refine xh_call C w hz hml hl.1 xl_LW_word xs_LW_word xk_nLW xq_LW_word ⟨by decide, by decide, rfl⟩ hH rfl rfl (Nat.le_of_ble_eq_true rfl) ⟨by omega, by omega⟩ ⟨by omega, by omega⟩ dlaw_502 (fun I ad H locs hE hL w => ?_)
  have e5 := hE.2 5 0 (xI5 hI)
  have e20 := hE.2 20 0 (xJ20 hJ)
  have e40 := hE.2 40 0 h40
  have hI := hE.I hI
  have hJ := hE.J hJ
  have h40 := hE.1 _ h40
  have hl : lv_has ls 7 [(4, .int (nI (6 * j))), (3, .ref (ad 40 0)), (2, .ref (ad 20 0)), (1, .ref (ad 5 0)), (0, .ref b)] := by rw [e5, e20, e40]; exact hl
  refine W.eq (g2 := F0 m 505 ls [.int (nI k)]) rfl ?_
  refine lv_istore (lv' := [(5, .int (nI k)), (4, .int (nI (6 * j))), (3, .ref (ad 40 0)), (2, .ref (ad 20 0)), (1, .ref (ad 5 0)), (0, .ref b)]) hx hb dlaw_505 hl (by decide) rfl (fun ls hl => ?_)
  refine lv_aload_n hx hb dlaw_507 rfl (lv_at hl 3 rfl) ?_
  refine lv_aload_n hx hb dlaw_508 rfl (lv_at hl 5 rfl) ?_
  refine lv_iload hx hb dlaw_509 (lv_at hl 1 rfl) ?_
  refine lv_iconst (v := nI 1) hx hb dlaw_511 xk_i1 ?_
  refine xn_add hx hb dlaw_512 ?_
  refine xs_scr hx hb hX hbl hbA w.2.2.2.1 ((6 * j) + 1) (by omega) (by omega) dlaw_513 ?_
  refine lv_aload_n hx hb dlaw_514 rfl (lv_at hl 5 rfl) ?_
  refine lv_iload hx hb dlaw_515 (lv_at hl 1 rfl) ?_
  refine lv_iconst (v := nI 2) hx hb dlaw_517 xk_i2 ?_
  refine xn_add hx hb dlaw_518 ?_
  refine xs_scr hx hb hX hbl hbA w.2.2.2.1 ((6 * j) + 2) (by omega) (by omega) dlaw_519 ?_
  refine lv_aload_n hx hb dlaw_520 rfl (lv_at hl 5 rfl) ?_
  refine lv_iload hx hb dlaw_521 (lv_at hl 1 rfl) ?_
  refine lv_iconst (v := nI 3) hx hb dlaw_523 xk_i3 ?_
  refine xn_add hx hb dlaw_524 ?_
  refine xs_scr hx hb hX hbl hbA w.2.2.2.1 ((6 * j) + 3) (by omega) (by omega) dlaw_525 ?_
  refine xd_callV C w hz hml hl.1 xk_LW_106 (hD I ad hJ) (xJ20 hJ) rfl rfl rfl rfl (Nat.le_of_ble_eq_true rfl) ⟨by omega, by omega⟩ ⟨by omega, by omega⟩ dlaw_526 (fun H locs w => ?_)
  refine W.eq (g2 := F0 m 529 ls [.int v]) rfl ?_
  refine lv_istore (lv' := [(6, .int v), (5, .int (nI k)), (4, .int (nI (6 * j))), (3, .ref (ad 40 0)), (2, .ref (ad 20 0)), (1, .ref (ad 5 0)), (0, .ref b)]) hx hb dlaw_529 hl (by decide) rfl (fun ls hl => ?_)
  refine lv_aload_n hx hb dlaw_531 rfl (lv_at hl 4 rfl) ?_
  refine xd_callV C w hz hml hl.1 xk_LW_75 (cMD_thrown l D cA tz I ad σ2 hJ) (xJ20 hJ) rfl rfl rfl rfl (Nat.le_of_ble_eq_true rfl) ⟨by omega, by omega⟩ ⟨by omega, by omega⟩ dlaw_532 (fun H locs w => ?_)
  refine W.eq (g2 := F0 m 535 ls [.int (σ2 20 0 0)]) rfl ?_
  refine lv_iload hx hb dlaw_535 (lv_at hl 1 rfl) ?_
  refine lv_icmp_eq hx hb dlaw_537 rfl (fun _ => ?_) (fun hq => absurd hf hq)
  refine lv_iload hx hb dlaw_542 (lv_at hl 1 rfl) ?_
  refine lv_if_ne hx hb dlaw_544 rfl (fun _ => ?_) (fun hq => ?_)
  · skip
    refine lv_goto hx hb dlaw_559 rfl ?_
    exact hk I ad σ2 I1 T G1 H locs ls _ _ ⟨hI, hJ, h40, (by rw [hn2, hg2]; exact hL), hR2, by omega, by omega, by omega, by omega, w⟩ (lv_sub hl [2, 3, 4, 5, 6] rfl)
  · skip
    have hk0 : k = 0 := nI_inj (by omega) (by decide) (hq.trans nI_0.symm)
    have hw := hw hk0
    refine lv_aload_n hx hb dlaw_547 rfl (lv_at hl 3 rfl) ?_
    refine lv_iconst (v := nI 0) hx hb dlaw_548 xk_i0 ?_
    refine xs_lald C w h40 dlaw_549 ?_
    refine lv_iload hx hb dlaw_550 (lv_at hl 0 rfl) ?_
    refine lv_i2l hx hb dlaw_552 rfl ?_
    refine W.eq (g2 := F0 m 553 ls [.long v.toInt64, .long v.toInt64]) (by rw [hw]) ?_
    refine lv_lcmpE hx hb dlaw_553 ?_
    refine lv_if_eq hx hb dlaw_554 rfl (fun _ => ?_) (fun hq => absurd nI_0 hq)
    refine lv_goto hx hb dlaw_559 rfl ?_
    exact hk I ad σ2 I1 T G1 H locs ls _ _ ⟨hI, hJ, h40, (by rw [hn2, hg2]; exact hL), hR2, by omega, by omega, by omega, by omega, w⟩ (lv_sub hl [2, 3, 4, 5, 6] rfl)
end
