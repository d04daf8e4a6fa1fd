set_option maxRecDepth 100000 in
set_option maxHeartbeats 4000000 in
/-- moves -/
theorem lc_0 {p : Program} {l : Launch} {e : Env} {s : State} {m : MethodId} {below : List Frame} {meth : Method} {c : Code} {E : EE} {A : Nat → Prop} {b0 L : Nat} {xs : Nat → Int32} {a b : Nat → Nat} (K : Kx p s m #[Value.ref b0] meth c code 4 RL E A) (hX : va_X b0 L xs s s.heap) (hbl : b0 < s.heap.size) (hbA : ¬ A b0) {i : Nat} (hi : i + 6 ≤ L) (hL : L ≤ 3072) (hn : Nx p l e s m below meth c E A b0 a b i 1352) : Nx p l e s m below meth c E A b0 a b i 204 := by
  intro f g h h2 ik one wo tp tl tk ts te tn rb rz rn td wf tch tk2 tb ta tv bad H locs ls hI X hl
  obtain ⟨I, hk, htl, J⟩ := hI
  have hx := K.1
  have hb := K.2.1
  refine lv_aload_n hx hb dL_law_204 rfl (lv_at hl 2 rfl) ?_
  refine lv_aload_n hx hb dL_law_205 rfl (lv_at hl 3 rfl) ?_
  refine lv_iload_n hx hb dL_law_206 rfl (lv_at hl 0 rfl) ?_
  refine lv_iconst (v := 1) hx hb dL_law_207 (by decide) ?_
  refine lv_iadd hx hb dL_law_208 ?_
  refine k_topi (nI_add i 1) ?_
  refine va_sld hx hb hX hbl hbA X.2.2 (vp_in_nI (show i + 1 < L by omega) (by omega)) dL_law_209 ?_
  refine k_topi (congrArg xs (nI_clamp (show i + 1 < 2147483648 by omega))) ?_
  refine k_callV K X gv_L_13 (As := [.int (xs (i + 1))]) (c_X11_moves l E a f g h ik one wo tp tl tk ts te tn rb rz rn td 99999 (xs (i + 1)) I) [0, 1, 2, 3, 4, 5, 6, 7, 8, 9, 10, 11, 12, 13, 14, 15, 16, 17, 18, 19, 20, 21, 22, 23, 24, 25, 26, 27, 28, 29, 30, 31, 32, 33, 34, 35, 36, 37, 38, 39, 40, 41, 42] lawW_s0C (by decide +kernel) (fun _ => clsW_fst) 0 11 rfl rfl ⟨⟨Nat.le_of_ble_eq_true rfl, Nat.le_of_ble_eq_true rfl⟩, Nat.le_of_ble_eq_true rfl, Nat.le_of_ble_eq_true rfl⟩ rfl hl.1 (rest := []) rfl (Nat.le_of_ble_eq_true rfl) dL_law_210 (st1 := fun _ => [.int ((oMoves f td (xs (i + 1))).1)]) (fun _ => rfl) (fun _ H locs _ X => ?_)
  have X : Wd E _ _ (lawW E a b ((oMoves f td (xs (i + 1))).2.1) g h ik one wo tp tl tk ts te tn rb rz rn ((oMoves f td (xs (i + 1))).2.2) (flat f) (flat h2) wf ik td tch tp tl tk2 tb ta tv bad rb rz (flR rn)) _ _ := X.eq lawW_s0P
  refine lv_aload_n hx hb dL_law_213 rfl (lv_at hl 1 rfl) ?_
  refine lv_aload_n hx hb dL_law_214 rfl (lv_at hl 3 rfl) ?_
  refine lv_iload_n hx hb dL_law_215 rfl (lv_at hl 0 rfl) ?_
  refine lv_iconst (v := 1) hx hb dL_law_216 (by decide) ?_
  refine lv_iadd hx hb dL_law_217 ?_
  refine k_topi (nI_add i 1) ?_
  refine va_sld hx hb hX hbl hbA X.2.2 (vp_in_nI (show i + 1 < L by omega) (by omega)) dL_law_218 ?_
  refine k_topi (congrArg xs (nI_clamp (show i + 1 < 2147483648 by omega))) ?_
  refine k_callV K X gv_L_17 (As := [.int (xs (i + 1))]) (c_X12_moves l E b (flat h2) wf ik td tch tp tl tk2 tb ta tv bad rb rz (flR rn) f 99999 (xs (i + 1)) I) [43, 44, 45, 46, 47, 48, 49, 50, 51] lawW_s1C (by decide +kernel) (fun _ => modW_fst) 0 12 rfl rfl ⟨⟨Nat.le_of_ble_eq_true rfl, Nat.le_of_ble_eq_true rfl⟩, Nat.le_of_ble_eq_true rfl, Nat.le_of_ble_eq_true rfl⟩ rfl hl.1 (rest := [.int ((oMoves f td (xs (i + 1))).1)]) rfl (Nat.le_of_ble_eq_true rfl) dL_law_219 (st1 := fun _ => [.int ((oMoves f td (xs (i + 1))).1), .int ((oMoves f td (xs (i + 1))).1)]) (fun _ => rfl) (fun _ H locs _ X => ?_)
  have X : Wd E _ _ (lawW E a b ((oMoves f td (xs (i + 1))).2.1) g h ik one wo tp tl tk ts te tn rb rz rn ((oMoves f td (xs (i + 1))).2.2) (flat ((oMoves f td (xs (i + 1))).2.1)) (flat h2) wf ik ((oMoves f td (xs (i + 1))).2.2) tch tp tl tk2 tb ta tv bad rb rz (flR rn)) _ _ := X.eq lawW_s1P
  refine k_icmp_eq (x := (oMoves f td (xs (i + 1))).1) (y := (oMoves f td (xs (i + 1))).1) hx hb 1352 dL_law_222 (by decide) (fun _ => ?_) (fun z => absurd rfl z)
  exact hn ((oMoves f td (xs (i + 1))).2.1) g h h2 ik one wo tp tl tk ts te tn rb rz rn ((oMoves f td (xs (i + 1))).2.2) wf tch tk2 tb ta tv bad _ _ _ ⟨oMoves_I I td (xs (i + 1)), hk, htl, J⟩ X hl
set_option maxRecDepth 100000 in
set_option maxHeartbeats 4000000 in
/-- slip -/
theorem lc_1 {p : Program} {l : Launch} {e : Env} {s : State} {m : MethodId} {below : List Frame} {meth : Method} {c : Code} {E : EE} {A : Nat → Prop} {b0 L : Nat} {xs : Nat → Int32} {a b : Nat → Nat} (K : Kx p s m #[Value.ref b0] meth c code 4 RL E A) (hX : va_X b0 L xs s s.heap) (hbl : b0 < s.heap.size) (hbA : ¬ A b0) {i : Nat} (hi : i + 6 ≤ L) (hL : L ≤ 3072) (hn : Nx p l e s m below meth c E A b0 a b i 1352) : Nx p l e s m below meth c E A b0 a b i 227 := by
  intro f g h h2 ik one wo tp tl tk ts te tn rb rz rn td wf tch tk2 tb ta tv bad H locs ls hI X hl
  obtain ⟨I, hk, htl, J⟩ := hI
  have hx := K.1
  have hb := K.2.1
  refine lv_aload_n hx hb dL_law_227 rfl (lv_at hl 2 rfl) ?_
  refine lv_aload_n hx hb dL_law_228 rfl (lv_at hl 3 rfl) ?_
  refine lv_iload_n hx hb dL_law_229 rfl (lv_at hl 0 rfl) ?_
  refine lv_iconst (v := 1) hx hb dL_law_230 (by decide) ?_
  refine lv_iadd hx hb dL_law_231 ?_
  refine k_topi (nI_add i 1) ?_
  refine va_sld hx hb hX hbl hbA X.2.2 (vp_in_nI (show i + 1 < L by omega) (by omega)) dL_law_232 ?_
  refine k_topi (congrArg xs (nI_clamp (show i + 1 < 2147483648 by omega))) ?_
  refine k_callV K X gv_L_18 (As := [.int (xs (i + 1))]) (c_X11_slip l E a f g h ik one wo tp tl tk ts te tn rb rz rn td 99999 (xs (i + 1)) I) [0, 1, 2, 3, 4, 5, 6, 7, 8, 9, 10, 11, 12, 13, 14, 15, 16, 17, 18, 19, 20, 21, 22, 23, 24, 25, 26, 27, 28, 29, 30, 31, 32, 33, 34, 35, 36, 37, 38, 39, 40, 41, 42] lawW_s0C (by decide +kernel) (fun _ => clsW_fst) 0 11 rfl rfl ⟨⟨Nat.le_of_ble_eq_true rfl, Nat.le_of_ble_eq_true rfl⟩, Nat.le_of_ble_eq_true rfl, Nat.le_of_ble_eq_true rfl⟩ rfl hl.1 (rest := []) rfl (Nat.le_of_ble_eq_true rfl) dL_law_233 (st1 := fun _ => [.int ((oSlip f td (xs (i + 1))).1)]) (fun _ => rfl) (fun _ H locs _ X => ?_)
  have X : Wd E _ _ (lawW E a b ((oSlip f td (xs (i + 1))).2.1) g h ik one wo tp tl tk ts te tn rb rz rn ((oSlip f td (xs (i + 1))).2.2) (flat f) (flat h2) wf ik td tch tp tl tk2 tb ta tv bad rb rz (flR rn)) _ _ := X.eq lawW_s0P
  refine lv_aload_n hx hb dL_law_236 rfl (lv_at hl 1 rfl) ?_
  refine lv_aload_n hx hb dL_law_237 rfl (lv_at hl 3 rfl) ?_
  refine lv_iload_n hx hb dL_law_238 rfl (lv_at hl 0 rfl) ?_
  refine lv_iconst (v := 1) hx hb dL_law_239 (by decide) ?_
  refine lv_iadd hx hb dL_law_240 ?_
  refine k_topi (nI_add i 1) ?_
  refine va_sld hx hb hX hbl hbA X.2.2 (vp_in_nI (show i + 1 < L by omega) (by omega)) dL_law_241 ?_
  refine k_topi (congrArg xs (nI_clamp (show i + 1 < 2147483648 by omega))) ?_
  refine k_callV K X gv_L_21 (As := [.int (xs (i + 1))]) (c_X12_slip l E b (flat h2) wf ik td tch tp tl tk2 tb ta tv bad rb rz (flR rn) f 99999 (xs (i + 1)) I) [43, 44, 45, 46, 47, 48, 49, 50, 51] lawW_s1C (by decide +kernel) (fun _ => modW_fst) 0 12 rfl rfl ⟨⟨Nat.le_of_ble_eq_true rfl, Nat.le_of_ble_eq_true rfl⟩, Nat.le_of_ble_eq_true rfl, Nat.le_of_ble_eq_true rfl⟩ rfl hl.1 (rest := [.int ((oSlip f td (xs (i + 1))).1)]) rfl (Nat.le_of_ble_eq_true rfl) dL_law_242 (st1 := fun _ => [.int ((oSlip f td (xs (i + 1))).1), .int ((oSlip f td (xs (i + 1))).1)]) (fun _ => rfl) (fun _ H locs _ X => ?_)
  have X : Wd E _ _ (lawW E a b ((oSlip f td (xs (i + 1))).2.1) g h ik one wo tp tl tk ts te tn rb rz rn ((oSlip f td (xs (i + 1))).2.2) (flat ((oSlip f td (xs (i + 1))).2.1)) (flat h2) wf ik ((oSlip f td (xs (i + 1))).2.2) tch tp tl tk2 tb ta tv bad rb rz (flR rn)) _ _ := X.eq lawW_s1P
  refine k_icmp_eq (x := (oSlip f td (xs (i + 1))).1) (y := (oSlip f td (xs (i + 1))).1) hx hb 1352 dL_law_245 (by decide) (fun _ => ?_) (fun z => absurd rfl z)
  exact hn ((oSlip f td (xs (i + 1))).2.1) g h h2 ik one wo tp tl tk ts te tn rb rz rn ((oSlip f td (xs (i + 1))).2.2) wf tch tk2 tb ta tv bad _ _ _ ⟨oSlip_I I td (xs (i + 1)), hk, htl, J⟩ X hl
set_option maxRecDepth 100000 in
set_option maxHeartbeats 4000000 in
/-- slipOf -/
theorem lc_2 {p : Program} {l : Launch} {e : Env} {s : State} {m : MethodId} {below : List Frame} {meth : Method} {c : Code} {E : EE} {A : Nat → Prop} {b0 L : Nat} {xs : Nat → Int32} {a b : Nat → Nat} (K : Kx p s m #[Value.ref b0] meth c code 4 RL E A) (hX : va_X b0 L xs s s.heap) (hbl : b0 < s.heap.size) (hbA : ¬ A b0) {i : Nat} (hi : i + 6 ≤ L) (hL : L ≤ 3072) (hn : Nx p l e s m below meth c E A b0 a b i 1352) : Nx p l e s m below meth c E A b0 a b i 250 := by
  intro f g h h2 ik one wo tp tl tk ts te tn rb rz rn td wf tch tk2 tb ta tv bad H locs ls hI X hl
  obtain ⟨I, hk, htl, J⟩ := hI
  have hx := K.1
  have hb := K.2.1
  refine lv_aload_n hx hb dL_law_250 rfl (lv_at hl 2 rfl) ?_
  refine lv_aload_n hx hb dL_law_251 rfl (lv_at hl 3 rfl) ?_
  refine lv_iload_n hx hb dL_law_252 rfl (lv_at hl 0 rfl) ?_
  refine lv_iconst (v := 1) hx hb dL_law_253 (by decide) ?_
  refine lv_iadd hx hb dL_law_254 ?_
  refine k_topi (nI_add i 1) ?_
  refine va_sld hx hb hX hbl hbA X.2.2 (vp_in_nI (show i + 1 < L by omega) (by omega)) dL_law_255 ?_
  refine k_topi (congrArg xs (nI_clamp (show i + 1 < 2147483648 by omega))) ?_
  refine lv_aload_n hx hb dL_law_256 rfl (lv_at hl 3 rfl) ?_
  refine lv_iload_n hx hb dL_law_257 rfl (lv_at hl 0 rfl) ?_
  refine lv_iconst (v := 2) hx hb dL_law_258 (by decide) ?_
  refine lv_iadd hx hb dL_law_259 ?_
  refine k_topi (nI_add i 2) ?_
  refine va_sld hx hb hX hbl hbA X.2.2 (vp_in_nI (show i + 2 < L by omega) (by omega)) dL_law_260 ?_
  refine k_topi (congrArg xs (nI_clamp (show i + 2 < 2147483648 by omega))) ?_
  refine k_callV K X gv_L_22 (As := [.int (xs (i + 1)), .int (xs (i + 2))]) (c_X11_slipOf l E a f g h ik one wo tp tl tk ts te tn rb rz rn td 99999 (xs (i + 1)) (xs (i + 2)) I) [0, 1, 2, 3, 4, 5, 6, 7, 8, 9, 10, 11, 12, 13, 14, 15, 16, 17, 18, 19, 20, 21, 22, 23, 24, 25, 26, 27, 28, 29, 30, 31, 32, 33, 34, 35, 36, 37, 38, 39, 40, 41, 42] lawW_s0C (by decide +kernel) (fun _ => clsW_fst) 0 11 rfl rfl ⟨⟨Nat.le_of_ble_eq_true rfl, Nat.le_of_ble_eq_true rfl⟩, Nat.le_of_ble_eq_true rfl, Nat.le_of_ble_eq_true rfl⟩ rfl hl.1 (rest := []) rfl (Nat.le_of_ble_eq_true rfl) dL_law_261 (st1 := fun _ => [.int ((oSlipOf f td (xs (i + 1)) (xs (i + 2))).1)]) (fun _ => rfl) (fun u261 H locs _ X => ?_)
  have X : Wd E _ _ (lawW E a b ((oSlipOf f td (xs (i + 1)) (xs (i + 2))).2.1) g h ik u261.1 u261.2 tp tl tk ts te tn rb rz rn ((oSlipOf f td (xs (i + 1)) (xs (i + 2))).2.2) (flat f) (flat h2) wf ik td tch tp tl tk2 tb ta tv bad rb rz (flR rn)) _ _ := X.eq lawW_s0P
  refine lv_aload_n hx hb dL_law_264 rfl (lv_at hl 1 rfl) ?_
  refine lv_aload_n hx hb dL_law_265 rfl (lv_at hl 3 rfl) ?_
  refine lv_iload_n hx hb dL_law_266 rfl (lv_at hl 0 rfl) ?_
  refine lv_iconst (v := 1) hx hb dL_law_267 (by decide) ?_
  refine lv_iadd hx hb dL_law_268 ?_
  refine k_topi (nI_add i 1) ?_
  refine va_sld hx hb hX hbl hbA X.2.2 (vp_in_nI (show i + 1 < L by omega) (by omega)) dL_law_269 ?_
  refine k_topi (congrArg xs (nI_clamp (show i + 1 < 2147483648 by omega))) ?_
  refine lv_aload_n hx hb dL_law_270 rfl (lv_at hl 3 rfl) ?_
  refine lv_iload_n hx hb dL_law_271 rfl (lv_at hl 0 rfl) ?_
  refine lv_iconst (v := 2) hx hb dL_law_272 (by decide) ?_
  refine lv_iadd hx hb dL_law_273 ?_
  refine k_topi (nI_add i 2) ?_
  refine va_sld hx hb hX hbl hbA X.2.2 (vp_in_nI (show i + 2 < L by omega) (by omega)) dL_law_274 ?_
  refine k_topi (congrArg xs (nI_clamp (show i + 2 < 2147483648 by omega))) ?_
  refine k_callV K X gv_L_26 (As := [.int (xs (i + 1)), .int (xs (i + 2))]) (c_X12_slipOf l E b (flat h2) wf ik td tch tp tl tk2 tb ta tv bad rb rz (flR rn) f 99999 (xs (i + 1)) (xs (i + 2)) I) [43, 44, 45, 46, 47, 48, 49, 50, 51] lawW_s1C (by decide +kernel) (fun _ => modW_fst) 0 12 rfl rfl ⟨⟨Nat.le_of_ble_eq_true rfl, Nat.le_of_ble_eq_true rfl⟩, Nat.le_of_ble_eq_true rfl, Nat.le_of_ble_eq_true rfl⟩ rfl hl.1 (rest := [.int ((oSlipOf f td (xs (i + 1)) (xs (i + 2))).1)]) rfl (Nat.le_of_ble_eq_true rfl) dL_law_275 (st1 := fun _ => [.int ((oSlipOf f td (xs (i + 1)) (xs (i + 2))).1), .int ((oSlipOf f td (xs (i + 1)) (xs (i + 2))).1)]) (fun _ => rfl) (fun _ H locs _ X => ?_)
  have X : Wd E _ _ (lawW E a b ((oSlipOf f td (xs (i + 1)) (xs (i + 2))).2.1) g h ik u261.1 u261.2 tp tl tk ts te tn rb rz rn ((oSlipOf f td (xs (i + 1)) (xs (i + 2))).2.2) (flat ((oSlipOf f td (xs (i + 1)) (xs (i + 2))).2.1)) (flat h2) wf ik ((oSlipOf f td (xs (i + 1)) (xs (i + 2))).2.2) tch tp tl tk2 tb ta tv bad rb rz (flR rn)) _ _ := X.eq lawW_s1P
  refine k_icmp_eq (x := (oSlipOf f td (xs (i + 1)) (xs (i + 2))).1) (y := (oSlipOf f td (xs (i + 1)) (xs (i + 2))).1) hx hb 1352 dL_law_278 (by decide) (fun _ => ?_) (fun z => absurd rfl z)
  exact hn ((oSlipOf f td (xs (i + 1)) (xs (i + 2))).2.1) g h h2 ik u261.1 u261.2 tp tl tk ts te tn rb rz rn ((oSlipOf f td (xs (i + 1)) (xs (i + 2))).2.2) wf tch tk2 tb ta tv bad _ _ _ ⟨(by rw [oSlipOf_f]; exact I), hk, htl, J⟩ X hl
set_option maxRecDepth 100000 in
set_option maxHeartbeats 4000000 in
/-- stick -/
theorem lc_3 {p : Program} {l : Launch} {e : Env} {s : State} {m : MethodId} {below : List Frame} {meth : Method} {c : Code} {E : EE} {A : Nat → Prop} {b0 L : Nat} {xs : Nat → Int32} {a b : Nat → Nat} (K : Kx p s m #[Value.ref b0] meth c code 4 RL E A) (hX : va_X b0 L xs s s.heap) (hbl : b0 < s.heap.size) (hbA : ¬ A b0) {i : Nat} (hi : i + 6 ≤ L) (hL : L ≤ 3072) (hn : Nx p l e s m below meth c E A b0 a b i 1352) : Nx p l e s m below meth c E A b0 a b i 283 := by
  intro f g h h2 ik one wo tp tl tk ts te tn rb rz rn td wf tch tk2 tb ta tv bad H locs ls hI X hl
  obtain ⟨I, hk, htl, J⟩ := hI
  have hx := K.1
  have hb := K.2.1
  refine lv_aload_n hx hb dL_law_283 rfl (lv_at hl 2 rfl) ?_
  refine lv_aload_n hx hb dL_law_284 rfl (lv_at hl 3 rfl) ?_
  refine lv_iload_n hx hb dL_law_285 rfl (lv_at hl 0 rfl) ?_
  refine lv_iconst (v := 1) hx hb dL_law_286 (by decide) ?_
  refine lv_iadd hx hb dL_law_287 ?_
  refine k_topi (nI_add i 1) ?_
  refine va_sld hx hb hX hbl hbA X.2.2 (vp_in_nI (show i + 1 < L by omega) (by omega)) dL_law_288 ?_
  refine k_topi (congrArg xs (nI_clamp (show i + 1 < 2147483648 by omega))) ?_
  refine lv_aload_n hx hb dL_law_289 rfl (lv_at hl 3 rfl) ?_
  refine lv_iload_n hx hb dL_law_290 rfl (lv_at hl 0 rfl) ?_
  refine lv_iconst (v := 2) hx hb dL_law_291 (by decide) ?_
  refine lv_iadd hx hb dL_law_292 ?_
  refine k_topi (nI_add i 2) ?_
  refine va_sld hx hb hX hbl hbA X.2.2 (vp_in_nI (show i + 2 < L by omega) (by omega)) dL_law_293 ?_
  refine k_topi (congrArg xs (nI_clamp (show i + 2 < 2147483648 by omega))) ?_
  refine lv_aload_n hx hb dL_law_294 rfl (lv_at hl 3 rfl) ?_
  refine lv_iload_n hx hb dL_law_295 rfl (lv_at hl 0 rfl) ?_
  refine lv_iconst (v := 3) hx hb dL_law_296 (by decide) ?_
  refine lv_iadd hx hb dL_law_297 ?_
  refine k_topi (nI_add i 3) ?_
  refine va_sld hx hb hX hbl hbA X.2.2 (vp_in_nI (show i + 3 < L by omega) (by omega)) dL_law_298 ?_
  refine k_topi (congrArg xs (nI_clamp (show i + 3 < 2147483648 by omega))) ?_
  refine k_callV K X gv_L_27 (As := [.int (xs (i + 1)), .int (xs (i + 2)), .int (xs (i + 3))]) (c_X11_stick l E a f g h ik one wo tp tl tk ts te tn rb rz rn td 99999 (xs (i + 1)) (xs (i + 2)) (xs (i + 3)) I) [0, 1, 2, 3, 4, 5, 6, 7, 8, 9, 10, 11, 12, 13, 14, 15, 16, 17, 18, 19, 20, 21, 22, 23, 24, 25, 26, 27, 28, 29, 30, 31, 32, 33, 34, 35, 36, 37, 38, 39, 40, 41, 42] lawW_s0C (by decide +kernel) (fun _ => clsW_fst) 0 11 rfl rfl ⟨⟨Nat.le_of_ble_eq_true rfl, Nat.le_of_ble_eq_true rfl⟩, Nat.le_of_ble_eq_true rfl, Nat.le_of_ble_eq_true rfl⟩ rfl hl.1 (rest := []) rfl (Nat.le_of_ble_eq_true rfl) dL_law_299 (st1 := fun _ => [.int ((oStick f td (xs (i + 1)) (xs (i + 2)) (xs (i + 3))).1)]) (fun _ => rfl) (fun _ H locs _ X => ?_)
  have X : Wd E _ _ (lawW E a b ((oStick f td (xs (i + 1)) (xs (i + 2)) (xs (i + 3))).2.1) g h ik one wo tp tl tk ts te tn rb rz rn ((oStick f td (xs (i + 1)) (xs (i + 2)) (xs (i + 3))).2.2) (flat f) (flat h2) wf ik td tch tp tl tk2 tb ta tv bad rb rz (flR rn)) _ _ := X.eq lawW_s0P
  refine lv_aload_n hx hb dL_law_302 rfl (lv_at hl 1 rfl) ?_
  refine lv_aload_n hx hb dL_law_303 rfl (lv_at hl 3 rfl) ?_
  refine lv_iload_n hx hb dL_law_304 rfl (lv_at hl 0 rfl) ?_
  refine lv_iconst (v := 1) hx hb dL_law_305 (by decide) ?_
  refine lv_iadd hx hb dL_law_306 ?_
  refine k_topi (nI_add i 1) ?_
  refine va_sld hx hb hX hbl hbA X.2.2 (vp_in_nI (show i + 1 < L by omega) (by omega)) dL_law_307 ?_
  refine k_topi (congrArg xs (nI_clamp (show i + 1 < 2147483648 by omega))) ?_
  refine lv_aload_n hx hb dL_law_308 rfl (lv_at hl 3 rfl) ?_
  refine lv_iload_n hx hb dL_law_309 rfl (lv_at hl 0 rfl) ?_
  refine lv_iconst (v := 2) hx hb dL_law_310 (by decide) ?_
  refine lv_iadd hx hb dL_law_311 ?_
  refine k_topi (nI_add i 2) ?_
  refine va_sld hx hb hX hbl hbA X.2.2 (vp_in_nI (show i + 2 < L by omega) (by omega)) dL_law_312 ?_
  refine k_topi (congrArg xs (nI_clamp (show i + 2 < 2147483648 by omega))) ?_
  refine lv_aload_n hx hb dL_law_313 rfl (lv_at hl 3 rfl) ?_
  refine lv_iload_n hx hb dL_law_314 rfl (lv_at hl 0 rfl) ?_
  refine lv_iconst (v := 3) hx hb dL_law_315 (by decide) ?_
  refine lv_iadd hx hb dL_law_316 ?_
  refine k_topi (nI_add i 3) ?_
  refine va_sld hx hb hX hbl hbA X.2.2 (vp_in_nI (show i + 3 < L by omega) (by omega)) dL_law_317 ?_
  refine k_topi (congrArg xs (nI_clamp (show i + 3 < 2147483648 by omega))) ?_
  refine k_callV K X gv_L_31 (As := [.int (xs (i + 1)), .int (xs (i + 2)), .int (xs (i + 3))]) (c_X12_stick l E b (flat h2) wf ik td tch tp tl tk2 tb ta tv bad rb rz (flR rn) f 99999 (xs (i + 1)) (xs (i + 2)) (xs (i + 3)) I) [43, 44, 45, 46, 47, 48, 49, 50, 51] lawW_s1C (by decide +kernel) (fun _ => modW_fst) 0 12 rfl rfl ⟨⟨Nat.le_of_ble_eq_true rfl, Nat.le_of_ble_eq_true rfl⟩, Nat.le_of_ble_eq_true rfl, Nat.le_of_ble_eq_true rfl⟩ rfl hl.1 (rest := [.int ((oStick f td (xs (i + 1)) (xs (i + 2)) (xs (i + 3))).1)]) rfl (Nat.le_of_ble_eq_true rfl) dL_law_318 (st1 := fun _ => [.int ((oStick f td (xs (i + 1)) (xs (i + 2)) (xs (i + 3))).1), .int ((oStick f td (xs (i + 1)) (xs (i + 2)) (xs (i + 3))).1)]) (fun _ => rfl) (fun _ H locs _ X => ?_)
  have X : Wd E _ _ (lawW E a b ((oStick f td (xs (i + 1)) (xs (i + 2)) (xs (i + 3))).2.1) g h ik one wo tp tl tk ts te tn rb rz rn ((oStick f td (xs (i + 1)) (xs (i + 2)) (xs (i + 3))).2.2) (flat ((oStick f td (xs (i + 1)) (xs (i + 2)) (xs (i + 3))).2.1)) (flat h2) wf ik ((oStick f td (xs (i + 1)) (xs (i + 2)) (xs (i + 3))).2.2) tch tp tl tk2 tb ta tv bad rb rz (flR rn)) _ _ := X.eq lawW_s1P
  refine k_icmp_eq (x := (oStick f td (xs (i + 1)) (xs (i + 2)) (xs (i + 3))).1) (y := (oStick f td (xs (i + 1)) (xs (i + 2)) (xs (i + 3))).1) hx hb 1352 dL_law_321 (by decide) (fun _ => ?_) (fun z => absurd rfl z)
  exact hn ((oStick f td (xs (i + 1)) (xs (i + 2)) (xs (i + 3))).2.1) g h h2 ik one wo tp tl tk ts te tn rb rz rn ((oStick f td (xs (i + 1)) (xs (i + 2)) (xs (i + 3))).2.2) wf tch tk2 tb ta tv bad _ _ _ ⟨oStick_I I td (xs (i + 1)) (xs (i + 2)) (xs (i + 3)), hk, htl, J⟩ X hl
set_option maxRecDepth 100000 in
set_option maxHeartbeats 4000000 in
/-- group -/
theorem lc_4 {p : Program} {l : Launch} {e : Env} {s : State} {m : MethodId} {below : List Frame} {meth : Method} {c : Code} {E : EE} {A : Nat → Prop} {b0 L : Nat} {xs : Nat → Int32} {a b : Nat → Nat} (K : Kx p s m #[Value.ref b0] meth c code 4 RL E A) (hX : va_X b0 L xs s s.heap) (hbl : b0 < s.heap.size) (hbA : ¬ A b0) {i : Nat} (hi : i + 6 ≤ L) (hL : L ≤ 3072) (hn : Nx p l e s m below meth c E A b0 a b i 1352) : Nx p l e s m below meth c E A b0 a b i 326 := by
  intro f g h h2 ik one wo tp tl tk ts te tn rb rz rn td wf tch tk2 tb ta tv bad H locs ls hI X hl
  obtain ⟨I, hk, htl, J⟩ := hI
  have hx := K.1
  have hb := K.2.1
  refine lv_aload_n hx hb dL_law_326 rfl (lv_at hl 2 rfl) ?_
  refine lv_aload_n hx hb dL_law_327 rfl (lv_at hl 3 rfl) ?_
  refine lv_iload_n hx hb dL_law_328 rfl (lv_at hl 0 rfl) ?_
  refine lv_iconst (v := 1) hx hb dL_law_329 (by decide) ?_
  refine lv_iadd hx hb dL_law_330 ?_
  refine k_topi (nI_add i 1) ?_
  refine va_sld hx hb hX hbl hbA X.2.2 (vp_in_nI (show i + 1 < L by omega) (by omega)) dL_law_331 ?_
  refine k_topi (congrArg xs (nI_clamp (show i + 1 < 2147483648 by omega))) ?_
  refine k_callV K X gv_L_32 (As := [.int (xs (i + 1))]) (c_X11_group l E a f g h ik one wo tp tl tk ts te tn rb rz rn td 99999 (xs (i + 1)) I) [0, 1, 2, 3, 4, 5, 6, 7, 8, 9, 10, 11, 12, 13, 14, 15, 16, 17, 18, 19, 20, 21, 22, 23, 24, 25, 26, 27, 28, 29, 30, 31, 32, 33, 34, 35, 36, 37, 38, 39, 40, 41, 42] lawW_s0C (by decide +kernel) (fun _ => clsW_fst) 0 11 rfl rfl ⟨⟨Nat.le_of_ble_eq_true rfl, Nat.le_of_ble_eq_true rfl⟩, Nat.le_of_ble_eq_true rfl, Nat.le_of_ble_eq_true rfl⟩ rfl hl.1 (rest := []) rfl (Nat.le_of_ble_eq_true rfl) dL_law_332 (st1 := fun _ => [.int ((oGroup f td (xs (i + 1))).1)]) (fun _ => rfl) (fun _ H locs _ X => ?_)
  have X : Wd E _ _ (lawW E a b ((oGroup f td (xs (i + 1))).2.1) g h ik one wo tp tl tk ts te tn rb rz rn ((oGroup f td (xs (i + 1))).2.2) (flat f) (flat h2) wf ik td tch tp tl tk2 tb ta tv bad rb rz (flR rn)) _ _ := X.eq lawW_s0P
  refine lv_aload_n hx hb dL_law_335 rfl (lv_at hl 1 rfl) ?_
  refine lv_aload_n hx hb dL_law_336 rfl (lv_at hl 3 rfl) ?_
  refine lv_iload_n hx hb dL_law_337 rfl (lv_at hl 0 rfl) ?_
  refine lv_iconst (v := 1) hx hb dL_law_338 (by decide) ?_
  refine lv_iadd hx hb dL_law_339 ?_
  refine k_topi (nI_add i 1) ?_
  refine va_sld hx hb hX hbl hbA X.2.2 (vp_in_nI (show i + 1 < L by omega) (by omega)) dL_law_340 ?_
  refine k_topi (congrArg xs (nI_clamp (show i + 1 < 2147483648 by omega))) ?_
  refine k_callV K X gv_L_35 (As := [.int (xs (i + 1))]) (c_X12_group l E b (flat h2) wf ik td tch tp tl tk2 tb ta tv bad rb rz (flR rn) f 99999 (xs (i + 1)) I) [43, 44, 45, 46, 47, 48, 49, 50, 51] lawW_s1C (by decide +kernel) (fun _ => modW_fst) 0 12 rfl rfl ⟨⟨Nat.le_of_ble_eq_true rfl, Nat.le_of_ble_eq_true rfl⟩, Nat.le_of_ble_eq_true rfl, Nat.le_of_ble_eq_true rfl⟩ rfl hl.1 (rest := [.int ((oGroup f td (xs (i + 1))).1)]) rfl (Nat.le_of_ble_eq_true rfl) dL_law_341 (st1 := fun _ => [.int ((oGroup f td (xs (i + 1))).1), .int ((oGroup f td (xs (i + 1))).1)]) (fun _ => rfl) (fun _ H locs _ X => ?_)
  have X : Wd E _ _ (lawW E a b ((oGroup f td (xs (i + 1))).2.1) g h ik one wo tp tl tk ts te tn rb rz rn ((oGroup f td (xs (i + 1))).2.2) (flat ((oGroup f td (xs (i + 1))).2.1)) (flat h2) wf ik ((oGroup f td (xs (i + 1))).2.2) tch tp tl tk2 tb ta tv bad rb rz (flR rn)) _ _ := X.eq lawW_s1P
  refine k_icmp_eq (x := (oGroup f td (xs (i + 1))).1) (y := (oGroup f td (xs (i + 1))).1) hx hb 1352 dL_law_344 (by decide) (fun _ => ?_) (fun z => absurd rfl z)
  exact hn ((oGroup f td (xs (i + 1))).2.1) g h h2 ik one wo tp tl tk ts te tn rb rz rn ((oGroup f td (xs (i + 1))).2.2) wf tch tk2 tb ta tv bad _ _ _ ⟨(by rw [oGroup_f]; exact I), hk, htl, J⟩ X hl
set_option maxRecDepth 100000 in
set_option maxHeartbeats 4000000 in
/-- now -/
theorem lc_5 {p : Program} {l : Launch} {e : Env} {s : State} {m : MethodId} {below : List Frame} {meth : Method} {c : Code} {E : EE} {A : Nat → Prop} {b0 L : Nat} {xs : Nat → Int32} {a b : Nat → Nat} (K : Kx p s m #[Value.ref b0] meth c code 4 RL E A) (hX : va_X b0 L xs s s.heap) (hbl : b0 < s.heap.size) (hbA : ¬ A b0) {i : Nat} (hi : i + 6 ≤ L) (hL : L ≤ 3072) (hn : Nx p l e s m below meth c E A b0 a b i 1352) : Nx p l e s m below meth c E A b0 a b i 349 := by
  intro f g h h2 ik one wo tp tl tk ts te tn rb rz rn td wf tch tk2 tb ta tv bad H locs ls hI X hl
  obtain ⟨I, hk, htl, J⟩ := hI
  have hx := K.1
  have hb := K.2.1
  refine lv_aload_n hx hb dL_law_349 rfl (lv_at hl 2 rfl) ?_
  refine lv_aload_n hx hb dL_law_350 rfl (lv_at hl 3 rfl) ?_
  refine lv_iload_n hx hb dL_law_351 rfl (lv_at hl 0 rfl) ?_
  refine lv_iconst (v := 1) hx hb dL_law_352 (by decide) ?_
  refine lv_iadd hx hb dL_law_353 ?_
  refine k_topi (nI_add i 1) ?_
  refine va_sld hx hb hX hbl hbA X.2.2 (vp_in_nI (show i + 1 < L by omega) (by omega)) dL_law_354 ?_
  refine k_topi (congrArg xs (nI_clamp (show i + 1 < 2147483648 by omega))) ?_
  refine k_callV K X gv_L_36 (As := [.int (xs (i + 1))]) (c_X11_now l E a f g h ik one wo tp tl tk ts te tn rb rz rn td 99999 (xs (i + 1)) I (by omega)) [0, 1, 2, 3, 4, 5, 6, 7, 8, 9, 10, 11, 12, 13, 14, 15, 16, 17, 18, 19, 20, 21, 22, 23, 24, 25, 26, 27, 28, 29, 30, 31, 32, 33, 34, 35, 36, 37, 38, 39, 40, 41, 42] lawW_s0C (by decide +kernel) (fun _ => clsW_fst) 0 11 rfl rfl ⟨⟨Nat.le_of_ble_eq_true rfl, Nat.le_of_ble_eq_true rfl⟩, Nat.le_of_ble_eq_true rfl, Nat.le_of_ble_eq_true rfl⟩ rfl hl.1 (rest := []) rfl (Nat.le_of_ble_eq_true rfl) dL_law_355 (st1 := fun _ => [.int ((oNow f td (xs (i + 1))).1)]) (fun _ => rfl) (fun _ H locs _ X => ?_)
  have X : Wd E _ _ (lawW E a b ((oNow f td (xs (i + 1))).2.1) g h ik one wo tp tl tk ts te tn rb rz rn ((oNow f td (xs (i + 1))).2.2) (flat f) (flat h2) wf ik td tch tp tl tk2 tb ta tv bad rb rz (flR rn)) _ _ := X.eq lawW_s0P
  refine lv_aload_n hx hb dL_law_358 rfl (lv_at hl 1 rfl) ?_
  refine lv_aload_n hx hb dL_law_359 rfl (lv_at hl 3 rfl) ?_
  refine lv_iload_n hx hb dL_law_360 rfl (lv_at hl 0 rfl) ?_
  refine lv_iconst (v := 1) hx hb dL_law_361 (by decide) ?_
  refine lv_iadd hx hb dL_law_362 ?_
  refine k_topi (nI_add i 1) ?_
  refine va_sld hx hb hX hbl hbA X.2.2 (vp_in_nI (show i + 1 < L by omega) (by omega)) dL_law_363 ?_
  refine k_topi (congrArg xs (nI_clamp (show i + 1 < 2147483648 by omega))) ?_
  refine k_callV K X gv_L_39 (As := [.int (xs (i + 1))]) (c_X12_now l E b (flat h2) wf ik td tch tp tl tk2 tb ta tv bad rb rz (flR rn) f 99999 (xs (i + 1)) I (by omega)) [43, 44, 45, 46, 47, 48, 49, 50, 51] lawW_s1C (by decide +kernel) (fun _ => modW_fst) 0 12 rfl rfl ⟨⟨Nat.le_of_ble_eq_true rfl, Nat.le_of_ble_eq_true rfl⟩, Nat.le_of_ble_eq_true rfl, Nat.le_of_ble_eq_true rfl⟩ rfl hl.1 (rest := [.int ((oNow f td (xs (i + 1))).1)]) rfl (Nat.le_of_ble_eq_true rfl) dL_law_364 (st1 := fun _ => [.int ((oNow f td (xs (i + 1))).1), .int ((oNow f td (xs (i + 1))).1)]) (fun _ => rfl) (fun _ H locs _ X => ?_)
  have X : Wd E _ _ (lawW E a b ((oNow f td (xs (i + 1))).2.1) g h ik one wo tp tl tk ts te tn rb rz rn ((oNow f td (xs (i + 1))).2.2) (flat ((oNow f td (xs (i + 1))).2.1)) (flat h2) wf ik ((oNow f td (xs (i + 1))).2.2) tch tp tl tk2 tb ta tv bad rb rz (flR rn)) _ _ := X.eq lawW_s1P
  refine k_icmp_eq (x := (oNow f td (xs (i + 1))).1) (y := (oNow f td (xs (i + 1))).1) hx hb 1352 dL_law_367 (by decide) (fun _ => ?_) (fun z => absurd rfl z)
  exact hn ((oNow f td (xs (i + 1))).2.1) g h h2 ik one wo tp tl tk ts te tn rb rz rn ((oNow f td (xs (i + 1))).2.2) wf tch tk2 tb ta tv bad _ _ _ ⟨(by rw [oNow_f]; exact I), hk, htl, J⟩ X hl
set_option maxRecDepth 100000 in
set_option maxHeartbeats 4000000 in
/-- person -/
theorem lc_6 {p : Program} {l : Launch} {e : Env} {s : State} {m : MethodId} {below : List Frame} {meth : Method} {c : Code} {E : EE} {A : Nat → Prop} {b0 L : Nat} {xs : Nat → Int32} {a b : Nat → Nat} (K : Kx p s m #[Value.ref b0] meth c code 4 RL E A) (hX : va_X b0 L xs s s.heap) (hbl : b0 < s.heap.size) (hbA : ¬ A b0) {i : Nat} (hi : i + 6 ≤ L) (hL : L ≤ 3072) (hn : Nx p l e s m below meth c E A b0 a b i 1352) : Nx p l e s m below meth c E A b0 a b i 372 := by
  intro f g h h2 ik one wo tp tl tk ts te tn rb rz rn td wf tch tk2 tb ta tv bad H locs ls hI X hl
  obtain ⟨I, hk, htl, J⟩ := hI
  have hx := K.1
  have hb := K.2.1
  refine lv_aload_n hx hb dL_law_372 rfl (lv_at hl 2 rfl) ?_
  refine lv_aload_n hx hb dL_law_373 rfl (lv_at hl 3 rfl) ?_
  refine lv_iload_n hx hb dL_law_374 rfl (lv_at hl 0 rfl) ?_
  refine lv_iconst (v := 1) hx hb dL_law_375 (by decide) ?_
  refine lv_iadd hx hb dL_law_376 ?_
  refine k_topi (nI_add i 1) ?_
  refine va_sld hx hb hX hbl hbA X.2.2 (vp_in_nI (show i + 1 < L by omega) (by omega)) dL_law_377 ?_
  refine k_topi (congrArg xs (nI_clamp (show i + 1 < 2147483648 by omega))) ?_
  refine k_callV K X gv_L_40 (As := [.int (xs (i + 1))]) (c_X11_person l E a f g h ik one wo tp tl tk ts te tn rb rz rn td 99999 (xs (i + 1)) I) [0, 1, 2, 3, 4, 5, 6, 7, 8, 9, 10, 11, 12, 13, 14, 15, 16, 17, 18, 19, 20, 21, 22, 23, 24, 25, 26, 27, 28, 29, 30, 31, 32, 33, 34, 35, 36, 37, 38, 39, 40, 41, 42] lawW_s0C (by decide +kernel) (fun _ => clsW_fst) 0 11 rfl rfl ⟨⟨Nat.le_of_ble_eq_true rfl, Nat.le_of_ble_eq_true rfl⟩, Nat.le_of_ble_eq_true rfl, Nat.le_of_ble_eq_true rfl⟩ rfl hl.1 (rest := []) rfl (Nat.le_of_ble_eq_true rfl) dL_law_378 (st1 := fun _ => [.int ((oPerson f td (xs (i + 1))).1)]) (fun _ => rfl) (fun _ H locs _ X => ?_)
  have X : Wd E _ _ (lawW E a b ((oPerson f td (xs (i + 1))).2.1) g h ik one wo tp tl tk ts te tn rb rz rn ((oPerson f td (xs (i + 1))).2.2) (flat f) (flat h2) wf ik td tch tp tl tk2 tb ta tv bad rb rz (flR rn)) _ _ := X.eq lawW_s0P
  refine lv_aload_n hx hb dL_law_381 rfl (lv_at hl 1 rfl) ?_
  refine lv_aload_n hx hb dL_law_382 rfl (lv_at hl 3 rfl) ?_
  refine lv_iload_n hx hb dL_law_383 rfl (lv_at hl 0 rfl) ?_
  refine lv_iconst (v := 1) hx hb dL_law_384 (by decide) ?_
  refine lv_iadd hx hb dL_law_385 ?_
  refine k_topi (nI_add i 1) ?_
  refine va_sld hx hb hX hbl hbA X.2.2 (vp_in_nI (show i + 1 < L by omega) (by omega)) dL_law_386 ?_
  refine k_topi (congrArg xs (nI_clamp (show i + 1 < 2147483648 by omega))) ?_
  refine k_callV K X gv_L_43 (As := [.int (xs (i + 1))]) (c_X12_person l E b (flat h2) wf ik td tch tp tl tk2 tb ta tv bad rb rz (flR rn) f 99999 (xs (i + 1)) I) [43, 44, 45, 46, 47, 48, 49, 50, 51] lawW_s1C (by decide +kernel) (fun _ => modW_fst) 0 12 rfl rfl ⟨⟨Nat.le_of_ble_eq_true rfl, Nat.le_of_ble_eq_true rfl⟩, Nat.le_of_ble_eq_true rfl, Nat.le_of_ble_eq_true rfl⟩ rfl hl.1 (rest := [.int ((oPerson f td (xs (i + 1))).1)]) rfl (Nat.le_of_ble_eq_true rfl) dL_law_387 (st1 := fun _ => [.int ((oPerson f td (xs (i + 1))).1), .int ((oPerson f td (xs (i + 1))).1)]) (fun _ => rfl) (fun _ H locs _ X => ?_)
  have X : Wd E _ _ (lawW E a b ((oPerson f td (xs (i + 1))).2.1) g h ik one wo tp tl tk ts te tn rb rz rn ((oPerson f td (xs (i + 1))).2.2) (flat ((oPerson f td (xs (i + 1))).2.1)) (flat h2) wf ik ((oPerson f td (xs (i + 1))).2.2) tch tp tl tk2 tb ta tv bad rb rz (flR rn)) _ _ := X.eq lawW_s1P
  refine k_icmp_eq (x := (oPerson f td (xs (i + 1))).1) (y := (oPerson f td (xs (i + 1))).1) hx hb 1352 dL_law_390 (by decide) (fun _ => ?_) (fun z => absurd rfl z)
  exact hn ((oPerson f td (xs (i + 1))).2.1) g h h2 ik one wo tp tl tk ts te tn rb rz rn ((oPerson f td (xs (i + 1))).2.2) wf tch tk2 tb ta tv bad _ _ _ ⟨oPerson_I I td (xs (i + 1)), hk, htl, J⟩ X hl
set_option maxRecDepth 100000 in
set_option maxHeartbeats 4000000 in
/-- of -/
theorem lc_7 {p : Program} {l : Launch} {e : Env} {s : State} {m : MethodId} {below : List Frame} {meth : Method} {c : Code} {E : EE} {A : Nat → Prop} {b0 L : Nat} {xs : Nat → Int32} {a b : Nat → Nat} (K : Kx p s m #[Value.ref b0] meth c code 4 RL E A) (hX : va_X b0 L xs s s.heap) (hbl : b0 < s.heap.size) (hbA : ¬ A b0) {i : Nat} (hi : i + 6 ≤ L) (hL : L ≤ 3072) (hn : Nx p l e s m below meth c E A b0 a b i 1352) : Nx p l e s m below meth c E A b0 a b i 395 := by
  intro f g h h2 ik one wo tp tl tk ts te tn rb rz rn td wf tch tk2 tb ta tv bad H locs ls hI X hl
  obtain ⟨I, hk, htl, J⟩ := hI
  have hx := K.1
  have hb := K.2.1
  refine lv_aload_n hx hb dL_law_395 rfl (lv_at hl 2 rfl) ?_
  refine lv_aload_n hx hb dL_law_396 rfl (lv_at hl 3 rfl) ?_
  refine lv_iload_n hx hb dL_law_397 rfl (lv_at hl 0 rfl) ?_
  refine lv_iconst (v := 1) hx hb dL_law_398 (by decide) ?_
  refine lv_iadd hx hb dL_law_399 ?_
  refine k_topi (nI_add i 1) ?_
  refine va_sld hx hb hX hbl hbA X.2.2 (vp_in_nI (show i + 1 < L by omega) (by omega)) dL_law_400 ?_
  refine k_topi (congrArg xs (nI_clamp (show i + 1 < 2147483648 by omega))) ?_
  refine lv_aload_n hx hb dL_law_401 rfl (lv_at hl 3 rfl) ?_
  refine lv_iload_n hx hb dL_law_402 rfl (lv_at hl 0 rfl) ?_
  refine lv_iconst (v := 2) hx hb dL_law_403 (by decide) ?_
  refine lv_iadd hx hb dL_law_404 ?_
  refine k_topi (nI_add i 2) ?_
  refine va_sld hx hb hX hbl hbA X.2.2 (vp_in_nI (show i + 2 < L by omega) (by omega)) dL_law_405 ?_
  refine k_topi (congrArg xs (nI_clamp (show i + 2 < 2147483648 by omega))) ?_
  refine k_callV K X gv_L_44 (As := [.int (xs (i + 1)), .int (xs (i + 2))]) (c_X11_of l E a f g h ik one wo tp tl tk ts te tn rb rz rn td 99999 (xs (i + 1)) (xs (i + 2)) I) [0, 1, 2, 3, 4, 5, 6, 7, 8, 9, 10, 11, 12, 13, 14, 15, 16, 17, 18, 19, 20, 21, 22, 23, 24, 25, 26, 27, 28, 29, 30, 31, 32, 33, 34, 35, 36, 37, 38, 39, 40, 41, 42] lawW_s0C (by decide +kernel) (fun _ => clsW_fst) 0 11 rfl rfl ⟨⟨Nat.le_of_ble_eq_true rfl, Nat.le_of_ble_eq_true rfl⟩, Nat.le_of_ble_eq_true rfl, Nat.le_of_ble_eq_true rfl⟩ rfl hl.1 (rest := []) rfl (Nat.le_of_ble_eq_true rfl) dL_law_406 (st1 := fun _ => [.int ((oOf f td (xs (i + 1)) (xs (i + 2))).1)]) (fun _ => rfl) (fun _ H locs _ X => ?_)
  have X : Wd E _ _ (lawW E a b ((oOf f td (xs (i + 1)) (xs (i + 2))).2.1) g h ik one wo tp tl tk ts te tn rb rz rn ((oOf f td (xs (i + 1)) (xs (i + 2))).2.2) (flat f) (flat h2) wf ik td tch tp tl tk2 tb ta tv bad rb rz (flR rn)) _ _ := X.eq lawW_s0P
  refine lv_aload_n hx hb dL_law_409 rfl (lv_at hl 1 rfl) ?_
  refine lv_aload_n hx hb dL_law_410 rfl (lv_at hl 3 rfl) ?_
  refine lv_iload_n hx hb dL_law_411 rfl (lv_at hl 0 rfl) ?_
  refine lv_iconst (v := 1) hx hb dL_law_412 (by decide) ?_
  refine lv_iadd hx hb dL_law_413 ?_
  refine k_topi (nI_add i 1) ?_
  refine va_sld hx hb hX hbl hbA X.2.2 (vp_in_nI (show i + 1 < L by omega) (by omega)) dL_law_414 ?_
  refine k_topi (congrArg xs (nI_clamp (show i + 1 < 2147483648 by omega))) ?_
  refine lv_aload_n hx hb dL_law_415 rfl (lv_at hl 3 rfl) ?_
  refine lv_iload_n hx hb dL_law_416 rfl (lv_at hl 0 rfl) ?_
  refine lv_iconst (v := 2) hx hb dL_law_417 (by decide) ?_
  refine lv_iadd hx hb dL_law_418 ?_
  refine k_topi (nI_add i 2) ?_
  refine va_sld hx hb hX hbl hbA X.2.2 (vp_in_nI (show i + 2 < L by omega) (by omega)) dL_law_419 ?_
  refine k_topi (congrArg xs (nI_clamp (show i + 2 < 2147483648 by omega))) ?_
  refine k_callV K X gv_L_47 (As := [.int (xs (i + 1)), .int (xs (i + 2))]) (c_X12_of l E b (flat h2) wf ik td tch tp tl tk2 tb ta tv bad rb rz (flR rn) f 99999 (xs (i + 1)) (xs (i + 2)) I) [43, 44, 45, 46, 47, 48, 49, 50, 51] lawW_s1C (by decide +kernel) (fun _ => modW_fst) 0 12 rfl rfl ⟨⟨Nat.le_of_ble_eq_true rfl, Nat.le_of_ble_eq_true rfl⟩, Nat.le_of_ble_eq_true rfl, Nat.le_of_ble_eq_true rfl⟩ rfl hl.1 (rest := [.int ((oOf f td (xs (i + 1)) (xs (i + 2))).1)]) rfl (Nat.le_of_ble_eq_true rfl) dL_law_420 (st1 := fun _ => [.int ((oOf f td (xs (i + 1)) (xs (i + 2))).1), .int ((oOf f td (xs (i + 1)) (xs (i + 2))).1)]) (fun _ => rfl) (fun _ H locs _ X => ?_)
  have X : Wd E _ _ (lawW E a b ((oOf f td (xs (i + 1)) (xs (i + 2))).2.1) g h ik one wo tp tl tk ts te tn rb rz rn ((oOf f td (xs (i + 1)) (xs (i + 2))).2.2) (flat ((oOf f td (xs (i + 1)) (xs (i + 2))).2.1)) (flat h2) wf ik ((oOf f td (xs (i + 1)) (xs (i + 2))).2.2) tch tp tl tk2 tb ta tv bad rb rz (flR rn)) _ _ := X.eq lawW_s1P
  refine k_icmp_eq (x := (oOf f td (xs (i + 1)) (xs (i + 2))).1) (y := (oOf f td (xs (i + 1)) (xs (i + 2))).1) hx hb 1352 dL_law_423 (by decide) (fun _ => ?_) (fun z => absurd rfl z)
  exact hn ((oOf f td (xs (i + 1)) (xs (i + 2))).2.1) g h h2 ik one wo tp tl tk ts te tn rb rz rn ((oOf f td (xs (i + 1)) (xs (i + 2))).2.2) wf tch tk2 tb ta tv bad _ _ _ ⟨(by rw [oOf_f]; exact I), hk, htl, J⟩ X hl
set_option maxRecDepth 100000 in
set_option maxHeartbeats 4000000 in
/-- wants -/
theorem lc_8 {p : Program} {l : Launch} {e : Env} {s : State} {m : MethodId} {below : List Frame} {meth : Method} {c : Code} {E : EE} {A : Nat → Prop} {b0 L : Nat} {xs : Nat → Int32} {a b : Nat → Nat} (K : Kx p s m #[Value.ref b0] meth c code 4 RL E A) (hX : va_X b0 L xs s s.heap) (hbl : b0 < s.heap.size) (hbA : ¬ A b0) {i : Nat} (hi : i + 6 ≤ L) (hL : L ≤ 3072) (hn : Nx p l e s m below meth c E A b0 a b i 1352) : Nx p l e s m below meth c E A b0 a b i 428 := by
  intro f g h h2 ik one wo tp tl tk ts te tn rb rz rn td wf tch tk2 tb ta tv bad H locs ls hI X hl
  obtain ⟨I, hk, htl, J⟩ := hI
  have hx := K.1
  have hb := K.2.1
  refine lv_aload_n hx hb dL_law_428 rfl (lv_at hl 2 rfl) ?_
  refine lv_aload_n hx hb dL_law_429 rfl (lv_at hl 3 rfl) ?_
  refine lv_iload_n hx hb dL_law_430 rfl (lv_at hl 0 rfl) ?_
  refine lv_iconst (v := 1) hx hb dL_law_431 (by decide) ?_
  refine lv_iadd hx hb dL_law_432 ?_
  refine k_topi (nI_add i 1) ?_
  refine va_sld hx hb hX hbl hbA X.2.2 (vp_in_nI (show i + 1 < L by omega) (by omega)) dL_law_433 ?_
  refine k_topi (congrArg xs (nI_clamp (show i + 1 < 2147483648 by omega))) ?_
  refine lv_aload_n hx hb dL_law_434 rfl (lv_at hl 3 rfl) ?_
  refine lv_iload_n hx hb dL_law_435 rfl (lv_at hl 0 rfl) ?_
  refine lv_iconst (v := 2) hx hb dL_law_436 (by decide) ?_
  refine lv_iadd hx hb dL_law_437 ?_
  refine k_topi (nI_add i 2) ?_
  refine va_sld hx hb hX hbl hbA X.2.2 (vp_in_nI (show i + 2 < L by omega) (by omega)) dL_law_438 ?_
  refine k_topi (congrArg xs (nI_clamp (show i + 2 < 2147483648 by omega))) ?_
  refine lv_aload_n hx hb dL_law_439 rfl (lv_at hl 3 rfl) ?_
  refine lv_iload_n hx hb dL_law_440 rfl (lv_at hl 0 rfl) ?_
  refine lv_iconst (v := 3) hx hb dL_law_441 (by decide) ?_
  refine lv_iadd hx hb dL_law_442 ?_
  refine k_topi (nI_add i 3) ?_
  refine va_sld hx hb hX hbl hbA X.2.2 (vp_in_nI (show i + 3 < L by omega) (by omega)) dL_law_443 ?_
  refine k_topi (congrArg xs (nI_clamp (show i + 3 < 2147483648 by omega))) ?_
  refine k_callV K X gv_L_48 (As := [.int (xs (i + 1)), .int (xs (i + 2)), .int (xs (i + 3))]) (c_X11_wants l E a f g h ik one wo tp tl tk ts te tn rb rz rn td 99999 (xs (i + 1)) (xs (i + 2)) (xs (i + 3)) I) [0, 1, 2, 3, 4, 5, 6, 7, 8, 9, 10, 11, 12, 13, 14, 15, 16, 17, 18, 19, 20, 21, 22, 23, 24, 25, 26, 27, 28, 29, 30, 31, 32, 33, 34, 35, 36, 37, 38, 39, 40, 41, 42] lawW_s0C (by decide +kernel) (fun _ => clsW_fst) 0 11 rfl rfl ⟨⟨Nat.le_of_ble_eq_true rfl, Nat.le_of_ble_eq_true rfl⟩, Nat.le_of_ble_eq_true rfl, Nat.le_of_ble_eq_true rfl⟩ rfl hl.1 (rest := []) rfl (Nat.le_of_ble_eq_true rfl) dL_law_444 (st1 := fun _ => [.int ((oWants f td (xs (i + 1)) (xs (i + 2)) (xs (i + 3))).1)]) (fun _ => rfl) (fun _ H locs _ X => ?_)
  have X : Wd E _ _ (lawW E a b ((oWants f td (xs (i + 1)) (xs (i + 2)) (xs (i + 3))).2.1) g h ik one wo tp tl tk ts te tn rb rz rn ((oWants f td (xs (i + 1)) (xs (i + 2)) (xs (i + 3))).2.2) (flat f) (flat h2) wf ik td tch tp tl tk2 tb ta tv bad rb rz (flR rn)) _ _ := X.eq lawW_s0P
  refine lv_aload_n hx hb dL_law_447 rfl (lv_at hl 1 rfl) ?_
  refine lv_aload_n hx hb dL_law_448 rfl (lv_at hl 3 rfl) ?_
  refine lv_iload_n hx hb dL_law_449 rfl (lv_at hl 0 rfl) ?_
  refine lv_iconst (v := 1) hx hb dL_law_450 (by decide) ?_
  refine lv_iadd hx hb dL_law_451 ?_
  refine k_topi (nI_add i 1) ?_
  refine va_sld hx hb hX hbl hbA X.2.2 (vp_in_nI (show i + 1 < L by omega) (by omega)) dL_law_452 ?_
  refine k_topi (congrArg xs (nI_clamp (show i + 1 < 2147483648 by omega))) ?_
  refine lv_aload_n hx hb dL_law_453 rfl (lv_at hl 3 rfl) ?_
  refine lv_iload_n hx hb dL_law_454 rfl (lv_at hl 0 rfl) ?_
  refine lv_iconst (v := 2) hx hb dL_law_455 (by decide) ?_
  refine lv_iadd hx hb dL_law_456 ?_
  refine k_topi (nI_add i 2) ?_
  refine va_sld hx hb hX hbl hbA X.2.2 (vp_in_nI (show i + 2 < L by omega) (by omega)) dL_law_457 ?_
  refine k_topi (congrArg xs (nI_clamp (show i + 2 < 2147483648 by omega))) ?_
  refine lv_aload_n hx hb dL_law_458 rfl (lv_at hl 3 rfl) ?_
  refine lv_iload_n hx hb dL_law_459 rfl (lv_at hl 0 rfl) ?_
  refine lv_iconst (v := 3) hx hb dL_law_460 (by decide) ?_
  refine lv_iadd hx hb dL_law_461 ?_
  refine k_topi (nI_add i 3) ?_
  refine va_sld hx hb hX hbl hbA X.2.2 (vp_in_nI (show i + 3 < L by omega) (by omega)) dL_law_462 ?_
  refine k_topi (congrArg xs (nI_clamp (show i + 3 < 2147483648 by omega))) ?_
  refine k_callV K X gv_L_51 (As := [.int (xs (i + 1)), .int (xs (i + 2)), .int (xs (i + 3))]) (c_X12_wants l E b (flat h2) wf ik td tch tp tl tk2 tb ta tv bad rb rz (flR rn) f 99999 (xs (i + 1)) (xs (i + 2)) (xs (i + 3)) I) [43, 44, 45, 46, 47, 48, 49, 50, 51] lawW_s1C (by decide +kernel) (fun _ => modW_fst) 0 12 rfl rfl ⟨⟨Nat.le_of_ble_eq_true rfl, Nat.le_of_ble_eq_true rfl⟩, Nat.le_of_ble_eq_true rfl, Nat.le_of_ble_eq_true rfl⟩ rfl hl.1 (rest := [.int ((oWants f td (xs (i + 1)) (xs (i + 2)) (xs (i + 3))).1)]) rfl (Nat.le_of_ble_eq_true rfl) dL_law_463 (st1 := fun _ => [.int ((oWants f td (xs (i + 1)) (xs (i + 2)) (xs (i + 3))).1), .int ((oWants f td (xs (i + 1)) (xs (i + 2)) (xs (i + 3))).1)]) (fun _ => rfl) (fun _ H locs _ X => ?_)
  have X : Wd E _ _ (lawW E a b ((oWants f td (xs (i + 1)) (xs (i + 2)) (xs (i + 3))).2.1) g h ik one wo tp tl tk ts te tn rb rz rn ((oWants f td (xs (i + 1)) (xs (i + 2)) (xs (i + 3))).2.2) (flat ((oWants f td (xs (i + 1)) (xs (i + 2)) (xs (i + 3))).2.1)) (flat h2) wf ik ((oWants f td (xs (i + 1)) (xs (i + 2)) (xs (i + 3))).2.2) tch tp tl tk2 tb ta tv bad rb rz (flR rn)) _ _ := X.eq lawW_s1P
  refine k_icmp_eq (x := (oWants f td (xs (i + 1)) (xs (i + 2)) (xs (i + 3))).1) (y := (oWants f td (xs (i + 1)) (xs (i + 2)) (xs (i + 3))).1) hx hb 1352 dL_law_466 (by decide) (fun _ => ?_) (fun z => absurd rfl z)
  exact hn ((oWants f td (xs (i + 1)) (xs (i + 2)) (xs (i + 3))).2.1) g h h2 ik one wo tp tl tk ts te tn rb rz rn ((oWants f td (xs (i + 1)) (xs (i + 2)) (xs (i + 3))).2.2) wf tch tk2 tb ta tv bad _ _ _ ⟨oWants_I I td (xs (i + 1)) (xs (i + 2)) (xs (i + 3)), hk, htl, J⟩ X hl
set_option maxRecDepth 100000 in
set_option maxHeartbeats 4000000 in
/-- out -/
theorem lc_9 {p : Program} {l : Launch} {e : Env} {s : State} {m : MethodId} {below : List Frame} {meth : Method} {c : Code} {E : EE} {A : Nat → Prop} {b0 L : Nat} {xs : Nat → Int32} {a b : Nat → Nat} (K : Kx p s m #[Value.ref b0] meth c code 4 RL E A) (hX : va_X b0 L xs s s.heap) (hbl : b0 < s.heap.size) (hbA : ¬ A b0) {i : Nat} (hi : i + 6 ≤ L) (hL : L ≤ 3072) (hn : Nx p l e s m below meth c E A b0 a b i 1352) : Nx p l e s m below meth c E A b0 a b i 471 := by
  intro f g h h2 ik one wo tp tl tk ts te tn rb rz rn td wf tch tk2 tb ta tv bad H locs ls hI X hl
  obtain ⟨I, hk, htl, J⟩ := hI
  have hx := K.1
  have hb := K.2.1
  refine lv_aload_n hx hb dL_law_471 rfl (lv_at hl 2 rfl) ?_
  refine lv_aload_n hx hb dL_law_472 rfl (lv_at hl 3 rfl) ?_
  refine lv_iload_n hx hb dL_law_473 rfl (lv_at hl 0 rfl) ?_
  refine lv_iconst (v := 1) hx hb dL_law_474 (by decide) ?_
  refine lv_iadd hx hb dL_law_475 ?_
  refine k_topi (nI_add i 1) ?_
  refine va_sld hx hb hX hbl hbA X.2.2 (vp_in_nI (show i + 1 < L by omega) (by omega)) dL_law_476 ?_
  refine k_topi (congrArg xs (nI_clamp (show i + 1 < 2147483648 by omega))) ?_
  refine lv_aload_n hx hb dL_law_477 rfl (lv_at hl 3 rfl) ?_
  refine lv_iload_n hx hb dL_law_478 rfl (lv_at hl 0 rfl) ?_
  refine lv_iconst (v := 2) hx hb dL_law_479 (by decide) ?_
  refine lv_iadd hx hb dL_law_480 ?_
  refine k_topi (nI_add i 2) ?_
  refine va_sld hx hb hX hbl hbA X.2.2 (vp_in_nI (show i + 2 < L by omega) (by omega)) dL_law_481 ?_
  refine k_topi (congrArg xs (nI_clamp (show i + 2 < 2147483648 by omega))) ?_
  refine k_callV K X gv_L_52 (As := [.int (xs (i + 1)), .int (xs (i + 2))]) (c_X11_out l E a f g h ik one wo tp tl tk ts te tn rb rz rn td 99999 (xs (i + 1)) (xs (i + 2)) I) [0, 1, 2, 3, 4, 5, 6, 7, 8, 9, 10, 11, 12, 13, 14, 15, 16, 17, 18, 19, 20, 21, 22, 23, 24, 25, 26, 27, 28, 29, 30, 31, 32, 33, 34, 35, 36, 37, 38, 39, 40, 41, 42] lawW_s0C (by decide +kernel) (fun _ => clsW_fst) 0 11 rfl rfl ⟨⟨Nat.le_of_ble_eq_true rfl, Nat.le_of_ble_eq_true rfl⟩, Nat.le_of_ble_eq_true rfl, Nat.le_of_ble_eq_true rfl⟩ rfl hl.1 (rest := []) rfl (Nat.le_of_ble_eq_true rfl) dL_law_482 (st1 := fun _ => [.int ((oOut f td (xs (i + 1)) (xs (i + 2))).1)]) (fun _ => rfl) (fun _ H locs _ X => ?_)
  have X : Wd E _ _ (lawW E a b ((oOut f td (xs (i + 1)) (xs (i + 2))).2.1) g h ik one wo tp tl tk ts te tn rb rz rn ((oOut f td (xs (i + 1)) (xs (i + 2))).2.2) (flat f) (flat h2) wf ik td tch tp tl tk2 tb ta tv bad rb rz (flR rn)) _ _ := X.eq lawW_s0P
  refine lv_aload_n hx hb dL_law_485 rfl (lv_at hl 1 rfl) ?_
  refine lv_aload_n hx hb dL_law_486 rfl (lv_at hl 3 rfl) ?_
  refine lv_iload_n hx hb dL_law_487 rfl (lv_at hl 0 rfl) ?_
  refine lv_iconst (v := 1) hx hb dL_law_488 (by decide) ?_
  refine lv_iadd hx hb dL_law_489 ?_
  refine k_topi (nI_add i 1) ?_
  refine va_sld hx hb hX hbl hbA X.2.2 (vp_in_nI (show i + 1 < L by omega) (by omega)) dL_law_490 ?_
  refine k_topi (congrArg xs (nI_clamp (show i + 1 < 2147483648 by omega))) ?_
  refine lv_aload_n hx hb dL_law_491 rfl (lv_at hl 3 rfl) ?_
  refine lv_iload_n hx hb dL_law_492 rfl (lv_at hl 0 rfl) ?_
  refine lv_iconst (v := 2) hx hb dL_law_493 (by decide) ?_
  refine lv_iadd hx hb dL_law_494 ?_
  refine k_topi (nI_add i 2) ?_
  refine va_sld hx hb hX hbl hbA X.2.2 (vp_in_nI (show i + 2 < L by omega) (by omega)) dL_law_495 ?_
  refine k_topi (congrArg xs (nI_clamp (show i + 2 < 2147483648 by omega))) ?_
  refine k_callV K X gv_L_55 (As := [.int (xs (i + 1)), .int (xs (i + 2))]) (c_X12_out l E b (flat h2) wf ik td tch tp tl tk2 tb ta tv bad rb rz (flR rn) f 99999 (xs (i + 1)) (xs (i + 2)) I) [43, 44, 45, 46, 47, 48, 49, 50, 51] lawW_s1C (by decide +kernel) (fun _ => modW_fst) 0 12 rfl rfl ⟨⟨Nat.le_of_ble_eq_true rfl, Nat.le_of_ble_eq_true rfl⟩, Nat.le_of_ble_eq_true rfl, Nat.le_of_ble_eq_true rfl⟩ rfl hl.1 (rest := [.int ((oOut f td (xs (i + 1)) (xs (i + 2))).1)]) rfl (Nat.le_of_ble_eq_true rfl) dL_law_496 (st1 := fun _ => [.int ((oOut f td (xs (i + 1)) (xs (i + 2))).1), .int ((oOut f td (xs (i + 1)) (xs (i + 2))).1)]) (fun _ => rfl) (fun _ H locs _ X => ?_)
  have X : Wd E _ _ (lawW E a b ((oOut f td (xs (i + 1)) (xs (i + 2))).2.1) g h ik one wo tp tl tk ts te tn rb rz rn ((oOut f td (xs (i + 1)) (xs (i + 2))).2.2) (flat ((oOut f td (xs (i + 1)) (xs (i + 2))).2.1)) (flat h2) wf ik ((oOut f td (xs (i + 1)) (xs (i + 2))).2.2) tch tp tl tk2 tb ta tv bad rb rz (flR rn)) _ _ := X.eq lawW_s1P
  refine k_icmp_eq (x := (oOut f td (xs (i + 1)) (xs (i + 2))).1) (y := (oOut f td (xs (i + 1)) (xs (i + 2))).1) hx hb 1352 dL_law_499 (by decide) (fun _ => ?_) (fun z => absurd rfl z)
  exact hn ((oOut f td (xs (i + 1)) (xs (i + 2))).2.1) g h h2 ik one wo tp tl tk ts te tn rb rz rn ((oOut f td (xs (i + 1)) (xs (i + 2))).2.2) wf tch tk2 tb ta tv bad _ _ _ ⟨oOut_I I td (xs (i + 1)) (xs (i + 2)), hk, htl, J⟩ X hl
set_option maxRecDepth 100000 in
set_option maxHeartbeats 4000000 in
/-- turn -/
theorem lc_10 {p : Program} {l : Launch} {e : Env} {s : State} {m : MethodId} {below : List Frame} {meth : Method} {c : Code} {E : EE} {A : Nat → Prop} {b0 L : Nat} {xs : Nat → Int32} {a b : Nat → Nat} (K : Kx p s m #[Value.ref b0] meth c code 4 RL E A) (hX : va_X b0 L xs s s.heap) (hbl : b0 < s.heap.size) (hbA : ¬ A b0) {i : Nat} (hi : i + 6 ≤ L) (hL : L ≤ 3072) (hn : Nx p l e s m below meth c E A b0 a b i 1352) : Nx p l e s m below meth c E A b0 a b i 504 := by
  intro f g h h2 ik one wo tp tl tk ts te tn rb rz rn td wf tch tk2 tb ta tv bad H locs ls hI X hl
  obtain ⟨I, hk, htl, J⟩ := hI
  have hx := K.1
  have hb := K.2.1
  refine lv_aload_n hx hb dL_law_504 rfl (lv_at hl 2 rfl) ?_
  refine lv_aload_n hx hb dL_law_505 rfl (lv_at hl 3 rfl) ?_
  refine lv_iload_n hx hb dL_law_506 rfl (lv_at hl 0 rfl) ?_
  refine lv_iconst (v := 1) hx hb dL_law_507 (by decide) ?_
  refine lv_iadd hx hb dL_law_508 ?_
  refine k_topi (nI_add i 1) ?_
  refine va_sld hx hb hX hbl hbA X.2.2 (vp_in_nI (show i + 1 < L by omega) (by omega)) dL_law_509 ?_
  refine k_topi (congrArg xs (nI_clamp (show i + 1 < 2147483648 by omega))) ?_
  refine lv_aload_n hx hb dL_law_510 rfl (lv_at hl 3 rfl) ?_
  refine lv_iload_n hx hb dL_law_511 rfl (lv_at hl 0 rfl) ?_
  refine lv_iconst (v := 2) hx hb dL_law_512 (by decide) ?_
  refine lv_iadd hx hb dL_law_513 ?_
  refine k_topi (nI_add i 2) ?_
  refine va_sld hx hb hX hbl hbA X.2.2 (vp_in_nI (show i + 2 < L by omega) (by omega)) dL_law_514 ?_
  refine k_topi (congrArg xs (nI_clamp (show i + 2 < 2147483648 by omega))) ?_
  refine k_callV K X gv_L_56 (As := [.int (xs (i + 1)), .int (xs (i + 2))]) (c_X11_turn l E a f g h ik one wo tp tl tk ts te tn rb rz rn td 99999 (xs (i + 1)) (xs (i + 2)) I) [0, 1, 2, 3, 4, 5, 6, 7, 8, 9, 10, 11, 12, 13, 14, 15, 16, 17, 18, 19, 20, 21, 22, 23, 24, 25, 26, 27, 28, 29, 30, 31, 32, 33, 34, 35, 36, 37, 38, 39, 40, 41, 42] lawW_s0C (by decide +kernel) (fun _ => clsW_fst) 0 11 rfl rfl ⟨⟨Nat.le_of_ble_eq_true rfl, Nat.le_of_ble_eq_true rfl⟩, Nat.le_of_ble_eq_true rfl, Nat.le_of_ble_eq_true rfl⟩ rfl hl.1 (rest := []) rfl (Nat.le_of_ble_eq_true rfl) dL_law_515 (st1 := fun _ => [.int ((oTurn f td (xs (i + 1)) (xs (i + 2))).1)]) (fun _ => rfl) (fun _ H locs _ X => ?_)
  have X : Wd E _ _ (lawW E a b ((oTurn f td (xs (i + 1)) (xs (i + 2))).2.1) g h ik one wo tp tl tk ts te tn rb rz rn ((oTurn f td (xs (i + 1)) (xs (i + 2))).2.2) (flat f) (flat h2) wf ik td tch tp tl tk2 tb ta tv bad rb rz (flR rn)) _ _ := X.eq lawW_s0P
  refine lv_aload_n hx hb dL_law_518 rfl (lv_at hl 1 rfl) ?_
  refine lv_aload_n hx hb dL_law_519 rfl (lv_at hl 3 rfl) ?_
  refine lv_iload_n hx hb dL_law_520 rfl (lv_at hl 0 rfl) ?_
  refine lv_iconst (v := 1) hx hb dL_law_521 (by decide) ?_
  refine lv_iadd hx hb dL_law_522 ?_
  refine k_topi (nI_add i 1) ?_
  refine va_sld hx hb hX hbl hbA X.2.2 (vp_in_nI (show i + 1 < L by omega) (by omega)) dL_law_523 ?_
  refine k_topi (congrArg xs (nI_clamp (show i + 1 < 2147483648 by omega))) ?_
  refine lv_aload_n hx hb dL_law_524 rfl (lv_at hl 3 rfl) ?_
  refine lv_iload_n hx hb dL_law_525 rfl (lv_at hl 0 rfl) ?_
  refine lv_iconst (v := 2) hx hb dL_law_526 (by decide) ?_
  refine lv_iadd hx hb dL_law_527 ?_
  refine k_topi (nI_add i 2) ?_
  refine va_sld hx hb hX hbl hbA X.2.2 (vp_in_nI (show i + 2 < L by omega) (by omega)) dL_law_528 ?_
  refine k_topi (congrArg xs (nI_clamp (show i + 2 < 2147483648 by omega))) ?_
  refine k_callV K X gv_L_59 (As := [.int (xs (i + 1)), .int (xs (i + 2))]) (c_X12_turn l E b (flat h2) wf ik td tch tp tl tk2 tb ta tv bad rb rz (flR rn) f 99999 (xs (i + 1)) (xs (i + 2)) I) [43, 44, 45, 46, 47, 48, 49, 50, 51] lawW_s1C (by decide +kernel) (fun _ => modW_fst) 0 12 rfl rfl ⟨⟨Nat.le_of_ble_eq_true rfl, Nat.le_of_ble_eq_true rfl⟩, Nat.le_of_ble_eq_true rfl, Nat.le_of_ble_eq_true rfl⟩ rfl hl.1 (rest := [.int ((oTurn f td (xs (i + 1)) (xs (i + 2))).1)]) rfl (Nat.le_of_ble_eq_true rfl) dL_law_529 (st1 := fun _ => [.int ((oTurn f td (xs (i + 1)) (xs (i + 2))).1), .int ((oTurn f td (xs (i + 1)) (xs (i + 2))).1)]) (fun _ => rfl) (fun _ H locs _ X => ?_)
  have X : Wd E _ _ (lawW E a b ((oTurn f td (xs (i + 1)) (xs (i + 2))).2.1) g h ik one wo tp tl tk ts te tn rb rz rn ((oTurn f td (xs (i + 1)) (xs (i + 2))).2.2) (flat ((oTurn f td (xs (i + 1)) (xs (i + 2))).2.1)) (flat h2) wf ik ((oTurn f td (xs (i + 1)) (xs (i + 2))).2.2) tch tp tl tk2 tb ta tv bad rb rz (flR rn)) _ _ := X.eq lawW_s1P
  refine k_icmp_eq (x := (oTurn f td (xs (i + 1)) (xs (i + 2))).1) (y := (oTurn f td (xs (i + 1)) (xs (i + 2))).1) hx hb 1352 dL_law_532 (by decide) (fun _ => ?_) (fun z => absurd rfl z)
  exact hn ((oTurn f td (xs (i + 1)) (xs (i + 2))).2.1) g h h2 ik one wo tp tl tk ts te tn rb rz rn ((oTurn f td (xs (i + 1)) (xs (i + 2))).2.2) wf tch tk2 tb ta tv bad _ _ _ ⟨oTurn_I I td (xs (i + 1)) (xs (i + 2)), hk, htl, J⟩ X hl
set_option maxRecDepth 100000 in
set_option maxHeartbeats 4000000 in
/-- as -/
theorem lc_11 {p : Program} {l : Launch} {e : Env} {s : State} {m : MethodId} {below : List Frame} {meth : Method} {c : Code} {E : EE} {A : Nat → Prop} {b0 L : Nat} {xs : Nat → Int32} {a b : Nat → Nat} (K : Kx p s m #[Value.ref b0] meth c code 4 RL E A) (hX : va_X b0 L xs s s.heap) (hbl : b0 < s.heap.size) (hbA : ¬ A b0) {i : Nat} (hi : i + 6 ≤ L) (hL : L ≤ 3072) (hn : Nx p l e s m below meth c E A b0 a b i 1352) : Nx p l e s m below meth c E A b0 a b i 537 := by
  intro f g h h2 ik one wo tp tl tk ts te tn rb rz rn td wf tch tk2 tb ta tv bad H locs ls hI X hl
  obtain ⟨I, hk, htl, J⟩ := hI
  have hx := K.1
  have hb := K.2.1
  refine lv_aload_n hx hb dL_law_537 rfl (lv_at hl 2 rfl) ?_
  refine lv_aload_n hx hb dL_law_538 rfl (lv_at hl 3 rfl) ?_
  refine lv_iload_n hx hb dL_law_539 rfl (lv_at hl 0 rfl) ?_
  refine lv_iconst (v := 1) hx hb dL_law_540 (by decide) ?_
  refine lv_iadd hx hb dL_law_541 ?_
  refine k_topi (nI_add i 1) ?_
  refine va_sld hx hb hX hbl hbA X.2.2 (vp_in_nI (show i + 1 < L by omega) (by omega)) dL_law_542 ?_
  refine k_topi (congrArg xs (nI_clamp (show i + 1 < 2147483648 by omega))) ?_
  refine lv_aload_n hx hb dL_law_543 rfl (lv_at hl 3 rfl) ?_
  refine lv_iload_n hx hb dL_law_544 rfl (lv_at hl 0 rfl) ?_
  refine lv_iconst (v := 2) hx hb dL_law_545 (by decide) ?_
  refine lv_iadd hx hb dL_law_546 ?_
  refine k_topi (nI_add i 2) ?_
  refine va_sld hx hb hX hbl hbA X.2.2 (vp_in_nI (show i + 2 < L by omega) (by omega)) dL_law_547 ?_
  refine k_topi (congrArg xs (nI_clamp (show i + 2 < 2147483648 by omega))) ?_
  refine k_callV K X gv_L_60 (As := [.int (xs (i + 1)), .int (xs (i + 2))]) (c_X11_as l E a f g h ik one wo tp tl tk ts te tn rb rz rn td 99999 (xs (i + 1)) (xs (i + 2)) I) [0, 1, 2, 3, 4, 5, 6, 7, 8, 9, 10, 11, 12, 13, 14, 15, 16, 17, 18, 19, 20, 21, 22, 23, 24, 25, 26, 27, 28, 29, 30, 31, 32, 33, 34, 35, 36, 37, 38, 39, 40, 41, 42] lawW_s0C (by decide +kernel) (fun _ => clsW_fst) 0 11 rfl rfl ⟨⟨Nat.le_of_ble_eq_true rfl, Nat.le_of_ble_eq_true rfl⟩, Nat.le_of_ble_eq_true rfl, Nat.le_of_ble_eq_true rfl⟩ rfl hl.1 (rest := []) rfl (Nat.le_of_ble_eq_true rfl) dL_law_548 (st1 := fun _ => [.int ((oAs f td (xs (i + 1)) (xs (i + 2))).1)]) (fun _ => rfl) (fun _ H locs _ X => ?_)
  have X : Wd E _ _ (lawW E a b ((oAs f td (xs (i + 1)) (xs (i + 2))).2.1) g h ik one wo tp tl tk ts te tn rb rz rn ((oAs f td (xs (i + 1)) (xs (i + 2))).2.2) (flat f) (flat h2) wf ik td tch tp tl tk2 tb ta tv bad rb rz (flR rn)) _ _ := X.eq lawW_s0P
  refine lv_aload_n hx hb dL_law_551 rfl (lv_at hl 1 rfl) ?_
  refine lv_aload_n hx hb dL_law_552 rfl (lv_at hl 3 rfl) ?_
  refine lv_iload_n hx hb dL_law_553 rfl (lv_at hl 0 rfl) ?_
  refine lv_iconst (v := 1) hx hb dL_law_554 (by decide) ?_
  refine lv_iadd hx hb dL_law_555 ?_
  refine k_topi (nI_add i 1) ?_
  refine va_sld hx hb hX hbl hbA X.2.2 (vp_in_nI (show i + 1 < L by omega) (by omega)) dL_law_556 ?_
  refine k_topi (congrArg xs (nI_clamp (show i + 1 < 2147483648 by omega))) ?_
  refine lv_aload_n hx hb dL_law_557 rfl (lv_at hl 3 rfl) ?_
  refine lv_iload_n hx hb dL_law_558 rfl (lv_at hl 0 rfl) ?_
  refine lv_iconst (v := 2) hx hb dL_law_559 (by decide) ?_
  refine lv_iadd hx hb dL_law_560 ?_
  refine k_topi (nI_add i 2) ?_
  refine va_sld hx hb hX hbl hbA X.2.2 (vp_in_nI (show i + 2 < L by omega) (by omega)) dL_law_561 ?_
  refine k_topi (congrArg xs (nI_clamp (show i + 2 < 2147483648 by omega))) ?_
  refine k_callV K X gv_L_63 (As := [.int (xs (i + 1)), .int (xs (i + 2))]) (c_X12_as l E b (flat h2) wf ik td tch tp tl tk2 tb ta tv bad rb rz (flR rn) f 99999 (xs (i + 1)) (xs (i + 2)) I) [43, 44, 45, 46, 47, 48, 49, 50, 51] lawW_s1C (by decide +kernel) (fun _ => modW_fst) 0 12 rfl rfl ⟨⟨Nat.le_of_ble_eq_true rfl, Nat.le_of_ble_eq_true rfl⟩, Nat.le_of_ble_eq_true rfl, Nat.le_of_ble_eq_true rfl⟩ rfl hl.1 (rest := [.int ((oAs f td (xs (i + 1)) (xs (i + 2))).1)]) rfl (Nat.le_of_ble_eq_true rfl) dL_law_562 (st1 := fun _ => [.int ((oAs f td (xs (i + 1)) (xs (i + 2))).1), .int ((oAs f td (xs (i + 1)) (xs (i + 2))).1)]) (fun _ => rfl) (fun _ H locs _ X => ?_)
  have X : Wd E _ _ (lawW E a b ((oAs f td (xs (i + 1)) (xs (i + 2))).2.1) g h ik one wo tp tl tk ts te tn rb rz rn ((oAs f td (xs (i + 1)) (xs (i + 2))).2.2) (flat ((oAs f td (xs (i + 1)) (xs (i + 2))).2.1)) (flat h2) wf ik ((oAs f td (xs (i + 1)) (xs (i + 2))).2.2) tch tp tl tk2 tb ta tv bad rb rz (flR rn)) _ _ := X.eq lawW_s1P
  refine k_icmp_eq (x := (oAs f td (xs (i + 1)) (xs (i + 2))).1) (y := (oAs f td (xs (i + 1)) (xs (i + 2))).1) hx hb 1352 dL_law_565 (by decide) (fun _ => ?_) (fun z => absurd rfl z)
  exact hn ((oAs f td (xs (i + 1)) (xs (i + 2))).2.1) g h h2 ik one wo tp tl tk ts te tn rb rz rn ((oAs f td (xs (i + 1)) (xs (i + 2))).2.2) wf tch tk2 tb ta tv bad _ _ _ ⟨(by rw [oAs_f]; exact I), hk, htl, J⟩ X hl
set_option maxRecDepth 100000 in
set_option maxHeartbeats 4000000 in
/-- alike -/
theorem lc_12 {p : Program} {l : Launch} {e : Env} {s : State} {m : MethodId} {below : List Frame} {meth : Method} {c : Code} {E : EE} {A : Nat → Prop} {b0 L : Nat} {xs : Nat → Int32} {a b : Nat → Nat} (K : Kx p s m #[Value.ref b0] meth c code 4 RL E A) (hX : va_X b0 L xs s s.heap) (hbl : b0 < s.heap.size) (hbA : ¬ A b0) {i : Nat} (hi : i + 6 ≤ L) (hL : L ≤ 3072) (hn : Nx p l e s m below meth c E A b0 a b i 1352) : Nx p l e s m below meth c E A b0 a b i 570 := by
  intro f g h h2 ik one wo tp tl tk ts te tn rb rz rn td wf tch tk2 tb ta tv bad H locs ls hI X hl
  obtain ⟨I, hk, htl, J⟩ := hI
  have hx := K.1
  have hb := K.2.1
  refine lv_aload_n hx hb dL_law_570 rfl (lv_at hl 2 rfl) ?_
  refine lv_aload_n hx hb dL_law_571 rfl (lv_at hl 3 rfl) ?_
  refine lv_iload_n hx hb dL_law_572 rfl (lv_at hl 0 rfl) ?_
  refine lv_iconst (v := 1) hx hb dL_law_573 (by decide) ?_
  refine lv_iadd hx hb dL_law_574 ?_
  refine k_topi (nI_add i 1) ?_
  refine va_sld hx hb hX hbl hbA X.2.2 (vp_in_nI (show i + 1 < L by omega) (by omega)) dL_law_575 ?_
  refine k_topi (congrArg xs (nI_clamp (show i + 1 < 2147483648 by omega))) ?_
  refine lv_aload_n hx hb dL_law_576 rfl (lv_at hl 3 rfl) ?_
  refine lv_iload_n hx hb dL_law_577 rfl (lv_at hl 0 rfl) ?_
  refine lv_iconst (v := 2) hx hb dL_law_578 (by decide) ?_
  refine lv_iadd hx hb dL_law_579 ?_
  refine k_topi (nI_add i 2) ?_
  refine va_sld hx hb hX hbl hbA X.2.2 (vp_in_nI (show i + 2 < L by omega) (by omega)) dL_law_580 ?_
  refine k_topi (congrArg xs (nI_clamp (show i + 2 < 2147483648 by omega))) ?_
  refine k_callV K X gv_L_64 (As := [.int (xs (i + 1)), .int (xs (i + 2))]) (c_X11_alike l E a f g h ik one wo tp tl tk ts te tn rb rz rn td 99999 (xs (i + 1)) (xs (i + 2)) I) [0, 1, 2, 3, 4, 5, 6, 7, 8, 9, 10, 11, 12, 13, 14, 15, 16, 17, 18, 19, 20, 21, 22, 23, 24, 25, 26, 27, 28, 29, 30, 31, 32, 33, 34, 35, 36, 37, 38, 39, 40, 41, 42] lawW_s0C (by decide +kernel) (fun _ => clsW_fst) 0 11 rfl rfl ⟨⟨Nat.le_of_ble_eq_true rfl, Nat.le_of_ble_eq_true rfl⟩, Nat.le_of_ble_eq_true rfl, Nat.le_of_ble_eq_true rfl⟩ rfl hl.1 (rest := []) rfl (Nat.le_of_ble_eq_true rfl) dL_law_581 (st1 := fun _ => [.int ((oAlike f td (xs (i + 1)) (xs (i + 2))).1)]) (fun _ => rfl) (fun _ H locs _ X => ?_)
  have X : Wd E _ _ (lawW E a b ((oAlike f td (xs (i + 1)) (xs (i + 2))).2.1) g h ik one wo tp tl tk ts te tn rb rz rn ((oAlike f td (xs (i + 1)) (xs (i + 2))).2.2) (flat f) (flat h2) wf ik td tch tp tl tk2 tb ta tv bad rb rz (flR rn)) _ _ := X.eq lawW_s0P
  refine lv_aload_n hx hb dL_law_584 rfl (lv_at hl 1 rfl) ?_
  refine lv_aload_n hx hb dL_law_585 rfl (lv_at hl 3 rfl) ?_
  refine lv_iload_n hx hb dL_law_586 rfl (lv_at hl 0 rfl) ?_
  refine lv_iconst (v := 1) hx hb dL_law_587 (by decide) ?_
  refine lv_iadd hx hb dL_law_588 ?_
  refine k_topi (nI_add i 1) ?_
  refine va_sld hx hb hX hbl hbA X.2.2 (vp_in_nI (show i + 1 < L by omega) (by omega)) dL_law_589 ?_
  refine k_topi (congrArg xs (nI_clamp (show i + 1 < 2147483648 by omega))) ?_
  refine lv_aload_n hx hb dL_law_590 rfl (lv_at hl 3 rfl) ?_
  refine lv_iload_n hx hb dL_law_591 rfl (lv_at hl 0 rfl) ?_
  refine lv_iconst (v := 2) hx hb dL_law_592 (by decide) ?_
  refine lv_iadd hx hb dL_law_593 ?_
  refine k_topi (nI_add i 2) ?_
  refine va_sld hx hb hX hbl hbA X.2.2 (vp_in_nI (show i + 2 < L by omega) (by omega)) dL_law_594 ?_
  refine k_topi (congrArg xs (nI_clamp (show i + 2 < 2147483648 by omega))) ?_
  refine k_callV K X gv_L_67 (As := [.int (xs (i + 1)), .int (xs (i + 2))]) (c_X12_alike l E b (flat h2) wf ik td tch tp tl tk2 tb ta tv bad rb rz (flR rn) f 99999 (xs (i + 1)) (xs (i + 2)) I) [43, 44, 45, 46, 47, 48, 49, 50, 51] lawW_s1C (by decide +kernel) (fun _ => modW_fst) 0 12 rfl rfl ⟨⟨Nat.le_of_ble_eq_true rfl, Nat.le_of_ble_eq_true rfl⟩, Nat.le_of_ble_eq_true rfl, Nat.le_of_ble_eq_true rfl⟩ rfl hl.1 (rest := [.int ((oAlike f td (xs (i + 1)) (xs (i + 2))).1)]) rfl (Nat.le_of_ble_eq_true rfl) dL_law_595 (st1 := fun _ => [.int ((oAlike f td (xs (i + 1)) (xs (i + 2))).1), .int ((oAlike f td (xs (i + 1)) (xs (i + 2))).1)]) (fun _ => rfl) (fun _ H locs _ X => ?_)
  have X : Wd E _ _ (lawW E a b ((oAlike f td (xs (i + 1)) (xs (i + 2))).2.1) g h ik one wo tp tl tk ts te tn rb rz rn ((oAlike f td (xs (i + 1)) (xs (i + 2))).2.2) (flat ((oAlike f td (xs (i + 1)) (xs (i + 2))).2.1)) (flat h2) wf ik ((oAlike f td (xs (i + 1)) (xs (i + 2))).2.2) tch tp tl tk2 tb ta tv bad rb rz (flR rn)) _ _ := X.eq lawW_s1P
  refine k_icmp_eq (x := (oAlike f td (xs (i + 1)) (xs (i + 2))).1) (y := (oAlike f td (xs (i + 1)) (xs (i + 2))).1) hx hb 1352 dL_law_598 (by decide) (fun _ => ?_) (fun z => absurd rfl z)
  exact hn ((oAlike f td (xs (i + 1)) (xs (i + 2))).2.1) g h h2 ik one wo tp tl tk ts te tn rb rz rn ((oAlike f td (xs (i + 1)) (xs (i + 2))).2.2) wf tch tk2 tb ta tv bad _ _ _ ⟨(by rw [oAlike_f]; exact I), hk, htl, J⟩ X hl
set_option maxRecDepth 100000 in
set_option maxHeartbeats 4000000 in
/-- minutes -/
theorem lc_13 {p : Program} {l : Launch} {e : Env} {s : State} {m : MethodId} {below : List Frame} {meth : Method} {c : Code} {E : EE} {A : Nat → Prop} {b0 L : Nat} {xs : Nat → Int32} {a b : Nat → Nat} (K : Kx p s m #[Value.ref b0] meth c code 4 RL E A) (hX : va_X b0 L xs s s.heap) (hbl : b0 < s.heap.size) (hbA : ¬ A b0) {i : Nat} (hi : i + 6 ≤ L) (hL : L ≤ 3072) (hn : Nx p l e s m below meth c E A b0 a b i 1352) : Nx p l e s m below meth c E A b0 a b i 603 := by
  intro f g h h2 ik one wo tp tl tk ts te tn rb rz rn td wf tch tk2 tb ta tv bad H locs ls hI X hl
  obtain ⟨I, hk, htl, J⟩ := hI
  have hx := K.1
  have hb := K.2.1
  refine lv_aload_n hx hb dL_law_603 rfl (lv_at hl 2 rfl) ?_
  refine lv_aload_n hx hb dL_law_604 rfl (lv_at hl 3 rfl) ?_
  refine lv_iload_n hx hb dL_law_605 rfl (lv_at hl 0 rfl) ?_
  refine lv_iconst (v := 1) hx hb dL_law_606 (by decide) ?_
  refine lv_iadd hx hb dL_law_607 ?_
  refine k_topi (nI_add i 1) ?_
  refine va_sld hx hb hX hbl hbA X.2.2 (vp_in_nI (show i + 1 < L by omega) (by omega)) dL_law_608 ?_
  refine k_topi (congrArg xs (nI_clamp (show i + 1 < 2147483648 by omega))) ?_
  refine k_callV K X gv_L_68 (As := [.int (xs (i + 1))]) (c_X11_minutes l E a f g h ik one wo tp tl tk ts te tn rb rz rn td 99999 (xs (i + 1)) I (by omega)) [0, 1, 2, 3, 4, 5, 6, 7, 8, 9, 10, 11, 12, 13, 14, 15, 16, 17, 18, 19, 20, 21, 22, 23, 24, 25, 26, 27, 28, 29, 30, 31, 32, 33, 34, 35, 36, 37, 38, 39, 40, 41, 42] lawW_s0C (by decide +kernel) (fun _ => clsW_fst) 0 11 rfl rfl ⟨⟨Nat.le_of_ble_eq_true rfl, Nat.le_of_ble_eq_true rfl⟩, Nat.le_of_ble_eq_true rfl, Nat.le_of_ble_eq_true rfl⟩ rfl hl.1 (rest := []) rfl (Nat.le_of_ble_eq_true rfl) dL_law_609 (st1 := fun _ => [.int ((oMinutes f td (xs (i + 1))).1)]) (fun _ => rfl) (fun _ H locs _ X => ?_)
  have X : Wd E _ _ (lawW E a b ((oMinutes f td (xs (i + 1))).2.1) g h ik one wo tp tl tk ts te tn rb rz rn ((oMinutes f td (xs (i + 1))).2.2) (flat f) (flat h2) wf ik td tch tp tl tk2 tb ta tv bad rb rz (flR rn)) _ _ := X.eq lawW_s0P
  refine lv_aload_n hx hb dL_law_612 rfl (lv_at hl 1 rfl) ?_
  refine lv_aload_n hx hb dL_law_613 rfl (lv_at hl 3 rfl) ?_
  refine lv_iload_n hx hb dL_law_614 rfl (lv_at hl 0 rfl) ?_
  refine lv_iconst (v := 1) hx hb dL_law_615 (by decide) ?_
  refine lv_iadd hx hb dL_law_616 ?_
  refine k_topi (nI_add i 1) ?_
  refine va_sld hx hb hX hbl hbA X.2.2 (vp_in_nI (show i + 1 < L by omega) (by omega)) dL_law_617 ?_
  refine k_topi (congrArg xs (nI_clamp (show i + 1 < 2147483648 by omega))) ?_
  refine k_callV K X gv_L_71 (As := [.int (xs (i + 1))]) (c_X12_minutes l E b (flat h2) wf ik td tch tp tl tk2 tb ta tv bad rb rz (flR rn) f 99999 (xs (i + 1)) I (by omega)) [43, 44, 45, 46, 47, 48, 49, 50, 51] lawW_s1C (by decide +kernel) (fun _ => modW_fst) 0 12 rfl rfl ⟨⟨Nat.le_of_ble_eq_true rfl, Nat.le_of_ble_eq_true rfl⟩, Nat.le_of_ble_eq_true rfl, Nat.le_of_ble_eq_true rfl⟩ rfl hl.1 (rest := [.int ((oMinutes f td (xs (i + 1))).1)]) rfl (Nat.le_of_ble_eq_true rfl) dL_law_618 (st1 := fun _ => [.int ((oMinutes f td (xs (i + 1))).1), .int ((oMinutes f td (xs (i + 1))).1)]) (fun _ => rfl) (fun u618 H locs _ X => ?_)
  have X : Wd E _ _ (lawW E a b ((oMinutes f td (xs (i + 1))).2.1) g h ik one wo tp tl tk ts te tn rb rz rn ((oMinutes f td (xs (i + 1))).2.2) (flat ((oMinutes f td (xs (i + 1))).2.1)) (flat h2) wf ik ((oMinutes f td (xs (i + 1))).2.2) u618 tp tl tk2 tb ta tv bad rb rz (flR rn)) _ _ := X.eq lawW_s1P
  refine k_icmp_eq (x := (oMinutes f td (xs (i + 1))).1) (y := (oMinutes f td (xs (i + 1))).1) hx hb 1352 dL_law_621 (by decide) (fun _ => ?_) (fun z => absurd rfl z)
  exact hn ((oMinutes f td (xs (i + 1))).2.1) g h h2 ik one wo tp tl tk ts te tn rb rz rn ((oMinutes f td (xs (i + 1))).2.2) wf u618 tk2 tb ta tv bad _ _ _ ⟨oMinutes_I I td (xs (i + 1)), hk, htl, J⟩ X hl
set_option maxRecDepth 100000 in
set_option maxHeartbeats 4000000 in
/-- on -/
theorem lc_14 {p : Program} {l : Launch} {e : Env} {s : State} {m : MethodId} {below : List Frame} {meth : Method} {c : Code} {E : EE} {A : Nat → Prop} {b0 L : Nat} {xs : Nat → Int32} {a b : Nat → Nat} (K : Kx p s m #[Value.ref b0] meth c code 4 RL E A) (hX : va_X b0 L xs s s.heap) (hbl : b0 < s.heap.size) (hbA : ¬ A b0) {i : Nat} (hi : i + 6 ≤ L) (hL : L ≤ 3072) (hn : Nx p l e s m below meth c E A b0 a b i 1352) : Nx p l e s m below meth c E A b0 a b i 626 := by
  intro f g h h2 ik one wo tp tl tk ts te tn rb rz rn td wf tch tk2 tb ta tv bad H locs ls hI X hl
  obtain ⟨I, hk, htl, J⟩ := hI
  have hx := K.1
  have hb := K.2.1
  refine lv_aload_n hx hb dL_law_626 rfl (lv_at hl 2 rfl) ?_
  refine lv_aload_n hx hb dL_law_627 rfl (lv_at hl 3 rfl) ?_
  refine lv_iload_n hx hb dL_law_628 rfl (lv_at hl 0 rfl) ?_
  refine lv_iconst (v := 1) hx hb dL_law_629 (by decide) ?_
  refine lv_iadd hx hb dL_law_630 ?_
  refine k_topi (nI_add i 1) ?_
  refine va_sld hx hb hX hbl hbA X.2.2 (vp_in_nI (show i + 1 < L by omega) (by omega)) dL_law_631 ?_
  refine k_topi (congrArg xs (nI_clamp (show i + 1 < 2147483648 by omega))) ?_
  refine lv_aload_n hx hb dL_law_632 rfl (lv_at hl 3 rfl) ?_
  refine lv_iload_n hx hb dL_law_633 rfl (lv_at hl 0 rfl) ?_
  refine lv_iconst (v := 2) hx hb dL_law_634 (by decide) ?_
  refine lv_iadd hx hb dL_law_635 ?_
  refine k_topi (nI_add i 2) ?_
  refine va_sld hx hb hX hbl hbA X.2.2 (vp_in_nI (show i + 2 < L by omega) (by omega)) dL_law_636 ?_
  refine k_topi (congrArg xs (nI_clamp (show i + 2 < 2147483648 by omega))) ?_
  refine lv_aload_n hx hb dL_law_637 rfl (lv_at hl 3 rfl) ?_
  refine lv_iload_n hx hb dL_law_638 rfl (lv_at hl 0 rfl) ?_
  refine lv_iconst (v := 3) hx hb dL_law_639 (by decide) ?_
  refine lv_iadd hx hb dL_law_640 ?_
  refine k_topi (nI_add i 3) ?_
  refine va_sld hx hb hX hbl hbA X.2.2 (vp_in_nI (show i + 3 < L by omega) (by omega)) dL_law_641 ?_
  refine k_topi (congrArg xs (nI_clamp (show i + 3 < 2147483648 by omega))) ?_
  refine k_callV K X gv_L_72 (As := [.int (xs (i + 1)), .int (xs (i + 2)), .int (xs (i + 3))]) (c_X11_on l E a f g h ik one wo tp tl tk ts te tn rb rz rn td 99999 (xs (i + 1)) (xs (i + 2)) (xs (i + 3)) I (by omega)) [0, 1, 2, 3, 4, 5, 6, 7, 8, 9, 10, 11, 12, 13, 14, 15, 16, 17, 18, 19, 20, 21, 22, 23, 24, 25, 26, 27, 28, 29, 30, 31, 32, 33, 34, 35, 36, 37, 38, 39, 40, 41, 42] lawW_s0C (by decide +kernel) (fun _ => clsW_fst) 0 11 rfl rfl ⟨⟨Nat.le_of_ble_eq_true rfl, Nat.le_of_ble_eq_true rfl⟩, Nat.le_of_ble_eq_true rfl, Nat.le_of_ble_eq_true rfl⟩ rfl hl.1 (rest := []) rfl (Nat.le_of_ble_eq_true rfl) dL_law_642 (st1 := fun _ => [.int ((oOn f td (xs (i + 1)) (xs (i + 2)) (xs (i + 3))).1)]) (fun _ => rfl) (fun u642 H locs _ X => ?_)
  have X : Wd E _ _ (lawW E a b ((oOn f td (xs (i + 1)) (xs (i + 2)) (xs (i + 3))).2.1) u642 h ik one wo tp tl tk ts te tn rb rz rn ((oOn f td (xs (i + 1)) (xs (i + 2)) (xs (i + 3))).2.2) (flat f) (flat h2) wf ik td tch tp tl tk2 tb ta tv bad rb rz (flR rn)) _ _ := X.eq lawW_s0P
  refine lv_aload_n hx hb dL_law_645 rfl (lv_at hl 1 rfl) ?_
  refine lv_aload_n hx hb dL_law_646 rfl (lv_at hl 3 rfl) ?_
  refine lv_iload_n hx hb dL_law_647 rfl (lv_at hl 0 rfl) ?_
  refine lv_iconst (v := 1) hx hb dL_law_648 (by decide) ?_
  refine lv_iadd hx hb dL_law_649 ?_
  refine k_topi (nI_add i 1) ?_
  refine va_sld hx hb hX hbl hbA X.2.2 (vp_in_nI (show i + 1 < L by omega) (by omega)) dL_law_650 ?_
  refine k_topi (congrArg xs (nI_clamp (show i + 1 < 2147483648 by omega))) ?_
  refine lv_aload_n hx hb dL_law_651 rfl (lv_at hl 3 rfl) ?_
  refine lv_iload_n hx hb dL_law_652 rfl (lv_at hl 0 rfl) ?_
  refine lv_iconst (v := 2) hx hb dL_law_653 (by decide) ?_
  refine lv_iadd hx hb dL_law_654 ?_
  refine k_topi (nI_add i 2) ?_
  refine va_sld hx hb hX hbl hbA X.2.2 (vp_in_nI (show i + 2 < L by omega) (by omega)) dL_law_655 ?_
  refine k_topi (congrArg xs (nI_clamp (show i + 2 < 2147483648 by omega))) ?_
  refine lv_aload_n hx hb dL_law_656 rfl (lv_at hl 3 rfl) ?_
  refine lv_iload_n hx hb dL_law_657 rfl (lv_at hl 0 rfl) ?_
  refine lv_iconst (v := 3) hx hb dL_law_658 (by decide) ?_
  refine lv_iadd hx hb dL_law_659 ?_
  refine k_topi (nI_add i 3) ?_
  refine va_sld hx hb hX hbl hbA X.2.2 (vp_in_nI (show i + 3 < L by omega) (by omega)) dL_law_660 ?_
  refine k_topi (congrArg xs (nI_clamp (show i + 3 < 2147483648 by omega))) ?_
  refine k_callV K X gv_L_75 (As := [.int (xs (i + 1)), .int (xs (i + 2)), .int (xs (i + 3))]) (c_X12_on l E b (flat h2) wf ik td tch tp tl tk2 tb ta tv bad rb rz (flR rn) f 99999 (xs (i + 1)) (xs (i + 2)) (xs (i + 3)) I (by omega)) [43, 44, 45, 46, 47, 48, 49, 50, 51] lawW_s1C (by decide +kernel) (fun _ => modW_fst) 0 12 rfl rfl ⟨⟨Nat.le_of_ble_eq_true rfl, Nat.le_of_ble_eq_true rfl⟩, Nat.le_of_ble_eq_true rfl, Nat.le_of_ble_eq_true rfl⟩ rfl hl.1 (rest := [.int ((oOn f td (xs (i + 1)) (xs (i + 2)) (xs (i + 3))).1)]) rfl (Nat.le_of_ble_eq_true rfl) dL_law_661 (st1 := fun _ => [.int ((oOn f td (xs (i + 1)) (xs (i + 2)) (xs (i + 3))).1), .int ((oOn f td (xs (i + 1)) (xs (i + 2)) (xs (i + 3))).1)]) (fun _ => rfl) (fun u661 H locs _ X => ?_)
  have X : Wd E _ _ (lawW E a b ((oOn f td (xs (i + 1)) (xs (i + 2)) (xs (i + 3))).2.1) u642 h ik one wo tp tl tk ts te tn rb rz rn ((oOn f td (xs (i + 1)) (xs (i + 2)) (xs (i + 3))).2.2) (flat ((oOn f td (xs (i + 1)) (xs (i + 2)) (xs (i + 3))).2.1)) (flat h2) u661.1 ik ((oOn f td (xs (i + 1)) (xs (i + 2)) (xs (i + 3))).2.2) u661.2 tp tl tk2 tb ta tv bad rb rz (flR rn)) _ _ := X.eq lawW_s1P
  refine k_icmp_eq (x := (oOn f td (xs (i + 1)) (xs (i + 2)) (xs (i + 3))).1) (y := (oOn f td (xs (i + 1)) (xs (i + 2)) (xs (i + 3))).1) hx hb 1352 dL_law_664 (by decide) (fun _ => ?_) (fun z => absurd rfl z)
  exact hn ((oOn f td (xs (i + 1)) (xs (i + 2)) (xs (i + 3))).2.1) u642 h h2 ik one wo tp tl tk ts te tn rb rz rn ((oOn f td (xs (i + 1)) (xs (i + 2)) (xs (i + 3))).2.2) u661.1 u661.2 tk2 tb ta tv bad _ _ _ ⟨(by rw [oOn_f]; exact I), hk, htl, J⟩ X hl
set_option maxRecDepth 100000 in
set_option maxHeartbeats 4000000 in
/-- way -/
theorem lc_15 {p : Program} {l : Launch} {e : Env} {s : State} {m : MethodId} {below : List Frame} {meth : Method} {c : Code} {E : EE} {A : Nat → Prop} {b0 L : Nat} {xs : Nat → Int32} {a b : Nat → Nat} (K : Kx p s m #[Value.ref b0] meth c code 4 RL E A) (hX : va_X b0 L xs s s.heap) (hbl : b0 < s.heap.size) (hbA : ¬ A b0) {i : Nat} (hi : i + 6 ≤ L) (hL : L ≤ 3072) (hn : Nx p l e s m below meth c E A b0 a b i 1352) : Nx p l e s m below meth c E A b0 a b i 669 := by
  intro f g h h2 ik one wo tp tl tk ts te tn rb rz rn td wf tch tk2 tb ta tv bad H locs ls hI X hl
  obtain ⟨I, hk, htl, J⟩ := hI
  have hx := K.1
  have hb := K.2.1
  refine lv_aload_n hx hb dL_law_669 rfl (lv_at hl 2 rfl) ?_
  refine lv_aload_n hx hb dL_law_670 rfl (lv_at hl 3 rfl) ?_
  refine lv_iload_n hx hb dL_law_671 rfl (lv_at hl 0 rfl) ?_
  refine lv_iconst (v := 1) hx hb dL_law_672 (by decide) ?_
  refine lv_iadd hx hb dL_law_673 ?_
  refine k_topi (nI_add i 1) ?_
  refine va_sld hx hb hX hbl hbA X.2.2 (vp_in_nI (show i + 1 < L by omega) (by omega)) dL_law_674 ?_
  refine k_topi (congrArg xs (nI_clamp (show i + 1 < 2147483648 by omega))) ?_
  refine lv_aload_n hx hb dL_law_675 rfl (lv_at hl 3 rfl) ?_
  refine lv_iload_n hx hb dL_law_676 rfl (lv_at hl 0 rfl) ?_
  refine lv_iconst (v := 2) hx hb dL_law_677 (by decide) ?_
  refine lv_iadd hx hb dL_law_678 ?_
  refine k_topi (nI_add i 2) ?_
  refine va_sld hx hb hX hbl hbA X.2.2 (vp_in_nI (show i + 2 < L by omega) (by omega)) dL_law_679 ?_
  refine k_topi (congrArg xs (nI_clamp (show i + 2 < 2147483648 by omega))) ?_
  refine k_callV K X gv_L_76 (As := [.int (xs (i + 1)), .int (xs (i + 2))]) (c_X11_way l E a f g h ik one wo tp tl tk ts te tn rb rz rn td 99999 (xs (i + 1)) (xs (i + 2)) I (by omega)) [0, 1, 2, 3, 4, 5, 6, 7, 8, 9, 10, 11, 12, 13, 14, 15, 16, 17, 18, 19, 20, 21, 22, 23, 24, 25, 26, 27, 28, 29, 30, 31, 32, 33, 34, 35, 36, 37, 38, 39, 40, 41, 42] lawW_s0C (by decide +kernel) (fun _ => clsW_fst) 0 11 rfl rfl ⟨⟨Nat.le_of_ble_eq_true rfl, Nat.le_of_ble_eq_true rfl⟩, Nat.le_of_ble_eq_true rfl, Nat.le_of_ble_eq_true rfl⟩ rfl hl.1 (rest := []) rfl (Nat.le_of_ble_eq_true rfl) dL_law_680 (st1 := fun _ => [.int ((oWay f td (xs (i + 1)) (xs (i + 2))).1)]) (fun _ => rfl) (fun u680 H locs _ X => ?_)
  have X : Wd E _ _ (lawW E a b ((oWay f td (xs (i + 1)) (xs (i + 2))).2.1) u680 h ik one wo tp tl tk ts te tn rb rz rn ((oWay f td (xs (i + 1)) (xs (i + 2))).2.2) (flat f) (flat h2) wf ik td tch tp tl tk2 tb ta tv bad rb rz (flR rn)) _ _ := X.eq lawW_s0P
  refine lv_aload_n hx hb dL_law_683 rfl (lv_at hl 1 rfl) ?_
  refine lv_aload_n hx hb dL_law_684 rfl (lv_at hl 3 rfl) ?_
  refine lv_iload_n hx hb dL_law_685 rfl (lv_at hl 0 rfl) ?_
  refine lv_iconst (v := 1) hx hb dL_law_686 (by decide) ?_
  refine lv_iadd hx hb dL_law_687 ?_
  refine k_topi (nI_add i 1) ?_
  refine va_sld hx hb hX hbl hbA X.2.2 (vp_in_nI (show i + 1 < L by omega) (by omega)) dL_law_688 ?_
  refine k_topi (congrArg xs (nI_clamp (show i + 1 < 2147483648 by omega))) ?_
  refine lv_aload_n hx hb dL_law_689 rfl (lv_at hl 3 rfl) ?_
  refine lv_iload_n hx hb dL_law_690 rfl (lv_at hl 0 rfl) ?_
  refine lv_iconst (v := 2) hx hb dL_law_691 (by decide) ?_
  refine lv_iadd hx hb dL_law_692 ?_
  refine k_topi (nI_add i 2) ?_
  refine va_sld hx hb hX hbl hbA X.2.2 (vp_in_nI (show i + 2 < L by omega) (by omega)) dL_law_693 ?_
  refine k_topi (congrArg xs (nI_clamp (show i + 2 < 2147483648 by omega))) ?_
  refine k_callV K X gv_L_79 (As := [.int (xs (i + 1)), .int (xs (i + 2))]) (c_X12_way l E b (flat h2) wf ik td tch tp tl tk2 tb ta tv bad rb rz (flR rn) f 99999 (xs (i + 1)) (xs (i + 2)) I (by omega)) [43, 44, 45, 46, 47, 48, 49, 50, 51] lawW_s1C (by decide +kernel) (fun _ => modW_fst) 0 12 rfl rfl ⟨⟨Nat.le_of_ble_eq_true rfl, Nat.le_of_ble_eq_true rfl⟩, Nat.le_of_ble_eq_true rfl, Nat.le_of_ble_eq_true rfl⟩ rfl hl.1 (rest := [.int ((oWay f td (xs (i + 1)) (xs (i + 2))).1)]) rfl (Nat.le_of_ble_eq_true rfl) dL_law_694 (st1 := fun _ => [.int ((oWay f td (xs (i + 1)) (xs (i + 2))).1), .int ((oWay f td (xs (i + 1)) (xs (i + 2))).1)]) (fun _ => rfl) (fun u694 H locs _ X => ?_)
  have X : Wd E _ _ (lawW E a b ((oWay f td (xs (i + 1)) (xs (i + 2))).2.1) u680 h ik one wo tp tl tk ts te tn rb rz rn ((oWay f td (xs (i + 1)) (xs (i + 2))).2.2) (flat ((oWay f td (xs (i + 1)) (xs (i + 2))).2.1)) (flat h2) u694.1 ik ((oWay f td (xs (i + 1)) (xs (i + 2))).2.2) u694.2 tp tl tk2 tb ta tv bad rb rz (flR rn)) _ _ := X.eq lawW_s1P
  refine k_icmp_eq (x := (oWay f td (xs (i + 1)) (xs (i + 2))).1) (y := (oWay f td (xs (i + 1)) (xs (i + 2))).1) hx hb 1352 dL_law_697 (by decide) (fun _ => ?_) (fun z => absurd rfl z)
  exact hn ((oWay f td (xs (i + 1)) (xs (i + 2))).2.1) u680 h h2 ik one wo tp tl tk ts te tn rb rz rn ((oWay f td (xs (i + 1)) (xs (i + 2))).2.2) u694.1 u694.2 tk2 tb ta tv bad _ _ _ ⟨(by rw [oWay_f]; exact I), hk, htl, J⟩ X hl
set_option maxRecDepth 100000 in
set_option maxHeartbeats 4000000 in
/-- done -/
theorem lc_16 {p : Program} {l : Launch} {e : Env} {s : State} {m : MethodId} {below : List Frame} {meth : Method} {c : Code} {E : EE} {A : Nat → Prop} {b0 L : Nat} {xs : Nat → Int32} {a b : Nat → Nat} (K : Kx p s m #[Value.ref b0] meth c code 4 RL E A) (hX : va_X b0 L xs s s.heap) (hbl : b0 < s.heap.size) (hbA : ¬ A b0) {i : Nat} (hi : i + 6 ≤ L) (hL : L ≤ 3072) (hn : Nx p l e s m below meth c E A b0 a b i 1352) : Nx p l e s m below meth c E A b0 a b i 702 := by
  intro f g h h2 ik one wo tp tl tk ts te tn rb rz rn td wf tch tk2 tb ta tv bad H locs ls hI X hl
  obtain ⟨I, hk, htl, J⟩ := hI
  have hx := K.1
  have hb := K.2.1
  refine lv_aload_n hx hb dL_law_702 rfl (lv_at hl 2 rfl) ?_
  refine k_callV K X gv_L_80 (As := []) (c_X11_done l E a f g h ik one wo tp tl tk ts te tn rb rz rn td 99999 I (by omega)) [0, 1, 2, 3, 4, 5, 6, 7, 8, 9, 10, 11, 12, 13, 14, 15, 16, 17, 18, 19, 20, 21, 22, 23, 24, 25, 26, 27, 28, 29, 30, 31, 32, 33, 34, 35, 36, 37, 38, 39, 40, 41, 42] lawW_s0C (by decide +kernel) (fun _ => clsW_fst) 0 11 rfl rfl ⟨⟨Nat.le_of_ble_eq_true rfl, Nat.le_of_ble_eq_true rfl⟩, Nat.le_of_ble_eq_true rfl, Nat.le_of_ble_eq_true rfl⟩ rfl hl.1 (rest := []) rfl (Nat.le_of_ble_eq_true rfl) dL_law_703 (st1 := fun _ => [.int ((oDone f td).1)]) (fun _ => rfl) (fun u703 H locs _ X => ?_)
  have X : Wd E _ _ (lawW E a b ((oDone f td).2.1) u703 h ik one wo tp tl tk ts te tn rb rz rn ((oDone f td).2.2) (flat f) (flat h2) wf ik td tch tp tl tk2 tb ta tv bad rb rz (flR rn)) _ _ := X.eq lawW_s0P
  refine lv_aload_n hx hb dL_law_706 rfl (lv_at hl 1 rfl) ?_
  refine k_callV K X gv_L_84 (As := []) (c_X12_done l E b (flat h2) wf ik td tch tp tl tk2 tb ta tv bad rb rz (flR rn) f 99999 I (by omega)) [43, 44, 45, 46, 47, 48, 49, 50, 51] lawW_s1C (by decide +kernel) (fun _ => modW_fst) 0 12 rfl rfl ⟨⟨Nat.le_of_ble_eq_true rfl, Nat.le_of_ble_eq_true rfl⟩, Nat.le_of_ble_eq_true rfl, Nat.le_of_ble_eq_true rfl⟩ rfl hl.1 (rest := [.int ((oDone f td).1)]) rfl (Nat.le_of_ble_eq_true rfl) dL_law_707 (st1 := fun _ => [.int ((oDone f td).1), .int ((oDone f td).1)]) (fun _ => rfl) (fun u707 H locs _ X => ?_)
  have X : Wd E _ _ (lawW E a b ((oDone f td).2.1) u703 h ik one wo tp tl tk ts te tn rb rz rn ((oDone f td).2.2) (flat ((oDone f td).2.1)) (flat h2) u707.1 ik ((oDone f td).2.2) u707.2 tp tl tk2 tb ta tv bad rb rz (flR rn)) _ _ := X.eq lawW_s1P
  refine k_icmp_eq (x := (oDone f td).1) (y := (oDone f td).1) hx hb 1352 dL_law_710 (by decide) (fun _ => ?_) (fun z => absurd rfl z)
  exact hn ((oDone f td).2.1) u703 h h2 ik one wo tp tl tk ts te tn rb rz rn ((oDone f td).2.2) u707.1 u707.2 tk2 tb ta tv bad _ _ _ ⟨(by rw [oDone_f]; exact I), hk, htl, J⟩ X hl
set_option maxRecDepth 100000 in
set_option maxHeartbeats 4000000 in
/-- moved -/
theorem lc_17 {p : Program} {l : Launch} {e : Env} {s : State} {m : MethodId} {below : List Frame} {meth : Method} {c : Code} {E : EE} {A : Nat → Prop} {b0 L : Nat} {xs : Nat → Int32} {a b : Nat → Nat} (K : Kx p s m #[Value.ref b0] meth c code 4 RL E A) (hX : va_X b0 L xs s s.heap) (hbl : b0 < s.heap.size) (hbA : ¬ A b0) {i : Nat} (hi : i + 6 ≤ L) (hL : L ≤ 3072) (hn : Nx p l e s m below meth c E A b0 a b i 1352) : Nx p l e s m below meth c E A b0 a b i 715 := by
  intro f g h h2 ik one wo tp tl tk ts te tn rb rz rn td wf tch tk2 tb ta tv bad H locs ls hI X hl
  obtain ⟨I, hk, htl, J⟩ := hI
  have hx := K.1
  have hb := K.2.1
  refine lv_aload_n hx hb dL_law_715 rfl (lv_at hl 2 rfl) ?_
  refine lv_aload_n hx hb dL_law_716 rfl (lv_at hl 3 rfl) ?_
  refine lv_iload_n hx hb dL_law_717 rfl (lv_at hl 0 rfl) ?_
  refine lv_iconst (v := 1) hx hb dL_law_718 (by decide) ?_
  refine lv_iadd hx hb dL_law_719 ?_
  refine k_topi (nI_add i 1) ?_
  refine va_sld hx hb hX hbl hbA X.2.2 (vp_in_nI (show i + 1 < L by omega) (by omega)) dL_law_720 ?_
  refine k_topi (congrArg xs (nI_clamp (show i + 1 < 2147483648 by omega))) ?_
  refine k_callV K X gv_L_85 (As := [.int (xs (i + 1))]) (c_X11_moved l E a f g h ik one wo tp tl tk ts te tn rb rz rn td 99999 (xs (i + 1)) I (by omega)) [0, 1, 2, 3, 4, 5, 6, 7, 8, 9, 10, 11, 12, 13, 14, 15, 16, 17, 18, 19, 20, 21, 22, 23, 24, 25, 26, 27, 28, 29, 30, 31, 32, 33, 34, 35, 36, 37, 38, 39, 40, 41, 42] lawW_s0C (by decide +kernel) (fun _ => clsW_fst) 0 11 rfl rfl ⟨⟨Nat.le_of_ble_eq_true rfl, Nat.le_of_ble_eq_true rfl⟩, Nat.le_of_ble_eq_true rfl, Nat.le_of_ble_eq_true rfl⟩ rfl hl.1 (rest := []) rfl (Nat.le_of_ble_eq_true rfl) dL_law_721 (st1 := fun _ => [.int ((oMoved f td (xs (i + 1))).1)]) (fun _ => rfl) (fun u721 H locs _ X => ?_)
  have X : Wd E _ _ (lawW E a b ((oMoved f td (xs (i + 1))).2.1) u721 h ik one wo tp tl tk ts te tn rb rz rn ((oMoved f td (xs (i + 1))).2.2) (flat f) (flat h2) wf ik td tch tp tl tk2 tb ta tv bad rb rz (flR rn)) _ _ := X.eq lawW_s0P
  refine lv_aload_n hx hb dL_law_724 rfl (lv_at hl 1 rfl) ?_
  refine lv_aload_n hx hb dL_law_725 rfl (lv_at hl 3 rfl) ?_
  refine lv_iload_n hx hb dL_law_726 rfl (lv_at hl 0 rfl) ?_
  refine lv_iconst (v := 1) hx hb dL_law_727 (by decide) ?_
  refine lv_iadd hx hb dL_law_728 ?_
  refine k_topi (nI_add i 1) ?_
  refine va_sld hx hb hX hbl hbA X.2.2 (vp_in_nI (show i + 1 < L by omega) (by omega)) dL_law_729 ?_
  refine k_topi (congrArg xs (nI_clamp (show i + 1 < 2147483648 by omega))) ?_
  refine k_callV K X gv_L_88 (As := [.int (xs (i + 1))]) (c_X12_moved l E b (flat h2) wf ik td tch tp tl tk2 tb ta tv bad rb rz (flR rn) f 99999 (xs (i + 1)) I (by omega)) [43, 44, 45, 46, 47, 48, 49, 50, 51] lawW_s1C (by decide +kernel) (fun _ => modW_fst) 0 12 rfl rfl ⟨⟨Nat.le_of_ble_eq_true rfl, Nat.le_of_ble_eq_true rfl⟩, Nat.le_of_ble_eq_true rfl, Nat.le_of_ble_eq_true rfl⟩ rfl hl.1 (rest := [.int ((oMoved f td (xs (i + 1))).1)]) rfl (Nat.le_of_ble_eq_true rfl) dL_law_730 (st1 := fun _ => [.int ((oMoved f td (xs (i + 1))).1), .int ((oMoved f td (xs (i + 1))).1)]) (fun _ => rfl) (fun u730 H locs _ X => ?_)
  have X : Wd E _ _ (lawW E a b ((oMoved f td (xs (i + 1))).2.1) u721 h ik one wo tp tl tk ts te tn rb rz rn ((oMoved f td (xs (i + 1))).2.2) (flat ((oMoved f td (xs (i + 1))).2.1)) (flat h2) u730.1 ik ((oMoved f td (xs (i + 1))).2.2) u730.2 tp tl tk2 tb ta tv bad rb rz (flR rn)) _ _ := X.eq lawW_s1P
  refine k_icmp_eq (x := (oMoved f td (xs (i + 1))).1) (y := (oMoved f td (xs (i + 1))).1) hx hb 1352 dL_law_733 (by decide) (fun _ => ?_) (fun z => absurd rfl z)
  exact hn ((oMoved f td (xs (i + 1))).2.1) u721 h h2 ik one wo tp tl tk ts te tn rb rz rn ((oMoved f td (xs (i + 1))).2.2) u730.1 u730.2 tk2 tb ta tv bad _ _ _ ⟨(by rw [oMoved_f]; exact I), hk, htl, J⟩ X hl
set_option maxRecDepth 100000 in
set_option maxHeartbeats 4000000 in
/-- rule -/
theorem lc_18 {p : Program} {l : Launch} {e : Env} {s : State} {m : MethodId} {below : List Frame} {meth : Method} {c : Code} {E : EE} {A : Nat → Prop} {b0 L : Nat} {xs : Nat → Int32} {a b : Nat → Nat} (K : Kx p s m #[Value.ref b0] meth c code 4 RL E A) (hX : va_X b0 L xs s s.heap) (hbl : b0 < s.heap.size) (hbA : ¬ A b0) {i : Nat} (hi : i + 6 ≤ L) (hL : L ≤ 3072) (hn : Nx p l e s m below meth c E A b0 a b i 1352) : Nx p l e s m below meth c E A b0 a b i 738 := by
  intro f g h h2 ik one wo tp tl tk ts te tn rb rz rn td wf tch tk2 tb ta tv bad H locs ls hI X hl
  obtain ⟨I, hk, htl, J⟩ := hI
  have hx := K.1
  have hb := K.2.1
  refine lv_aload_n hx hb dL_law_738 rfl (lv_at hl 2 rfl) ?_
  refine lv_aload_n hx hb dL_law_739 rfl (lv_at hl 3 rfl) ?_
  refine lv_iload_n hx hb dL_law_740 rfl (lv_at hl 0 rfl) ?_
  refine lv_iconst (v := 1) hx hb dL_law_741 (by decide) ?_
  refine lv_iadd hx hb dL_law_742 ?_
  refine k_topi (nI_add i 1) ?_
  refine va_sld hx hb hX hbl hbA X.2.2 (vp_in_nI (show i + 1 < L by omega) (by omega)) dL_law_743 ?_
  refine k_topi (congrArg xs (nI_clamp (show i + 1 < 2147483648 by omega))) ?_
  refine lv_aload_n hx hb dL_law_744 rfl (lv_at hl 3 rfl) ?_
  refine lv_iload_n hx hb dL_law_745 rfl (lv_at hl 0 rfl) ?_
  refine lv_iconst (v := 2) hx hb dL_law_746 (by decide) ?_
  refine lv_iadd hx hb dL_law_747 ?_
  refine k_topi (nI_add i 2) ?_
  refine va_sld hx hb hX hbl hbA X.2.2 (vp_in_nI (show i + 2 < L by omega) (by omega)) dL_law_748 ?_
  refine k_topi (congrArg xs (nI_clamp (show i + 2 < 2147483648 by omega))) ?_
  refine k_callV K X gv_L_89 (As := [.int (xs (i + 1)), .int (xs (i + 2))]) (c_X11_rule l E a f g h ik one wo tp tl tk ts te tn rb rz rn td 99999 (xs (i + 1)) (xs (i + 2)) I (by omega)) [0, 1, 2, 3, 4, 5, 6, 7, 8, 9, 10, 11, 12, 13, 14, 15, 16, 17, 18, 19, 20, 21, 22, 23, 24, 25, 26, 27, 28, 29, 30, 31, 32, 33, 34, 35, 36, 37, 38, 39, 40, 41, 42] lawW_s0C (by decide +kernel) (fun _ => clsW_fst) 0 11 rfl rfl ⟨⟨Nat.le_of_ble_eq_true rfl, Nat.le_of_ble_eq_true rfl⟩, Nat.le_of_ble_eq_true rfl, Nat.le_of_ble_eq_true rfl⟩ rfl hl.1 (rest := []) rfl (Nat.le_of_ble_eq_true rfl) dL_law_749 (st1 := fun _ => [.int ((oRule f td (xs (i + 1)) (xs (i + 2))).1)]) (fun _ => rfl) (fun u749 H locs _ X => ?_)
  have X : Wd E _ _ (lawW E a b ((oRule f td (xs (i + 1)) (xs (i + 2))).2.1) u749.1 h ik u749.2.1 u749.2.2 tp tl tk ts te tn rb rz rn ((oRule f td (xs (i + 1)) (xs (i + 2))).2.2) (flat f) (flat h2) wf ik td tch tp tl tk2 tb ta tv bad rb rz (flR rn)) _ _ := X.eq lawW_s0P
  refine lv_aload_n hx hb dL_law_752 rfl (lv_at hl 1 rfl) ?_
  refine lv_aload_n hx hb dL_law_753 rfl (lv_at hl 3 rfl) ?_
  refine lv_iload_n hx hb dL_law_754 rfl (lv_at hl 0 rfl) ?_
  refine lv_iconst (v := 1) hx hb dL_law_755 (by decide) ?_
  refine lv_iadd hx hb dL_law_756 ?_
  refine k_topi (nI_add i 1) ?_
  refine va_sld hx hb hX hbl hbA X.2.2 (vp_in_nI (show i + 1 < L by omega) (by omega)) dL_law_757 ?_
  refine k_topi (congrArg xs (nI_clamp (show i + 1 < 2147483648 by omega))) ?_
  refine lv_aload_n hx hb dL_law_758 rfl (lv_at hl 3 rfl) ?_
  refine lv_iload_n hx hb dL_law_759 rfl (lv_at hl 0 rfl) ?_
  refine lv_iconst (v := 2) hx hb dL_law_760 (by decide) ?_
  refine lv_iadd hx hb dL_law_761 ?_
  refine k_topi (nI_add i 2) ?_
  refine va_sld hx hb hX hbl hbA X.2.2 (vp_in_nI (show i + 2 < L by omega) (by omega)) dL_law_762 ?_
  refine k_topi (congrArg xs (nI_clamp (show i + 2 < 2147483648 by omega))) ?_
  refine k_callV K X gv_L_92 (As := [.int (xs (i + 1)), .int (xs (i + 2))]) (c_X12_rule l E b (flat h2) wf ik td tch tp tl tk2 tb ta tv bad rb rz (flR rn) f 99999 (xs (i + 1)) (xs (i + 2)) I (by omega)) [43, 44, 45, 46, 47, 48, 49, 50, 51] lawW_s1C (by decide +kernel) (fun _ => modW_fst) 0 12 rfl rfl ⟨⟨Nat.le_of_ble_eq_true rfl, Nat.le_of_ble_eq_true rfl⟩, Nat.le_of_ble_eq_true rfl, Nat.le_of_ble_eq_true rfl⟩ rfl hl.1 (rest := [.int ((oRule f td (xs (i + 1)) (xs (i + 2))).1)]) rfl (Nat.le_of_ble_eq_true rfl) dL_law_763 (st1 := fun _ => [.int ((oRule f td (xs (i + 1)) (xs (i + 2))).1), .int ((oRule f td (xs (i + 1)) (xs (i + 2))).1)]) (fun _ => rfl) (fun u763 H locs _ X => ?_)
  have X : Wd E _ _ (lawW E a b ((oRule f td (xs (i + 1)) (xs (i + 2))).2.1) u749.1 h ik u749.2.1 u749.2.2 tp tl tk ts te tn rb rz rn ((oRule f td (xs (i + 1)) (xs (i + 2))).2.2) (flat ((oRule f td (xs (i + 1)) (xs (i + 2))).2.1)) (flat h2) u763.1 ik ((oRule f td (xs (i + 1)) (xs (i + 2))).2.2) u763.2 tp tl tk2 tb ta tv bad rb rz (flR rn)) _ _ := X.eq lawW_s1P
  refine k_icmp_eq (x := (oRule f td (xs (i + 1)) (xs (i + 2))).1) (y := (oRule f td (xs (i + 1)) (xs (i + 2))).1) hx hb 1352 dL_law_766 (by decide) (fun _ => ?_) (fun z => absurd rfl z)
  exact hn ((oRule f td (xs (i + 1)) (xs (i + 2))).2.1) u749.1 h h2 ik u749.2.1 u749.2.2 tp tl tk ts te tn rb rz rn ((oRule f td (xs (i + 1)) (xs (i + 2))).2.2) u763.1 u763.2 tk2 tb ta tv bad _ _ _ ⟨(by rw [oRule_f]; exact I), hk, htl, J⟩ X hl
set_option maxRecDepth 100000 in
set_option maxHeartbeats 4000000 in
/-- send -/
theorem lc_19 {p : Program} {l : Launch} {e : Env} {s : State} {m : MethodId} {below : List Frame} {meth : Method} {c : Code} {E : EE} {A : Nat → Prop} {b0 L : Nat} {xs : Nat → Int32} {a b : Nat → Nat} (K : Kx p s m #[Value.ref b0] meth c code 4 RL E A) (hX : va_X b0 L xs s s.heap) (hbl : b0 < s.heap.size) (hbA : ¬ A b0) {i : Nat} (hi : i + 6 ≤ L) (hL : L ≤ 3072) (hn : Nx p l e s m below meth c E A b0 a b i 1352) : Nx p l e s m below meth c E A b0 a b i 771 := by
  intro f g h h2 ik one wo tp tl tk ts te tn rb rz rn td wf tch tk2 tb ta tv bad H locs ls hI X hl
  obtain ⟨I, hk, htl, J⟩ := hI
  have hx := K.1
  have hb := K.2.1
  refine lv_aload_n hx hb dL_law_771 rfl (lv_at hl 2 rfl) ?_
  refine lv_aload_n hx hb dL_law_772 rfl (lv_at hl 3 rfl) ?_
  refine lv_iload_n hx hb dL_law_773 rfl (lv_at hl 0 rfl) ?_
  refine lv_iconst (v := 1) hx hb dL_law_774 (by decide) ?_
  refine lv_iadd hx hb dL_law_775 ?_
  refine k_topi (nI_add i 1) ?_
  refine va_sld hx hb hX hbl hbA X.2.2 (vp_in_nI (show i + 1 < L by omega) (by omega)) dL_law_776 ?_
  refine k_topi (congrArg xs (nI_clamp (show i + 1 < 2147483648 by omega))) ?_
  refine lv_aload_n hx hb dL_law_777 rfl (lv_at hl 3 rfl) ?_
  refine lv_iload_n hx hb dL_law_778 rfl (lv_at hl 0 rfl) ?_
  refine lv_iconst (v := 2) hx hb dL_law_779 (by decide) ?_
  refine lv_iadd hx hb dL_law_780 ?_
  refine k_topi (nI_add i 2) ?_
  refine va_sld hx hb hX hbl hbA X.2.2 (vp_in_nI (show i + 2 < L by omega) (by omega)) dL_law_781 ?_
  refine k_topi (congrArg xs (nI_clamp (show i + 2 < 2147483648 by omega))) ?_
  refine k_callV K X gv_L_93 (As := [.int (xs (i + 1)), .int (xs (i + 2))]) (c_X11_send l E a f g h ik one wo tp tl tk ts te tn rb rz rn td 99999 (xs (i + 1)) (xs (i + 2)) I (by omega)) [0, 1, 2, 3, 4, 5, 6, 7, 8, 9, 10, 11, 12, 13, 14, 15, 16, 17, 18, 19, 20, 21, 22, 23, 24, 25, 26, 27, 28, 29, 30, 31, 32, 33, 34, 35, 36, 37, 38, 39, 40, 41, 42] lawW_s0C (by decide +kernel) (fun _ => clsW_fst) 0 11 rfl rfl ⟨⟨Nat.le_of_ble_eq_true rfl, Nat.le_of_ble_eq_true rfl⟩, Nat.le_of_ble_eq_true rfl, Nat.le_of_ble_eq_true rfl⟩ rfl hl.1 (rest := []) rfl (Nat.le_of_ble_eq_true rfl) dL_law_782 (st1 := fun _ => [.int ((oSend f td (xs (i + 1)) (xs (i + 2))).1)]) (fun _ => rfl) (fun u782 H locs _ X => ?_)
  have X : Wd E _ _ (lawW E a b ((oSend f td (xs (i + 1)) (xs (i + 2))).2.1) u782.1 h ik u782.2.1 u782.2.2 tp tl tk ts te tn rb rz rn ((oSend f td (xs (i + 1)) (xs (i + 2))).2.2) (flat f) (flat h2) wf ik td tch tp tl tk2 tb ta tv bad rb rz (flR rn)) _ _ := X.eq lawW_s0P
  refine lv_aload_n hx hb dL_law_785 rfl (lv_at hl 1 rfl) ?_
  refine lv_aload_n hx hb dL_law_786 rfl (lv_at hl 3 rfl) ?_
  refine lv_iload_n hx hb dL_law_787 rfl (lv_at hl 0 rfl) ?_
  refine lv_iconst (v := 1) hx hb dL_law_788 (by decide) ?_
  refine lv_iadd hx hb dL_law_789 ?_
  refine k_topi (nI_add i 1) ?_
  refine va_sld hx hb hX hbl hbA X.2.2 (vp_in_nI (show i + 1 < L by omega) (by omega)) dL_law_790 ?_
  refine k_topi (congrArg xs (nI_clamp (show i + 1 < 2147483648 by omega))) ?_
  refine lv_aload_n hx hb dL_law_791 rfl (lv_at hl 3 rfl) ?_
  refine lv_iload_n hx hb dL_law_792 rfl (lv_at hl 0 rfl) ?_
  refine lv_iconst (v := 2) hx hb dL_law_793 (by decide) ?_
  refine lv_iadd hx hb dL_law_794 ?_
  refine k_topi (nI_add i 2) ?_
  refine va_sld hx hb hX hbl hbA X.2.2 (vp_in_nI (show i + 2 < L by omega) (by omega)) dL_law_795 ?_
  refine k_topi (congrArg xs (nI_clamp (show i + 2 < 2147483648 by omega))) ?_
  refine k_callV K X gv_L_96 (As := [.int (xs (i + 1)), .int (xs (i + 2))]) (c_X12_send l E b (flat h2) wf ik td tch tp tl tk2 tb ta tv bad rb rz (flR rn) f 99999 (xs (i + 1)) (xs (i + 2)) I (by omega)) [43, 44, 45, 46, 47, 48, 49, 50, 51] lawW_s1C (by decide +kernel) (fun _ => modW_fst) 0 12 rfl rfl ⟨⟨Nat.le_of_ble_eq_true rfl, Nat.le_of_ble_eq_true rfl⟩, Nat.le_of_ble_eq_true rfl, Nat.le_of_ble_eq_true rfl⟩ rfl hl.1 (rest := [.int ((oSend f td (xs (i + 1)) (xs (i + 2))).1)]) rfl (Nat.le_of_ble_eq_true rfl) dL_law_796 (st1 := fun _ => [.int ((oSend f td (xs (i + 1)) (xs (i + 2))).1), .int ((oSend f td (xs (i + 1)) (xs (i + 2))).1)]) (fun _ => rfl) (fun u796 H locs _ X => ?_)
  have X : Wd E _ _ (lawW E a b ((oSend f td (xs (i + 1)) (xs (i + 2))).2.1) u782.1 h ik u782.2.1 u782.2.2 tp tl tk ts te tn rb rz rn ((oSend f td (xs (i + 1)) (xs (i + 2))).2.2) (flat ((oSend f td (xs (i + 1)) (xs (i + 2))).2.1)) (flat h2) u796.1 ik ((oSend f td (xs (i + 1)) (xs (i + 2))).2.2) u796.2 tp tl tk2 tb ta tv bad rb rz (flR rn)) _ _ := X.eq lawW_s1P
  refine k_icmp_eq (x := (oSend f td (xs (i + 1)) (xs (i + 2))).1) (y := (oSend f td (xs (i + 1)) (xs (i + 2))).1) hx hb 1352 dL_law_799 (by decide) (fun _ => ?_) (fun z => absurd rfl z)
  exact hn ((oSend f td (xs (i + 1)) (xs (i + 2))).2.1) u782.1 h h2 ik u782.2.1 u782.2.2 tp tl tk ts te tn rb rz rn ((oSend f td (xs (i + 1)) (xs (i + 2))).2.2) u796.1 u796.2 tk2 tb ta tv bad _ _ _ ⟨(by rw [oSend_f]; exact I), hk, htl, J⟩ X hl
set_option maxRecDepth 100000 in
set_option maxHeartbeats 4000000 in
/-- kind -/
theorem lc_20 {p : Program} {l : Launch} {e : Env} {s : State} {m : MethodId} {below : List Frame} {meth : Method} {c : Code} {E : EE} {A : Nat → Prop} {b0 L : Nat} {xs : Nat → Int32} {a b : Nat → Nat} (K : Kx p s m #[Value.ref b0] meth c code 4 RL E A) (hX : va_X b0 L xs s s.heap) (hbl : b0 < s.heap.size) (hbA : ¬ A b0) {i : Nat} (hi : i + 6 ≤ L) (hL : L ≤ 3072) (hn : Nx p l e s m below meth c E A b0 a b i 1352) : Nx p l e s m below meth c E A b0 a b i 804 := by
  intro f g h h2 ik one wo tp tl tk ts te tn rb rz rn td wf tch tk2 tb ta tv bad H locs ls hI X hl
  obtain ⟨I, hk, htl, J⟩ := hI
  have hx := K.1
  have hb := K.2.1
  refine lv_aload_n hx hb dL_law_804 rfl (lv_at hl 2 rfl) ?_
  refine lv_aload_n hx hb dL_law_805 rfl (lv_at hl 3 rfl) ?_
  refine lv_iload_n hx hb dL_law_806 rfl (lv_at hl 0 rfl) ?_
  refine lv_iconst (v := 1) hx hb dL_law_807 (by decide) ?_
  refine lv_iadd hx hb dL_law_808 ?_
  refine k_topi (nI_add i 1) ?_
  refine va_sld hx hb hX hbl hbA X.2.2 (vp_in_nI (show i + 1 < L by omega) (by omega)) dL_law_809 ?_
  refine k_topi (congrArg xs (nI_clamp (show i + 1 < 2147483648 by omega))) ?_
  refine lv_aload_n hx hb dL_law_810 rfl (lv_at hl 3 rfl) ?_
  refine lv_iload_n hx hb dL_law_811 rfl (lv_at hl 0 rfl) ?_
  refine lv_iconst (v := 2) hx hb dL_law_812 (by decide) ?_
  refine lv_iadd hx hb dL_law_813 ?_
  refine k_topi (nI_add i 2) ?_
  refine va_sld hx hb hX hbl hbA X.2.2 (vp_in_nI (show i + 2 < L by omega) (by omega)) dL_law_814 ?_
  refine k_topi (congrArg xs (nI_clamp (show i + 2 < 2147483648 by omega))) ?_
  refine k_callV K X gv_L_97 (As := [.int (xs (i + 1)), .int (xs (i + 2))]) (c_X11_kind l E a f g h ik one wo tp tl tk ts te tn rb rz rn td 99999 (xs (i + 1)) (xs (i + 2)) I (by omega)) [0, 1, 2, 3, 4, 5, 6, 7, 8, 9, 10, 11, 12, 13, 14, 15, 16, 17, 18, 19, 20, 21, 22, 23, 24, 25, 26, 27, 28, 29, 30, 31, 32, 33, 34, 35, 36, 37, 38, 39, 40, 41, 42] lawW_s0C (by decide +kernel) (fun _ => clsW_fst) 0 11 rfl rfl ⟨⟨Nat.le_of_ble_eq_true rfl, Nat.le_of_ble_eq_true rfl⟩, Nat.le_of_ble_eq_true rfl, Nat.le_of_ble_eq_true rfl⟩ rfl hl.1 (rest := []) rfl (Nat.le_of_ble_eq_true rfl) dL_law_815 (st1 := fun _ => [.int ((oKind f td (xs (i + 1)) (xs (i + 2))).1)]) (fun _ => rfl) (fun u815 H locs _ X => ?_)
  have X : Wd E _ _ (lawW E a b ((oKind f td (xs (i + 1)) (xs (i + 2))).2.1) u815.1 h ik u815.2.1 u815.2.2 tp tl tk ts te tn rb rz rn ((oKind f td (xs (i + 1)) (xs (i + 2))).2.2) (flat f) (flat h2) wf ik td tch tp tl tk2 tb ta tv bad rb rz (flR rn)) _ _ := X.eq lawW_s0P
  refine lv_aload_n hx hb dL_law_818 rfl (lv_at hl 1 rfl) ?_
  refine lv_aload_n hx hb dL_law_819 rfl (lv_at hl 3 rfl) ?_
  refine lv_iload_n hx hb dL_law_820 rfl (lv_at hl 0 rfl) ?_
  refine lv_iconst (v := 1) hx hb dL_law_821 (by decide) ?_
  refine lv_iadd hx hb dL_law_822 ?_
  refine k_topi (nI_add i 1) ?_
  refine va_sld hx hb hX hbl hbA X.2.2 (vp_in_nI (show i + 1 < L by omega) (by omega)) dL_law_823 ?_
  refine k_topi (congrArg xs (nI_clamp (show i + 1 < 2147483648 by omega))) ?_
  refine lv_aload_n hx hb dL_law_824 rfl (lv_at hl 3 rfl) ?_
  refine lv_iload_n hx hb dL_law_825 rfl (lv_at hl 0 rfl) ?_
  refine lv_iconst (v := 2) hx hb dL_law_826 (by decide) ?_
  refine lv_iadd hx hb dL_law_827 ?_
  refine k_topi (nI_add i 2) ?_
  refine va_sld hx hb hX hbl hbA X.2.2 (vp_in_nI (show i + 2 < L by omega) (by omega)) dL_law_828 ?_
  refine k_topi (congrArg xs (nI_clamp (show i + 2 < 2147483648 by omega))) ?_
  refine k_callV K X gv_L_100 (As := [.int (xs (i + 1)), .int (xs (i + 2))]) (c_X12_kind l E b (flat h2) wf ik td tch tp tl tk2 tb ta tv bad rb rz (flR rn) f 99999 (xs (i + 1)) (xs (i + 2)) I (by omega)) [43, 44, 45, 46, 47, 48, 49, 50, 51] lawW_s1C (by decide +kernel) (fun _ => modW_fst) 0 12 rfl rfl ⟨⟨Nat.le_of_ble_eq_true rfl, Nat.le_of_ble_eq_true rfl⟩, Nat.le_of_ble_eq_true rfl, Nat.le_of_ble_eq_true rfl⟩ rfl hl.1 (rest := [.int ((oKind f td (xs (i + 1)) (xs (i + 2))).1)]) rfl (Nat.le_of_ble_eq_true rfl) dL_law_829 (st1 := fun _ => [.int ((oKind f td (xs (i + 1)) (xs (i + 2))).1), .int ((oKind f td (xs (i + 1)) (xs (i + 2))).1)]) (fun _ => rfl) (fun u829 H locs _ X => ?_)
  have X : Wd E _ _ (lawW E a b ((oKind f td (xs (i + 1)) (xs (i + 2))).2.1) u815.1 h ik u815.2.1 u815.2.2 tp tl tk ts te tn rb rz rn ((oKind f td (xs (i + 1)) (xs (i + 2))).2.2) (flat ((oKind f td (xs (i + 1)) (xs (i + 2))).2.1)) (flat h2) u829.1 ik ((oKind f td (xs (i + 1)) (xs (i + 2))).2.2) u829.2 tp tl tk2 tb ta tv bad rb rz (flR rn)) _ _ := X.eq lawW_s1P
  refine k_icmp_eq (x := (oKind f td (xs (i + 1)) (xs (i + 2))).1) (y := (oKind f td (xs (i + 1)) (xs (i + 2))).1) hx hb 1352 dL_law_832 (by decide) (fun _ => ?_) (fun z => absurd rfl z)
  exact hn ((oKind f td (xs (i + 1)) (xs (i + 2))).2.1) u815.1 h h2 ik u815.2.1 u815.2.2 tp tl tk ts te tn rb rz rn ((oKind f td (xs (i + 1)) (xs (i + 2))).2.2) u829.1 u829.2 tk2 tb ta tv bad _ _ _ ⟨(by rw [oKind_f]; exact I), hk, htl, J⟩ X hl
set_option maxRecDepth 100000 in
set_option maxHeartbeats 4000000 in
/-- pair -/
theorem lc_21 {p : Program} {l : Launch} {e : Env} {s : State} {m : MethodId} {below : List Frame} {meth : Method} {c : Code} {E : EE} {A : Nat → Prop} {b0 L : Nat} {xs : Nat → Int32} {a b : Nat → Nat} (K : Kx p s m #[Value.ref b0] meth c code 4 RL E A) (hX : va_X b0 L xs s s.heap) (hbl : b0 < s.heap.size) (hbA : ¬ A b0) {i : Nat} (hi : i + 6 ≤ L) (hL : L ≤ 3072) (hn : Nx p l e s m below meth c E A b0 a b i 1352) : Nx p l e s m below meth c E A b0 a b i 837 := by
  intro f g h h2 ik one wo tp tl tk ts te tn rb rz rn td wf tch tk2 tb ta tv bad H locs ls hI X hl
  obtain ⟨I, hk, htl, J⟩ := hI
  have hx := K.1
  have hb := K.2.1
  refine lv_aload_n hx hb dL_law_837 rfl (lv_at hl 2 rfl) ?_
  refine k_callV K X gv_L_101 (As := []) (c_X11_pair l E a f g h ik one wo tp tl tk ts te tn rb rz rn td 99999 I) [0, 1, 2, 3, 4, 5, 6, 7, 8, 9, 10, 11, 12, 13, 14, 15, 16, 17, 18, 19, 20, 21, 22, 23, 24, 25, 26, 27, 28, 29, 30, 31, 32, 33, 34, 35, 36, 37, 38, 39, 40, 41, 42] lawW_s0C (by decide +kernel) (fun _ => clsW_fst) 0 11 rfl rfl ⟨⟨Nat.le_of_ble_eq_true rfl, Nat.le_of_ble_eq_true rfl⟩, Nat.le_of_ble_eq_true rfl, Nat.le_of_ble_eq_true rfl⟩ rfl hl.1 (rest := []) rfl (Nat.le_of_ble_eq_true rfl) dL_law_838 (st1 := fun _ => [.int ((oPair f td).1)]) (fun _ => rfl) (fun u838 H locs _ X => ?_)
  have X : Wd E _ _ (lawW E a b ((oPair f td).2.1) g h ik u838.1 u838.2 tp tl tk ts te tn rb rz rn ((oPair f td).2.2) (flat f) (flat h2) wf ik td tch tp tl tk2 tb ta tv bad rb rz (flR rn)) _ _ := X.eq lawW_s0P
  refine lv_aload_n hx hb dL_law_841 rfl (lv_at hl 1 rfl) ?_
  refine k_callV K X gv_L_104 (As := []) (c_X12_pair l E b (flat h2) wf ik td tch tp tl tk2 tb ta tv bad rb rz (flR rn) f 99999 I) [43, 44, 45, 46, 47, 48, 49, 50, 51] lawW_s1C (by decide +kernel) (fun _ => modW_fst) 0 12 rfl rfl ⟨⟨Nat.le_of_ble_eq_true rfl, Nat.le_of_ble_eq_true rfl⟩, Nat.le_of_ble_eq_true rfl, Nat.le_of_ble_eq_true rfl⟩ rfl hl.1 (rest := [.int ((oPair f td).1)]) rfl (Nat.le_of_ble_eq_true rfl) dL_law_842 (st1 := fun _ => [.int ((oPair f td).1), .int ((oPair f td).1)]) (fun _ => rfl) (fun _ H locs _ X => ?_)
  have X : Wd E _ _ (lawW E a b ((oPair f td).2.1) g h ik u838.1 u838.2 tp tl tk ts te tn rb rz rn ((oPair f td).2.2) (flat ((oPair f td).2.1)) (flat h2) wf ik ((oPair f td).2.2) tch tp tl tk2 tb ta tv bad rb rz (flR rn)) _ _ := X.eq lawW_s1P
  refine k_icmp_eq (x := (oPair f td).1) (y := (oPair f td).1) hx hb 1352 dL_law_845 (by decide) (fun _ => ?_) (fun z => absurd rfl z)
  exact hn ((oPair f td).2.1) g h h2 ik u838.1 u838.2 tp tl tk ts te tn rb rz rn ((oPair f td).2.2) wf tch tk2 tb ta tv bad _ _ _ ⟨(by rw [oPair_f]; exact I), hk, htl, J⟩ X hl
set_option maxRecDepth 100000 in
set_option maxHeartbeats 4000000 in
/-- fix -/
theorem lc_22 {p : Program} {l : Launch} {e : Env} {s : State} {m : MethodId} {below : List Frame} {meth : Method} {c : Code} {E : EE} {A : Nat → Prop} {b0 L : Nat} {xs : Nat → Int32} {a b : Nat → Nat} (K : Kx p s m #[Value.ref b0] meth c code 4 RL E A) (hX : va_X b0 L xs s s.heap) (hbl : b0 < s.heap.size) (hbA : ¬ A b0) {i : Nat} (hi : i + 6 ≤ L) (hL : L ≤ 3072) (hn : Nx p l e s m below meth c E A b0 a b i 1352) : Nx p l e s m below meth c E A b0 a b i 850 := by
  intro f g h h2 ik one wo tp tl tk ts te tn rb rz rn td wf tch tk2 tb ta tv bad H locs ls hI X hl
  obtain ⟨I, hk, htl, J⟩ := hI
  have hx := K.1
  have hb := K.2.1
  refine lv_aload_n hx hb dL_law_850 rfl (lv_at hl 2 rfl) ?_
  refine lv_aload_n hx hb dL_law_851 rfl (lv_at hl 3 rfl) ?_
  refine lv_iload_n hx hb dL_law_852 rfl (lv_at hl 0 rfl) ?_
  refine lv_iconst (v := 1) hx hb dL_law_853 (by decide) ?_
  refine lv_iadd hx hb dL_law_854 ?_
  refine k_topi (nI_add i 1) ?_
  refine va_sld hx hb hX hbl hbA X.2.2 (vp_in_nI (show i + 1 < L by omega) (by omega)) dL_law_855 ?_
  refine k_topi (congrArg xs (nI_clamp (show i + 1 < 2147483648 by omega))) ?_
  refine k_callV K X gv_L_105 (As := [.int (xs (i + 1))]) (c_X11_fix l E a f g h ik one wo tp tl tk ts te tn rb rz rn td 99999 (xs (i + 1)) I (by omega)) [0, 1, 2, 3, 4, 5, 6, 7, 8, 9, 10, 11, 12, 13, 14, 15, 16, 17, 18, 19, 20, 21, 22, 23, 24, 25, 26, 27, 28, 29, 30, 31, 32, 33, 34, 35, 36, 37, 38, 39, 40, 41, 42] lawW_s0C (by decide +kernel) (fun _ => clsW_fst) 0 11 rfl rfl ⟨⟨Nat.le_of_ble_eq_true rfl, Nat.le_of_ble_eq_true rfl⟩, Nat.le_of_ble_eq_true rfl, Nat.le_of_ble_eq_true rfl⟩ rfl hl.1 (rest := []) rfl (Nat.le_of_ble_eq_true rfl) dL_law_856 (st1 := fun _ => [.int ((oFix f td (xs (i + 1))).1)]) (fun _ => rfl) (fun u856 H locs _ X => ?_)
  have X : Wd E _ _ (lawW E a b ((oFix f td (xs (i + 1))).2.1) u856.1 h ik u856.2.1 u856.2.2 tp tl tk ts te tn rb rz rn ((oFix f td (xs (i + 1))).2.2) (flat f) (flat h2) wf ik td tch tp tl tk2 tb ta tv bad rb rz (flR rn)) _ _ := X.eq lawW_s0P
  refine lv_aload_n hx hb dL_law_859 rfl (lv_at hl 1 rfl) ?_
  refine lv_aload_n hx hb dL_law_860 rfl (lv_at hl 3 rfl) ?_
  refine lv_iload_n hx hb dL_law_861 rfl (lv_at hl 0 rfl) ?_
  refine lv_iconst (v := 1) hx hb dL_law_862 (by decide) ?_
  refine lv_iadd hx hb dL_law_863 ?_
  refine k_topi (nI_add i 1) ?_
  refine va_sld hx hb hX hbl hbA X.2.2 (vp_in_nI (show i + 1 < L by omega) (by omega)) dL_law_864 ?_
  refine k_topi (congrArg xs (nI_clamp (show i + 1 < 2147483648 by omega))) ?_
  refine k_callV K X gv_L_108 (As := [.int (xs (i + 1))]) (c_X12_fix l E b (flat h2) wf ik td tch tp tl tk2 tb ta tv bad rb rz (flR rn) f 99999 (xs (i + 1)) I (by omega)) [43, 44, 45, 46, 47, 48, 49, 50, 51] lawW_s1C (by decide +kernel) (fun _ => modW_fst) 0 12 rfl rfl ⟨⟨Nat.le_of_ble_eq_true rfl, Nat.le_of_ble_eq_true rfl⟩, Nat.le_of_ble_eq_true rfl, Nat.le_of_ble_eq_true rfl⟩ rfl hl.1 (rest := [.int ((oFix f td (xs (i + 1))).1)]) rfl (Nat.le_of_ble_eq_true rfl) dL_law_865 (st1 := fun _ => [.int ((oFix f td (xs (i + 1))).1), .int ((oFix f td (xs (i + 1))).1)]) (fun _ => rfl) (fun u865 H locs _ X => ?_)
  have X : Wd E _ _ (lawW E a b ((oFix f td (xs (i + 1))).2.1) u856.1 h ik u856.2.1 u856.2.2 tp tl tk ts te tn rb rz rn ((oFix f td (xs (i + 1))).2.2) (flat ((oFix f td (xs (i + 1))).2.1)) (flat h2) u865.1 ik ((oFix f td (xs (i + 1))).2.2) u865.2 tp tl tk2 tb ta tv bad rb rz (flR rn)) _ _ := X.eq lawW_s1P
  refine k_icmp_eq (x := (oFix f td (xs (i + 1))).1) (y := (oFix f td (xs (i + 1))).1) hx hb 1352 dL_law_868 (by decide) (fun _ => ?_) (fun z => absurd rfl z)
  exact hn ((oFix f td (xs (i + 1))).2.1) u856.1 h h2 ik u856.2.1 u856.2.2 tp tl tk ts te tn rb rz rn ((oFix f td (xs (i + 1))).2.2) u865.1 u865.2 tk2 tb ta tv bad _ _ _ ⟨(by rw [oFix_f]; exact I), hk, htl, J⟩ X hl
set_option maxRecDepth 100000 in
set_option maxHeartbeats 4000000 in
/-- winner -/
theorem lc_23 {p : Program} {l : Launch} {e : Env} {s : State} {m : MethodId} {below : List Frame} {meth : Method} {c : Code} {E : EE} {A : Nat → Prop} {b0 L : Nat} {xs : Nat → Int32} {a b : Nat → Nat} (K : Kx p s m #[Value.ref b0] meth c code 4 RL E A) (hX : va_X b0 L xs s s.heap) (hbl : b0 < s.heap.size) (hbA : ¬ A b0) {i : Nat} (hi : i + 6 ≤ L) (hL : L ≤ 3072) (hn : Nx p l e s m below meth c E A b0 a b i 1352) : Nx p l e s m below meth c E A b0 a b i 873 := by
  intro f g h h2 ik one wo tp tl tk ts te tn rb rz rn td wf tch tk2 tb ta tv bad H locs ls hI X hl
  obtain ⟨I, hk, htl, J⟩ := hI
  have hx := K.1
  have hb := K.2.1
  refine lv_aload_n hx hb dL_law_873 rfl (lv_at hl 2 rfl) ?_
  refine lv_aload_n hx hb dL_law_874 rfl (lv_at hl 3 rfl) ?_
  refine lv_iload_n hx hb dL_law_875 rfl (lv_at hl 0 rfl) ?_
  refine lv_iconst (v := 1) hx hb dL_law_876 (by decide) ?_
  refine lv_iadd hx hb dL_law_877 ?_
  refine k_topi (nI_add i 1) ?_
  refine va_sld hx hb hX hbl hbA X.2.2 (vp_in_nI (show i + 1 < L by omega) (by omega)) dL_law_878 ?_
  refine k_topi (congrArg xs (nI_clamp (show i + 1 < 2147483648 by omega))) ?_
  refine k_callV K X gv_L_109 (As := [.int (xs (i + 1))]) (c_X11_winner l E a f g h ik one wo tp tl tk ts te tn rb rz rn td 99999 (xs (i + 1)) I (by omega)) [0, 1, 2, 3, 4, 5, 6, 7, 8, 9, 10, 11, 12, 13, 14, 15, 16, 17, 18, 19, 20, 21, 22, 23, 24, 25, 26, 27, 28, 29, 30, 31, 32, 33, 34, 35, 36, 37, 38, 39, 40, 41, 42] lawW_s0C (by decide +kernel) (fun _ => clsW_fst) 0 11 rfl rfl ⟨⟨Nat.le_of_ble_eq_true rfl, Nat.le_of_ble_eq_true rfl⟩, Nat.le_of_ble_eq_true rfl, Nat.le_of_ble_eq_true rfl⟩ rfl hl.1 (rest := []) rfl (Nat.le_of_ble_eq_true rfl) dL_law_879 (st1 := fun _ => [.int ((oWinner f td (xs (i + 1))).1)]) (fun _ => rfl) (fun u879 H locs _ X => ?_)
  have X : Wd E _ _ (lawW E a b ((oWinner f td (xs (i + 1))).2.1) u879.1 h ik u879.2.1 u879.2.2 tp tl tk ts te tn rb rz rn ((oWinner f td (xs (i + 1))).2.2) (flat f) (flat h2) wf ik td tch tp tl tk2 tb ta tv bad rb rz (flR rn)) _ _ := X.eq lawW_s0P
  refine lv_aload_n hx hb dL_law_882 rfl (lv_at hl 1 rfl) ?_
  refine lv_aload_n hx hb dL_law_883 rfl (lv_at hl 3 rfl) ?_
  refine lv_iload_n hx hb dL_law_884 rfl (lv_at hl 0 rfl) ?_
  refine lv_iconst (v := 1) hx hb dL_law_885 (by decide) ?_
  refine lv_iadd hx hb dL_law_886 ?_
  refine k_topi (nI_add i 1) ?_
  refine va_sld hx hb hX hbl hbA X.2.2 (vp_in_nI (show i + 1 < L by omega) (by omega)) dL_law_887 ?_
  refine k_topi (congrArg xs (nI_clamp (show i + 1 < 2147483648 by omega))) ?_
  refine k_callV K X gv_L_112 (As := [.int (xs (i + 1))]) (c_X12_winner l E b (flat h2) wf ik td tch tp tl tk2 tb ta tv bad rb rz (flR rn) f 99999 (xs (i + 1)) I (by omega)) [43, 44, 45, 46, 47, 48, 49, 50, 51] lawW_s1C (by decide +kernel) (fun _ => modW_fst) 0 12 rfl rfl ⟨⟨Nat.le_of_ble_eq_true rfl, Nat.le_of_ble_eq_true rfl⟩, Nat.le_of_ble_eq_true rfl, Nat.le_of_ble_eq_true rfl⟩ rfl hl.1 (rest := [.int ((oWinner f td (xs (i + 1))).1)]) rfl (Nat.le_of_ble_eq_true rfl) dL_law_888 (st1 := fun _ => [.int ((oWinner f td (xs (i + 1))).1), .int ((oWinner f td (xs (i + 1))).1)]) (fun _ => rfl) (fun u888 H locs _ X => ?_)
  have X : Wd E _ _ (lawW E a b ((oWinner f td (xs (i + 1))).2.1) u879.1 h ik u879.2.1 u879.2.2 tp tl tk ts te tn rb rz rn ((oWinner f td (xs (i + 1))).2.2) (flat ((oWinner f td (xs (i + 1))).2.1)) (flat h2) u888.1 ik ((oWinner f td (xs (i + 1))).2.2) u888.2 tp tl tk2 tb ta tv bad rb rz (flR rn)) _ _ := X.eq lawW_s1P
  refine k_icmp_eq (x := (oWinner f td (xs (i + 1))).1) (y := (oWinner f td (xs (i + 1))).1) hx hb 1352 dL_law_891 (by decide) (fun _ => ?_) (fun z => absurd rfl z)
  exact hn ((oWinner f td (xs (i + 1))).2.1) u879.1 h h2 ik u879.2.1 u879.2.2 tp tl tk ts te tn rb rz rn ((oWinner f td (xs (i + 1))).2.2) u888.1 u888.2 tk2 tb ta tv bad _ _ _ ⟨(by rw [oWinner_f]; exact I), hk, htl, J⟩ X hl
set_option maxRecDepth 100000 in
set_option maxHeartbeats 4000000 in
/-- largest -/
theorem lc_24 {p : Program} {l : Launch} {e : Env} {s : State} {m : MethodId} {below : List Frame} {meth : Method} {c : Code} {E : EE} {A : Nat → Prop} {b0 L : Nat} {xs : Nat → Int32} {a b : Nat → Nat} (K : Kx p s m #[Value.ref b0] meth c code 4 RL E A) (hX : va_X b0 L xs s s.heap) (hbl : b0 < s.heap.size) (hbA : ¬ A b0) {i : Nat} (hi : i + 6 ≤ L) (hL : L ≤ 3072) (hn : Nx p l e s m below meth c E A b0 a b i 1352) : Nx p l e s m below meth c E A b0 a b i 896 := by
  intro f g h h2 ik one wo tp tl tk ts te tn rb rz rn td wf tch tk2 tb ta tv bad H locs ls hI X hl
  obtain ⟨I, hk, htl, J⟩ := hI
  have hx := K.1
  have hb := K.2.1
  refine lv_aload_n hx hb dL_law_896 rfl (lv_at hl 2 rfl) ?_
  refine lv_aload_n hx hb dL_law_897 rfl (lv_at hl 3 rfl) ?_
  refine lv_iload_n hx hb dL_law_898 rfl (lv_at hl 0 rfl) ?_
  refine lv_iconst (v := 1) hx hb dL_law_899 (by decide) ?_
  refine lv_iadd hx hb dL_law_900 ?_
  refine k_topi (nI_add i 1) ?_
  refine va_sld hx hb hX hbl hbA X.2.2 (vp_in_nI (show i + 1 < L by omega) (by omega)) dL_law_901 ?_
  refine k_topi (congrArg xs (nI_clamp (show i + 1 < 2147483648 by omega))) ?_
  refine k_callV K X gv_L_113 (As := [.int (xs (i + 1))]) (c_X11_largest l E a f g h ik one wo tp tl tk ts te tn rb rz rn td 99999 (xs (i + 1)) I (by omega)) [0, 1, 2, 3, 4, 5, 6, 7, 8, 9, 10, 11, 12, 13, 14, 15, 16, 17, 18, 19, 20, 21, 22, 23, 24, 25, 26, 27, 28, 29, 30, 31, 32, 33, 34, 35, 36, 37, 38, 39, 40, 41, 42] lawW_s0C (by decide +kernel) (fun _ => clsW_fst) 0 11 rfl rfl ⟨⟨Nat.le_of_ble_eq_true rfl, Nat.le_of_ble_eq_true rfl⟩, Nat.le_of_ble_eq_true rfl, Nat.le_of_ble_eq_true rfl⟩ rfl hl.1 (rest := []) rfl (Nat.le_of_ble_eq_true rfl) dL_law_902 (st1 := fun _ => [.int ((oLargest f td (xs (i + 1))).1)]) (fun _ => rfl) (fun u902 H locs _ X => ?_)
  have X : Wd E _ _ (lawW E a b ((oLargest f td (xs (i + 1))).2.1) u902.1 h ik u902.2.1 u902.2.2 tp tl tk ts te tn rb rz rn ((oLargest f td (xs (i + 1))).2.2) (flat f) (flat h2) wf ik td tch tp tl tk2 tb ta tv bad rb rz (flR rn)) _ _ := X.eq lawW_s0P
  refine lv_aload_n hx hb dL_law_905 rfl (lv_at hl 1 rfl) ?_
  refine lv_aload_n hx hb dL_law_906 rfl (lv_at hl 3 rfl) ?_
  refine lv_iload_n hx hb dL_law_907 rfl (lv_at hl 0 rfl) ?_
  refine lv_iconst (v := 1) hx hb dL_law_908 (by decide) ?_
  refine lv_iadd hx hb dL_law_909 ?_
  refine k_topi (nI_add i 1) ?_
  refine va_sld hx hb hX hbl hbA X.2.2 (vp_in_nI (show i + 1 < L by omega) (by omega)) dL_law_910 ?_
  refine k_topi (congrArg xs (nI_clamp (show i + 1 < 2147483648 by omega))) ?_
  refine k_callV K X gv_L_116 (As := [.int (xs (i + 1))]) (c_X12_largest l E b (flat h2) wf ik td tch tp tl tk2 tb ta tv bad rb rz (flR rn) f 99999 (xs (i + 1)) I (by omega)) [43, 44, 45, 46, 47, 48, 49, 50, 51] lawW_s1C (by decide +kernel) (fun _ => modW_fst) 0 12 rfl rfl ⟨⟨Nat.le_of_ble_eq_true rfl, Nat.le_of_ble_eq_true rfl⟩, Nat.le_of_ble_eq_true rfl, Nat.le_of_ble_eq_true rfl⟩ rfl hl.1 (rest := [.int ((oLargest f td (xs (i + 1))).1)]) rfl (Nat.le_of_ble_eq_true rfl) dL_law_911 (st1 := fun _ => [.int ((oLargest f td (xs (i + 1))).1), .int ((oLargest f td (xs (i + 1))).1)]) (fun _ => rfl) (fun u911 H locs _ X => ?_)
  have X : Wd E _ _ (lawW E a b ((oLargest f td (xs (i + 1))).2.1) u902.1 h ik u902.2.1 u902.2.2 tp tl tk ts te tn rb rz rn ((oLargest f td (xs (i + 1))).2.2) (flat ((oLargest f td (xs (i + 1))).2.1)) (flat h2) u911.1 ik ((oLargest f td (xs (i + 1))).2.2) u911.2 tp tl tk2 tb ta tv bad rb rz (flR rn)) _ _ := X.eq lawW_s1P
  refine k_icmp_eq (x := (oLargest f td (xs (i + 1))).1) (y := (oLargest f td (xs (i + 1))).1) hx hb 1352 dL_law_914 (by decide) (fun _ => ?_) (fun z => absurd rfl z)
  exact hn ((oLargest f td (xs (i + 1))).2.1) u902.1 h h2 ik u902.2.1 u902.2.2 tp tl tk ts te tn rb rz rn ((oLargest f td (xs (i + 1))).2.2) u911.1 u911.2 tk2 tb ta tv bad _ _ _ ⟨(by rw [oLargest_f]; exact I), hk, htl, J⟩ X hl
set_option maxRecDepth 100000 in
set_option maxHeartbeats 4000000 in
/-- feed -/
theorem lc_25 {p : Program} {l : Launch} {e : Env} {s : State} {m : MethodId} {below : List Frame} {meth : Method} {c : Code} {E : EE} {A : Nat → Prop} {b0 L : Nat} {xs : Nat → Int32} {a b : Nat → Nat} (K : Kx p s m #[Value.ref b0] meth c code 4 RL E A) (hX : va_X b0 L xs s s.heap) (hbl : b0 < s.heap.size) (hbA : ¬ A b0) {i : Nat} (hi : i + 6 ≤ L) (hL : L ≤ 3072) (hn : Nx p l e s m below meth c E A b0 a b i 1352) : Nx p l e s m below meth c E A b0 a b i 919 := by
  intro f g h h2 ik one wo tp tl tk ts te tn rb rz rn td wf tch tk2 tb ta tv bad H locs ls hI X hl
  obtain ⟨I, hk, htl, J⟩ := hI
  have hx := K.1
  have hb := K.2.1
  obtain ⟨n, hn120, rfl⟩ := htl
  refine lv_aload_n hx hb dL_law_919 rfl (lv_at hl 2 rfl) ?_
  refine lv_aload_n hx hb dL_law_920 rfl (lv_at hl 3 rfl) ?_
  refine lv_iload_n hx hb dL_law_921 rfl (lv_at hl 0 rfl) ?_
  refine lv_iconst (v := 1) hx hb dL_law_922 (by decide) ?_
  refine lv_iadd hx hb dL_law_923 ?_
  refine k_topi (nI_add i 1) ?_
  refine va_sld hx hb hX hbl hbA X.2.2 (vp_in_nI (show i + 1 < L by omega) (by omega)) dL_law_924 ?_
  refine k_topi (congrArg xs (nI_clamp (show i + 1 < 2147483648 by omega))) ?_
  refine lv_aload_n hx hb dL_law_925 rfl (lv_at hl 3 rfl) ?_
  refine lv_iload_n hx hb dL_law_926 rfl (lv_at hl 0 rfl) ?_
  refine lv_iconst (v := 2) hx hb dL_law_927 (by decide) ?_
  refine lv_iadd hx hb dL_law_928 ?_
  refine k_topi (nI_add i 2) ?_
  refine va_sld hx hb hX hbl hbA X.2.2 (vp_in_nI (show i + 2 < L by omega) (by omega)) dL_law_929 ?_
  refine k_topi (congrArg xs (nI_clamp (show i + 2 < 2147483648 by omega))) ?_
  refine k_callV K X gv_L_117 (As := [.int (xs (i + 1)), .int (xs (i + 2))]) (c_X11_feed l E a f g h ik one wo tp tk ts te tn rb rz rn td n (xs (i + 1)) (xs (i + 2)) hn120) [0, 1, 2, 3, 4, 5, 6, 7, 8, 9, 10, 11, 12, 13, 14, 15, 16, 17, 18, 19, 20, 21, 22, 23, 24, 25, 26, 27, 28, 29, 30, 31, 32, 33, 34, 35, 36, 37, 38, 39, 40, 41, 42] lawW_s0C (by decide +kernel) (fun _ => clsW_fst) 0 11 rfl rfl ⟨⟨Nat.le_of_ble_eq_true rfl, Nat.le_of_ble_eq_true rfl⟩, Nat.le_of_ble_eq_true rfl, Nat.le_of_ble_eq_true rfl⟩ rfl hl.1 (rest := []) rfl (Nat.le_of_ble_eq_true rfl) dL_law_930 (st1 := fun _ => [.int ((oFeed td tp n (xs (i + 1)) (xs (i + 2))).1)]) (fun _ => rfl) (fun _ H locs _ X => ?_)
  have X : Wd E _ _ (lawW E a b f g h ik one wo ((oFeed td tp n (xs (i + 1)) (xs (i + 2))).2.2.1) (nI (oFeed td tp n (xs (i + 1)) (xs (i + 2))).2.2.2) tk ts te tn rb rz rn ((oFeed td tp n (xs (i + 1)) (xs (i + 2))).2.1) (flat f) (flat h2) wf ik td tch tp (nI n) tk2 tb ta tv bad rb rz (flR rn)) _ _ := X.eq lawW_s0P
  refine lv_aload_n hx hb dL_law_933 rfl (lv_at hl 1 rfl) ?_
  refine lv_aload_n hx hb dL_law_934 rfl (lv_at hl 3 rfl) ?_
  refine lv_iload_n hx hb dL_law_935 rfl (lv_at hl 0 rfl) ?_
  refine lv_iconst (v := 1) hx hb dL_law_936 (by decide) ?_
  refine lv_iadd hx hb dL_law_937 ?_
  refine k_topi (nI_add i 1) ?_
  refine va_sld hx hb hX hbl hbA X.2.2 (vp_in_nI (show i + 1 < L by omega) (by omega)) dL_law_938 ?_
  refine k_topi (congrArg xs (nI_clamp (show i + 1 < 2147483648 by omega))) ?_
  refine lv_aload_n hx hb dL_law_939 rfl (lv_at hl 3 rfl) ?_
  refine lv_iload_n hx hb dL_law_940 rfl (lv_at hl 0 rfl) ?_
  refine lv_iconst (v := 2) hx hb dL_law_941 (by decide) ?_
  refine lv_iadd hx hb dL_law_942 ?_
  refine k_topi (nI_add i 2) ?_
  refine va_sld hx hb hX hbl hbA X.2.2 (vp_in_nI (show i + 2 < L by omega) (by omega)) dL_law_943 ?_
  refine k_topi (congrArg xs (nI_clamp (show i + 2 < 2147483648 by omega))) ?_
  refine k_callV K X gv_L_120 (As := [.int (xs (i + 1)), .int (xs (i + 2))]) (c_X12_feed l E b (flat f) (flat h2) wf ik td tch tp tk2 tb ta tv bad rb rz (flR rn) n (xs (i + 1)) (xs (i + 2)) hn120) [43, 44, 45, 46, 47, 48, 49, 50, 51] lawW_s1C (by decide +kernel) (fun _ => modW_fst) 0 12 rfl rfl ⟨⟨Nat.le_of_ble_eq_true rfl, Nat.le_of_ble_eq_true rfl⟩, Nat.le_of_ble_eq_true rfl, Nat.le_of_ble_eq_true rfl⟩ rfl hl.1 (rest := [.int ((oFeed td tp n (xs (i + 1)) (xs (i + 2))).1)]) rfl (Nat.le_of_ble_eq_true rfl) dL_law_944 (st1 := fun _ => [.int ((oFeed td tp n (xs (i + 1)) (xs (i + 2))).1), .int ((oFeed td tp n (xs (i + 1)) (xs (i + 2))).1)]) (fun _ => rfl) (fun _ H locs _ X => ?_)
  have X : Wd E _ _ (lawW E a b f g h ik one wo ((oFeed td tp n (xs (i + 1)) (xs (i + 2))).2.2.1) (nI (oFeed td tp n (xs (i + 1)) (xs (i + 2))).2.2.2) tk ts te tn rb rz rn ((oFeed td tp n (xs (i + 1)) (xs (i + 2))).2.1) (flat f) (flat h2) wf ik ((oFeed td tp n (xs (i + 1)) (xs (i + 2))).2.1) tch ((oFeed td tp n (xs (i + 1)) (xs (i + 2))).2.2.1) (nI (oFeed td tp n (xs (i + 1)) (xs (i + 2))).2.2.2) tk2 tb ta tv bad rb rz (flR rn)) _ _ := X.eq lawW_s1P
  refine k_icmp_eq (x := (oFeed td tp n (xs (i + 1)) (xs (i + 2))).1) (y := (oFeed td tp n (xs (i + 1)) (xs (i + 2))).1) hx hb 1352 dL_law_947 (by decide) (fun _ => ?_) (fun z => absurd rfl z)
  exact hn f g h h2 ik one wo ((oFeed td tp n (xs (i + 1)) (xs (i + 2))).2.2.1) (nI (oFeed td tp n (xs (i + 1)) (xs (i + 2))).2.2.2) tk ts te tn rb rz rn ((oFeed td tp n (xs (i + 1)) (xs (i + 2))).2.1) wf tch tk2 tb ta tv bad _ _ _ ⟨I, hk, ⟨_, oFeed_len hn120 td tp _ _, rfl⟩, J⟩ X hl
set_option maxRecDepth 100000 in
set_option maxHeartbeats 4000000 in
/-- wipe -/
theorem lc_26 {p : Program} {l : Launch} {e : Env} {s : State} {m : MethodId} {below : List Frame} {meth : Method} {c : Code} {E : EE} {A : Nat → Prop} {b0 L : Nat} {xs : Nat → Int32} {a b : Nat → Nat} (K : Kx p s m #[Value.ref b0] meth c code 4 RL E A) (hX : va_X b0 L xs s s.heap) (hbl : b0 < s.heap.size) (hbA : ¬ A b0) {i : Nat} (hi : i + 6 ≤ L) (hL : L ≤ 3072) (hn : Nx p l e s m below meth c E A b0 a b i 1352) : Nx p l e s m below meth c E A b0 a b i 952 := by
  intro f g h h2 ik one wo tp tl tk ts te tn rb rz rn td wf tch tk2 tb ta tv bad H locs ls hI X hl
  obtain ⟨I, hk, htl, J⟩ := hI
  have hx := K.1
  have hb := K.2.1
  obtain ⟨n, hn120, rfl⟩ := htl
  refine lv_aload_n hx hb dL_law_952 rfl (lv_at hl 2 rfl) ?_
  refine k_callV K X gv_L_121 (As := []) (c_X11_wipe l E a f g h ik one wo tp tk ts te tn rb rz rn td n) [0, 1, 2, 3, 4, 5, 6, 7, 8, 9, 10, 11, 12, 13, 14, 15, 16, 17, 18, 19, 20, 21, 22, 23, 24, 25, 26, 27, 28, 29, 30, 31, 32, 33, 34, 35, 36, 37, 38, 39, 40, 41, 42] lawW_s0C (by decide +kernel) (fun _ => clsW_fst) 0 11 rfl rfl ⟨⟨Nat.le_of_ble_eq_true rfl, Nat.le_of_ble_eq_true rfl⟩, Nat.le_of_ble_eq_true rfl, Nat.le_of_ble_eq_true rfl⟩ rfl hl.1 (rest := []) rfl (Nat.le_of_ble_eq_true rfl) dL_law_953 (st1 := fun _ => [.int (nI n)]) (fun _ => rfl) (fun _ H locs _ X => ?_)
  have X : Wd E _ _ (lawW E a b f g h ik one wo tp 0 tk ts te tn rb rz rn td (flat f) (flat h2) wf ik td tch tp (nI n) tk2 tb ta tv bad rb rz (flR rn)) _ _ := X.eq lawW_s0P
  refine lv_aload_n hx hb dL_law_956 rfl (lv_at hl 1 rfl) ?_
  refine k_callV K X gv_L_124 (As := []) (c_X12_wipe l E b (flat f) (flat h2) wf ik td tch tp tk2 tb ta tv bad rb rz (flR rn) n) [43, 44, 45, 46, 47, 48, 49, 50, 51] lawW_s1C (by decide +kernel) (fun _ => modW_fst) 0 12 rfl rfl ⟨⟨Nat.le_of_ble_eq_true rfl, Nat.le_of_ble_eq_true rfl⟩, Nat.le_of_ble_eq_true rfl, Nat.le_of_ble_eq_true rfl⟩ rfl hl.1 (rest := [.int (nI n)]) rfl (Nat.le_of_ble_eq_true rfl) dL_law_957 (st1 := fun _ => [.int (nI n), .int (nI n)]) (fun _ => rfl) (fun _ H locs _ X => ?_)
  have X : Wd E _ _ (lawW E a b f g h ik one wo tp 0 tk ts te tn rb rz rn td (flat f) (flat h2) wf ik td tch tp 0 tk2 tb ta tv bad rb rz (flR rn)) _ _ := X.eq lawW_s1P
  refine k_icmp_eq (x := nI n) (y := nI n) hx hb 1352 dL_law_960 (by decide) (fun _ => ?_) (fun z => absurd rfl z)
  exact hn f g h h2 ik one wo tp 0 tk ts te tn rb rz rn td wf tch tk2 tb ta tv bad _ _ _ ⟨I, hk, ⟨0, by decide, rfl⟩, J⟩ X hl
set_option maxRecDepth 100000 in
set_option maxHeartbeats 4000000 in
/-- wall -/
theorem lc_27 {p : Program} {l : Launch} {e : Env} {s : State} {m : MethodId} {below : List Frame} {meth : Method} {c : Code} {E : EE} {A : Nat → Prop} {b0 L : Nat} {xs : Nat → Int32} {a b : Nat → Nat} (K : Kx p s m #[Value.ref b0] meth c code 4 RL E A) (hX : va_X b0 L xs s s.heap) (hbl : b0 < s.heap.size) (hbA : ¬ A b0) {i : Nat} (hi : i + 6 ≤ L) (hL : L ≤ 3072) (hn : Nx p l e s m below meth c E A b0 a b i 1352) : Nx p l e s m below meth c E A b0 a b i 965 := by
  intro f g h h2 ik one wo tp tl tk ts te tn rb rz rn td wf tch tk2 tb ta tv bad H locs ls hI X hl
  obtain ⟨I, hk, htl, J⟩ := hI
  have hx := K.1
  have hb := K.2.1
  obtain ⟨n, hn120, rfl⟩ := htl
  refine lv_aload_n hx hb dL_law_965 rfl (lv_at hl 2 rfl) ?_
  refine k_callV K X gv_L_125 (As := []) (c_X11_wall l E a f g h ik one wo tp tk ts te tn rb rz rn td 99999 n I hn120) [0, 1, 2, 3, 4, 5, 6, 7, 8, 9, 10, 11, 12, 13, 14, 15, 16, 17, 18, 19, 20, 21, 22, 23, 24, 25, 26, 27, 28, 29, 30, 31, 32, 33, 34, 35, 36, 37, 38, 39, 40, 41, 42] lawW_s0C (by decide +kernel) (fun _ => clsW_fst) 0 11 rfl rfl ⟨⟨Nat.le_of_ble_eq_true rfl, Nat.le_of_ble_eq_true rfl⟩, Nat.le_of_ble_eq_true rfl, Nat.le_of_ble_eq_true rfl⟩ rfl hl.1 (rest := []) rfl (Nat.le_of_ble_eq_true rfl) dL_law_966 (st1 := fun _ => [.int ((oWall f tp n).1)]) (fun _ => rfl) (fun u966 H locs _ X => ?_)
  have X : Wd E _ _ (lawW E a b ((oWall f tp n).2) u966.1 h ik one wo tp 0 u966.2.1 u966.2.2.1 u966.2.2.2.1 u966.2.2.2.2 rb rz rn td (flat f) (flat h2) wf ik td tch tp (nI n) tk2 tb ta tv bad rb rz (flR rn)) _ _ := X.eq lawW_s0P
  refine lv_aload_n hx hb dL_law_969 rfl (lv_at hl 1 rfl) ?_
  refine k_callV K X gv_L_128 (As := []) (c_X12_wall l E b (flat h2) wf ik td tch tp tk2 tb ta tv bad rb rz (flR rn) f 99999 n I hn120) [43, 44, 45, 46, 47, 48, 49, 50, 51] lawW_s1C (by decide +kernel) (fun _ => modW_fst) 0 12 rfl rfl ⟨⟨Nat.le_of_ble_eq_true rfl, Nat.le_of_ble_eq_true rfl⟩, Nat.le_of_ble_eq_true rfl, Nat.le_of_ble_eq_true rfl⟩ rfl hl.1 (rest := [.int ((oWall f tp n).1)]) rfl (Nat.le_of_ble_eq_true rfl) dL_law_970 (st1 := fun _ => [.int ((oWall f tp n).1), .int ((oWall f tp n).1)]) (fun _ => rfl) (fun u970 H locs _ X => ?_)
  have X : Wd E _ _ (lawW E a b ((oWall f tp n).2) u966.1 h ik one wo tp 0 u966.2.1 u966.2.2.1 u966.2.2.2.1 u966.2.2.2.2 rb rz rn td (flat ((oWall f tp n).2)) (flat h2) u970.1 ik td tch tp 0 u970.2.1 u970.2.2.1 u970.2.2.2.1 u970.2.2.2.2.1 u970.2.2.2.2.2 rb rz (flR rn)) _ _ := X.eq lawW_s1P
  refine k_icmp_eq (x := (oWall f tp n).1) (y := (oWall f tp n).1) hx hb 1352 dL_law_973 (by decide) (fun _ => ?_) (fun z => absurd rfl z)
  exact hn ((oWall f tp n).2) u966.1 h h2 ik one wo tp 0 u966.2.1 u966.2.2.1 u966.2.2.2.1 u966.2.2.2.2 rb rz rn td u970.1 tch u970.2.1 u970.2.2.1 u970.2.2.2.1 u970.2.2.2.2.1 u970.2.2.2.2.2 _ _ _ ⟨oWall_I I tp hn120, hk, ⟨0, by decide, rfl⟩, J⟩ X hl
set_option maxRecDepth 100000 in
set_option maxHeartbeats 4000000 in
/-- sheet -/
theorem lc_28 {p : Program} {l : Launch} {e : Env} {s : State} {m : MethodId} {below : List Frame} {meth : Method} {c : Code} {E : EE} {A : Nat → Prop} {b0 L : Nat} {xs : Nat → Int32} {a b : Nat → Nat} (K : Kx p s m #[Value.ref b0] meth c code 4 RL E A) (hX : va_X b0 L xs s s.heap) (hbl : b0 < s.heap.size) (hbA : ¬ A b0) {i : Nat} (hi : i + 6 ≤ L) (hL : L ≤ 3072) (hn : Nx p l e s m below meth c E A b0 a b i 1352) : Nx p l e s m below meth c E A b0 a b i 978 := by
  intro f g h h2 ik one wo tp tl tk ts te tn rb rz rn td wf tch tk2 tb ta tv bad H locs ls hI X hl
  obtain ⟨I, hk, htl, J⟩ := hI
  have hx := K.1
  have hb := K.2.1
  refine lv_aload_n hx hb dL_law_978 rfl (lv_at hl 2 rfl) ?_
  refine lv_aload_n hx hb dL_law_979 rfl (lv_at hl 3 rfl) ?_
  refine lv_iload_n hx hb dL_law_980 rfl (lv_at hl 0 rfl) ?_
  refine lv_iconst (v := 1) hx hb dL_law_981 (by decide) ?_
  refine lv_iadd hx hb dL_law_982 ?_
  refine k_topi (nI_add i 1) ?_
  refine va_sld hx hb hX hbl hbA X.2.2 (vp_in_nI (show i + 1 < L by omega) (by omega)) dL_law_983 ?_
  refine k_topi (congrArg xs (nI_clamp (show i + 1 < 2147483648 by omega))) ?_
  refine lv_aload_n hx hb dL_law_984 rfl (lv_at hl 3 rfl) ?_
  refine lv_iload_n hx hb dL_law_985 rfl (lv_at hl 0 rfl) ?_
  refine lv_iconst (v := 2) hx hb dL_law_986 (by decide) ?_
  refine lv_iadd hx hb dL_law_987 ?_
  refine k_topi (nI_add i 2) ?_
  refine va_sld hx hb hX hbl hbA X.2.2 (vp_in_nI (show i + 2 < L by omega) (by omega)) dL_law_988 ?_
  refine k_topi (congrArg xs (nI_clamp (show i + 2 < 2147483648 by omega))) ?_
  refine lv_aload_n hx hb dL_law_989 rfl (lv_at hl 3 rfl) ?_
  refine lv_iload_n hx hb dL_law_990 rfl (lv_at hl 0 rfl) ?_
  refine lv_iconst (v := 3) hx hb dL_law_991 (by decide) ?_
  refine lv_iadd hx hb dL_law_992 ?_
  refine k_topi (nI_add i 3) ?_
  refine va_sld hx hb hX hbl hbA X.2.2 (vp_in_nI (show i + 3 < L by omega) (by omega)) dL_law_993 ?_
  refine k_topi (congrArg xs (nI_clamp (show i + 3 < 2147483648 by omega))) ?_
  refine k_callV K X gv_L_129 (As := [.int (xs (i + 1)), .int (xs (i + 2)), .int (xs (i + 3))]) (c_X11_sheet l E a f g h ik one wo tp tl tk ts te tn rb rz rn td (xs (i + 1)) (xs (i + 2)) (xs (i + 3)) J) [0, 1, 2, 3, 4, 5, 6, 7, 8, 9, 10, 11, 12, 13, 14, 15, 16, 17, 18, 19, 20, 21, 22, 23, 24, 25, 26, 27, 28, 29, 30, 31, 32, 33, 34, 35, 36, 37, 38, 39, 40, 41, 42] lawW_s0C (by decide +kernel) (fun _ => clsW_fst) 0 11 rfl rfl ⟨⟨Nat.le_of_ble_eq_true rfl, Nat.le_of_ble_eq_true rfl⟩, Nat.le_of_ble_eq_true rfl, Nat.le_of_ble_eq_true rfl⟩ rfl hl.1 (rest := []) rfl (Nat.le_of_ble_eq_true rfl) dL_law_994 (st1 := fun _ => [.int ((oSheet rb rz rn td (xs (i + 1)) (xs (i + 2)) (xs (i + 3))).1)]) (fun _ => rfl) (fun _ H locs _ X => ?_)
  have X : Wd E _ _ (lawW E a b f g h ik one wo tp tl tk ts te tn ((oSheet rb rz rn td (xs (i + 1)) (xs (i + 2)) (xs (i + 3))).2.1) ((oSheet rb rz rn td (xs (i + 1)) (xs (i + 2)) (xs (i + 3))).2.2.1) ((oSheet rb rz rn td (xs (i + 1)) (xs (i + 2)) (xs (i + 3))).2.2.2.1) ((oSheet rb rz rn td (xs (i + 1)) (xs (i + 2)) (xs (i + 3))).2.2.2.2) (flat f) (flat h2) wf ik td tch tp tl tk2 tb ta tv bad rb rz (flR rn)) _ _ := X.eq lawW_s0P
  refine lv_aload_n hx hb dL_law_997 rfl (lv_at hl 1 rfl) ?_
  refine lv_aload_n hx hb dL_law_998 rfl (lv_at hl 3 rfl) ?_
  refine lv_iload_n hx hb dL_law_999 rfl (lv_at hl 0 rfl) ?_
  refine lv_iconst (v := 1) hx hb dL_law_1000 (by decide) ?_
  refine lv_iadd hx hb dL_law_1001 ?_
  refine k_topi (nI_add i 1) ?_
  refine va_sld hx hb hX hbl hbA X.2.2 (vp_in_nI (show i + 1 < L by omega) (by omega)) dL_law_1002 ?_
  refine k_topi (congrArg xs (nI_clamp (show i + 1 < 2147483648 by omega))) ?_
  refine lv_aload_n hx hb dL_law_1003 rfl (lv_at hl 3 rfl) ?_
  refine lv_iload_n hx hb dL_law_1004 rfl (lv_at hl 0 rfl) ?_
  refine lv_iconst (v := 2) hx hb dL_law_1005 (by decide) ?_
  refine lv_iadd hx hb dL_law_1006 ?_
  refine k_topi (nI_add i 2) ?_
  refine va_sld hx hb hX hbl hbA X.2.2 (vp_in_nI (show i + 2 < L by omega) (by omega)) dL_law_1007 ?_
  refine k_topi (congrArg xs (nI_clamp (show i + 2 < 2147483648 by omega))) ?_
  refine lv_aload_n hx hb dL_law_1008 rfl (lv_at hl 3 rfl) ?_
  refine lv_iload_n hx hb dL_law_1009 rfl (lv_at hl 0 rfl) ?_
  refine lv_iconst (v := 3) hx hb dL_law_1010 (by decide) ?_
  refine lv_iadd hx hb dL_law_1011 ?_
  refine k_topi (nI_add i 3) ?_
  refine va_sld hx hb hX hbl hbA X.2.2 (vp_in_nI (show i + 3 < L by omega) (by omega)) dL_law_1012 ?_
  refine k_topi (congrArg xs (nI_clamp (show i + 3 < 2147483648 by omega))) ?_
  refine k_callV K X gv_L_132 (As := [.int (xs (i + 1)), .int (xs (i + 2)), .int (xs (i + 3))]) (c_X12_sheet l E b (flat f) (flat h2) wf ik td tch tp tl tk2 tb ta tv bad rb rz rn (xs (i + 1)) (xs (i + 2)) (xs (i + 3))) [43, 44, 45, 46, 47, 48, 49, 50, 51] lawW_s1C (by decide +kernel) (fun _ => modW_fst) 0 12 rfl rfl ⟨⟨Nat.le_of_ble_eq_true rfl, Nat.le_of_ble_eq_true rfl⟩, Nat.le_of_ble_eq_true rfl, Nat.le_of_ble_eq_true rfl⟩ rfl hl.1 (rest := [.int ((oSheet rb rz rn td (xs (i + 1)) (xs (i + 2)) (xs (i + 3))).1)]) rfl (Nat.le_of_ble_eq_true rfl) dL_law_1013 (st1 := fun _ => [.int ((oSheet rb rz rn td (xs (i + 1)) (xs (i + 2)) (xs (i + 3))).1), .int ((oSheet rb rz rn td (xs (i + 1)) (xs (i + 2)) (xs (i + 3))).1)]) (fun _ => rfl) (fun _ H locs _ X => ?_)
  have X : Wd E _ _ (lawW E a b f g h ik one wo tp tl tk ts te tn ((oSheet rb rz rn td (xs (i + 1)) (xs (i + 2)) (xs (i + 3))).2.1) ((oSheet rb rz rn td (xs (i + 1)) (xs (i + 2)) (xs (i + 3))).2.2.1) ((oSheet rb rz rn td (xs (i + 1)) (xs (i + 2)) (xs (i + 3))).2.2.2.1) ((oSheet rb rz rn td (xs (i + 1)) (xs (i + 2)) (xs (i + 3))).2.2.2.2) (flat f) (flat h2) wf ik ((oSheet rb rz rn td (xs (i + 1)) (xs (i + 2)) (xs (i + 3))).2.2.2.2) tch tp tl tk2 tb ta tv bad ((oSheet rb rz rn td (xs (i + 1)) (xs (i + 2)) (xs (i + 3))).2.1) ((oSheet rb rz rn td (xs (i + 1)) (xs (i + 2)) (xs (i + 3))).2.2.1) (flR ((oSheet rb rz rn td (xs (i + 1)) (xs (i + 2)) (xs (i + 3))).2.2.2.1))) _ _ := X.eq lawW_s1P
  refine k_icmp_eq (x := (oSheet rb rz rn td (xs (i + 1)) (xs (i + 2)) (xs (i + 3))).1) (y := (oSheet rb rz rn td (xs (i + 1)) (xs (i + 2)) (xs (i + 3))).1) hx hb 1352 dL_law_1016 (by decide) (fun _ => ?_) (fun z => absurd rfl z)
  exact hn f g h h2 ik one wo tp tl tk ts te tn ((oSheet rb rz rn td (xs (i + 1)) (xs (i + 2)) (xs (i + 3))).2.1) ((oSheet rb rz rn td (xs (i + 1)) (xs (i + 2)) (xs (i + 3))).2.2.1) ((oSheet rb rz rn td (xs (i + 1)) (xs (i + 2)) (xs (i + 3))).2.2.2.1) ((oSheet rb rz rn td (xs (i + 1)) (xs (i + 2)) (xs (i + 3))).2.2.2.2) wf tch tk2 tb ta tv bad _ _ _ ⟨I, hk, htl, oSheet_J J rb rn td _ _ _⟩ X hl
set_option maxRecDepth 100000 in
set_option maxHeartbeats 4000000 in
/-- write -/
theorem lc_29 {p : Program} {l : Launch} {e : Env} {s : State} {m : MethodId} {below : List Frame} {meth : Method} {c : Code} {E : EE} {A : Nat → Prop} {b0 L : Nat} {xs : Nat → Int32} {a b : Nat → Nat} (K : Kx p s m #[Value.ref b0] meth c code 4 RL E A) (hX : va_X b0 L xs s s.heap) (hbl : b0 < s.heap.size) (hbA : ¬ A b0) {i : Nat} (hi : i + 6 ≤ L) (hL : L ≤ 3072) (hn : Nx p l e s m below meth c E A b0 a b i 1352) : Nx p l e s m below meth c E A b0 a b i 1021 := by
  intro f g h h2 ik one wo tp tl tk ts te tn rb rz rn td wf tch tk2 tb ta tv bad H locs ls hI X hl
  obtain ⟨I, hk, htl, J⟩ := hI
  have hx := K.1
  have hb := K.2.1
  refine lv_aload_n hx hb dL_law_1021 rfl (lv_at hl 2 rfl) ?_
  refine lv_aload_n hx hb dL_law_1022 rfl (lv_at hl 3 rfl) ?_
  refine lv_iload_n hx hb dL_law_1023 rfl (lv_at hl 0 rfl) ?_
  refine lv_iconst (v := 1) hx hb dL_law_1024 (by decide) ?_
  refine lv_iadd hx hb dL_law_1025 ?_
  refine k_topi (nI_add i 1) ?_
  refine va_sld hx hb hX hbl hbA X.2.2 (vp_in_nI (show i + 1 < L by omega) (by omega)) dL_law_1026 ?_
  refine k_topi (congrArg xs (nI_clamp (show i + 1 < 2147483648 by omega))) ?_
  refine lv_aload_n hx hb dL_law_1027 rfl (lv_at hl 3 rfl) ?_
  refine lv_iload_n hx hb dL_law_1028 rfl (lv_at hl 0 rfl) ?_
  refine lv_iconst (v := 2) hx hb dL_law_1029 (by decide) ?_
  refine lv_iadd hx hb dL_law_1030 ?_
  refine k_topi (nI_add i 2) ?_
  refine va_sld hx hb hX hbl hbA X.2.2 (vp_in_nI (show i + 2 < L by omega) (by omega)) dL_law_1031 ?_
  refine k_topi (congrArg xs (nI_clamp (show i + 2 < 2147483648 by omega))) ?_
  refine lv_aload_n hx hb dL_law_1032 rfl (lv_at hl 3 rfl) ?_
  refine lv_iload_n hx hb dL_law_1033 rfl (lv_at hl 0 rfl) ?_
  refine lv_iconst (v := 3) hx hb dL_law_1034 (by decide) ?_
  refine lv_iadd hx hb dL_law_1035 ?_
  refine k_topi (nI_add i 3) ?_
  refine va_sld hx hb hX hbl hbA X.2.2 (vp_in_nI (show i + 3 < L by omega) (by omega)) dL_law_1036 ?_
  refine k_topi (congrArg xs (nI_clamp (show i + 3 < 2147483648 by omega))) ?_
  refine lv_i2l (v := (xs (i + 3)).toInt64) hx hb dL_law_1037 rfl ?_
  refine lv_bipush (v := 32) hx hb dL_law_1038 (by decide) ?_
  refine lv_lshl (v := ((xs (i + 3)).toInt64) <<< ((32 : Int32).toInt64 &&& 63)) hx hb dL_law_1040 rfl ?_
  refine lv_aload_n hx hb dL_law_1041 rfl (lv_at hl 3 rfl) ?_
  refine lv_iload_n hx hb dL_law_1042 rfl (lv_at hl 0 rfl) ?_
  refine lv_iconst (v := 4) hx hb dL_law_1043 (by decide) ?_
  refine lv_iadd hx hb dL_law_1044 ?_
  refine k_topi (nI_add i 4) ?_
  refine va_sld hx hb hX hbl hbA X.2.2 (vp_in_nI (show i + 4 < L by omega) (by omega)) dL_law_1045 ?_
  refine k_topi (congrArg xs (nI_clamp (show i + 4 < 2147483648 by omega))) ?_
  refine lv_i2l (v := (xs (i + 4)).toInt64) hx hb dL_law_1046 rfl ?_
  refine lv_ldc2 (v := 4294967295) hx hb K.2.2.2.1 (K.2.2.2.2.1 _ (Mw_at 1250 (by decide +kernel) (by decide +kernel))) dL_law_1047 ?_
  refine lv_land hx hb dL_law_1050 ?_
  refine lv_lor hx hb dL_law_1051 ?_
  refine k_callV K X gv_L_135 (As := [.int (xs (i + 1)), .int (xs (i + 2)), .long ((((xs (i + 3)).toInt64) <<< ((32 : Int32).toInt64 &&& 63)) ||| (((xs (i + 4)).toInt64) &&& 4294967295))]) (c_X11_write l E a f g h ik one wo tp tl tk ts te tn rb rz rn td (xs (i + 1)) (xs (i + 2)) ((((xs (i + 3)).toInt64) <<< ((32 : Int32).toInt64 &&& 63)) ||| (((xs (i + 4)).toInt64) &&& 4294967295)) J) [0, 1, 2, 3, 4, 5, 6, 7, 8, 9, 10, 11, 12, 13, 14, 15, 16, 17, 18, 19, 20, 21, 22, 23, 24, 25, 26, 27, 28, 29, 30, 31, 32, 33, 34, 35, 36, 37, 38, 39, 40, 41, 42] lawW_s0C (by decide +kernel) (fun _ => clsW_fst) 0 11 rfl rfl ⟨⟨Nat.le_of_ble_eq_true rfl, Nat.le_of_ble_eq_true rfl⟩, Nat.le_of_ble_eq_true rfl, Nat.le_of_ble_eq_true rfl⟩ rfl hl.1 (rest := []) rfl (Nat.le_of_ble_eq_true rfl) dL_law_1052 (st1 := fun _ => [.long ((oWrite rb rz rn td (xs (i + 1)) (xs (i + 2)) ((((xs (i + 3)).toInt64) <<< ((32 : Int32).toInt64 &&& 63)) ||| (((xs (i + 4)).toInt64) &&& 4294967295))).1)]) (fun _ => rfl) (fun _ H locs _ X => ?_)
  have X : Wd E _ _ (lawW E a b f g h ik one wo tp tl tk ts te tn rb rz ((oWrite rb rz rn td (xs (i + 1)) (xs (i + 2)) ((((xs (i + 3)).toInt64) <<< ((32 : Int32).toInt64 &&& 63)) ||| (((xs (i + 4)).toInt64) &&& 4294967295))).2.1) ((oWrite rb rz rn td (xs (i + 1)) (xs (i + 2)) ((((xs (i + 3)).toInt64) <<< ((32 : Int32).toInt64 &&& 63)) ||| (((xs (i + 4)).toInt64) &&& 4294967295))).2.2) (flat f) (flat h2) wf ik td tch tp tl tk2 tb ta tv bad rb rz (flR rn)) _ _ := X.eq lawW_s0P
  refine lv_aload_n hx hb dL_law_1055 rfl (lv_at hl 1 rfl) ?_
  refine lv_aload_n hx hb dL_law_1056 rfl (lv_at hl 3 rfl) ?_
  refine lv_iload_n hx hb dL_law_1057 rfl (lv_at hl 0 rfl) ?_
  refine lv_iconst (v := 1) hx hb dL_law_1058 (by decide) ?_
  refine lv_iadd hx hb dL_law_1059 ?_
  refine k_topi (nI_add i 1) ?_
  refine va_sld hx hb hX hbl hbA X.2.2 (vp_in_nI (show i + 1 < L by omega) (by omega)) dL_law_1060 ?_
  refine k_topi (congrArg xs (nI_clamp (show i + 1 < 2147483648 by omega))) ?_
  refine lv_aload_n hx hb dL_law_1061 rfl (lv_at hl 3 rfl) ?_
  refine lv_iload_n hx hb dL_law_1062 rfl (lv_at hl 0 rfl) ?_
  refine lv_iconst (v := 2) hx hb dL_law_1063 (by decide) ?_
  refine lv_iadd hx hb dL_law_1064 ?_
  refine k_topi (nI_add i 2) ?_
  refine va_sld hx hb hX hbl hbA X.2.2 (vp_in_nI (show i + 2 < L by omega) (by omega)) dL_law_1065 ?_
  refine k_topi (congrArg xs (nI_clamp (show i + 2 < 2147483648 by omega))) ?_
  refine lv_aload_n hx hb dL_law_1066 rfl (lv_at hl 3 rfl) ?_
  refine lv_iload_n hx hb dL_law_1067 rfl (lv_at hl 0 rfl) ?_
  refine lv_iconst (v := 3) hx hb dL_law_1068 (by decide) ?_
  refine lv_iadd hx hb dL_law_1069 ?_
  refine k_topi (nI_add i 3) ?_
  refine va_sld hx hb hX hbl hbA X.2.2 (vp_in_nI (show i + 3 < L by omega) (by omega)) dL_law_1070 ?_
  refine k_topi (congrArg xs (nI_clamp (show i + 3 < 2147483648 by omega))) ?_
  refine lv_i2l (v := (xs (i + 3)).toInt64) hx hb dL_law_1071 rfl ?_
  refine lv_bipush (v := 32) hx hb dL_law_1072 (by decide) ?_
  refine lv_lshl (v := ((xs (i + 3)).toInt64) <<< ((32 : Int32).toInt64 &&& 63)) hx hb dL_law_1074 rfl ?_
  refine lv_aload_n hx hb dL_law_1075 rfl (lv_at hl 3 rfl) ?_
  refine lv_iload_n hx hb dL_law_1076 rfl (lv_at hl 0 rfl) ?_
  refine lv_iconst (v := 4) hx hb dL_law_1077 (by decide) ?_
  refine lv_iadd hx hb dL_law_1078 ?_
  refine k_topi (nI_add i 4) ?_
  refine va_sld hx hb hX hbl hbA X.2.2 (vp_in_nI (show i + 4 < L by omega) (by omega)) dL_law_1079 ?_
  refine k_topi (congrArg xs (nI_clamp (show i + 4 < 2147483648 by omega))) ?_
  refine lv_i2l (v := (xs (i + 4)).toInt64) hx hb dL_law_1080 rfl ?_
  refine lv_ldc2 (v := 4294967295) hx hb K.2.2.2.1 (K.2.2.2.2.1 _ (Mw_at 1250 (by decide +kernel) (by decide +kernel))) dL_law_1081 ?_
  refine lv_land hx hb dL_law_1084 ?_
  refine lv_lor hx hb dL_law_1085 ?_
  refine k_callV K X gv_L_139 (As := [.int (xs (i + 1)), .int (xs (i + 2)), .long ((((xs (i + 3)).toInt64) <<< ((32 : Int32).toInt64 &&& 63)) ||| (((xs (i + 4)).toInt64) &&& 4294967295))]) (c_X12_write l E b (flat f) (flat h2) wf ik td tch tp tl tk2 tb ta tv bad rb rz rn (xs (i + 1)) (xs (i + 2)) ((((xs (i + 3)).toInt64) <<< ((32 : Int32).toInt64 &&& 63)) ||| (((xs (i + 4)).toInt64) &&& 4294967295)) J) [43, 44, 45, 46, 47, 48, 49, 50, 51] lawW_s1C (by decide +kernel) (fun _ => modW_fst) 0 12 rfl rfl ⟨⟨Nat.le_of_ble_eq_true rfl, Nat.le_of_ble_eq_true rfl⟩, Nat.le_of_ble_eq_true rfl, Nat.le_of_ble_eq_true rfl⟩ rfl hl.1 (rest := [.long ((oWrite rb rz rn td (xs (i + 1)) (xs (i + 2)) ((((xs (i + 3)).toInt64) <<< ((32 : Int32).toInt64 &&& 63)) ||| (((xs (i + 4)).toInt64) &&& 4294967295))).1)]) rfl (Nat.le_of_ble_eq_true rfl) dL_law_1086 (st1 := fun _ => [.long ((oWrite rb rz rn td (xs (i + 1)) (xs (i + 2)) ((((xs (i + 3)).toInt64) <<< ((32 : Int32).toInt64 &&& 63)) ||| (((xs (i + 4)).toInt64) &&& 4294967295))).1), .long ((oWrite rb rz rn td (xs (i + 1)) (xs (i + 2)) ((((xs (i + 3)).toInt64) <<< ((32 : Int32).toInt64 &&& 63)) ||| (((xs (i + 4)).toInt64) &&& 4294967295))).1)]) (fun _ => rfl) (fun _ H locs _ X => ?_)
  have X : Wd E _ _ (lawW E a b f g h ik one wo tp tl tk ts te tn rb rz ((oWrite rb rz rn td (xs (i + 1)) (xs (i + 2)) ((((xs (i + 3)).toInt64) <<< ((32 : Int32).toInt64 &&& 63)) ||| (((xs (i + 4)).toInt64) &&& 4294967295))).2.1) ((oWrite rb rz rn td (xs (i + 1)) (xs (i + 2)) ((((xs (i + 3)).toInt64) <<< ((32 : Int32).toInt64 &&& 63)) ||| (((xs (i + 4)).toInt64) &&& 4294967295))).2.2) (flat f) (flat h2) wf ik ((oWrite rb rz rn td (xs (i + 1)) (xs (i + 2)) ((((xs (i + 3)).toInt64) <<< ((32 : Int32).toInt64 &&& 63)) ||| (((xs (i + 4)).toInt64) &&& 4294967295))).2.2) tch tp tl tk2 tb ta tv bad rb rz (flR ((oWrite rb rz rn td (xs (i + 1)) (xs (i + 2)) ((((xs (i + 3)).toInt64) <<< ((32 : Int32).toInt64 &&& 63)) ||| (((xs (i + 4)).toInt64) &&& 4294967295))).2.1))) _ _ := X.eq lawW_s1P
  refine W.lcmp hx hb dL_law_1089 ?_
  refine k_lc_eq (x := (oWrite rb rz rn td (xs (i + 1)) (xs (i + 2)) ((((xs (i + 3)).toInt64) <<< ((32 : Int32).toInt64 &&& 63)) ||| (((xs (i + 4)).toInt64) &&& 4294967295))).1) (y := (oWrite rb rz rn td (xs (i + 1)) (xs (i + 2)) ((((xs (i + 3)).toInt64) <<< ((32 : Int32).toInt64 &&& 63)) ||| (((xs (i + 4)).toInt64) &&& 4294967295))).1) hx hb 1352 dL_law_1090 (by decide) (fun _ => ?_) (fun z => absurd rfl z)
  exact hn f g h h2 ik one wo tp tl tk ts te tn rb rz ((oWrite rb rz rn td (xs (i + 1)) (xs (i + 2)) ((((xs (i + 3)).toInt64) <<< ((32 : Int32).toInt64 &&& 63)) ||| (((xs (i + 4)).toInt64) &&& 4294967295))).2.1) ((oWrite rb rz rn td (xs (i + 1)) (xs (i + 2)) ((((xs (i + 3)).toInt64) <<< ((32 : Int32).toInt64 &&& 63)) ||| (((xs (i + 4)).toInt64) &&& 4294967295))).2.2) wf tch tk2 tb ta tv bad _ _ _ ⟨I, hk, htl, J⟩ X hl
set_option maxRecDepth 100000 in
set_option maxHeartbeats 4000000 in
/-- copy -/
theorem lc_30 {p : Program} {l : Launch} {e : Env} {s : State} {m : MethodId} {below : List Frame} {meth : Method} {c : Code} {E : EE} {A : Nat → Prop} {b0 L : Nat} {xs : Nat → Int32} {a b : Nat → Nat} (K : Kx p s m #[Value.ref b0] meth c code 4 RL E A) (hX : va_X b0 L xs s s.heap) (hbl : b0 < s.heap.size) (hbA : ¬ A b0) {i : Nat} (hi : i + 6 ≤ L) (hL : L ≤ 3072) (hn : Nx p l e s m below meth c E A b0 a b i 1352) : Nx p l e s m below meth c E A b0 a b i 1095 := by
  intro f g h h2 ik one wo tp tl tk ts te tn rb rz rn td wf tch tk2 tb ta tv bad H locs ls hI X hl
  obtain ⟨I, hk, htl, J⟩ := hI
  have hx := K.1
  have hb := K.2.1
  refine lv_aload_n hx hb dL_law_1095 rfl (lv_at hl 2 rfl) ?_
  refine lv_aload_n hx hb dL_law_1096 rfl (lv_at hl 3 rfl) ?_
  refine lv_iload_n hx hb dL_law_1097 rfl (lv_at hl 0 rfl) ?_
  refine lv_iconst (v := 1) hx hb dL_law_1098 (by decide) ?_
  refine lv_iadd hx hb dL_law_1099 ?_
  refine k_topi (nI_add i 1) ?_
  refine va_sld hx hb hX hbl hbA X.2.2 (vp_in_nI (show i + 1 < L by omega) (by omega)) dL_law_1100 ?_
  refine k_topi (congrArg xs (nI_clamp (show i + 1 < 2147483648 by omega))) ?_
  refine lv_aload_n hx hb dL_law_1101 rfl (lv_at hl 3 rfl) ?_
  refine lv_iload_n hx hb dL_law_1102 rfl (lv_at hl 0 rfl) ?_
  refine lv_iconst (v := 2) hx hb dL_law_1103 (by decide) ?_
  refine lv_iadd hx hb dL_law_1104 ?_
  refine k_topi (nI_add i 2) ?_
  refine va_sld hx hb hX hbl hbA X.2.2 (vp_in_nI (show i + 2 < L by omega) (by omega)) dL_law_1105 ?_
  refine k_topi (congrArg xs (nI_clamp (show i + 2 < 2147483648 by omega))) ?_
  refine lv_aload_n hx hb dL_law_1106 rfl (lv_at hl 3 rfl) ?_
  refine lv_iload_n hx hb dL_law_1107 rfl (lv_at hl 0 rfl) ?_
  refine lv_iconst (v := 3) hx hb dL_law_1108 (by decide) ?_
  refine lv_iadd hx hb dL_law_1109 ?_
  refine k_topi (nI_add i 3) ?_
  refine va_sld hx hb hX hbl hbA X.2.2 (vp_in_nI (show i + 3 < L by omega) (by omega)) dL_law_1110 ?_
  refine k_topi (congrArg xs (nI_clamp (show i + 3 < 2147483648 by omega))) ?_
  refine lv_aload_n hx hb dL_law_1111 rfl (lv_at hl 3 rfl) ?_
  refine lv_iload_n hx hb dL_law_1112 rfl (lv_at hl 0 rfl) ?_
  refine lv_iconst (v := 4) hx hb dL_law_1113 (by decide) ?_
  refine lv_iadd hx hb dL_law_1114 ?_
  refine k_topi (nI_add i 4) ?_
  refine va_sld hx hb hX hbl hbA X.2.2 (vp_in_nI (show i + 4 < L by omega) (by omega)) dL_law_1115 ?_
  refine k_topi (congrArg xs (nI_clamp (show i + 4 < 2147483648 by omega))) ?_
  refine lv_aload_n hx hb dL_law_1116 rfl (lv_at hl 3 rfl) ?_
  refine lv_iload_n hx hb dL_law_1117 rfl (lv_at hl 0 rfl) ?_
  refine lv_iconst (v := 5) hx hb dL_law_1118 (by decide) ?_
  refine lv_iadd hx hb dL_law_1119 ?_
  refine k_topi (nI_add i 5) ?_
  refine va_sld hx hb hX hbl hbA X.2.2 (vp_in_nI (show i + 5 < L by omega) (by omega)) dL_law_1120 ?_
  refine k_topi (congrArg xs (nI_clamp (show i + 5 < 2147483648 by omega))) ?_
  refine k_callV K X gv_L_140 (As := [.int (xs (i + 1)), .int (xs (i + 2)), .int (xs (i + 3)), .int (xs (i + 4)), .int (xs (i + 5))]) (c_X11_copy l E a f g h ik one wo tp tl tk ts te tn rb rz rn td (xs (i + 1)) (xs (i + 2)) (xs (i + 3)) (xs (i + 4)) (xs (i + 5)) J) [0, 1, 2, 3, 4, 5, 6, 7, 8, 9, 10, 11, 12, 13, 14, 15, 16, 17, 18, 19, 20, 21, 22, 23, 24, 25, 26, 27, 28, 29, 30, 31, 32, 33, 34, 35, 36, 37, 38, 39, 40, 41, 42] lawW_s0C (by decide +kernel) (fun _ => clsW_fst) 0 11 rfl rfl ⟨⟨Nat.le_of_ble_eq_true rfl, Nat.le_of_ble_eq_true rfl⟩, Nat.le_of_ble_eq_true rfl, Nat.le_of_ble_eq_true rfl⟩ rfl hl.1 (rest := []) rfl (Nat.le_of_ble_eq_true rfl) dL_law_1121 (st1 := fun _ => [.int ((oCopy rb rz rn td (xs (i + 1)) (xs (i + 2)) (xs (i + 3)) (xs (i + 4)) (xs (i + 5))).1)]) (fun _ => rfl) (fun _ H locs _ X => ?_)
  have X : Wd E _ _ (lawW E a b f g h ik one wo tp tl tk ts te tn rb rz ((oCopy rb rz rn td (xs (i + 1)) (xs (i + 2)) (xs (i + 3)) (xs (i + 4)) (xs (i + 5))).2.1) ((oCopy rb rz rn td (xs (i + 1)) (xs (i + 2)) (xs (i + 3)) (xs (i + 4)) (xs (i + 5))).2.2) (flat f) (flat h2) wf ik td tch tp tl tk2 tb ta tv bad rb rz (flR rn)) _ _ := X.eq lawW_s0P
  refine lv_aload_n hx hb dL_law_1124 rfl (lv_at hl 1 rfl) ?_
  refine lv_aload_n hx hb dL_law_1125 rfl (lv_at hl 3 rfl) ?_
  refine lv_iload_n hx hb dL_law_1126 rfl (lv_at hl 0 rfl) ?_
  refine lv_iconst (v := 1) hx hb dL_law_1127 (by decide) ?_
  refine lv_iadd hx hb dL_law_1128 ?_
  refine k_topi (nI_add i 1) ?_
  refine va_sld hx hb hX hbl hbA X.2.2 (vp_in_nI (show i + 1 < L by omega) (by omega)) dL_law_1129 ?_
  refine k_topi (congrArg xs (nI_clamp (show i + 1 < 2147483648 by omega))) ?_
  refine lv_aload_n hx hb dL_law_1130 rfl (lv_at hl 3 rfl) ?_
  refine lv_iload_n hx hb dL_law_1131 rfl (lv_at hl 0 rfl) ?_
  refine lv_iconst (v := 2) hx hb dL_law_1132 (by decide) ?_
  refine lv_iadd hx hb dL_law_1133 ?_
  refine k_topi (nI_add i 2) ?_
  refine va_sld hx hb hX hbl hbA X.2.2 (vp_in_nI (show i + 2 < L by omega) (by omega)) dL_law_1134 ?_
  refine k_topi (congrArg xs (nI_clamp (show i + 2 < 2147483648 by omega))) ?_
  refine lv_aload_n hx hb dL_law_1135 rfl (lv_at hl 3 rfl) ?_
  refine lv_iload_n hx hb dL_law_1136 rfl (lv_at hl 0 rfl) ?_
  refine lv_iconst (v := 3) hx hb dL_law_1137 (by decide) ?_
  refine lv_iadd hx hb dL_law_1138 ?_
  refine k_topi (nI_add i 3) ?_
  refine va_sld hx hb hX hbl hbA X.2.2 (vp_in_nI (show i + 3 < L by omega) (by omega)) dL_law_1139 ?_
  refine k_topi (congrArg xs (nI_clamp (show i + 3 < 2147483648 by omega))) ?_
  refine lv_aload_n hx hb dL_law_1140 rfl (lv_at hl 3 rfl) ?_
  refine lv_iload_n hx hb dL_law_1141 rfl (lv_at hl 0 rfl) ?_
  refine lv_iconst (v := 4) hx hb dL_law_1142 (by decide) ?_
  refine lv_iadd hx hb dL_law_1143 ?_
  refine k_topi (nI_add i 4) ?_
  refine va_sld hx hb hX hbl hbA X.2.2 (vp_in_nI (show i + 4 < L by omega) (by omega)) dL_law_1144 ?_
  refine k_topi (congrArg xs (nI_clamp (show i + 4 < 2147483648 by omega))) ?_
  refine lv_aload_n hx hb dL_law_1145 rfl (lv_at hl 3 rfl) ?_
  refine lv_iload_n hx hb dL_law_1146 rfl (lv_at hl 0 rfl) ?_
  refine lv_iconst (v := 5) hx hb dL_law_1147 (by decide) ?_
  refine lv_iadd hx hb dL_law_1148 ?_
  refine k_topi (nI_add i 5) ?_
  refine va_sld hx hb hX hbl hbA X.2.2 (vp_in_nI (show i + 5 < L by omega) (by omega)) dL_law_1149 ?_
  refine k_topi (congrArg xs (nI_clamp (show i + 5 < 2147483648 by omega))) ?_
  refine k_callV K X gv_L_144 (As := [.int (xs (i + 1)), .int (xs (i + 2)), .int (xs (i + 3)), .int (xs (i + 4)), .int (xs (i + 5))]) (c_X12_copy l E b (flat f) (flat h2) wf ik td tch tp tl tk2 tb ta tv bad rb rz rn (xs (i + 1)) (xs (i + 2)) (xs (i + 3)) (xs (i + 4)) (xs (i + 5)) J) [43, 44, 45, 46, 47, 48, 49, 50, 51] lawW_s1C (by decide +kernel) (fun _ => modW_fst) 0 12 rfl rfl ⟨⟨Nat.le_of_ble_eq_true rfl, Nat.le_of_ble_eq_true rfl⟩, Nat.le_of_ble_eq_true rfl, Nat.le_of_ble_eq_true rfl⟩ rfl hl.1 (rest := [.int ((oCopy rb rz rn td (xs (i + 1)) (xs (i + 2)) (xs (i + 3)) (xs (i + 4)) (xs (i + 5))).1)]) rfl (Nat.le_of_ble_eq_true rfl) dL_law_1150 (st1 := fun _ => [.int ((oCopy rb rz rn td (xs (i + 1)) (xs (i + 2)) (xs (i + 3)) (xs (i + 4)) (xs (i + 5))).1), .int ((oCopy rb rz rn td (xs (i + 1)) (xs (i + 2)) (xs (i + 3)) (xs (i + 4)) (xs (i + 5))).1)]) (fun _ => rfl) (fun _ H locs _ X => ?_)
  have X : Wd E _ _ (lawW E a b f g h ik one wo tp tl tk ts te tn rb rz ((oCopy rb rz rn td (xs (i + 1)) (xs (i + 2)) (xs (i + 3)) (xs (i + 4)) (xs (i + 5))).2.1) ((oCopy rb rz rn td (xs (i + 1)) (xs (i + 2)) (xs (i + 3)) (xs (i + 4)) (xs (i + 5))).2.2) (flat f) (flat h2) wf ik ((oCopy rb rz rn td (xs (i + 1)) (xs (i + 2)) (xs (i + 3)) (xs (i + 4)) (xs (i + 5))).2.2) tch tp tl tk2 tb ta tv bad rb rz (flR ((oCopy rb rz rn td (xs (i + 1)) (xs (i + 2)) (xs (i + 3)) (xs (i + 4)) (xs (i + 5))).2.1))) _ _ := X.eq lawW_s1P
  refine k_icmp_eq (x := (oCopy rb rz rn td (xs (i + 1)) (xs (i + 2)) (xs (i + 3)) (xs (i + 4)) (xs (i + 5))).1) (y := (oCopy rb rz rn td (xs (i + 1)) (xs (i + 2)) (xs (i + 3)) (xs (i + 4)) (xs (i + 5))).1) hx hb 1352 dL_law_1153 (by decide) (fun _ => ?_) (fun z => absurd rfl z)
  exact hn f g h h2 ik one wo tp tl tk ts te tn rb rz ((oCopy rb rz rn td (xs (i + 1)) (xs (i + 2)) (xs (i + 3)) (xs (i + 4)) (xs (i + 5))).2.1) ((oCopy rb rz rn td (xs (i + 1)) (xs (i + 2)) (xs (i + 3)) (xs (i + 4)) (xs (i + 5))).2.2) wf tch tk2 tb ta tv bad _ _ _ ⟨I, hk, htl, J⟩ X hl
set_option maxRecDepth 100000 in
set_option maxHeartbeats 4000000 in
/-- lays -/
theorem lc_31 {p : Program} {l : Launch} {e : Env} {s : State} {m : MethodId} {below : List Frame} {meth : Method} {c : Code} {E : EE} {A : Nat → Prop} {b0 L : Nat} {xs : Nat → Int32} {a b : Nat → Nat} (K : Kx p s m #[Value.ref b0] meth c code 4 RL E A) (hX : va_X b0 L xs s s.heap) (hbl : b0 < s.heap.size) (hbA : ¬ A b0) {i : Nat} (hi : i + 6 ≤ L) (hL : L ≤ 3072) (hn : Nx p l e s m below meth c E A b0 a b i 1352) : Nx p l e s m below meth c E A b0 a b i 1158 := by
  intro f g h h2 ik one wo tp tl tk ts te tn rb rz rn td wf tch tk2 tb ta tv bad H locs ls hI X hl
  obtain ⟨I, hk, htl, J⟩ := hI
  have hx := K.1
  have hb := K.2.1
  refine lv_aload_n hx hb dL_law_1158 rfl (lv_at hl 2 rfl) ?_
  refine lv_aload_n hx hb dL_law_1159 rfl (lv_at hl 3 rfl) ?_
  refine lv_iload_n hx hb dL_law_1160 rfl (lv_at hl 0 rfl) ?_
  refine lv_iconst (v := 1) hx hb dL_law_1161 (by decide) ?_
  refine lv_iadd hx hb dL_law_1162 ?_
  refine k_topi (nI_add i 1) ?_
  refine va_sld hx hb hX hbl hbA X.2.2 (vp_in_nI (show i + 1 < L by omega) (by omega)) dL_law_1163 ?_
  refine k_topi (congrArg xs (nI_clamp (show i + 1 < 2147483648 by omega))) ?_
  refine lv_aload_n hx hb dL_law_1164 rfl (lv_at hl 3 rfl) ?_
  refine lv_iload_n hx hb dL_law_1165 rfl (lv_at hl 0 rfl) ?_
  refine lv_iconst (v := 2) hx hb dL_law_1166 (by decide) ?_
  refine lv_iadd hx hb dL_law_1167 ?_
  refine k_topi (nI_add i 2) ?_
  refine va_sld hx hb hX hbl hbA X.2.2 (vp_in_nI (show i + 2 < L by omega) (by omega)) dL_law_1168 ?_
  refine k_topi (congrArg xs (nI_clamp (show i + 2 < 2147483648 by omega))) ?_
  refine k_callV K X gv_L_145 (As := [.int (xs (i + 1)), .int (xs (i + 2))]) (c_X11_lays l E a f g h ik one wo tp tl tk ts te tn rb rz rn td 99999 (xs (i + 1)) (xs (i + 2)) I J) [0, 1, 2, 3, 4, 5, 6, 7, 8, 9, 10, 11, 12, 13, 14, 15, 16, 17, 18, 19, 20, 21, 22, 23, 24, 25, 26, 27, 28, 29, 30, 31, 32, 33, 34, 35, 36, 37, 38, 39, 40, 41, 42] lawW_s0C (by decide +kernel) (fun _ => clsW_fst) 0 11 rfl rfl ⟨⟨Nat.le_of_ble_eq_true rfl, Nat.le_of_ble_eq_true rfl⟩, Nat.le_of_ble_eq_true rfl, Nat.le_of_ble_eq_true rfl⟩ rfl hl.1 (rest := []) rfl (Nat.le_of_ble_eq_true rfl) dL_law_1169 (st1 := fun _ => [.int ((oLays rb rz rn f td (xs (i + 1)) (xs (i + 2))).1)]) (fun _ => rfl) (fun _ H locs _ X => ?_)
  have X : Wd E _ _ (lawW E a b ((oLays rb rz rn f td (xs (i + 1)) (xs (i + 2))).2.1) g h ik one wo tp tl tk ts te tn rb rz rn ((oLays rb rz rn f td (xs (i + 1)) (xs (i + 2))).2.2) (flat f) (flat h2) wf ik td tch tp tl tk2 tb ta tv bad rb rz (flR rn)) _ _ := X.eq lawW_s0P
  refine lv_aload_n hx hb dL_law_1172 rfl (lv_at hl 1 rfl) ?_
  refine lv_aload_n hx hb dL_law_1173 rfl (lv_at hl 3 rfl) ?_
  refine lv_iload_n hx hb dL_law_1174 rfl (lv_at hl 0 rfl) ?_
  refine lv_iconst (v := 1) hx hb dL_law_1175 (by decide) ?_
  refine lv_iadd hx hb dL_law_1176 ?_
  refine k_topi (nI_add i 1) ?_
  refine va_sld hx hb hX hbl hbA X.2.2 (vp_in_nI (show i + 1 < L by omega) (by omega)) dL_law_1177 ?_
  refine k_topi (congrArg xs (nI_clamp (show i + 1 < 2147483648 by omega))) ?_
  refine lv_aload_n hx hb dL_law_1178 rfl (lv_at hl 3 rfl) ?_
  refine lv_iload_n hx hb dL_law_1179 rfl (lv_at hl 0 rfl) ?_
  refine lv_iconst (v := 2) hx hb dL_law_1180 (by decide) ?_
  refine lv_iadd hx hb dL_law_1181 ?_
  refine k_topi (nI_add i 2) ?_
  refine va_sld hx hb hX hbl hbA X.2.2 (vp_in_nI (show i + 2 < L by omega) (by omega)) dL_law_1182 ?_
  refine k_topi (congrArg xs (nI_clamp (show i + 2 < 2147483648 by omega))) ?_
  refine k_callV K X gv_L_148 (As := [.int (xs (i + 1)), .int (xs (i + 2))]) (c_X12_lays l E b (flat h2) wf ik td tch tp tl tk2 tb ta tv bad rb rz f 99999 rn (xs (i + 1)) (xs (i + 2)) I J) [43, 44, 45, 46, 47, 48, 49, 50, 51] lawW_s1C (by decide +kernel) (fun _ => modW_fst) 0 12 rfl rfl ⟨⟨Nat.le_of_ble_eq_true rfl, Nat.le_of_ble_eq_true rfl⟩, Nat.le_of_ble_eq_true rfl, Nat.le_of_ble_eq_true rfl⟩ rfl hl.1 (rest := [.int ((oLays rb rz rn f td (xs (i + 1)) (xs (i + 2))).1)]) rfl (Nat.le_of_ble_eq_true rfl) dL_law_1183 (st1 := fun _ => [.int ((oLays rb rz rn f td (xs (i + 1)) (xs (i + 2))).1), .int ((oLays rb rz rn f td (xs (i + 1)) (xs (i + 2))).1)]) (fun _ => rfl) (fun _ H locs _ X => ?_)
  have X : Wd E _ _ (lawW E a b ((oLays rb rz rn f td (xs (i + 1)) (xs (i + 2))).2.1) g h ik one wo tp tl tk ts te tn rb rz rn ((oLays rb rz rn f td (xs (i + 1)) (xs (i + 2))).2.2) (flat ((oLays rb rz rn f td (xs (i + 1)) (xs (i + 2))).2.1)) (flat h2) wf ik ((oLays rb rz rn f td (xs (i + 1)) (xs (i + 2))).2.2) tch tp tl tk2 tb ta tv bad rb rz (flR rn)) _ _ := X.eq lawW_s1P
  refine k_icmp_eq (x := (oLays rb rz rn f td (xs (i + 1)) (xs (i + 2))).1) (y := (oLays rb rz rn f td (xs (i + 1)) (xs (i + 2))).1) hx hb 1352 dL_law_1186 (by decide) (fun _ => ?_) (fun z => absurd rfl z)
  exact hn ((oLays rb rz rn f td (xs (i + 1)) (xs (i + 2))).2.1) g h h2 ik one wo tp tl tk ts te tn rb rz rn ((oLays rb rz rn f td (xs (i + 1)) (xs (i + 2))).2.2) wf tch tk2 tb ta tv bad _ _ _ ⟨oLays_I I td (xs (i + 1)) (xs (i + 2)) rb rz rn, hk, htl, J⟩ X hl
set_option maxRecDepth 100000 in
set_option maxHeartbeats 4000000 in
/-- book -/
theorem lc_32 {p : Program} {l : Launch} {e : Env} {s : State} {m : MethodId} {below : List Frame} {meth : Method} {c : Code} {E : EE} {A : Nat → Prop} {b0 L : Nat} {xs : Nat → Int32} {a b : Nat → Nat} (K : Kx p s m #[Value.ref b0] meth c code 4 RL E A) (hX : va_X b0 L xs s s.heap) (hbl : b0 < s.heap.size) (hbA : ¬ A b0) {i : Nat} (hi : i + 6 ≤ L) (hL : L ≤ 3072) (hn : Nx p l e s m below meth c E A b0 a b i 1352) : Nx p l e s m below meth c E A b0 a b i 1191 := by
  intro f g h h2 ik one wo tp tl tk ts te tn rb rz rn td wf tch tk2 tb ta tv bad H locs ls hI X hl
  obtain ⟨I, hk, htl, J⟩ := hI
  have hx := K.1
  have hb := K.2.1
  refine lv_aload_n hx hb dL_law_1191 rfl (lv_at hl 2 rfl) ?_
  refine lv_aload_n hx hb dL_law_1192 rfl (lv_at hl 3 rfl) ?_
  refine lv_iload_n hx hb dL_law_1193 rfl (lv_at hl 0 rfl) ?_
  refine lv_iconst (v := 1) hx hb dL_law_1194 (by decide) ?_
  refine lv_iadd hx hb dL_law_1195 ?_
  refine k_topi (nI_add i 1) ?_
  refine va_sld hx hb hX hbl hbA X.2.2 (vp_in_nI (show i + 1 < L by omega) (by omega)) dL_law_1196 ?_
  refine k_topi (congrArg xs (nI_clamp (show i + 1 < 2147483648 by omega))) ?_
  refine lv_aload_n hx hb dL_law_1197 rfl (lv_at hl 3 rfl) ?_
  refine lv_iload_n hx hb dL_law_1198 rfl (lv_at hl 0 rfl) ?_
  refine lv_iconst (v := 2) hx hb dL_law_1199 (by decide) ?_
  refine lv_iadd hx hb dL_law_1200 ?_
  refine k_topi (nI_add i 2) ?_
  refine va_sld hx hb hX hbl hbA X.2.2 (vp_in_nI (show i + 2 < L by omega) (by omega)) dL_law_1201 ?_
  refine k_topi (congrArg xs (nI_clamp (show i + 2 < 2147483648 by omega))) ?_
  refine k_callV K X gv_L_149 (As := [.int (xs (i + 1)), .int (xs (i + 2))]) (c_X11_book l E a f g h ik one wo tp tl tk ts te tn rb rz rn td 99999 (xs (i + 1)) (xs (i + 2)) I J (by omega)) [0, 1, 2, 3, 4, 5, 6, 7, 8, 9, 10, 11, 12, 13, 14, 15, 16, 17, 18, 19, 20, 21, 22, 23, 24, 25, 26, 27, 28, 29, 30, 31, 32, 33, 34, 35, 36, 37, 38, 39, 40, 41, 42] lawW_s0C (by decide +kernel) (fun _ => clsW_fst) 0 11 rfl rfl ⟨⟨Nat.le_of_ble_eq_true rfl, Nat.le_of_ble_eq_true rfl⟩, Nat.le_of_ble_eq_true rfl, Nat.le_of_ble_eq_true rfl⟩ rfl hl.1 (rest := []) rfl (Nat.le_of_ble_eq_true rfl) dL_law_1202 (st1 := fun _ => [.int ((oBook rb rz rn f td (xs (i + 1)) (xs (i + 2))).1)]) (fun _ => rfl) (fun u1202 H locs _ X => ?_)
  have X : Wd E _ _ (lawW E a b f u1202 h ik one wo tp tl tk ts te tn rb rz ((oBook rb rz rn f td (xs (i + 1)) (xs (i + 2))).2.1) ((oBook rb rz rn f td (xs (i + 1)) (xs (i + 2))).2.2) (flat f) (flat h2) wf ik td tch tp tl tk2 tb ta tv bad rb rz (flR rn)) _ _ := X.eq lawW_s0P
  refine lv_aload_n hx hb dL_law_1205 rfl (lv_at hl 1 rfl) ?_
  refine lv_aload_n hx hb dL_law_1206 rfl (lv_at hl 3 rfl) ?_
  refine lv_iload_n hx hb dL_law_1207 rfl (lv_at hl 0 rfl) ?_
  refine lv_iconst (v := 1) hx hb dL_law_1208 (by decide) ?_
  refine lv_iadd hx hb dL_law_1209 ?_
  refine k_topi (nI_add i 1) ?_
  refine va_sld hx hb hX hbl hbA X.2.2 (vp_in_nI (show i + 1 < L by omega) (by omega)) dL_law_1210 ?_
  refine k_topi (congrArg xs (nI_clamp (show i + 1 < 2147483648 by omega))) ?_
  refine lv_aload_n hx hb dL_law_1211 rfl (lv_at hl 3 rfl) ?_
  refine lv_iload_n hx hb dL_law_1212 rfl (lv_at hl 0 rfl) ?_
  refine lv_iconst (v := 2) hx hb dL_law_1213 (by decide) ?_
  refine lv_iadd hx hb dL_law_1214 ?_
  refine k_topi (nI_add i 2) ?_
  refine va_sld hx hb hX hbl hbA X.2.2 (vp_in_nI (show i + 2 < L by omega) (by omega)) dL_law_1215 ?_
  refine k_topi (congrArg xs (nI_clamp (show i + 2 < 2147483648 by omega))) ?_
  refine k_callV K X gv_L_152 (As := [.int (xs (i + 1)), .int (xs (i + 2))]) (c_X12_book l E b (flat h2) wf ik td tch tp tl tk2 tb ta tv bad rb rz f 99999 rn (xs (i + 1)) (xs (i + 2)) I J (by omega)) [43, 44, 45, 46, 47, 48, 49, 50, 51] lawW_s1C (by decide +kernel) (fun _ => modW_fst) 0 12 rfl rfl ⟨⟨Nat.le_of_ble_eq_true rfl, Nat.le_of_ble_eq_true rfl⟩, Nat.le_of_ble_eq_true rfl, Nat.le_of_ble_eq_true rfl⟩ rfl hl.1 (rest := [.int ((oBook rb rz rn f td (xs (i + 1)) (xs (i + 2))).1)]) rfl (Nat.le_of_ble_eq_true rfl) dL_law_1216 (st1 := fun _ => [.int ((oBook rb rz rn f td (xs (i + 1)) (xs (i + 2))).1), .int ((oBook rb rz rn f td (xs (i + 1)) (xs (i + 2))).1)]) (fun _ => rfl) (fun u1216 H locs _ X => ?_)
  have X : Wd E _ _ (lawW E a b f u1202 h ik one wo tp tl tk ts te tn rb rz ((oBook rb rz rn f td (xs (i + 1)) (xs (i + 2))).2.1) ((oBook rb rz rn f td (xs (i + 1)) (xs (i + 2))).2.2) (flat f) (flat h2) u1216.1 ik ((oBook rb rz rn f td (xs (i + 1)) (xs (i + 2))).2.2) u1216.2 tp tl tk2 tb ta tv bad rb rz (flR ((oBook rb rz rn f td (xs (i + 1)) (xs (i + 2))).2.1))) _ _ := X.eq lawW_s1P
  refine k_icmp_eq (x := (oBook rb rz rn f td (xs (i + 1)) (xs (i + 2))).1) (y := (oBook rb rz rn f td (xs (i + 1)) (xs (i + 2))).1) hx hb 1352 dL_law_1219 (by decide) (fun _ => ?_) (fun z => absurd rfl z)
  exact hn f u1202 h h2 ik one wo tp tl tk ts te tn rb rz ((oBook rb rz rn f td (xs (i + 1)) (xs (i + 2))).2.1) ((oBook rb rz rn f td (xs (i + 1)) (xs (i + 2))).2.2) u1216.1 u1216.2 tk2 tb ta tv bad _ _ _ ⟨I, hk, htl, J⟩ X hl
set_option maxRecDepth 100000 in
set_option maxHeartbeats 4000000 in
/-- read -/
theorem lc_33 {p : Program} {l : Launch} {e : Env} {s : State} {m : MethodId} {below : List Frame} {meth : Method} {c : Code} {E : EE} {A : Nat → Prop} {b0 L : Nat} {xs : Nat → Int32} {a b : Nat → Nat} (K : Kx p s m #[Value.ref b0] meth c code 4 RL E A) (hX : va_X b0 L xs s s.heap) (hbl : b0 < s.heap.size) (hbA : ¬ A b0) {i : Nat} (hi : i + 6 ≤ L) (hL : L ≤ 3072) (hn : Nx p l e s m below meth c E A b0 a b i 1352) : Nx p l e s m below meth c E A b0 a b i 1224 := by
  intro f g h h2 ik one wo tp tl tk ts te tn rb rz rn td wf tch tk2 tb ta tv bad H locs ls hI X hl
  obtain ⟨I, hk, htl, J⟩ := hI
  have hx := K.1
  have hb := K.2.1
  refine lv_aload_n hx hb dL_law_1224 rfl (lv_at hl 2 rfl) ?_
  refine lv_aload_n hx hb dL_law_1225 rfl (lv_at hl 3 rfl) ?_
  refine lv_iload_n hx hb dL_law_1226 rfl (lv_at hl 0 rfl) ?_
  refine lv_iconst (v := 1) hx hb dL_law_1227 (by decide) ?_
  refine lv_iadd hx hb dL_law_1228 ?_
  refine k_topi (nI_add i 1) ?_
  refine va_sld hx hb hX hbl hbA X.2.2 (vp_in_nI (show i + 1 < L by omega) (by omega)) dL_law_1229 ?_
  refine k_topi (congrArg xs (nI_clamp (show i + 1 < 2147483648 by omega))) ?_
  refine lv_aload_n hx hb dL_law_1230 rfl (lv_at hl 3 rfl) ?_
  refine lv_iload_n hx hb dL_law_1231 rfl (lv_at hl 0 rfl) ?_
  refine lv_iconst (v := 2) hx hb dL_law_1232 (by decide) ?_
  refine lv_iadd hx hb dL_law_1233 ?_
  refine k_topi (nI_add i 2) ?_
  refine va_sld hx hb hX hbl hbA X.2.2 (vp_in_nI (show i + 2 < L by omega) (by omega)) dL_law_1234 ?_
  refine k_topi (congrArg xs (nI_clamp (show i + 2 < 2147483648 by omega))) ?_
  refine lv_aload_n hx hb dL_law_1235 rfl (lv_at hl 3 rfl) ?_
  refine lv_iload_n hx hb dL_law_1236 rfl (lv_at hl 0 rfl) ?_
  refine lv_iconst (v := 3) hx hb dL_law_1237 (by decide) ?_
  refine lv_iadd hx hb dL_law_1238 ?_
  refine k_topi (nI_add i 3) ?_
  refine va_sld hx hb hX hbl hbA X.2.2 (vp_in_nI (show i + 3 < L by omega) (by omega)) dL_law_1239 ?_
  refine k_topi (congrArg xs (nI_clamp (show i + 3 < 2147483648 by omega))) ?_
  refine k_callV K X gv_L_153 (As := [.int (xs (i + 1)), .int (xs (i + 2)), .int (xs (i + 3))]) (c_X11_read l E a f g h ik one wo tp tl tk ts te tn rb rz rn td 99999 (xs (i + 1)) (xs (i + 2)) (xs (i + 3)) I J (by omega)) [0, 1, 2, 3, 4, 5, 6, 7, 8, 9, 10, 11, 12, 13, 14, 15, 16, 17, 18, 19, 20, 21, 22, 23, 24, 25, 26, 27, 28, 29, 30, 31, 32, 33, 34, 35, 36, 37, 38, 39, 40, 41, 42] lawW_s0C (by decide +kernel) (fun _ => clsW_fst) 0 11 rfl rfl ⟨⟨Nat.le_of_ble_eq_true rfl, Nat.le_of_ble_eq_true rfl⟩, Nat.le_of_ble_eq_true rfl, Nat.le_of_ble_eq_true rfl⟩ rfl hl.1 (rest := []) rfl (Nat.le_of_ble_eq_true rfl) dL_law_1240 (st1 := fun _ => [.int ((oRead rb rz rn f td (xs (i + 1)) (xs (i + 2)) (xs (i + 3))).1)]) (fun _ => rfl) (fun u1240 H locs _ X => ?_)
  have X : Wd E _ _ (lawW E a b f u1240 h ik one wo tp tl tk ts te tn rb rz rn ((oRead rb rz rn f td (xs (i + 1)) (xs (i + 2)) (xs (i + 3))).2) (flat f) (flat h2) wf ik td tch tp tl tk2 tb ta tv bad rb rz (flR rn)) _ _ := X.eq lawW_s0P
  refine lv_aload_n hx hb dL_law_1243 rfl (lv_at hl 1 rfl) ?_
  refine lv_aload_n hx hb dL_law_1244 rfl (lv_at hl 3 rfl) ?_
  refine lv_iload_n hx hb dL_law_1245 rfl (lv_at hl 0 rfl) ?_
  refine lv_iconst (v := 1) hx hb dL_law_1246 (by decide) ?_
  refine lv_iadd hx hb dL_law_1247 ?_
  refine k_topi (nI_add i 1) ?_
  refine va_sld hx hb hX hbl hbA X.2.2 (vp_in_nI (show i + 1 < L by omega) (by omega)) dL_law_1248 ?_
  refine k_topi (congrArg xs (nI_clamp (show i + 1 < 2147483648 by omega))) ?_
  refine lv_aload_n hx hb dL_law_1249 rfl (lv_at hl 3 rfl) ?_
  refine lv_iload_n hx hb dL_law_1250 rfl (lv_at hl 0 rfl) ?_
  refine lv_iconst (v := 2) hx hb dL_law_1251 (by decide) ?_
  refine lv_iadd hx hb dL_law_1252 ?_
  refine k_topi (nI_add i 2) ?_
  refine va_sld hx hb hX hbl hbA X.2.2 (vp_in_nI (show i + 2 < L by omega) (by omega)) dL_law_1253 ?_
  refine k_topi (congrArg xs (nI_clamp (show i + 2 < 2147483648 by omega))) ?_
  refine lv_aload_n hx hb dL_law_1254 rfl (lv_at hl 3 rfl) ?_
  refine lv_iload_n hx hb dL_law_1255 rfl (lv_at hl 0 rfl) ?_
  refine lv_iconst (v := 3) hx hb dL_law_1256 (by decide) ?_
  refine lv_iadd hx hb dL_law_1257 ?_
  refine k_topi (nI_add i 3) ?_
  refine va_sld hx hb hX hbl hbA X.2.2 (vp_in_nI (show i + 3 < L by omega) (by omega)) dL_law_1258 ?_
  refine k_topi (congrArg xs (nI_clamp (show i + 3 < 2147483648 by omega))) ?_
  refine k_callV K X gv_L_156 (As := [.int (xs (i + 1)), .int (xs (i + 2)), .int (xs (i + 3))]) (c_X12_read l E b (flat h2) wf ik td tch tp tl tk2 tb ta tv bad rb rz f 99999 rn (xs (i + 1)) (xs (i + 2)) (xs (i + 3)) I J (by omega)) [43, 44, 45, 46, 47, 48, 49, 50, 51] lawW_s1C (by decide +kernel) (fun _ => modW_fst) 0 12 rfl rfl ⟨⟨Nat.le_of_ble_eq_true rfl, Nat.le_of_ble_eq_true rfl⟩, Nat.le_of_ble_eq_true rfl, Nat.le_of_ble_eq_true rfl⟩ rfl hl.1 (rest := [.int ((oRead rb rz rn f td (xs (i + 1)) (xs (i + 2)) (xs (i + 3))).1)]) rfl (Nat.le_of_ble_eq_true rfl) dL_law_1259 (st1 := fun _ => [.int ((oRead rb rz rn f td (xs (i + 1)) (xs (i + 2)) (xs (i + 3))).1), .int ((oRead rb rz rn f td (xs (i + 1)) (xs (i + 2)) (xs (i + 3))).1)]) (fun _ => rfl) (fun u1259 H locs _ X => ?_)
  have X : Wd E _ _ (lawW E a b f u1240 h ik one wo tp tl tk ts te tn rb rz rn ((oRead rb rz rn f td (xs (i + 1)) (xs (i + 2)) (xs (i + 3))).2) (flat f) (flat h2) u1259.1 ik ((oRead rb rz rn f td (xs (i + 1)) (xs (i + 2)) (xs (i + 3))).2) u1259.2 tp tl tk2 tb ta tv bad rb rz (flR rn)) _ _ := X.eq lawW_s1P
  refine k_icmp_eq (x := (oRead rb rz rn f td (xs (i + 1)) (xs (i + 2)) (xs (i + 3))).1) (y := (oRead rb rz rn f td (xs (i + 1)) (xs (i + 2)) (xs (i + 3))).1) hx hb 1352 dL_law_1262 (by decide) (fun _ => ?_) (fun z => absurd rfl z)
  exact hn f u1240 h h2 ik one wo tp tl tk ts te tn rb rz rn ((oRead rb rz rn f td (xs (i + 1)) (xs (i + 2)) (xs (i + 3))).2) u1259.1 u1259.2 tk2 tb ta tv bad _ _ _ ⟨I, hk, htl, J⟩ X hl
set_option maxRecDepth 100000 in
set_option maxHeartbeats 4000000 in
/-- image -/
theorem lc_34 {p : Program} {l : Launch} {e : Env} {s : State} {m : MethodId} {below : List Frame} {meth : Method} {c : Code} {E : EE} {A : Nat → Prop} {b0 L : Nat} {xs : Nat → Int32} {a b : Nat → Nat} (K : Kx p s m #[Value.ref b0] meth c code 4 RL E A) (hX : va_X b0 L xs s s.heap) (hbl : b0 < s.heap.size) (hbA : ¬ A b0) {i : Nat} (hi : i + 6 ≤ L) (hL : L ≤ 3072) (hn : Nx p l e s m below meth c E A b0 a b i 1352) : Nx p l e s m below meth c E A b0 a b i 1267 := by
  intro f g h h2 ik one wo tp tl tk ts te tn rb rz rn td wf tch tk2 tb ta tv bad H locs ls hI X hl
  obtain ⟨I, hk, htl, J⟩ := hI
  have hx := K.1
  have hb := K.2.1
  refine lv_aload_n hx hb dL_law_1267 rfl (lv_at hl 2 rfl) ?_
  refine k_callV K X gv_L_157 (As := []) (c_X11_image l E a f g h ik one wo tp tl tk ts te tn rb rz rn td) [0, 1, 2, 3, 4, 5, 6, 7, 8, 9, 10, 11, 12, 13, 14, 15, 16, 17, 18, 19, 20, 21, 22, 23, 24, 25, 26, 27, 28, 29, 30, 31, 32, 33, 34, 35, 36, 37, 38, 39, 40, 41, 42] lawW_s0C (by decide +kernel) (fun _ => clsW_fst) 0 11 rfl rfl ⟨⟨Nat.le_of_ble_eq_true rfl, Nat.le_of_ble_eq_true rfl⟩, Nat.le_of_ble_eq_true rfl, Nat.le_of_ble_eq_true rfl⟩ rfl hl.1 (rest := []) rfl (Nat.le_of_ble_eq_true rfl) dL_law_1268 (st1 := fun _ => [.int 1]) (fun _ => rfl) (fun _ H locs _ X => ?_)
  have X : Wd E _ _ (lawW E a b f g f 1 one wo tp tl tk ts te tn rb rz rn td (flat f) (flat h2) wf ik td tch tp tl tk2 tb ta tv bad rb rz (flR rn)) _ _ := X.eq lawW_s0P
  refine lv_aload_n hx hb dL_law_1271 rfl (lv_at hl 1 rfl) ?_
  refine k_callV K X gv_L_160 (As := []) (c_X12_image l E b (flat f) (flat h2) wf ik td tch tp tl tk2 tb ta tv bad rb rz (flR rn)) [43, 44, 45, 46, 47, 48, 49, 50, 51] lawW_s1C (by decide +kernel) (fun _ => modW_fst) 0 12 rfl rfl ⟨⟨Nat.le_of_ble_eq_true rfl, Nat.le_of_ble_eq_true rfl⟩, Nat.le_of_ble_eq_true rfl, Nat.le_of_ble_eq_true rfl⟩ rfl hl.1 (rest := [.int 1]) rfl (Nat.le_of_ble_eq_true rfl) dL_law_1272 (st1 := fun _ => [.int 1, .int 1]) (fun _ => rfl) (fun _ H locs _ X => ?_)
  have X : Wd E _ _ (lawW E a b f g f 1 one wo tp tl tk ts te tn rb rz rn td (flat f) (flat f) wf 1 td tch tp tl tk2 tb ta tv bad rb rz (flR rn)) _ _ := X.eq lawW_s1P
  refine k_icmp_eq (x := 1) (y := 1) hx hb 1352 dL_law_1275 (by decide) (fun _ => ?_) (fun z => absurd rfl z)
  exact hn f g f f 1 one wo tp tl tk ts te tn rb rz rn td wf tch tk2 tb ta tv bad _ _ _ ⟨I, Or.inr ⟨I, rfl⟩, htl, J⟩ X hl
set_option maxRecDepth 100000 in
set_option maxHeartbeats 4000000 in
/-- undo -/
theorem lc_35 {p : Program} {l : Launch} {e : Env} {s : State} {m : MethodId} {below : List Frame} {meth : Method} {c : Code} {E : EE} {A : Nat → Prop} {b0 L : Nat} {xs : Nat → Int32} {a b : Nat → Nat} (K : Kx p s m #[Value.ref b0] meth c code 4 RL E A) (hX : va_X b0 L xs s s.heap) (hbl : b0 < s.heap.size) (hbA : ¬ A b0) {i : Nat} (hi : i + 6 ≤ L) (hL : L ≤ 3072) (hn : Nx p l e s m below meth c E A b0 a b i 1352) : Nx p l e s m below meth c E A b0 a b i 1280 := by
  intro f g h h2 ik one wo tp tl tk ts te tn rb rz rn td wf tch tk2 tb ta tv bad H locs ls hI X hl
  obtain ⟨I, hk, htl, J⟩ := hI
  have hx := K.1
  have hb := K.2.1
  rcases hk with hk | ⟨Ih, e2⟩
  · rw [hk] at X
    refine lv_aload_n hx hb dL_law_1280 rfl (lv_at hl 2 rfl) ?_
    refine k_callV K X gv_L_161 (As := []) (c_X11_undo l E a f g h 0 one wo tp tl tk ts te tn rb rz rn td) [0, 1, 2, 3, 4, 5, 6, 7, 8, 9, 10, 11, 12, 13, 14, 15, 16, 17, 18, 19, 20, 21, 22, 23, 24, 25, 26, 27, 28, 29, 30, 31, 32, 33, 34, 35, 36, 37, 38, 39, 40, 41, 42] lawW_s0C (by decide +kernel) (fun _ => clsW_fst) 0 11 rfl rfl ⟨⟨Nat.le_of_ble_eq_true rfl, Nat.le_of_ble_eq_true rfl⟩, Nat.le_of_ble_eq_true rfl, Nat.le_of_ble_eq_true rfl⟩ rfl hl.1 (rest := []) rfl (Nat.le_of_ble_eq_true rfl) dL_law_1281 (st1 := fun _ => [.int ((oUndo 0 f h td).1)]) (fun _ => rfl) (fun _ H locs _ X => ?_)
    have X : Wd E _ _ (lawW E a b ((oUndo 0 f h td).2.1) g h 0 one wo tp tl tk ts te tn rb rz rn ((oUndo 0 f h td).2.2) (flat f) (flat h2) wf 0 td tch tp tl tk2 tb ta tv bad rb rz (flR rn)) _ _ := X.eq lawW_s0P
    refine lv_aload_n hx hb dL_law_1284 rfl (lv_at hl 1 rfl) ?_
    refine k_callV K X gv_L_164 (As := []) (c_X12_undo l E b wf 0 td tch tp tl tk2 tb ta tv bad rb rz (flR rn) f h2) [43, 44, 45, 46, 47, 48, 49, 50, 51] lawW_s1C (by decide +kernel) (fun _ => modW_fst) 0 12 rfl rfl ⟨⟨Nat.le_of_ble_eq_true rfl, Nat.le_of_ble_eq_true rfl⟩, Nat.le_of_ble_eq_true rfl, Nat.le_of_ble_eq_true rfl⟩ rfl hl.1 (rest := [.int ((oUndo 0 f h td).1)]) rfl (Nat.le_of_ble_eq_true rfl) dL_law_1285 (st1 := fun _ => [.int ((oUndo 0 f h2 td).1), .int ((oUndo 0 f h td).1)]) (fun _ => rfl) (fun _ H locs _ X => ?_)
    have X : Wd E _ _ (lawW E a b ((oUndo 0 f h td).2.1) g h 0 one wo tp tl tk ts te tn rb rz rn ((oUndo 0 f h td).2.2) (flat ((oUndo 0 f h2 td).2.1)) (flat h2) wf 0 ((oUndo 0 f h2 td).2.2) tch tp tl tk2 tb ta tv bad rb rz (flR rn)) _ _ := X.eq lawW_s1P
    refine k_topi (congrArg Prod.fst (oUndo_0 f h h2 td)) ?_
    have X : Wd E _ _ (lawW E a b ((oUndo 0 f h td).2.1) g h 0 one wo tp tl tk ts te tn rb rz rn ((oUndo 0 f h td).2.2) (flat ((oUndo 0 f h td).2.1)) (flat h2) wf 0 ((oUndo 0 f h td).2.2) tch tp tl tk2 tb ta tv bad rb rz (flR rn)) _ _ := X.eq (by rw [oUndo_0 f h h2 td])
    refine k_icmp_eq (x := (oUndo 0 f h td).1) (y := (oUndo 0 f h td).1) hx hb 1352 dL_law_1288 (by decide) (fun _ => ?_) (fun z => absurd rfl z)
    exact hn ((oUndo 0 f h td).2.1) g h h2 0 one wo tp tl tk ts te tn rb rz rn ((oUndo 0 f h td).2.2) wf tch tk2 tb ta tv bad _ _ _ ⟨(by rw [oUndo, if_pos rfl]; exact I), Or.inl rfl, htl, J⟩ X hl
  · rw [e2] at X
    refine lv_aload_n hx hb dL_law_1280 rfl (lv_at hl 2 rfl) ?_
    refine k_callV K X gv_L_161 (As := []) (c_X11_undo l E a f g h ik one wo tp tl tk ts te tn rb rz rn td) [0, 1, 2, 3, 4, 5, 6, 7, 8, 9, 10, 11, 12, 13, 14, 15, 16, 17, 18, 19, 20, 21, 22, 23, 24, 25, 26, 27, 28, 29, 30, 31, 32, 33, 34, 35, 36, 37, 38, 39, 40, 41, 42] lawW_s0C (by decide +kernel) (fun _ => clsW_fst) 0 11 rfl rfl ⟨⟨Nat.le_of_ble_eq_true rfl, Nat.le_of_ble_eq_true rfl⟩, Nat.le_of_ble_eq_true rfl, Nat.le_of_ble_eq_true rfl⟩ rfl hl.1 (rest := []) rfl (Nat.le_of_ble_eq_true rfl) dL_law_1281 (st1 := fun _ => [.int ((oUndo ik f h td).1)]) (fun _ => rfl) (fun _ H locs _ X => ?_)
    have X : Wd E _ _ (lawW E a b ((oUndo ik f h td).2.1) g h ik one wo tp tl tk ts te tn rb rz rn ((oUndo ik f h td).2.2) (flat f) (flat h) wf ik td tch tp tl tk2 tb ta tv bad rb rz (flR rn)) _ _ := X.eq lawW_s0P
    refine lv_aload_n hx hb dL_law_1284 rfl (lv_at hl 1 rfl) ?_
    refine k_callV K X gv_L_164 (As := []) (c_X12_undo l E b wf ik td tch tp tl tk2 tb ta tv bad rb rz (flR rn) f h) [43, 44, 45, 46, 47, 48, 49, 50, 51] lawW_s1C (by decide +kernel) (fun _ => modW_fst) 0 12 rfl rfl ⟨⟨Nat.le_of_ble_eq_true rfl, Nat.le_of_ble_eq_true rfl⟩, Nat.le_of_ble_eq_true rfl, Nat.le_of_ble_eq_true rfl⟩ rfl hl.1 (rest := [.int ((oUndo ik f h td).1)]) rfl (Nat.le_of_ble_eq_true rfl) dL_law_1285 (st1 := fun _ => [.int ((oUndo ik f h td).1), .int ((oUndo ik f h td).1)]) (fun _ => rfl) (fun _ H locs _ X => ?_)
    have X : Wd E _ _ (lawW E a b ((oUndo ik f h td).2.1) g h ik one wo tp tl tk ts te tn rb rz rn ((oUndo ik f h td).2.2) (flat ((oUndo ik f h td).2.1)) (flat h) wf ik ((oUndo ik f h td).2.2) tch tp tl tk2 tb ta tv bad rb rz (flR rn)) _ _ := X.eq lawW_s1P
    refine k_icmp_eq (x := (oUndo ik f h td).1) (y := (oUndo ik f h td).1) hx hb 1352 dL_law_1288 (by decide) (fun _ => ?_) (fun z => absurd rfl z)
    exact hn ((oUndo ik f h td).2.1) g h h ik one wo tp tl tk ts te tn rb rz rn ((oUndo ik f h td).2.2) wf tch tk2 tb ta tv bad _ _ _ ⟨oUndo_I I Ih ik td, Or.inr ⟨Ih, rfl⟩, htl, J⟩ X hl
set_option maxRecDepth 100000 in
set_option maxHeartbeats 4000000 in
/-- tear -/
theorem lc_36 {p : Program} {l : Launch} {e : Env} {s : State} {m : MethodId} {below : List Frame} {meth : Method} {c : Code} {E : EE} {A : Nat → Prop} {b0 L : Nat} {xs : Nat → Int32} {a b : Nat → Nat} (K : Kx p s m #[Value.ref b0] meth c code 4 RL E A) (hX : va_X b0 L xs s s.heap) (hbl : b0 < s.heap.size) (hbA : ¬ A b0) {i : Nat} (hi : i + 6 ≤ L) (hL : L ≤ 3072) (hn : Nx p l e s m below meth c E A b0 a b i 1352) : Nx p l e s m below meth c E A b0 a b i 1293 := by
  intro f g h h2 ik one wo tp tl tk ts te tn rb rz rn td wf tch tk2 tb ta tv bad H locs ls hI X hl
  obtain ⟨I, hk, htl, J⟩ := hI
  have hx := K.1
  have hb := K.2.1
  refine lv_aload_n hx hb dL_law_1293 rfl (lv_at hl 2 rfl) ?_
  refine k_callV K X gv_L_165 (As := []) (c_X11_tear l E a f g h ik one wo tp tl tk ts te tn rb rz rn td) [0, 1, 2, 3, 4, 5, 6, 7, 8, 9, 10, 11, 12, 13, 14, 15, 16, 17, 18, 19, 20, 21, 22, 23, 24, 25, 26, 27, 28, 29, 30, 31, 32, 33, 34, 35, 36, 37, 38, 39, 40, 41, 42] lawW_s0C (by decide +kernel) (fun _ => clsW_fst) 0 11 rfl rfl ⟨⟨Nat.le_of_ble_eq_true rfl, Nat.le_of_ble_eq_true rfl⟩, Nat.le_of_ble_eq_true rfl, Nat.le_of_ble_eq_true rfl⟩ rfl hl.1 (rest := []) rfl (Nat.le_of_ble_eq_true rfl) dL_law_1294 (st1 := fun _ => [.int (tearR ik)]) (fun _ => rfl) (fun _ H locs _ X => ?_)
  have X : Wd E _ _ (lawW E a b f g h 0 one wo tp tl tk ts te tn rb rz rn td (flat f) (flat h2) wf ik td tch tp tl tk2 tb ta tv bad rb rz (flR rn)) _ _ := X.eq lawW_s0P
  refine lv_aload_n hx hb dL_law_1297 rfl (lv_at hl 1 rfl) ?_
  refine k_callV K X gv_L_168 (As := []) (c_X12_tear l E b (flat f) (flat h2) wf ik td tch tp tl tk2 tb ta tv bad rb rz (flR rn)) [43, 44, 45, 46, 47, 48, 49, 50, 51] lawW_s1C (by decide +kernel) (fun _ => modW_fst) 0 12 rfl rfl ⟨⟨Nat.le_of_ble_eq_true rfl, Nat.le_of_ble_eq_true rfl⟩, Nat.le_of_ble_eq_true rfl, Nat.le_of_ble_eq_true rfl⟩ rfl hl.1 (rest := [.int (tearR ik)]) rfl (Nat.le_of_ble_eq_true rfl) dL_law_1298 (st1 := fun _ => [.int (tearR ik), .int (tearR ik)]) (fun _ => rfl) (fun _ H locs _ X => ?_)
  have X : Wd E _ _ (lawW E a b f g h 0 one wo tp tl tk ts te tn rb rz rn td (flat f) (flat h2) wf 0 td tch tp tl tk2 tb ta tv bad rb rz (flR rn)) _ _ := X.eq lawW_s1P
  refine k_icmp_eq (x := tearR ik) (y := tearR ik) hx hb 1352 dL_law_1301 (by decide) (fun _ => ?_) (fun z => absurd rfl z)
  exact hn f g h h2 0 one wo tp tl tk ts te tn rb rz rn td wf tch tk2 tb ta tv bad _ _ _ ⟨I, Or.inl rfl, htl, J⟩ X hl
set_option maxRecDepth 100000 in
set_option maxHeartbeats 4000000 in
/-- count -/
theorem lc_37 {p : Program} {l : Launch} {e : Env} {s : State} {m : MethodId} {below : List Frame} {meth : Method} {c : Code} {E : EE} {A : Nat → Prop} {b0 L : Nat} {xs : Nat → Int32} {a b : Nat → Nat} (K : Kx p s m #[Value.ref b0] meth c code 4 RL E A) (hX : va_X b0 L xs s s.heap) (hbl : b0 < s.heap.size) (hbA : ¬ A b0) {i : Nat} (hi : i + 6 ≤ L) (hL : L ≤ 3072) (hn : Nx p l e s m below meth c E A b0 a b i 1352) : Nx p l e s m below meth c E A b0 a b i 1306 := by
  intro f g h h2 ik one wo tp tl tk ts te tn rb rz rn td wf tch tk2 tb ta tv bad H locs ls hI X hl
  obtain ⟨I, hk, htl, J⟩ := hI
  have hx := K.1
  have hb := K.2.1
  refine lv_aload_n hx hb dL_law_1306 rfl (lv_at hl 2 rfl) ?_
  refine lv_aload_n hx hb dL_law_1307 rfl (lv_at hl 3 rfl) ?_
  refine lv_iload_n hx hb dL_law_1308 rfl (lv_at hl 0 rfl) ?_
  refine lv_iconst (v := 1) hx hb dL_law_1309 (by decide) ?_
  refine lv_iadd hx hb dL_law_1310 ?_
  refine k_topi (nI_add i 1) ?_
  refine va_sld hx hb hX hbl hbA X.2.2 (vp_in_nI (show i + 1 < L by omega) (by omega)) dL_law_1311 ?_
  refine k_topi (congrArg xs (nI_clamp (show i + 1 < 2147483648 by omega))) ?_
  refine k_callV K X gv_L_169 (As := [.int (xs (i + 1))]) (c_X11_count l E a f g h ik one wo tp tl tk ts te tn rb rz rn td 99999 (xs (i + 1)) I) [0, 1, 2, 3, 4, 5, 6, 7, 8, 9, 10, 11, 12, 13, 14, 15, 16, 17, 18, 19, 20, 21, 22, 23, 24, 25, 26, 27, 28, 29, 30, 31, 32, 33, 34, 35, 36, 37, 38, 39, 40, 41, 42] lawW_s0C (by decide +kernel) (fun _ => clsW_fst) 0 11 rfl rfl ⟨⟨Nat.le_of_ble_eq_true rfl, Nat.le_of_ble_eq_true rfl⟩, Nat.le_of_ble_eq_true rfl, Nat.le_of_ble_eq_true rfl⟩ rfl hl.1 (rest := []) rfl (Nat.le_of_ble_eq_true rfl) dL_law_1312 (st1 := fun _ => [.int ((oCount f td tl (xs (i + 1))).1)]) (fun _ => rfl) (fun _ H locs _ X => ?_)
  have X : Wd E _ _ (lawW E a b f g h ik one wo tp tl tk ts te tn rb rz rn ((oCount f td tl (xs (i + 1))).2) (flat f) (flat h2) wf ik td tch tp tl tk2 tb ta tv bad rb rz (flR rn)) _ _ := X.eq lawW_s0P
  refine lv_aload_n hx hb dL_law_1315 rfl (lv_at hl 1 rfl) ?_
  refine lv_aload_n hx hb dL_law_1316 rfl (lv_at hl 3 rfl) ?_
  refine lv_iload_n hx hb dL_law_1317 rfl (lv_at hl 0 rfl) ?_
  refine lv_iconst (v := 1) hx hb dL_law_1318 (by decide) ?_
  refine lv_iadd hx hb dL_law_1319 ?_
  refine k_topi (nI_add i 1) ?_
  refine va_sld hx hb hX hbl hbA X.2.2 (vp_in_nI (show i + 1 < L by omega) (by omega)) dL_law_1320 ?_
  refine k_topi (congrArg xs (nI_clamp (show i + 1 < 2147483648 by omega))) ?_
  refine k_callV K X gv_L_172 (As := [.int (xs (i + 1))]) (c_X12_count l E b (flat h2) wf ik td tch tp tl tk2 tb ta tv bad rb rz (flR rn) f 99999 (xs (i + 1)) I) [43, 44, 45, 46, 47, 48, 49, 50, 51] lawW_s1C (by decide +kernel) (fun _ => modW_fst) 0 12 rfl rfl ⟨⟨Nat.le_of_ble_eq_true rfl, Nat.le_of_ble_eq_true rfl⟩, Nat.le_of_ble_eq_true rfl, Nat.le_of_ble_eq_true rfl⟩ rfl hl.1 (rest := [.int ((oCount f td tl (xs (i + 1))).1)]) rfl (Nat.le_of_ble_eq_true rfl) dL_law_1321 (st1 := fun _ => [.int ((oCount f td tl (xs (i + 1))).1), .int ((oCount f td tl (xs (i + 1))).1)]) (fun _ => rfl) (fun _ H locs _ X => ?_)
  have X : Wd E _ _ (lawW E a b f g h ik one wo tp tl tk ts te tn rb rz rn ((oCount f td tl (xs (i + 1))).2) (flat f) (flat h2) wf ik ((oCount f td tl (xs (i + 1))).2) tch tp tl tk2 tb ta tv bad rb rz (flR rn)) _ _ := X.eq lawW_s1P
  refine k_icmp_eq (x := (oCount f td tl (xs (i + 1))).1) (y := (oCount f td tl (xs (i + 1))).1) hx hb 1352 dL_law_1324 (by decide) (fun _ => ?_) (fun z => absurd rfl z)
  exact hn f g h h2 ik one wo tp tl tk ts te tn rb rz rn ((oCount f td tl (xs (i + 1))).2) wf tch tk2 tb ta tv bad _ _ _ ⟨I, hk, htl, J⟩ X hl
set_option maxRecDepth 100000 in
set_option maxHeartbeats 4000000 in
/-- status -/
theorem lc_38 {p : Program} {l : Launch} {e : Env} {s : State} {m : MethodId} {below : List Frame} {meth : Method} {c : Code} {E : EE} {A : Nat → Prop} {b0 L : Nat} {xs : Nat → Int32} {a b : Nat → Nat} (K : Kx p s m #[Value.ref b0] meth c code 4 RL E A) (hX : va_X b0 L xs s s.heap) (hbl : b0 < s.heap.size) (hbA : ¬ A b0) {i : Nat} (hi : i + 6 ≤ L) (hL : L ≤ 3072) (hn : Nx p l e s m below meth c E A b0 a b i 1352) : Nx p l e s m below meth c E A b0 a b i 1329 := by
  intro f g h h2 ik one wo tp tl tk ts te tn rb rz rn td wf tch tk2 tb ta tv bad H locs ls hI X hl
  obtain ⟨I, hk, htl, J⟩ := hI
  have hx := K.1
  have hb := K.2.1
  refine lv_aload_n hx hb dL_law_1329 rfl (lv_at hl 2 rfl) ?_
  refine lv_aload_n hx hb dL_law_1330 rfl (lv_at hl 3 rfl) ?_
  refine lv_iload_n hx hb dL_law_1331 rfl (lv_at hl 0 rfl) ?_
  refine lv_iconst (v := 1) hx hb dL_law_1332 (by decide) ?_
  refine lv_iadd hx hb dL_law_1333 ?_
  refine k_topi (nI_add i 1) ?_
  refine va_sld hx hb hX hbl hbA X.2.2 (vp_in_nI (show i + 1 < L by omega) (by omega)) dL_law_1334 ?_
  refine k_topi (congrArg xs (nI_clamp (show i + 1 < 2147483648 by omega))) ?_
  refine k_callV K X gv_L_173 (As := [.int (xs (i + 1))]) (c_X11_status l E a f g h ik one wo tp tl tk ts te tn rb rz rn td (xs (i + 1))) [0, 1, 2, 3, 4, 5, 6, 7, 8, 9, 10, 11, 12, 13, 14, 15, 16, 17, 18, 19, 20, 21, 22, 23, 24, 25, 26, 27, 28, 29, 30, 31, 32, 33, 34, 35, 36, 37, 38, 39, 40, 41, 42] lawW_s0C (by decide +kernel) (fun _ => clsW_fst) 0 11 rfl rfl ⟨⟨Nat.le_of_ble_eq_true rfl, Nat.le_of_ble_eq_true rfl⟩, Nat.le_of_ble_eq_true rfl, Nat.le_of_ble_eq_true rfl⟩ rfl hl.1 (rest := []) rfl (Nat.le_of_ble_eq_true rfl) dL_law_1335 (st1 := fun _ => [.int ((oStatus td (xs (i + 1))).1)]) (fun _ => rfl) (fun _ H locs _ X => ?_)
  have X : Wd E _ _ (lawW E a b f g h ik one wo tp tl tk ts te tn rb rz rn ((oStatus td (xs (i + 1))).2) (flat f) (flat h2) wf ik td tch tp tl tk2 tb ta tv bad rb rz (flR rn)) _ _ := X.eq lawW_s0P
  refine lv_aload_n hx hb dL_law_1338 rfl (lv_at hl 1 rfl) ?_
  refine lv_aload_n hx hb dL_law_1339 rfl (lv_at hl 3 rfl) ?_
  refine lv_iload_n hx hb dL_law_1340 rfl (lv_at hl 0 rfl) ?_
  refine lv_iconst (v := 1) hx hb dL_law_1341 (by decide) ?_
  refine lv_iadd hx hb dL_law_1342 ?_
  refine k_topi (nI_add i 1) ?_
  refine va_sld hx hb hX hbl hbA X.2.2 (vp_in_nI (show i + 1 < L by omega) (by omega)) dL_law_1343 ?_
  refine k_topi (congrArg xs (nI_clamp (show i + 1 < 2147483648 by omega))) ?_
  refine k_callV K X gv_L_176 (As := [.int (xs (i + 1))]) (c_X12_status l E b (flat f) (flat h2) wf ik td tch tp tl tk2 tb ta tv bad rb rz (flR rn) (xs (i + 1))) [43, 44, 45, 46, 47, 48, 49, 50, 51] lawW_s1C (by decide +kernel) (fun _ => modW_fst) 0 12 rfl rfl ⟨⟨Nat.le_of_ble_eq_true rfl, Nat.le_of_ble_eq_true rfl⟩, Nat.le_of_ble_eq_true rfl, Nat.le_of_ble_eq_true rfl⟩ rfl hl.1 (rest := [.int ((oStatus td (xs (i + 1))).1)]) rfl (Nat.le_of_ble_eq_true rfl) dL_law_1344 (st1 := fun _ => [.int ((oStatus td (xs (i + 1))).1), .int ((oStatus td (xs (i + 1))).1)]) (fun _ => rfl) (fun _ H locs _ X => ?_)
  have X : Wd E _ _ (lawW E a b f g h ik one wo tp tl tk ts te tn rb rz rn ((oStatus td (xs (i + 1))).2) (flat f) (flat h2) wf ik ((oStatus td (xs (i + 1))).2) tch tp tl tk2 tb ta tv bad rb rz (flR rn)) _ _ := X.eq lawW_s1P
  refine k_icmp_eq (x := (oStatus td (xs (i + 1))).1) (y := (oStatus td (xs (i + 1))).1) hx hb 1352 dL_law_1347 (by decide) (fun _ => ?_) (fun z => absurd rfl z)
  exact hn f g h h2 ik one wo tp tl tk ts te tn rb rz rn ((oStatus td (xs (i + 1))).2) wf tch tk2 tb ta tv bad _ _ _ ⟨I, hk, htl, J⟩ X hl
