set_option maxRecDepth 100000 in
set_option maxHeartbeats 4000000 in
/-- moves -/
theorem lc_0 {p : Program} {l : Launch} {e : Env} {s : State} {m : MethodId} {below : List Frame} {meth : Method} {c : Code} {E : EE} {A : Nat → Prop} {b0 L : Nat} {xs : Nat → Int32} {a b : Nat → Nat} (K : Kx p s m #[Value.ref b0] meth c code 4 RL E A) (hX : va_X b0 L xs s s.heap) (hbl : b0 < s.heap.size) (hbA : ¬ A b0) {i : Nat} (hi : i + 6 ≤ L) (hL : L ≤ 3072) (hn : Nx p l e s m below meth c E A b0 a b i 1352) : Nx p l e s m below meth c E A b0 a b i 204 := by
  intro f g h h2 ik one wo tp tl tk ts te tn rb rz rn td wf tch tk2 tb ta tv bad H locs ls hI X hl
  obtain ⟨I, hk, htl, J⟩ := hI
  have hx := K.1
  have hb := K.2.1
  refine lv_aload_n hx hb dL_law_204 rfl (lv_at hl 2 rfl) ?_
  refine lv_aload_n hx hb dL_law_205 rfl (lv_at hl 3 rfl) ?_
  refine lv_iload_n hx hb dL_law_206 rfl (lv_at hl 0 rfl) ?_
  refine lv_iconst (v := 1) hx hb dL_law_207 (by decide) ?_
  refine lv_iadd hx hb dL_law_208 ?_
  refine k_topi (nI_add i 1) ?_
  refine va_sld hx hb hX hbl hbA X.2.2 (vp_in_nI (show i + 1 < L by omega) (by omega)) dL_law_209 ?_
  refine k_topi (congrArg xs (nI_clamp (show i + 1 < 2147483648 by omega))) ?_
  refine k_callV K X gv_L_13 (As := [.int (xs (i + 1))]) (c_X11_moves l E a f g h ik one wo tp tl tk ts te tn rb rz rn td 99999 (xs (i + 1)) I) [0, 1, 2, 3, 4, 5, 6, 7, 8, 9, 10, 11, 12, 13, 14, 15, 16, 17, 18, 19, 20, 21, 22, 23, 24, 25, 26, 27, 28, 29, 30, 31, 32, 33, 34, 35, 36, 37, 38, 39, 40, 41, 42] lawW_s0C (by decide +kernel) (fun _ => clsW_fst) 0 11 rfl rfl ⟨⟨Nat.le_of_ble_eq_true rfl, Nat.le_of_ble_eq_true rfl⟩, Nat.le_of_ble_eq_true rfl, Nat.le_of_ble_eq_true rfl⟩ rfl hl.1 (rest := []) rfl (Nat.le_of_ble_eq_true rfl) dL_law_210 (st1 := fun _ => [.int ((oMoves f td (xs (i + 1))).1)]) (fun _ => rfl) (fun _ H locs _ X => ?_)
  have X : Wd E _ _ (lawW E a b ((oMoves f td (xs (i + 1))).2.1) g h ik one wo tp tl tk ts te tn rb rz rn ((oMoves f td (xs (i + 1))).2.2) (flat f) (flat h2) wf ik td tch tp tl tk2 tb ta tv bad rb rz (flR rn)) _ _ := X.eq lawW_s0P
  refine lv_aload_n hx hb dL_law_213 rfl (lv_at hl 1 rfl) ?_
  refine lv_aload_n hx hb dL_law_214 rfl (lv_at hl 3 rfl) ?_
  refine lv_iload_n hx hb dL_law_215 rfl (lv_at hl 0 rfl) ?_
  refine lv_iconst (v := 1) hx hb dL_law_216 (by decide) ?_
  refine lv_iadd hx hb dL_law_217 ?_
  refine k_topi (nI_add i 1) ?_
  refine va_sld hx hb hX hbl hbA X.2.2 (vp_in_nI (show i + 1 < L by omega) (by omega)) dL_law_218 ?_
  refine k_topi (congrArg xs (nI_clamp (show i + 1 < 2147483648 by omega))) ?_
  refine k_callV K X gv_L_17 (As := [.int (xs (i + 1))]) (c_X12_moves l E b (flat h2) wf ik td tch tp tl tk2 tb ta tv bad rb rz (flR rn) f 99999 (xs (i + 1)) I) [43, 44, 45, 46, 47, 48, 49, 50, 51] lawW_s1C (by decide +kernel) (fun _ => modW_fst) 0 12 rfl rfl ⟨⟨Nat.le_of_ble_eq_true rfl, Nat.le_of_ble_eq_true rfl⟩, Nat.le_of_ble_eq_true rfl, Nat.le_of_ble_eq_true rfl⟩ rfl hl.1 (rest := [.int ((oMoves f td (xs (i + 1))).1)]) rfl (Nat.le_of_ble_eq_true rfl) dL_law_219 (st1 := fun _ => [.int ((oMoves f td (xs (i + 1))).1), .int ((oMoves f td (xs (i + 1))).1)]) (fun _ => rfl) (fun _ H locs _ X => ?_)
  have X : Wd E _ _ (lawW E a b ((oMoves f td (xs (i + 1))).2.1) g h ik one wo tp tl tk ts te tn rb rz rn ((oMoves f td (xs (i + 1))).2.2) (flat ((oMoves f td (xs (i + 1))).2.1)) (flat h2) wf ik ((oMoves f td (xs (i + 1))).2.2) tch tp tl tk2 tb ta tv bad rb rz (flR rn)) _ _ := X.eq lawW_s1P
  refine k_icmp_eq (x := (oMoves f td (xs (i + 1))).1) (y := (oMoves f td (xs (i + 1))).1) hx hb 1352 dL_law_222 (by decide) (fun _ => ?_) (fun z => absurd rfl z)
  exact hn ((oMoves f td (xs (i + 1))).2.1) g h h2 ik one wo tp tl tk ts te tn rb rz rn ((oMoves f td (xs (i + 1))).2.2) wf tch tk2 tb ta tv bad _ _ _ ⟨oMoves_I I td (xs (i + 1)), hk, htl, J⟩ X hl
