def oUndo (ik : Int32) (f h : St) (td : Nat → Int32) : R3 := if ik = 0 then bad3 3 f td else (h 0 2, h, td)
def tearR (ik : Int32) : Int32 := if ik = 0 then 0 else 1
def oCount (f : St) (td : Nat → Int32) (tl x : Int32) : Int32 × (Nat → Int32) := if x = 0 then (f 0 2, td) else if x = 1 then (f 0 3, td) else if x = 2 then (tl, td) else if x = 3 then (bcF (inF f (-1)), td) else (fnd 0, fdU td 0)
def oStatus (td : Nat → Int32) (x : Int32) : Int32 × (Nat → Int32) := cond (inR x (-1) 6) (if x < 0 then sumL td 7 0 0 else td x.toNatClampNeg, td) (fnd 0, fdU td 0)
theorem inR_m1 {x : Int32} (h : inR x (-1) 6 = true) (h0 : ¬ x < 0) : ∃ k, k < 7 ∧ x = nI k := by
  have h1 : inR x 0 6 = true := by
    unfold inR at h ⊢
    rw [decide_eq_false h0]
    rw [Bool.and_eq_true] at h
    exact h.2
  obtain ⟨k, h2, h3, -⟩ := inR_nat (n := 7) (by decide) (by decide) h1
  exact ⟨k, h2, h3⟩
theorem sumL_all (c d : Nat → Int32) : ∀ (n i : Nat) (a : Int32), (∀ j, i ≤ j → j < i + n → c j = d j) → sumL c n i a = sumL d n i a
  | 0, _, _, _ => rfl
  | n + 1, i, a, h => by
    rw [sumL, sumL, h i (Nat.le_refl _) (by omega)]
    exact sumL_all c d n (i + 1) _ (fun j h1 h2 => h j (by omega) (by omega))
theorem sumL_none (c : Nat → Int32) : ∀ (n i : Nat) (a : Int32), (∀ j, i ≤ j → j < i + n → c j = 0) → sumL c n i a = a
  | 0, _, _, _ => rfl
  | n + 1, i, a, h => by
    rw [sumL, h i (Nat.le_refl _) (by omega), Int32.add_zero]
    exact sumL_none c n (i + 1) a (fun j h1 h2 => h j (by omega) (by omega))
theorem sumL_one (c : Nat → Int32) (k : Nat) : ∀ (n i : Nat) (a : Int32), i ≤ k → k < i + n → (∀ j, i ≤ j → j < i + n → ¬ j = k → c j = 0) → sumL c n i a = a + c k
  | 0, i, a, h1, h2, _ => by omega
  | n + 1, i, a, h1, h2, h => by
    rw [sumL]
    by_cases e : i = k
    · subst e
      exact sumL_none c n (i + 1) _ (fun j g1 g2 => h j (by omega) (by omega) (by omega))
    · rw [h i (Nat.le_refl _) (by omega) e, Int32.add_zero]
      exact sumL_one c k n (i + 1) a (by omega) (by omega) (fun j g1 g2 g3 => h j (by omega) (by omega) g3)
theorem status_sum {fd : Nat → Int32} {x : Int32} (h : inR x (-1) 6 = true) : sumL (fun s => cond (decide (x < 0) || decide (x = nI s)) (fd s) 0) 7 0 0 = (oStatus fd x).1 := by
  rw [oStatus, h, cond_true]
  by_cases h0 : x < 0
  · show _ = if x < 0 then _ else _
    rw [if_pos h0]
    exact sumL_all _ _ 7 0 0 (fun j _ _ => by show cond (decide (x < 0) || _) _ _ = _; rw [decide_eq_true h0]; rfl)
  · show _ = if x < 0 then _ else _
    rw [if_neg h0]
    obtain ⟨k, hk, rfl⟩ := inR_m1 h h0
    rw [sumL_one _ k 7 0 0 (by omega) (by omega) (fun j _ hj hn => ?_), Int32.zero_add]
    · show cond (decide (nI k < 0) || decide (nI k = nI k)) (fd k) 0 = _
      rw [decide_eq_true (rfl : nI k = nI k), Bool.or_true, nI_clamp (by omega)]
      rfl
    · show cond (decide (nI k < 0) || decide (nI k = nI j)) (fd j) 0 = 0
      rw [decide_eq_false h0, decide_eq_false (fun e => hn ((nI_eq (by omega) (by omega)).mp e).symm)]
      rfl
set_option maxRecDepth 100000 in
set_option maxHeartbeats 4000000 in
theorem c_X11_image (l : Launch) (E : EE) (a : Nat → Nat) (f : St) (g : St) (h : St) (ik : Int32) (one : Int32) (wo : Int32) (tp : Nat → Int32) (tl : Int32) (tk : Int32) (ts : Int32) (te : Int32) (tn : Int32) (rb : Nat → Int32) (rz : Nat → Int32) (rn : Nat → Nat → Int64) (td : Nat → Int32) : Kd l yX11_image cX11_image 1 (some .int) 2 51 E (clsW E a f g h ik one wo tp tl tk ts te tn rb rz rn td) [.ref (a 0)] (some (.int 1)) (clsW E a f g f 1 one wo tp tl tk ts te tn rb rz rn td) := by
  refine Kn.ofWi (by decide +kernel) (Nat.le_of_ble_eq_true rfl) (fun _ _ => rfl) ?_
  intro pg ev s0 mm below meth cd Q K X fin ls hl
  have hx := K.1
  have hb := K.2.1
  have hl : lv_has ls 1 [(0, .ref (a 0))] := hl
  refine lv_aload_n hx hb dX11_image_0 rfl (lv_at hl 0 rfl) ?_
  refine k_get K X 0 rfl fg_X11_39 (v := .ref (a 15)) rfl dX11_image_1 ?_
  refine lv_aload_n hx hb dX11_image_4 rfl (lv_at hl 0 rfl) ?_
  refine k_get K X 0 rfl fg_X11_30 (v := .ref (a 1)) rfl dX11_image_5 ?_
  refine k_callV K X gv_X11_189 (As := [.ref (a 1)]) (c_X6_copyFrom l E (fun j => a (15 + j)) (fun j => a (1 + j)) (fun j => a (36 + j)) h f) [15, 16, 17, 18, 19, 20, 21, 1, 2, 3, 4, 5, 6, 7] clsW_s10C (by decide +kernel) (fun _ => room2_fst) 0 6 rfl rfl (by decide) rfl hl.1 (rest := []) rfl (Nat.le_of_ble_eq_true rfl) dX11_image_8 (st1 := fun _ => []) (fun _ => rfl) (fun _ H locs _ X => ?_)
  have X : Wd E _ _ (clsW E a f g f ik one wo tp tl tk ts te tn rb rz rn td) _ _ := X.eq clsW_s10P
  refine lv_aload_n hx hb dX11_image_11 rfl (lv_at hl 0 rfl) ?_
  refine lv_iconst (v := 1) hx hb dX11_image_12 (by decide) ?_
  refine k_put K X 0 rfl fp_X11_42 (v := .int 1) rfl rfl (Nat.le_of_ble_eq_true rfl) dX11_image_13 (fun H locs X => ?_)
  have X : Wd E _ _ (clsW E a f g f 1 one wo tp tl tk ts te tn rb rz rn td) _ _ := X
  refine lv_iconst (v := 1) hx hb dX11_image_16 (by decide) ?_
  exact fin () 17 _ _ _ trivial X dX11_image_17
set_option maxRecDepth 100000 in
set_option maxHeartbeats 4000000 in
theorem c_X12_image (l : Launch) (E : EE) (b : Nat → Nat) (mf : Nat → Int32) (hf : Nat → Int32) (wf : Nat → Int32) (ik : Int32) (fd : Nat → Int32) (tch : Int32) (tp : Nat → Int32) (tl : Int32) (tk : Int32) (tb : Int32) (ta : Int32) (tv : Int32) (bad : Int32) (bo : Nat → Int32) (so : Nat → Int32) (ce : Nat → Int64) : Kd l yX12_image cX12_image 1 (some .int) 1 22 E (modW E b mf hf wf ik fd tch tp tl tk tb ta tv bad bo so ce) [.ref (b 0)] (some (.int 1)) (modW E b mf mf wf 1 fd tch tp tl tk tb ta tv bad bo so ce) := by
  refine Kn.ofWi (by decide +kernel) (Nat.le_of_ble_eq_true rfl) (fun _ _ => rfl) ?_
  intro pg ev s0 mm below meth cd Q K X fin ls hl
  have hx := K.1
  have hb := K.2.1
  have hl : lv_has ls 1 [(0, .ref (b 0))] := hl
  refine lv_aload_n hx hb dX12_image_0 rfl (lv_at hl 0 rfl) ?_
  refine k_get K X 0 rfl fg_X12_9 (v := .ref (b 1)) rfl dX12_image_1 ?_
  refine lv_aload_n hx hb dX12_image_4 rfl (lv_at hl 0 rfl) ?_
  refine k_get K X 0 rfl fg_X12_13 (v := .ref (b 2)) rfl dX12_image_5 ?_
  refine k_callS K X gs_X12_142 (As := [.ref (b 1), .ref (b 2)]) (c_X12_copyAll l E (b 1) (b 2) mf hf) [1, 2] modW_s2C (by decide +kernel) (fun _ => pairW_fst) (by decide) rfl hl.1 (rest := []) rfl (Nat.le_of_ble_eq_true rfl) dX12_image_8 (st1 := fun _ => []) (fun _ => rfl) (fun _ H locs _ X => ?_)
  have X : Wd E _ _ (modW E b mf mf wf ik fd tch tp tl tk tb ta tv bad bo so ce) _ _ := X.eq modW_s2P
  refine lv_aload_n hx hb dX12_image_11 rfl (lv_at hl 0 rfl) ?_
  refine lv_iconst (v := 1) hx hb dX12_image_12 (by decide) ?_
  refine k_put K X 0 rfl fp_X12_230 (v := .int 1) rfl rfl (Nat.le_of_ble_eq_true rfl) dX12_image_13 (fun H locs X => ?_)
  have X : Wd E _ _ (modW E b mf mf wf 1 fd tch tp tl tk tb ta tv bad bo so ce) _ _ := X
  refine lv_iconst (v := 1) hx hb dX12_image_16 (by decide) ?_
  exact fin () 17 _ _ _ trivial X dX12_image_17
set_option maxRecDepth 100000 in
set_option maxHeartbeats 4000000 in
theorem c_X11_undo (l : Launch) (E : EE) (a : Nat → Nat) (f : St) (g : St) (h : St) (ik : Int32) (one : Int32) (wo : Int32) (tp : Nat → Int32) (tl : Int32) (tk : Int32) (ts : Int32) (te : Int32) (tn : Int32) (rb : Nat → Int32) (rz : Nat → Int32) (rn : Nat → Nat → Int64) (td : Nat → Int32) : Kd l yX11_undo cX11_undo 1 (some .int) 2 51 E (clsW E a f g h ik one wo tp tl tk ts te tn rb rz rn td) [.ref (a 0)] (some (.int ((oUndo ik f h td).1))) (clsW E a ((oUndo ik f h td).2.1) g h ik one wo tp tl tk ts te tn rb rz rn ((oUndo ik f h td).2.2)) := by
  refine Kn.ofWi (by decide +kernel) (Nat.le_of_ble_eq_true rfl) (fun _ _ => rfl) ?_
  intro pg ev s0 mm below meth cd Q K X fin ls hl
  have hx := K.1
  have hb := K.2.1
  have hl : lv_has ls 1 [(0, .ref (a 0))] := hl
  refine lv_aload_n hx hb dX11_undo_0 rfl (lv_at hl 0 rfl) ?_
  refine k_get K X 0 rfl fg_X11_42 (v := .int ik) rfl dX11_undo_1 ?_
  refine k_if_ne (x := ik) hx hb 13 dX11_undo_4 (by decide) (fun c4 => ?_) (fun c4 => ?_)
  · refine lv_aload_n hx hb dX11_undo_13 rfl (lv_at hl 0 rfl) ?_
    refine k_get K X 0 rfl fg_X11_30 (v := .ref (a 1)) rfl dX11_undo_14 ?_
    refine lv_aload_n hx hb dX11_undo_17 rfl (lv_at hl 0 rfl) ?_
    refine k_get K X 0 rfl fg_X11_39 (v := .ref (a 15)) rfl dX11_undo_18 ?_
    refine k_callV K X gv_X11_189 (As := [.ref (a 15)]) (c_X6_copyFrom l E (fun j => a (1 + j)) (fun j => a (15 + j)) (fun j => a (36 + j)) f h) [1, 2, 3, 4, 5, 6, 7, 15, 16, 17, 18, 19, 20, 21] clsW_s7C (by decide +kernel) (fun _ => room2_fst) 0 6 rfl rfl (by decide) rfl hl.1 (rest := []) rfl (Nat.le_of_ble_eq_true rfl) dX11_undo_21 (st1 := fun _ => []) (fun _ => rfl) (fun _ H locs _ X => ?_)
    have X : Wd E _ _ (clsW E a h g h ik one wo tp tl tk ts te tn rb rz rn td) _ _ := X.eq clsW_s7P
    refine lv_aload_n hx hb dX11_undo_24 rfl (lv_at hl 0 rfl) ?_
    refine k_get K X 0 rfl fg_X11_30 (v := .ref (a 1)) rfl dX11_undo_25 ?_
    refine k_getN K X 1 rfl fg_X11_92 (v := .int (h 0 2)) rfl dX11_undo_28 ?_
    exact k_topi (x' := (oUndo ik f h td).1) (by simp [oUndo, bad3, c4]) (fin () 31 _ _ _ trivial (X.eq (by simp [oUndo, bad3, c4])) dX11_undo_31)
  · refine lv_aload_n hx hb dX11_undo_7 rfl (lv_at hl 0 rfl) ?_
    refine lv_iconst (v := 3) hx hb dX11_undo_8 (by decide) ?_
    refine k_callV K X gv_X11_84 (As := [.int 3]) (c_X11_finding l E a f g h ik one wo tp tl tk ts te tn rb rz rn td 3 (by decide)) [0, 1, 2, 3, 4, 5, 6, 7, 8, 9, 10, 11, 12, 13, 14, 15, 16, 17, 18, 19, 20, 21, 22, 23, 24, 25, 26, 27, 28, 29, 30, 31, 32, 33, 34, 35, 36, 37, 38, 39, 40, 41, 42] clsW_idC (by decide +kernel) (fun _ => clsW_fst) 0 11 rfl rfl (by decide) rfl hl.1 (rest := []) rfl (Nat.le_of_ble_eq_true rfl) dX11_undo_9 (st1 := fun _ => [.int (fnd 3)]) (fun _ => rfl) (fun _ H locs _ X => ?_)
    have X : Wd E _ _ (clsW E a f g h ik one wo tp tl tk ts te tn rb rz rn (fdU td 3)) _ _ := X.eq clsW_idP
    exact k_topi (x' := (oUndo ik f h td).1) (by simp [oUndo, bad3, c4]) (fin () 12 _ _ _ trivial (X.eq (by simp [oUndo, bad3, c4])) dX11_undo_12)
set_option maxRecDepth 100000 in
set_option maxHeartbeats 4000000 in
theorem c_X12_undo (l : Launch) (E : EE) (b : Nat → Nat) (wf : Nat → Int32) (ik : Int32) (fd : Nat → Int32) (tch : Int32) (tp : Nat → Int32) (tl : Int32) (tk : Int32) (tb : Int32) (ta : Int32) (tv : Int32) (bad : Int32) (bo : Nat → Int32) (so : Nat → Int32) (ce : Nat → Int64) (f : St) (h : St) : Kd l yX12_undo cX12_undo 1 (some .int) 1 22 E (modW E b (flat f) (flat h) wf ik fd tch tp tl tk tb ta tv bad bo so ce) [.ref (b 0)] (some (.int ((oUndo ik f h fd).1))) (modW E b (flat ((oUndo ik f h fd).2.1)) (flat h) wf ik ((oUndo ik f h fd).2.2) tch tp tl tk tb ta tv bad bo so ce) := by
  refine Kn.ofWi (by decide +kernel) (Nat.le_of_ble_eq_true rfl) (fun _ _ => rfl) ?_
  intro pg ev s0 mm below meth cd Q K X fin ls hl
  have hx := K.1
  have hb := K.2.1
  have hl : lv_has ls 1 [(0, .ref (b 0))] := hl
  refine lv_aload_n hx hb dX12_undo_0 rfl (lv_at hl 0 rfl) ?_
  refine k_get K X 0 rfl fg_X12_230 (v := .int ik) rfl dX12_undo_1 ?_
  refine k_if_ne (x := ik) hx hb 14 dX12_undo_4 (by decide) (fun c4 => ?_) (fun c4 => ?_)
  · refine lv_aload_n hx hb dX12_undo_14 rfl (lv_at hl 0 rfl) ?_
    refine k_get K X 0 rfl fg_X12_13 (v := .ref (b 2)) rfl dX12_undo_15 ?_
    refine lv_aload_n hx hb dX12_undo_18 rfl (lv_at hl 0 rfl) ?_
    refine k_get K X 0 rfl fg_X12_9 (v := .ref (b 1)) rfl dX12_undo_19 ?_
    refine k_callS K X gs_X12_142 (As := [.ref (b 2), .ref (b 1)]) (c_X12_copyAll l E (b 2) (b 1) (flat h) (flat f)) [2, 1] modW_s3C (by decide +kernel) (fun _ => pairW_fst) (by decide) rfl hl.1 (rest := []) rfl (Nat.le_of_ble_eq_true rfl) dX12_undo_22 (st1 := fun _ => []) (fun _ => rfl) (fun _ H locs _ X => ?_)
    have X : Wd E _ _ (modW E b (flat h) (flat h) wf ik fd tch tp tl tk tb ta tv bad bo so ce) _ _ := X.eq modW_s3P
    refine lv_aload_n hx hb dX12_undo_25 rfl (lv_at hl 0 rfl) ?_
    refine k_get K X 0 rfl fg_X12_9 (v := .ref (b 1)) rfl dX12_undo_26 ?_
    refine lv_iconst (v := 2) hx hb dX12_undo_29 (by decide) ?_
    refine k_ialdN K X 1 rfl (k := 2) (by omega) (by decide) dX12_undo_30 (v := h 0 2) rfl ?_
    exact k_topi (x' := (oUndo ik f h fd).1) (by simp [oUndo, bad3, c4]) (fin () 31 _ _ _ trivial (X.eq (by simp [oUndo, bad3, c4])) dX12_undo_31)
  · refine lv_aload_n hx hb dX12_undo_7 rfl (lv_at hl 0 rfl) ?_
    refine lv_ldc (v := (-1000000004)) hx hb K.2.2.2.1 (K.2.2.2.2.1 _ (Mw_at 1095 (by decide +kernel) (by decide +kernel))) dX12_undo_8 ?_
    refine k_topi (show (-1000000004 : Int32) = fnd 3 by decide) ?_
    refine k_callV K X gv_X12_37 (As := [.int (fnd 3)]) (c_X12_finds l E b (flat f) (flat h) wf ik fd tch tp tl tk tb ta tv bad bo so ce 3 (by decide)) [0, 1, 2, 3, 4, 5, 6, 7, 8] modW_idC (by decide +kernel) (fun _ => modW_fst) 0 12 rfl rfl (by decide) rfl hl.1 (rest := []) rfl (Nat.le_of_ble_eq_true rfl) dX12_undo_10 (st1 := fun _ => [.int (fnd 3)]) (fun _ => rfl) (fun _ H locs _ X => ?_)
    have X : Wd E _ _ (modW E b (flat f) (flat h) wf ik (fdU fd 3) tch tp tl tk tb ta tv bad bo so ce) _ _ := X.eq modW_idP
    exact k_topi (x' := (oUndo ik f h fd).1) (by simp [oUndo, bad3, c4]) (fin () 13 _ _ _ trivial (X.eq (by simp [oUndo, bad3, c4])) dX12_undo_13)
set_option maxRecDepth 100000 in
set_option maxHeartbeats 4000000 in
theorem c_X11_tear (l : Launch) (E : EE) (a : Nat → Nat) (f : St) (g : St) (h : St) (ik : Int32) (one : Int32) (wo : Int32) (tp : Nat → Int32) (tl : Int32) (tk : Int32) (ts : Int32) (te : Int32) (tn : Int32) (rb : Nat → Int32) (rz : Nat → Int32) (rn : Nat → Nat → Int64) (td : Nat → Int32) : Kd l yX11_tear cX11_tear 2 (some .int) 0 0 E (clsW E a f g h ik one wo tp tl tk ts te tn rb rz rn td) [.ref (a 0)] (some (.int (tearR ik))) (clsW E a f g h 0 one wo tp tl tk ts te tn rb rz rn td) := by
  refine Kn.ofWi (by decide +kernel) (Nat.le_of_ble_eq_true rfl) (fun _ _ => rfl) ?_
  intro pg ev s0 mm below meth cd Q K X fin ls hl
  have hx := K.1
  have hb := K.2.1
  have hl : lv_has ls 2 [(0, .ref (a 0))] := hl
  refine lv_aload_n hx hb dX11_tear_0 rfl (lv_at hl 0 rfl) ?_
  refine k_get K X 0 rfl fg_X11_42 (v := .int ik) rfl dX11_tear_1 ?_
  refine k_if_eq (x := ik) hx hb 11 dX11_tear_4 (by decide) (fun c4 => ?_) (fun c4 => ?_)
  · refine lv_iconst (v := 0) hx hb dX11_tear_11 (by decide) ?_
    refine lv_istore_n (lv' := [(1, .int 0), (0, .ref (a 0))]) hx hb dX11_tear_12 rfl hl (by decide) rfl (fun ls hl => ?_)
    refine lv_aload_n hx hb dX11_tear_13 rfl (lv_at hl 1 rfl) ?_
    refine lv_iconst (v := 0) hx hb dX11_tear_14 (by decide) ?_
    refine k_put K X 0 rfl fp_X11_42 (v := .int 0) rfl rfl (Nat.le_of_ble_eq_true rfl) dX11_tear_15 (fun H locs X => ?_)
    have X : Wd E _ _ (clsW E a f g h 0 one wo tp tl tk ts te tn rb rz rn td) _ _ := X
    refine lv_iload_n hx hb dX11_tear_18 rfl (lv_at hl 0 rfl) ?_
    exact k_topi (x' := tearR ik) (by simp [tearR, c4]) (fin () 19 _ _ _ trivial X dX11_tear_19)
  · refine lv_iconst (v := 1) hx hb dX11_tear_7 (by decide) ?_
    refine lv_goto (tgt := 12) hx hb dX11_tear_8 (by decide) ?_
    refine lv_istore_n (lv' := [(1, .int 1), (0, .ref (a 0))]) hx hb dX11_tear_12 rfl hl (by decide) rfl (fun ls hl => ?_)
    refine lv_aload_n hx hb dX11_tear_13 rfl (lv_at hl 1 rfl) ?_
    refine lv_iconst (v := 0) hx hb dX11_tear_14 (by decide) ?_
    refine k_put K X 0 rfl fp_X11_42 (v := .int 0) rfl rfl (Nat.le_of_ble_eq_true rfl) dX11_tear_15 (fun H locs X => ?_)
    have X : Wd E _ _ (clsW E a f g h 0 one wo tp tl tk ts te tn rb rz rn td) _ _ := X
    refine lv_iload_n hx hb dX11_tear_18 rfl (lv_at hl 0 rfl) ?_
    exact k_topi (x' := tearR ik) (by simp [tearR, c4]) (fin () 19 _ _ _ trivial X dX11_tear_19)
set_option maxRecDepth 100000 in
set_option maxHeartbeats 4000000 in
theorem c_X12_tear (l : Launch) (E : EE) (b : Nat → Nat) (mf : Nat → Int32) (hf : Nat → Int32) (wf : Nat → Int32) (ik : Int32) (fd : Nat → Int32) (tch : Int32) (tp : Nat → Int32) (tl : Int32) (tk : Int32) (tb : Int32) (ta : Int32) (tv : Int32) (bad : Int32) (bo : Nat → Int32) (so : Nat → Int32) (ce : Nat → Int64) : Kd l yX12_tear cX12_tear 2 (some .int) 0 0 E (modW E b mf hf wf ik fd tch tp tl tk tb ta tv bad bo so ce) [.ref (b 0)] (some (.int (tearR ik))) (modW E b mf hf wf 0 fd tch tp tl tk tb ta tv bad bo so ce) := by
  refine Kn.ofWi (by decide +kernel) (Nat.le_of_ble_eq_true rfl) (fun _ _ => rfl) ?_
  intro pg ev s0 mm below meth cd Q K X fin ls hl
  have hx := K.1
  have hb := K.2.1
  have hl : lv_has ls 2 [(0, .ref (b 0))] := hl
  refine lv_aload_n hx hb dX12_tear_0 rfl (lv_at hl 0 rfl) ?_
  refine k_get K X 0 rfl fg_X12_230 (v := .int ik) rfl dX12_tear_1 ?_
  refine k_if_eq (x := ik) hx hb 11 dX12_tear_4 (by decide) (fun c4 => ?_) (fun c4 => ?_)
  · refine lv_iconst (v := 0) hx hb dX12_tear_11 (by decide) ?_
    refine lv_istore_n (lv' := [(1, .int 0), (0, .ref (b 0))]) hx hb dX12_tear_12 rfl hl (by decide) rfl (fun ls hl => ?_)
    refine lv_aload_n hx hb dX12_tear_13 rfl (lv_at hl 1 rfl) ?_
    refine lv_iconst (v := 0) hx hb dX12_tear_14 (by decide) ?_
    refine k_put K X 0 rfl fp_X12_230 (v := .int 0) rfl rfl (Nat.le_of_ble_eq_true rfl) dX12_tear_15 (fun H locs X => ?_)
    have X : Wd E _ _ (modW E b mf hf wf 0 fd tch tp tl tk tb ta tv bad bo so ce) _ _ := X
    refine lv_iload_n hx hb dX12_tear_18 rfl (lv_at hl 0 rfl) ?_
    exact k_topi (x' := tearR ik) (by simp [tearR, c4]) (fin () 19 _ _ _ trivial X dX12_tear_19)
  · refine lv_iconst (v := 1) hx hb dX12_tear_7 (by decide) ?_
    refine lv_goto (tgt := 12) hx hb dX12_tear_8 (by decide) ?_
    refine lv_istore_n (lv' := [(1, .int 1), (0, .ref (b 0))]) hx hb dX12_tear_12 rfl hl (by decide) rfl (fun ls hl => ?_)
    refine lv_aload_n hx hb dX12_tear_13 rfl (lv_at hl 1 rfl) ?_
    refine lv_iconst (v := 0) hx hb dX12_tear_14 (by decide) ?_
    refine k_put K X 0 rfl fp_X12_230 (v := .int 0) rfl rfl (Nat.le_of_ble_eq_true rfl) dX12_tear_15 (fun H locs X => ?_)
    have X : Wd E _ _ (modW E b mf hf wf 0 fd tch tp tl tk tb ta tv bad bo so ce) _ _ := X
    refine lv_iload_n hx hb dX12_tear_18 rfl (lv_at hl 0 rfl) ?_
    exact k_topi (x' := tearR ik) (by simp [tearR, c4]) (fin () 19 _ _ _ trivial X dX12_tear_19)
set_option maxRecDepth 100000 in
set_option maxHeartbeats 4000000 in
theorem c_X11_count (l : Launch) (E : EE) (a : Nat → Nat) (f : St) (g : St) (h : St) (ik : Int32) (one : Int32) (wo : Int32) (tp : Nat → Int32) (tl : Int32) (tk : Int32) (ts : Int32) (te : Int32) (tn : Int32) (rb : Nat → Int32) (rz : Nat → Int32) (rn : Nat → Nat → Int64) (td : Nat → Int32) (T : Nat) (x : Int32) (I : Inv T f) : Kd l yX11_count cX11_count 2 (some .int) 1 23 E (clsW E a f g h ik one wo tp tl tk ts te tn rb rz rn td) [.ref (a 0), .int x] (some (.int ((oCount f td tl x).1))) (clsW E a f g h ik one wo tp tl tk ts te tn rb rz rn ((oCount f td tl x).2)) := by
  refine Kn.ofWi (by decide +kernel) (Nat.le_of_ble_eq_true rfl) (fun _ _ => rfl) ?_
  intro pg ev s0 mm below meth cd Q K X fin ls hl
  have hx := K.1
  have hb := K.2.1
  have hs10 := I.s10
  have hp6 := I.p6
  have hl : lv_has ls 2 [(0, .ref (a 0)), (1, .int x)] := hl
  refine lv_iload_n hx hb dX11_count_0 rfl (lv_at hl 1 rfl) ?_
  by_cases c1_0 : x = 0
  · refine k_topi (x' := 0) c1_0 ?_
    refine lv_tableIn (off := 31) (tgt := 32) hx hb dX11_count_1 (by decide) (by decide) rfl (by decide) ?_
    refine lv_aload_n hx hb dX11_count_32 rfl (lv_at hl 0 rfl) ?_
    refine k_get K X 0 rfl fg_X11_30 (v := .ref (a 1)) rfl dX11_count_33 ?_
    refine k_getN K X 1 rfl fg_X11_92 (v := .int (f 0 2)) rfl dX11_count_36 ?_
    exact k_topi (x' := (oCount f td tl x).1) (by simp [oCount, c1_0]) (fin () 39 _ _ _ trivial (X.eq (by simp [oCount, c1_0])) dX11_count_39)
  · by_cases c1_1 : x = 1
    · refine k_topi (x' := 1) c1_1 ?_
      refine lv_tableIn (off := 39) (tgt := 40) hx hb dX11_count_1 (by decide) (by decide) rfl (by decide) ?_
      refine lv_aload_n hx hb dX11_count_40 rfl (lv_at hl 0 rfl) ?_
      refine k_get K X 0 rfl fg_X11_30 (v := .ref (a 1)) rfl dX11_count_41 ?_
      refine k_getN K X 1 rfl fg_X11_141 (v := .int (f 0 3)) rfl dX11_count_44 ?_
      exact k_topi (x' := (oCount f td tl x).1) (by simp [oCount, c1_0, c1_1]) (fin () 47 _ _ _ trivial (X.eq (by simp [oCount, c1_0, c1_1])) dX11_count_47)
    · by_cases c1_2 : x = 2
      · refine k_topi (x' := 2) c1_2 ?_
        refine lv_tableIn (off := 47) (tgt := 48) hx hb dX11_count_1 (by decide) (by decide) rfl (by decide) ?_
        refine lv_aload_n hx hb dX11_count_48 rfl (lv_at hl 0 rfl) ?_
        refine k_get K X 0 rfl fg_X11_56 (v := .ref (a 23)) rfl dX11_count_49 ?_
        refine k_getN K X 23 rfl fg_X11_217 (v := .int tl) rfl dX11_count_52 ?_
        exact k_topi (x' := (oCount f td tl x).1) (by simp [oCount, c1_0, c1_1, c1_2]) (fin () 55 _ _ _ trivial (X.eq (by simp [oCount, c1_0, c1_1, c1_2])) dX11_count_55)
      · by_cases c1_3 : x = 3
        · refine k_topi (x' := 3) c1_3 ?_
          refine lv_tableIn (off := 55) (tgt := 56) hx hb dX11_count_1 (by decide) (by decide) rfl (by decide) ?_
          refine lv_aload_n hx hb dX11_count_56 rfl (lv_at hl 0 rfl) ?_
          refine k_get K X 0 rfl fg_X11_30 (v := .ref (a 1)) rfl dX11_count_57 ?_
          refine lv_iconst (v := (-1)) hx hb dX11_count_60 (by decide) ?_
          refine k_callV K X gv_X11_122 (As := [.int (-1)]) (c_X6_slipsIn l E (fun j => a (1 + j)) (fun j => a (36 + j)) f T (-1) I) [1, 2, 3, 4, 5, 6, 7] clsW_s3C (by decide +kernel) (fun _ => roomW_fst) 0 6 rfl rfl (by decide) rfl hl.1 (rest := []) rfl (Nat.le_of_ble_eq_true rfl) dX11_count_61 (st1 := fun _ => [.int (inF f (-1))]) (fun _ => rfl) (fun _ H locs _ X => ?_)
          have X : Wd E _ _ (clsW E a f g h ik one wo tp tl tk ts te tn rb rz rn td) _ _ := X.eq clsW_s3P
          refine k_callS K X gs_X11_212 (As := [.int (inF f (-1))]) (c_J6_bitCount_0f7a4 l E (inF f (-1))) [] rfl (by decide +kernel) (fun _ => rfl) (by decide) rfl hl.1 (rest := []) rfl (Nat.le_of_ble_eq_true rfl) dX11_count_64 (st1 := fun _ => [.int (bcF (inF f (-1)))]) (fun _ => rfl) (fun _ H locs _ X => ?_)
          have X : Wd E _ _ (clsW E a f g h ik one wo tp tl tk ts te tn rb rz rn td) _ _ := X
          exact k_topi (x' := (oCount f td tl x).1) (by simp [oCount, c1_0, c1_1, c1_2, c1_3]) (fin () 67 _ _ _ trivial (X.eq (by simp [oCount, c1_0, c1_1, c1_2, c1_3])) dX11_count_67)
        · refine lv_tableOut (tgt := 68) hx hb dX11_count_1 (by have h0 := sw_ne (n := 0) (by decide) c1_0; have h1 := sw_ne (n := 1) (by decide) c1_1; have h2 := sw_ne (n := 2) (by decide) c1_2; have h3 := sw_ne (n := 3) (by decide) c1_3; omega) (by decide) ?_
          refine lv_aload_n hx hb dX11_count_68 rfl (lv_at hl 0 rfl) ?_
          refine lv_iconst (v := 0) hx hb dX11_count_69 (by decide) ?_
          refine k_callV K X gv_X11_84 (As := [.int 0]) (c_X11_finding l E a f g h ik one wo tp tl tk ts te tn rb rz rn td 0 (by decide)) [0, 1, 2, 3, 4, 5, 6, 7, 8, 9, 10, 11, 12, 13, 14, 15, 16, 17, 18, 19, 20, 21, 22, 23, 24, 25, 26, 27, 28, 29, 30, 31, 32, 33, 34, 35, 36, 37, 38, 39, 40, 41, 42] clsW_idC (by decide +kernel) (fun _ => clsW_fst) 0 11 rfl rfl (by decide) rfl hl.1 (rest := []) rfl (Nat.le_of_ble_eq_true rfl) dX11_count_70 (st1 := fun _ => [.int (fnd 0)]) (fun _ => rfl) (fun _ H locs _ X => ?_)
          have X : Wd E _ _ (clsW E a f g h ik one wo tp tl tk ts te tn rb rz rn (fdU td 0)) _ _ := X.eq clsW_idP
          exact k_topi (x' := (oCount f td tl x).1) (by simp [oCount, c1_0, c1_1, c1_2, c1_3]) (fin () 73 _ _ _ trivial (X.eq (by simp [oCount, c1_0, c1_1, c1_2, c1_3])) dX11_count_73)
set_option maxRecDepth 100000 in
set_option maxHeartbeats 4000000 in
theorem c_X12_count (l : Launch) (E : EE) (b : Nat → Nat) (hf : Nat → Int32) (wf : Nat → Int32) (ik : Int32) (fd : Nat → Int32) (tch : Int32) (tp : Nat → Int32) (tl : Int32) (tk : Int32) (tb : Int32) (ta : Int32) (tv : Int32) (bad : Int32) (bo : Nat → Int32) (so : Nat → Int32) (ce : Nat → Int64) (f : St) (T : Nat) (x : Int32) (I : Inv T f) : Kd l yX12_count cX12_count 2 (some .int) 2 45 E (modW E b (flat f) hf wf ik fd tch tp tl tk tb ta tv bad bo so ce) [.ref (b 0), .int x] (some (.int ((oCount f fd tl x).1))) (modW E b (flat f) hf wf ik ((oCount f fd tl x).2) tch tp tl tk tb ta tv bad bo so ce) := by
  refine Kn.ofWi (by decide +kernel) (Nat.le_of_ble_eq_true rfl) (fun _ _ => rfl) ?_
  intro pg ev s0 mm below meth cd Q K X fin ls hl
  have hx := K.1
  have hb := K.2.1
  have hs10 := I.s10
  have hp6 := I.p6
  have hl : lv_has ls 2 [(0, .ref (b 0)), (1, .int x)] := hl
  refine lv_iload_n hx hb dX12_count_0 rfl (lv_at hl 1 rfl) ?_
  by_cases c1_0 : x = 0
  · refine k_topi (x' := 0) c1_0 ?_
    subst c1_0
    refine lv_tableIn (off := 31) (tgt := 32) hx hb dX12_count_1 (by decide) (by decide) rfl (by decide) ?_
    refine lv_aload_n hx hb dX12_count_32 rfl (lv_at hl 0 rfl) ?_
    refine k_get K X 0 rfl fg_X12_9 (v := .ref (b 1)) rfl dX12_count_33 ?_
    refine lv_iconst (v := 2) hx hb dX12_count_36 (by decide) ?_
    refine lv_iload_n hx hb dX12_count_37 rfl (lv_at hl 1 rfl) ?_
    refine lv_iadd hx hb dX12_count_38 ?_
    refine k_topi (nI_add 2 0) ?_
    refine k_topi (x' := 2) rfl ?_
    refine k_ialdN K X 1 rfl (k := 2) (by omega) (by decide) dX12_count_39 (v := f 0 2) rfl ?_
    exact k_topi (x' := (oCount f fd tl 0).1) (by simp [oCount]) (fin () 40 _ _ _ trivial (X.eq (by simp [oCount])) dX12_count_40)
  · by_cases c1_1 : x = 1
    · refine k_topi (x' := 1) c1_1 ?_
      subst c1_1
      refine lv_tableIn (off := 31) (tgt := 32) hx hb dX12_count_1 (by decide) (by decide) rfl (by decide) ?_
      refine lv_aload_n hx hb dX12_count_32 rfl (lv_at hl 0 rfl) ?_
      refine k_get K X 0 rfl fg_X12_9 (v := .ref (b 1)) rfl dX12_count_33 ?_
      refine lv_iconst (v := 2) hx hb dX12_count_36 (by decide) ?_
      refine lv_iload_n hx hb dX12_count_37 rfl (lv_at hl 1 rfl) ?_
      refine lv_iadd hx hb dX12_count_38 ?_
      refine k_topi (nI_add 2 1) ?_
      refine k_topi (x' := 3) rfl ?_
      refine k_ialdN K X 1 rfl (k := 3) (by omega) (by decide) dX12_count_39 (v := f 0 3) rfl ?_
      exact k_topi (x' := (oCount f fd tl 1).1) (by simp [oCount, c1_0]) (fin () 40 _ _ _ trivial (X.eq (by simp [oCount, c1_0])) dX12_count_40)
    · by_cases c1_2 : x = 2
      · refine k_topi (x' := 2) c1_2 ?_
        refine lv_tableIn (off := 40) (tgt := 41) hx hb dX12_count_1 (by decide) (by decide) rfl (by decide) ?_
        refine lv_aload_n hx hb dX12_count_41 rfl (lv_at hl 0 rfl) ?_
        refine k_get K X 0 rfl fg_X12_162 (v := .int tl) rfl dX12_count_42 ?_
        exact k_topi (x' := (oCount f fd tl x).1) (by simp [oCount, c1_0, c1_1, c1_2]) (fin () 45 _ _ _ trivial (X.eq (by simp [oCount, c1_0, c1_1, c1_2])) dX12_count_45)
      · by_cases c1_3 : x = 3
        · refine k_topi (x' := 3) c1_3 ?_
          refine lv_tableIn (off := 45) (tgt := 46) hx hb dX12_count_1 (by decide) (by decide) rfl (by decide) ?_
          refine lv_aload_n hx hb dX12_count_46 rfl (lv_at hl 0 rfl) ?_
          refine lv_iconst (v := (-1)) hx hb dX12_count_47 (by decide) ?_
          refine k_callV K X gv_X12_84 (As := [.int (-1)]) (c_X12_slipsIn l E b hf wf ik fd tch tp tl tk tb ta tv bad bo so ce f T (-1) I) [0, 1, 2, 3, 4, 5, 6, 7, 8] modW_idC (by decide +kernel) (fun _ => modW_fst) 0 12 rfl rfl (by decide) rfl hl.1 (rest := []) rfl (Nat.le_of_ble_eq_true rfl) dX12_count_48 (st1 := fun _ => [.int (inF f (-1))]) (fun _ => rfl) (fun _ H locs _ X => ?_)
          have X : Wd E _ _ (modW E b (flat f) hf wf ik fd tch tp tl tk tb ta tv bad bo so ce) _ _ := X.eq modW_idP
          refine k_callS K X gs_X12_112 (As := [.int (inF f (-1))]) (c_X12_bits l E (inF f (-1)) (inF_nat I _)) [] rfl (by decide +kernel) (fun _ => rfl) (by decide) rfl hl.1 (rest := []) rfl (Nat.le_of_ble_eq_true rfl) dX12_count_51 (st1 := fun _ => [.int (bcF (inF f (-1)))]) (fun _ => rfl) (fun _ H locs _ X => ?_)
          have X : Wd E _ _ (modW E b (flat f) hf wf ik fd tch tp tl tk tb ta tv bad bo so ce) _ _ := X
          exact k_topi (x' := (oCount f fd tl x).1) (by simp [oCount, c1_0, c1_1, c1_2, c1_3]) (fin () 54 _ _ _ trivial (X.eq (by simp [oCount, c1_0, c1_1, c1_2, c1_3])) dX12_count_54)
        · refine lv_tableOut (tgt := 55) hx hb dX12_count_1 (by have h0 := sw_ne (n := 0) (by decide) c1_0; have h1 := sw_ne (n := 1) (by decide) c1_1; have h2 := sw_ne (n := 2) (by decide) c1_2; have h3 := sw_ne (n := 3) (by decide) c1_3; omega) (by decide) ?_
          refine lv_aload_n hx hb dX12_count_55 rfl (lv_at hl 0 rfl) ?_
          refine lv_ldc (v := (-1000000001)) hx hb K.2.2.2.1 (K.2.2.2.2.1 _ (Mw_at 905 (by decide +kernel) (by decide +kernel))) dX12_count_56 ?_
          refine k_topi (show (-1000000001 : Int32) = fnd 0 by decide) ?_
          refine k_callV K X gv_X12_37 (As := [.int (fnd 0)]) (c_X12_finds l E b (flat f) hf wf ik fd tch tp tl tk tb ta tv bad bo so ce 0 (by decide)) [0, 1, 2, 3, 4, 5, 6, 7, 8] modW_idC (by decide +kernel) (fun _ => modW_fst) 0 12 rfl rfl (by decide) rfl hl.1 (rest := []) rfl (Nat.le_of_ble_eq_true rfl) dX12_count_58 (st1 := fun _ => [.int (fnd 0)]) (fun _ => rfl) (fun _ H locs _ X => ?_)
          have X : Wd E _ _ (modW E b (flat f) hf wf ik (fdU fd 0) tch tp tl tk tb ta tv bad bo so ce) _ _ := X.eq modW_idP
          exact k_topi (x' := (oCount f fd tl x).1) (by simp [oCount, c1_0, c1_1, c1_2, c1_3]) (fin () 61 _ _ _ trivial (X.eq (by simp [oCount, c1_0, c1_1, c1_2, c1_3])) dX12_count_61)
set_option maxRecDepth 100000 in
set_option maxHeartbeats 4000000 in
theorem c_X11_status (l : Launch) (E : EE) (a : Nat → Nat) (f : St) (g : St) (h : St) (ik : Int32) (one : Int32) (wo : Int32) (tp : Nat → Int32) (tl : Int32) (tk : Int32) (ts : Int32) (te : Int32) (tn : Int32) (rb : Nat → Int32) (rz : Nat → Int32) (rn : Nat → Nat → Int64) (td : Nat → Int32) (x : Int32) : Kd l yX11_status cX11_status 4 (some .int) 1 22 E (clsW E a f g h ik one wo tp tl tk ts te tn rb rz rn td) [.ref (a 0), .int x] (some (.int ((oStatus td x).1))) (clsW E a f g h ik one wo tp tl tk ts te tn rb rz rn ((oStatus td x).2)) := by
  refine Kn.ofWi (by decide +kernel) (Nat.le_of_ble_eq_true rfl) (fun _ _ => rfl) ?_
  intro pg ev s0 mm below meth cd Q K X fin ls hl
  have hx := K.1
  have hb := K.2.1
  have hl : lv_has ls 4 [(0, .ref (a 0)), (1, .int x)] := hl
  refine lv_iload_n hx hb dX11_status_0 rfl (lv_at hl 1 rfl) ?_
  refine lv_iconst (v := (-1)) hx hb dX11_status_1 (by decide) ?_
  refine lv_bipush (v := 6) hx hb dX11_status_2 (by decide) ?_
  refine k_callS K X gs_X11_80 (As := [.int x, .int (-1), .int 6]) (c_X11_within l E x (-1) 6) [] rfl (by decide +kernel) (fun _ => rfl) (by decide) rfl hl.1 (rest := []) rfl (Nat.le_of_ble_eq_true rfl) dX11_status_4 (st1 := fun _ => [.int (b2i (inR x (-1) 6))]) (fun _ => rfl) (fun _ H locs _ X => ?_)
  have X : Wd E _ _ (clsW E a f g h ik one wo tp tl tk ts te tn rb rz rn td) _ _ := X
  refine k_ifneB (B := (inR x (-1) 6)) hx hb 16 dX11_status_7 (by decide) (fun c7 => ?_) (fun c7 => ?_)
  · refine lv_iload_n hx hb dX11_status_16 rfl (lv_at hl 1 rfl) ?_
    refine k_if_lt (x := x) hx hb 27 dX11_status_17 (by decide) (fun c17 => ?_) (fun c17 => ?_)
    · refine lv_iconst (v := 0) hx hb dX11_status_27 (by decide) ?_
      refine lv_istore_n (lv' := [(2, .int 0), (0, .ref (a 0)), (1, .int x)]) hx hb dX11_status_28 rfl hl (by decide) rfl (fun ls hl => ?_)
      refine lv_iconst (v := 0) hx hb dX11_status_29 (by decide) ?_
      refine lv_istore_n (lv' := [(3, .int 0), (2, .int 0), (0, .ref (a 0)), (1, .int x)]) hx hb dX11_status_30 rfl hl (by decide) rfl (fun ls hl => ?_)
      have lp31 : ∀ (fu : Nat) (i : Nat) (n : Nat) (w : Int32) (hfu : n < fu) (hin : i + n = 7) (hR : sumL td n i w = sumL td 7 0 0) (ls : Array Slot) (hl : lv_has ls 4 [(3, .int (nI i)), (2, .int w), (0, .ref (a 0)), (1, .int x)]) (H : Heap) (locs : List Loc) (X : Wd E (inW (clsW E a f g h ik one wo tp tl tk ts te tn rb rz rn td)) s0.heap (clsW E a f g h ik one wo tp tl tk ts te tn rb rz rn td) H locs), W pg l ev (rmK 1 22) s0 mm ([.ref (a 0), .int x] : List Value).toArray below meth cd H locs 0 0 Q (F0 mm 31 ls []) := by
        intro fu
        induction fu with
        | zero => intro i n w hfu; exact absurd hfu (Nat.not_lt_zero _)
        | succ fu ih31 =>
          intro i n w hfu hin hR ls hl H locs X
          refine lv_iload_n hx hb dX11_status_31 rfl (lv_at hl 0 rfl) ?_
          refine lv_bipush (v := 7) hx hb dX11_status_32 (by decide) ?_
          refine kN_ge (x := i) (y := 7) hx hb 52 dX11_status_34 (by decide) (by omega) (by omega) (fun c34 => ?_) (fun c34 => ?_)
          · obtain rfl : n = 0 := by omega
            refine lv_iload_n hx hb dX11_status_52 rfl (lv_at hl 1 rfl) ?_
            exact k_topi (x' := (oStatus td x).1) (by rw [oStatus, c7, cond_true, if_pos c17, ← hR]; rfl) (fin () 53 _ _ _ trivial (X.eq (by rw [oStatus, c7, cond_true])) dX11_status_53)
          · obtain ⟨n, rfl⟩ : ∃ z, n = z + 1 := ⟨n - 1, by omega⟩
            refine lv_iload_n hx hb dX11_status_37 rfl (lv_at hl 1 rfl) ?_
            refine lv_aload_n hx hb dX11_status_38 rfl (lv_at hl 2 rfl) ?_
            refine k_get K X 0 rfl fg_X11_76 (v := .ref (a 35)) rfl dX11_status_39 ?_
            refine lv_iload_n hx hb dX11_status_42 rfl (lv_at hl 0 rfl) ?_
            refine k_ialdN K X 35 rfl (k := i) (by omega) (by decide) dX11_status_43 (v := td i) rfl ?_
            refine lv_iadd hx hb dX11_status_44 ?_
            refine lv_istore_n (lv' := [(2, .int (w + (td i))), (3, .int (nI i)), (0, .ref (a 0)), (1, .int x)]) hx hb dX11_status_45 rfl hl (by decide) rfl (fun ls hl => ?_)
            refine lv_iinc (v := nI (i + 1)) (lv' := [(3, .int (nI (i + 1))), (2, .int (w + (td i))), (0, .ref (a 0)), (1, .int x)]) hx hb dX11_status_46 hl (k := 1) rfl (nI_add i 1) (by decide) rfl (fun ls hl => ?_)
            refine lv_goto (tgt := 31) hx hb dX11_status_49 (by decide) ?_
            exact ih31 (i + 1) n (w + (td i)) (by omega) (by omega) (by rw [← hR, sumL]) _ hl _ _ X
      exact lp31 (7 + 1) 0 7 0 (by omega) (by omega) (rfl) _ hl _ _ X
    · obtain ⟨k, hk, rfl⟩ := inR_m1 c7 c17
      have ek : (nI k).toNatClampNeg = k := nI_clamp (by omega)
      refine lv_aload_n hx hb dX11_status_20 rfl (lv_at hl 0 rfl) ?_
      refine k_get K X 0 rfl fg_X11_76 (v := .ref (a 35)) rfl dX11_status_21 ?_
      refine lv_iload_n hx hb dX11_status_24 rfl (lv_at hl 1 rfl) ?_
      refine k_ialdN K X 35 rfl (k := k) (by omega) (by decide) dX11_status_25 (v := td k) rfl ?_
      exact k_topi (x' := (oStatus td (nI k)).1) (by simp [oStatus, c7, c17, ek]) (fin () 26 _ _ _ trivial (X.eq (by simp [oStatus, c7, c17, ek])) dX11_status_26)
  · refine lv_aload_n hx hb dX11_status_10 rfl (lv_at hl 0 rfl) ?_
    refine lv_iconst (v := 0) hx hb dX11_status_11 (by decide) ?_
    refine k_callV K X gv_X11_84 (As := [.int 0]) (c_X11_finding l E a f g h ik one wo tp tl tk ts te tn rb rz rn td 0 (by decide)) [0, 1, 2, 3, 4, 5, 6, 7, 8, 9, 10, 11, 12, 13, 14, 15, 16, 17, 18, 19, 20, 21, 22, 23, 24, 25, 26, 27, 28, 29, 30, 31, 32, 33, 34, 35, 36, 37, 38, 39, 40, 41, 42] clsW_idC (by decide +kernel) (fun _ => clsW_fst) 0 11 rfl rfl (by decide) rfl hl.1 (rest := []) rfl (Nat.le_of_ble_eq_true rfl) dX11_status_12 (st1 := fun _ => [.int (fnd 0)]) (fun _ => rfl) (fun _ H locs _ X => ?_)
    have X : Wd E _ _ (clsW E a f g h ik one wo tp tl tk ts te tn rb rz rn (fdU td 0)) _ _ := X.eq clsW_idP
    exact k_topi (x' := (oStatus td x).1) (by simp [oStatus, c7]) (fin () 15 _ _ _ trivial (X.eq (by simp [oStatus, c7])) dX11_status_15)
set_option maxRecDepth 100000 in
set_option maxHeartbeats 4000000 in
theorem c_X12_status (l : Launch) (E : EE) (b : Nat → Nat) (mf : Nat → Int32) (hf : Nat → Int32) (wf : Nat → Int32) (ik : Int32) (fd : Nat → Int32) (tch : Int32) (tp : Nat → Int32) (tl : Int32) (tk : Int32) (tb : Int32) (ta : Int32) (tv : Int32) (bad : Int32) (bo : Nat → Int32) (so : Nat → Int32) (ce : Nat → Int64) (x : Int32) : Kd l yX12_status cX12_status 4 (some .int) 1 23 E (modW E b mf hf wf ik fd tch tp tl tk tb ta tv bad bo so ce) [.ref (b 0), .int x] (some (.int ((oStatus fd x).1))) (modW E b mf hf wf ik ((oStatus fd x).2) tch tp tl tk tb ta tv bad bo so ce) := by
  refine Kn.ofWi (by decide +kernel) (Nat.le_of_ble_eq_true rfl) (fun _ _ => rfl) ?_
  intro pg ev s0 mm below meth cd Q K X fin ls hl
  have hx := K.1
  have hb := K.2.1
  have hl : lv_has ls 4 [(0, .ref (b 0)), (1, .int x)] := hl
  refine lv_iload_n hx hb dX12_status_0 rfl (lv_at hl 1 rfl) ?_
  refine lv_i2l (v := x.toInt64) hx hb dX12_status_1 rfl ?_
  refine lv_iconst (v := (-1)) hx hb dX12_status_2 (by decide) ?_
  refine lv_bipush (v := 6) hx hb dX12_status_3 (by decide) ?_
  refine k_callS K X gs_X12_41 (As := [.long x.toInt64, .int (-1), .int 6]) (c_X12_in l E x (-1) 6) [] rfl (by decide +kernel) (fun _ => rfl) (by decide) rfl hl.1 (rest := []) rfl (Nat.le_of_ble_eq_true rfl) dX12_status_5 (st1 := fun _ => [.int (b2i (inR x (-1) 6))]) (fun _ => rfl) (fun _ H locs _ X => ?_)
  have X : Wd E _ _ (modW E b mf hf wf ik fd tch tp tl tk tb ta tv bad bo so ce) _ _ := X
  refine k_ifneB (B := (inR x (-1) 6)) hx hb 18 dX12_status_8 (by decide) (fun c8 => ?_) (fun c8 => ?_)
  · refine lv_iconst (v := 0) hx hb dX12_status_18 (by decide) ?_
    refine lv_istore_n (lv' := [(2, .int 0), (0, .ref (b 0)), (1, .int x)]) hx hb dX12_status_19 rfl hl (by decide) rfl (fun ls hl => ?_)
    refine lv_iconst (v := 0) hx hb dX12_status_20 (by decide) ?_
    refine lv_istore_n (lv' := [(3, .int 0), (2, .int 0), (0, .ref (b 0)), (1, .int x)]) hx hb dX12_status_21 rfl hl (by decide) rfl (fun ls hl => ?_)
    have lp22 : ∀ (fu : Nat) (i : Nat) (n : Nat) (w : Int32) (hfu : n < fu) (hin : i + n = 7) (hR : sumL (fun s => cond (decide (x < 0) || decide (x = nI s)) (fd s) 0) n i w = sumL (fun s => cond (decide (x < 0) || decide (x = nI s)) (fd s) 0) 7 0 0) (ls : Array Slot) (hl : lv_has ls 4 [(3, .int (nI i)), (2, .int w), (0, .ref (b 0)), (1, .int x)]) (H : Heap) (locs : List Loc) (X : Wd E (inW (modW E b mf hf wf ik fd tch tp tl tk tb ta tv bad bo so ce)) s0.heap (modW E b mf hf wf ik fd tch tp tl tk tb ta tv bad bo so ce) H locs), W pg l ev (rmK 1 23) s0 mm ([.ref (b 0), .int x] : List Value).toArray below meth cd H locs 0 0 Q (F0 mm 22 ls []) := by
      intro fu
      induction fu with
      | zero => intro i n w hfu; exact absurd hfu (Nat.not_lt_zero _)
      | succ fu ih22 =>
        intro i n w hfu hin hR ls hl H locs X
        refine lv_iload_n hx hb dX12_status_22 rfl (lv_at hl 0 rfl) ?_
        refine lv_bipush (v := 7) hx hb dX12_status_23 (by decide) ?_
        refine kN_ge (x := i) (y := 7) hx hb 56 dX12_status_25 (by decide) (by omega) (by omega) (fun c25 => ?_) (fun c25 => ?_)
        · obtain rfl : n = 0 := by omega
          refine lv_iload_n hx hb dX12_status_56 rfl (lv_at hl 1 rfl) ?_
          exact k_topi (x' := (oStatus fd x).1) (by rw [← status_sum c8, ← hR]; rfl) (fin () 57 _ _ _ trivial (X.eq (by rw [oStatus, c8, cond_true])) dX12_status_57)
        · obtain ⟨n, rfl⟩ : ∃ z, n = z + 1 := ⟨n - 1, by omega⟩
          refine lv_iload_n hx hb dX12_status_28 rfl (lv_at hl 1 rfl) ?_
          refine lv_iload_n hx hb dX12_status_29 rfl (lv_at hl 3 rfl) ?_
          refine k_if_lt (x := x) hx hb 38 dX12_status_30 (by decide) (fun c30 => ?_) (fun c30 => ?_)
          · refine lv_aload_n hx hb dX12_status_38 rfl (lv_at hl 2 rfl) ?_
            refine k_get K X 0 rfl fg_X12_19 (v := .ref (b 4)) rfl dX12_status_39 ?_
            refine lv_iload_n hx hb dX12_status_42 rfl (lv_at hl 0 rfl) ?_
            refine k_ialdN K X 4 rfl (k := i) (by omega) (by decide) dX12_status_43 (v := fd i) rfl ?_
            refine lv_goto (tgt := 48) hx hb dX12_status_44 (by decide) ?_
            refine lv_iadd hx hb dX12_status_48 ?_
            refine lv_istore_n (lv' := [(2, .int (w + (fd i))), (3, .int (nI i)), (0, .ref (b 0)), (1, .int x)]) hx hb dX12_status_49 rfl hl (by decide) rfl (fun ls hl => ?_)
            refine lv_iinc (v := nI (i + 1)) (lv' := [(3, .int (nI (i + 1))), (2, .int (w + (fd i))), (0, .ref (b 0)), (1, .int x)]) hx hb dX12_status_50 hl (k := 1) rfl (nI_add i 1) (by decide) rfl (fun ls hl => ?_)
            refine lv_goto (tgt := 22) hx hb dX12_status_53 (by decide) ?_
            exact ih22 (i + 1) n (w + (fd i)) (by omega) (by omega) (by rw [← hR, sumL, decide_eq_true c30]; rfl) _ hl _ _ X
          · refine lv_iload_n hx hb dX12_status_33 rfl (lv_at hl 3 rfl) ?_
            refine lv_iload_n hx hb dX12_status_34 rfl (lv_at hl 0 rfl) ?_
            refine k_icmp_ne (x := x) (y := nI i) hx hb 47 dX12_status_35 (by decide) (fun c35 => ?_) (fun c35 => ?_)
            · refine lv_iconst (v := 0) hx hb dX12_status_47 (by decide) ?_
              refine lv_iadd hx hb dX12_status_48 ?_
              refine lv_istore_n (lv' := [(2, .int (w + 0)), (3, .int (nI i)), (0, .ref (b 0)), (1, .int x)]) hx hb dX12_status_49 rfl hl (by decide) rfl (fun ls hl => ?_)
              refine lv_iinc (v := nI (i + 1)) (lv' := [(3, .int (nI (i + 1))), (2, .int (w + 0)), (0, .ref (b 0)), (1, .int x)]) hx hb dX12_status_50 hl (k := 1) rfl (nI_add i 1) (by decide) rfl (fun ls hl => ?_)
              refine lv_goto (tgt := 22) hx hb dX12_status_53 (by decide) ?_
              exact ih22 (i + 1) n (w + 0) (by omega) (by omega) (by rw [← hR, sumL, decide_eq_false c30, decide_eq_false c35]; rfl) _ hl _ _ X
            · refine lv_aload_n hx hb dX12_status_38 rfl (lv_at hl 2 rfl) ?_
              refine k_get K X 0 rfl fg_X12_19 (v := .ref (b 4)) rfl dX12_status_39 ?_
              refine lv_iload_n hx hb dX12_status_42 rfl (lv_at hl 0 rfl) ?_
              refine k_ialdN K X 4 rfl (k := i) (by omega) (by decide) dX12_status_43 (v := fd i) rfl ?_
              refine lv_goto (tgt := 48) hx hb dX12_status_44 (by decide) ?_
              refine lv_iadd hx hb dX12_status_48 ?_
              refine lv_istore_n (lv' := [(2, .int (w + (fd i))), (3, .int (nI i)), (0, .ref (b 0)), (1, .int x)]) hx hb dX12_status_49 rfl hl (by decide) rfl (fun ls hl => ?_)
              refine lv_iinc (v := nI (i + 1)) (lv' := [(3, .int (nI (i + 1))), (2, .int (w + (fd i))), (0, .ref (b 0)), (1, .int x)]) hx hb dX12_status_50 hl (k := 1) rfl (nI_add i 1) (by decide) rfl (fun ls hl => ?_)
              refine lv_goto (tgt := 22) hx hb dX12_status_53 (by decide) ?_
              exact ih22 (i + 1) n (w + (fd i)) (by omega) (by omega) (by rw [← hR, sumL, decide_eq_false c30, decide_eq_true c35]; rfl) _ hl _ _ X
    exact lp22 (7 + 1) 0 7 0 (by omega) (by omega) (rfl) _ hl _ _ X
  · refine lv_aload_n hx hb dX12_status_11 rfl (lv_at hl 0 rfl) ?_
    refine lv_ldc (v := (-1000000001)) hx hb K.2.2.2.1 (K.2.2.2.2.1 _ (Mw_at 905 (by decide +kernel) (by decide +kernel))) dX12_status_12 ?_
    refine k_topi (show (-1000000001 : Int32) = fnd 0 by decide) ?_
    refine k_callV K X gv_X12_37 (As := [.int (fnd 0)]) (c_X12_finds l E b mf hf wf ik fd tch tp tl tk tb ta tv bad bo so ce 0 (by decide)) [0, 1, 2, 3, 4, 5, 6, 7, 8] modW_idC (by decide +kernel) (fun _ => modW_fst) 0 12 rfl rfl (by decide) rfl hl.1 (rest := []) rfl (Nat.le_of_ble_eq_true rfl) dX12_status_14 (st1 := fun _ => [.int (fnd 0)]) (fun _ => rfl) (fun _ H locs _ X => ?_)
    have X : Wd E _ _ (modW E b mf hf wf ik (fdU fd 0) tch tp tl tk tb ta tv bad bo so ce) _ _ := X.eq modW_idP
    exact k_topi (x' := (oStatus fd x).1) (by simp [oStatus, c8]) (fin () 17 _ _ _ trivial (X.eq (by simp [oStatus, c8])) dX12_status_17)
