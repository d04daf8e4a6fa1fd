theorem inR_no4 {y : Int32} (h : inR y 0 4 = false) : ¬ y = 0 ∧ ¬ y = 1 ∧ ¬ y = 2 ∧ ¬ y = 3 ∧ ¬ y = 4 := ⟨fun e => by rw [e] at h; exact absurd h (by decide), fun e => by rw [e] at h; exact absurd h (by decide), fun e => by rw [e] at h; exact absurd h (by decide), fun e => by rw [e] at h; exact absurd h (by decide), fun e => by rw [e] at h; exact absurd h (by decide)⟩
theorem inR_no2 {y : Int32} (h : inR y 0 2 = false) : ¬ y = 0 ∧ ¬ y = 1 ∧ ¬ y = 2 := ⟨fun e => by rw [e] at h; exact absurd h (by decide), fun e => by rw [e] at h; exact absurd h (by decide), fun e => by rw [e] at h; exact absurd h (by decide)⟩
theorem flat_z0 (f : St) : flat f 0 = f 0 0 := rfl
theorem flat_z1 (f : St) : flat f 1 = f 0 1 := rfl
theorem nl0 : nI 0 = 0 := rfl
theorem nl1 : nI 1 = 1 := rfl
theorem nl2 : nI 2 = 2 := rfl
theorem nl3 : nI 3 = 3 := rfl
theorem nl4 : nI 4 = 4 := rfl
theorem isKS_nat : ∀ a, a < 6 → ∀ b, b < 6 → isKS a (nI b) = decide (b = 0 ∨ b = a ∨ (b = 1 ∧ a = 4) ∨ (b = 2 ∧ a = 5)) := by decide +kernel
set_option maxRecDepth 100000 in
set_option maxHeartbeats 4000000 in
theorem c_X12_moves (l : Launch) (E : EE) (b : Nat → Nat) (hf : Nat → Int32) (wf : Nat → Int32) (ik : Int32) (fd : Nat → Int32) (tch : Int32) (tp : Nat → Int32) (tl : Int32) (tk : Int32) (tb : Int32) (ta : Int32) (tv : Int32) (bad : Int32) (bo : Nat → Int32) (so : Nat → Int32) (ce : Nat → Int64) (f : St) (T : Nat) (x : Int32) (I : Inv T f) : Kd l yX12_moves cX12_moves 2 (some .int) 1 23 E (modW E b (flat f) hf wf ik fd tch tp tl tk tb ta tv bad bo so ce) [.ref (b 0), .int x] (some (.int ((oMoves f fd x).1))) (modW E b (flat ((oMoves f fd x).2.1)) hf wf ik ((oMoves f fd x).2.2) tch tp tl tk tb ta tv bad bo so ce) := by
  refine Kn.ofWi (by decide +kernel) (Nat.le_of_ble_eq_true rfl) (fun _ _ => rfl) ?_
  intro pg ev s0 mm below meth cd Q K X fin ls hl
  have hx := K.1
  have hb := K.2.1
  have hs10 := I.s10
  have hp6 := I.p6
  have hl : lv_has ls 2 [(0, .ref (b 0)), (1, .int x)] := hl
  refine lv_iload_n hx hb dX12_moves_0 rfl (lv_at hl 1 rfl) ?_
  refine lv_i2l (v := x.toInt64) hx hb dX12_moves_1 rfl ?_
  refine lv_iconst (v := 0) hx hb dX12_moves_2 (by decide) ?_
  refine lv_bipush (v := 99) hx hb dX12_moves_3 (by decide) ?_
  refine k_callS K X gs_X12_41 (As := [.long x.toInt64, .int 0, .int 99]) (c_X12_in l E x 0 99) [] rfl (by decide +kernel) (fun _ => rfl) (by decide) rfl hl.1 (rest := []) rfl (Nat.le_of_ble_eq_true rfl) dX12_moves_5 (st1 := fun _ => [.int (b2i (inR x 0 99))]) (fun _ => rfl) (fun _ H locs _ X => ?_)
  have X : Wd E _ _ (modW E b (flat f) hf wf ik fd tch tp tl tk tb ta tv bad bo so ce) _ _ := X
  refine k_ifeqB (B := (inR x 0 99)) hx hb 20 dX12_moves_8 (by decide) (fun c8 => ?_) (fun c8 => ?_)
  · refine lv_aload_n hx hb dX12_moves_20 rfl (lv_at hl 0 rfl) ?_
    refine lv_ldc (v := (-1000000001)) hx hb K.2.2.2.1 (K.2.2.2.2.1 _ (Mw_at 905 (by decide +kernel) (by decide +kernel))) dX12_moves_21 ?_
    refine k_topi (show (-1000000001 : Int32) = fnd 0 by decide) ?_
    refine k_callV K X gv_X12_37 (As := [.int (fnd 0)]) (c_X12_finds l E b (flat f) hf wf ik fd tch tp tl tk tb ta tv bad bo so ce 0 (by decide)) [0, 1, 2, 3, 4, 5, 6, 7, 8] modW_idC (by decide +kernel) (fun _ => modW_fst) 0 12 rfl rfl (by decide) rfl hl.1 (rest := []) rfl (Nat.le_of_ble_eq_true rfl) dX12_moves_23 (st1 := fun _ => [.int (fnd 0)]) (fun _ => rfl) (fun _ H locs _ X => ?_)
    have X : Wd E _ _ (modW E b (flat f) hf wf ik (fdU fd 0) tch tp tl tk tb ta tv bad bo so ce) _ _ := X.eq modW_idP
    exact k_topi (x' := (oMoves f fd x).1) (by simp [oMoves, bad3, c8]) (fin () 26 _ _ _ trivial (X.eq (by simp [oMoves, bad3, c8])) dX12_moves_26)
  · refine lv_aload_n hx hb dX12_moves_11 rfl (lv_at hl 0 rfl) ?_
    refine lv_iconst (v := 1) hx hb dX12_moves_12 (by decide) ?_
    refine lv_iload_n hx hb dX12_moves_13 rfl (lv_at hl 1 rfl) ?_
    refine k_callV K X gv_X12_63 (As := [.int 1, .int x]) (c_X12_becomes l E b (flat f) hf wf ik fd tch tp tl tk tb ta tv bad bo so ce 1 x (by omega)) [0, 1, 2, 3, 4, 5, 6, 7, 8] modW_idC (by decide +kernel) (fun _ => modW_fst) 0 12 rfl rfl (by decide) rfl hl.1 (rest := []) rfl (Nat.le_of_ble_eq_true rfl) dX12_moves_14 (st1 := fun _ => [.int ((flat f) 1)]) (fun _ => rfl) (fun _ H locs _ X => ?_)
    have X : Wd E _ _ (modW E b (upd (flat f) 1 x) hf wf ik fd tch tp tl tk tb ta tv bad bo so ce) _ _ := X.eq modW_idP
    have X : Wd E _ _ (modW E b (flat (up2 f 0 1 x)) hf wf ik fd tch tp tl tk tb ta tv bad bo so ce) _ _ := X.eq (by rw [flat_top _ _ (by decide)])
    refine k_topi (x' := f 0 1) (rfl) ?_
    refine lv_goto (tgt := 26) hx hb dX12_moves_17 (by decide) ?_
    exact k_topi (x' := (oMoves f fd x).1) (by simp [oMoves, bad3, c8]) (fin () 26 _ _ _ trivial (X.eq (by simp [oMoves, bad3, c8])) dX12_moves_26)
set_option maxRecDepth 100000 in
set_option maxHeartbeats 4000000 in
theorem c_X12_slip (l : Launch) (E : EE) (b : Nat → Nat) (hf : Nat → Int32) (wf : Nat → Int32) (ik : Int32) (fd : Nat → Int32) (tch : Int32) (tp : Nat → Int32) (tl : Int32) (tk : Int32) (tb : Int32) (ta : Int32) (tv : Int32) (bad : Int32) (bo : Nat → Int32) (so : Nat → Int32) (ce : Nat → Int64) (f : St) (T : Nat) (x : Int32) (I : Inv T f) : Kd l yX12_slip cX12_slip 2 (some .int) 2 46 E (modW E b (flat f) hf wf ik fd tch tp tl tk tb ta tv bad bo so ce) [.ref (b 0), .int x] (some (.int ((oSlip f fd x).1))) (modW E b (flat ((oSlip f fd x).2.1)) hf wf ik ((oSlip f fd x).2.2) tch tp tl tk tb ta tv bad bo so ce) := by
  refine Kn.ofWi (by decide +kernel) (Nat.le_of_ble_eq_true rfl) (fun _ _ => rfl) ?_
  intro pg ev s0 mm below meth cd Q K X fin ls hl
  have hx := K.1
  have hb := K.2.1
  have hs10 := I.s10
  have hp6 := I.p6
  have hl : lv_has ls 2 [(0, .ref (b 0)), (1, .int x)] := hl
  refine lv_iload_n hx hb dX12_slip_0 rfl (lv_at hl 1 rfl) ?_
  refine lv_i2l (v := x.toInt64) hx hb dX12_slip_1 rfl ?_
  refine lv_iconst (v := (-1)) hx hb dX12_slip_2 (by decide) ?_
  refine lv_iconst (v := 5) hx hb dX12_slip_3 (by decide) ?_
  refine k_callS K X gs_X12_41 (As := [.long x.toInt64, .int (-1), .int 5]) (c_X12_in l E x (-1) 5) [] rfl (by decide +kernel) (fun _ => rfl) (by decide) rfl hl.1 (rest := []) rfl (Nat.le_of_ble_eq_true rfl) dX12_slip_4 (st1 := fun _ => [.int (b2i (inR x (-1) 5))]) (fun _ => rfl) (fun _ H locs _ X => ?_)
  have X : Wd E _ _ (modW E b (flat f) hf wf ik fd tch tp tl tk tb ta tv bad bo so ce) _ _ := X
  refine k_ifneB (B := (inR x (-1) 5)) hx hb 17 dX12_slip_7 (by decide) (fun c7 => ?_) (fun c7 => ?_)
  · refine lv_aload_n hx hb dX12_slip_17 rfl (lv_at hl 0 rfl) ?_
    refine k_get K X 0 rfl fg_X12_9 (v := .ref (b 1)) rfl dX12_slip_18 ?_
    refine lv_iconst (v := 2) hx hb dX12_slip_21 (by decide) ?_
    refine k_ialdN K X 1 rfl (k := 2) (by omega) (by decide) dX12_slip_22 (v := f 0 2) rfl ?_
    refine k_topi (I.hS) ?_
    refine lv_bipush (v := 10) hx hb dX12_slip_23 (by decide) ?_
    refine kN_ne (x := sl f) (y := 10) hx hb 37 dX12_slip_25 (by decide) (by omega) (by omega) (fun c25 => ?_) (fun c25 => ?_)
    · have hb1 : decide (sl f < 10) = true := by simp; omega
      refine lv_aload_n hx hb dX12_slip_37 rfl (lv_at hl 0 rfl) ?_
      refine lv_iload_n hx hb dX12_slip_38 rfl (lv_at hl 1 rfl) ?_
      refine lv_iconst (v := 0) hx hb dX12_slip_39 (by decide) ?_
      refine k_callV K X gv_X12_71 (As := [.int x, .int 0]) (c_X12_comesTo l E b hf wf ik fd tch tp tl tk tb ta tv bad bo so ce f T x 0 I (by omega)) [0, 1, 2, 3, 4, 5, 6, 7, 8] modW_idC (by decide +kernel) (fun _ => modW_fst) 0 12 rfl rfl (by decide) rfl hl.1 (rest := []) rfl (Nat.le_of_ble_eq_true rfl) dX12_slip_40 (st1 := fun _ => [.int (nI (sl f))]) (fun _ => rfl) (fun _ H locs _ X => ?_)
      have X : Wd E _ _ (modW E b (flat (addS f x 0)) hf wf ik fd tch tp tl tk tb ta tv bad bo so ce) _ _ := X.eq modW_idP
      exact k_topi (x' := (oSlip f fd x).1) (by simp [oSlip, bad3, c7, hb1]) (fin () 43 _ _ _ trivial (X.eq (by simp [oSlip, bad3, c7, hb1])) dX12_slip_43)
    · have hb1 : decide (sl f < 10) = false := by simp; omega
      refine lv_aload_n hx hb dX12_slip_28 rfl (lv_at hl 0 rfl) ?_
      refine lv_ldc (v := (-1000000002)) hx hb K.2.2.2.1 (K.2.2.2.2.1 _ (Mw_at 914 (by decide +kernel) (by decide +kernel))) dX12_slip_29 ?_
      refine k_topi (show (-1000000002 : Int32) = fnd 1 by decide) ?_
      refine k_callV K X gv_X12_37 (As := [.int (fnd 1)]) (c_X12_finds l E b (flat f) hf wf ik fd tch tp tl tk tb ta tv bad bo so ce 1 (by decide)) [0, 1, 2, 3, 4, 5, 6, 7, 8] modW_idC (by decide +kernel) (fun _ => modW_fst) 0 12 rfl rfl (by decide) rfl hl.1 (rest := []) rfl (Nat.le_of_ble_eq_true rfl) dX12_slip_31 (st1 := fun _ => [.int (fnd 1)]) (fun _ => rfl) (fun _ H locs _ X => ?_)
      have X : Wd E _ _ (modW E b (flat f) hf wf ik (fdU fd 1) tch tp tl tk tb ta tv bad bo so ce) _ _ := X.eq modW_idP
      refine lv_goto (tgt := 43) hx hb dX12_slip_34 (by decide) ?_
      exact k_topi (x' := (oSlip f fd x).1) (by simp [oSlip, bad3, c7, hb1]) (fin () 43 _ _ _ trivial (X.eq (by simp [oSlip, bad3, c7, hb1])) dX12_slip_43)
  · refine lv_aload_n hx hb dX12_slip_10 rfl (lv_at hl 0 rfl) ?_
    refine lv_ldc (v := (-1000000001)) hx hb K.2.2.2.1 (K.2.2.2.2.1 _ (Mw_at 905 (by decide +kernel) (by decide +kernel))) dX12_slip_11 ?_
    refine k_topi (show (-1000000001 : Int32) = fnd 0 by decide) ?_
    refine k_callV K X gv_X12_37 (As := [.int (fnd 0)]) (c_X12_finds l E b (flat f) hf wf ik fd tch tp tl tk tb ta tv bad bo so ce 0 (by decide)) [0, 1, 2, 3, 4, 5, 6, 7, 8] modW_idC (by decide +kernel) (fun _ => modW_fst) 0 12 rfl rfl (by decide) rfl hl.1 (rest := []) rfl (Nat.le_of_ble_eq_true rfl) dX12_slip_13 (st1 := fun _ => [.int (fnd 0)]) (fun _ => rfl) (fun _ H locs _ X => ?_)
    have X : Wd E _ _ (modW E b (flat f) hf wf ik (fdU fd 0) tch tp tl tk tb ta tv bad bo so ce) _ _ := X.eq modW_idP
    exact k_topi (x' := (oSlip f fd x).1) (by simp [oSlip, bad3, c7]) (fin () 16 _ _ _ trivial (X.eq (by simp [oSlip, bad3, c7])) dX12_slip_16)
set_option maxRecDepth 100000 in
set_option maxHeartbeats 4000000 in
theorem c_X12_slipOf (l : Launch) (E : EE) (b : Nat → Nat) (hf : Nat → Int32) (wf : Nat → Int32) (ik : Int32) (fd : Nat → Int32) (tch : Int32) (tp : Nat → Int32) (tl : Int32) (tk : Int32) (tb : Int32) (ta : Int32) (tv : Int32) (bad : Int32) (bo : Nat → Int32) (so : Nat → Int32) (ce : Nat → Int64) (f : St) (T : Nat) (x : Int32) (y : Int32) (I : Inv T f) : Kd l yX12_slipOf cX12_slipOf 3 (some .int) 3 70 E (modW E b (flat f) hf wf ik fd tch tp tl tk tb ta tv bad bo so ce) [.ref (b 0), .int x, .int y] (some (.int ((oSlipOf f fd x y).1))) (modW E b (flat ((oSlipOf f fd x y).2.1)) hf wf ik ((oSlipOf f fd x y).2.2) tch tp tl tk tb ta tv bad bo so ce) := by
  refine Kn.ofWi (by decide +kernel) (Nat.le_of_ble_eq_true rfl) (fun _ _ => rfl) ?_
  intro pg ev s0 mm below meth cd Q K X fin ls hl
  have hx := K.1
  have hb := K.2.1
  have hs10 := I.s10
  have hp6 := I.p6
  have hl : lv_has ls 3 [(0, .ref (b 0)), (1, .int x), (2, .int y)] := hl
  refine lv_aload_n hx hb dX12_slipOf_0 rfl (lv_at hl 0 rfl) ?_
  refine lv_iload_n hx hb dX12_slipOf_1 rfl (lv_at hl 1 rfl) ?_
  refine k_callV K X gv_X12_74 (As := [.int x]) (c_X12_isSlip l E b hf wf ik fd tch tp tl tk tb ta tv bad bo so ce f x) [0, 1, 2, 3, 4, 5, 6, 7, 8] modW_idC (by decide +kernel) (fun _ => modW_fst) 0 12 rfl rfl (by decide) rfl hl.1 (rest := []) rfl (Nat.le_of_ble_eq_true rfl) dX12_slipOf_2 (st1 := fun _ => [.int (b2i (inR x 0 (f 0 2 - 1)))]) (fun _ => rfl) (fun _ H locs _ X => ?_)
  have X : Wd E _ _ (modW E b (flat f) hf wf ik fd tch tp tl tk tb ta tv bad bo so ce) _ _ := X.eq modW_idP
  refine k_ifeqB (B := (inR x 0 (f 0 2 - 1))) hx hb 18 dX12_slipOf_5 (by decide) (fun c5 => ?_) (fun c5 => ?_)
  · have hx0 : isS f x = false := c5
    refine lv_aload_n hx hb dX12_slipOf_18 rfl (lv_at hl 0 rfl) ?_
    refine lv_ldc (v := (-1000000001)) hx hb K.2.2.2.1 (K.2.2.2.2.1 _ (Mw_at 905 (by decide +kernel) (by decide +kernel))) dX12_slipOf_19 ?_
    refine k_topi (show (-1000000001 : Int32) = fnd 0 by decide) ?_
    refine k_callV K X gv_X12_37 (As := [.int (fnd 0)]) (c_X12_finds l E b (flat f) hf wf ik fd tch tp tl tk tb ta tv bad bo so ce 0 (by decide)) [0, 1, 2, 3, 4, 5, 6, 7, 8] modW_idC (by decide +kernel) (fun _ => modW_fst) 0 12 rfl rfl (by decide) rfl hl.1 (rest := []) rfl (Nat.le_of_ble_eq_true rfl) dX12_slipOf_21 (st1 := fun _ => [.int (fnd 0)]) (fun _ => rfl) (fun _ H locs _ X => ?_)
    have X : Wd E _ _ (modW E b (flat f) hf wf ik (fdU fd 0) tch tp tl tk tb ta tv bad bo so ce) _ _ := X.eq modW_idP
    exact k_topi (x' := (oSlipOf f fd x y).1) (by simp [oSlipOf, nl0, nl1, nl2, nl3, nl4, bad3, hx0]) (fin () 24 _ _ _ trivial (X.eq (by simp [oSlipOf, nl0, nl1, nl2, nl3, nl4, bad3, hx0])) dX12_slipOf_24)
  · have hx0 : isS f x = true := c5
    obtain ⟨k, hk, rfl⟩ := isS_nat I hx0
    have ek : (nI k).toNatClampNeg = k := nI_clamp (by omega)
    refine lv_iload_n hx hb dX12_slipOf_8 rfl (lv_at hl 2 rfl) ?_
    refine lv_i2l (v := y.toInt64) hx hb dX12_slipOf_9 rfl ?_
    refine lv_iconst (v := 0) hx hb dX12_slipOf_10 (by decide) ?_
    refine lv_iconst (v := 4) hx hb dX12_slipOf_11 (by decide) ?_
    refine k_callS K X gs_X12_41 (As := [.long y.toInt64, .int 0, .int 4]) (c_X12_in l E y 0 4) [] rfl (by decide +kernel) (fun _ => rfl) (by decide) rfl hl.1 (rest := []) rfl (Nat.le_of_ble_eq_true rfl) dX12_slipOf_12 (st1 := fun _ => [.int (b2i (inR y 0 4))]) (fun _ => rfl) (fun _ H locs _ X => ?_)
    have X : Wd E _ _ (modW E b (flat f) hf wf ik fd tch tp tl tk tb ta tv bad bo so ce) _ _ := X
    refine k_ifneB (B := (inR y 0 4)) hx hb 25 dX12_slipOf_15 (by decide) (fun c15 => ?_) (fun c15 => ?_)
    · obtain ⟨w, hw, rfl, hwl, hwh⟩ := inR_nat (n := 5) (by decide) (by decide) c15
      have hwl : 0 ≤ w := by have h0 : ((0 : Int32).toInt) = 0 := (by decide); omega
      have ew : (nI w).toNatClampNeg = w := nI_clamp (by omega)
      rcases (show w = 0 ∨ w = 1 ∨ w = 2 ∨ w = 3 ∨ w = 4 by omega) with rfl | rfl | rfl | rfl | rfl
      · refine lv_iload_n hx hb dX12_slipOf_25 rfl (lv_at hl 2 rfl) ?_
        refine lv_iconst (v := 3) hx hb dX12_slipOf_26 (by decide) ?_
        refine k_icmp_ge (x := 0) (y := 3) hx hb 39 dX12_slipOf_27 (by decide) (fun h => absurd h (by decide)) (fun _ => ?_)
        refine lv_aload_n hx hb dX12_slipOf_30 rfl (lv_at hl 0 rfl) ?_
        refine lv_iload_n hx hb dX12_slipOf_31 rfl (lv_at hl 1 rfl) ?_
        refine lv_iload_n hx hb dX12_slipOf_32 rfl (lv_at hl 2 rfl) ?_
        refine k_callV K X gv_X12_49 (As := [.int (nI k), .int 0]) (c_X12_it0 l E b hf wf ik fd tch tp tl tk tb ta tv bad bo so ce f k (by omega)) [0, 1, 2, 3, 4, 5, 6, 7, 8] modW_idC (by decide +kernel) (fun _ => modW_fst) 0 12 rfl rfl (by decide) rfl hl.1 (rest := []) rfl (Nat.le_of_ble_eq_true rfl) dX12_slipOf_33 (st1 := fun _ => [.int (f 1 k)]) (fun _ => rfl) (fun _ H locs _ X => ?_)
        have X : Wd E _ _ (modW E b (flat f) hf wf ik fd tch tp tl tk tb ta tv bad bo so ce) _ _ := X.eq modW_idP
        refine lv_goto (tgt := 57) hx hb dX12_slipOf_36 (by decide) ?_
        exact k_topi (x' := (oSlipOf f fd (nI k) (nI 0)).1) (by simp [oSlipOf, nl0, nl1, nl2, nl3, nl4, bad3, hx0, ek, c15, ew]) (fin () 57 _ _ _ trivial (X.eq (by simp [oSlipOf, nl0, nl1, nl2, nl3, nl4, bad3, hx0, ek, c15, ew])) dX12_slipOf_57)
      · refine lv_iload_n hx hb dX12_slipOf_25 rfl (lv_at hl 2 rfl) ?_
        refine lv_iconst (v := 3) hx hb dX12_slipOf_26 (by decide) ?_
        refine k_icmp_ge (x := 1) (y := 3) hx hb 39 dX12_slipOf_27 (by decide) (fun h => absurd h (by decide)) (fun _ => ?_)
        refine lv_aload_n hx hb dX12_slipOf_30 rfl (lv_at hl 0 rfl) ?_
        refine lv_iload_n hx hb dX12_slipOf_31 rfl (lv_at hl 1 rfl) ?_
        refine lv_iload_n hx hb dX12_slipOf_32 rfl (lv_at hl 2 rfl) ?_
        refine k_callV K X gv_X12_49 (As := [.int (nI k), .int 1]) (c_X12_it1 l E b hf wf ik fd tch tp tl tk tb ta tv bad bo so ce f k (by omega)) [0, 1, 2, 3, 4, 5, 6, 7, 8] modW_idC (by decide +kernel) (fun _ => modW_fst) 0 12 rfl rfl (by decide) rfl hl.1 (rest := []) rfl (Nat.le_of_ble_eq_true rfl) dX12_slipOf_33 (st1 := fun _ => [.int (f 2 k)]) (fun _ => rfl) (fun _ H locs _ X => ?_)
        have X : Wd E _ _ (modW E b (flat f) hf wf ik fd tch tp tl tk tb ta tv bad bo so ce) _ _ := X.eq modW_idP
        refine lv_goto (tgt := 57) hx hb dX12_slipOf_36 (by decide) ?_
        exact k_topi (x' := (oSlipOf f fd (nI k) (nI 1)).1) (by simp [oSlipOf, nl0, nl1, nl2, nl3, nl4, bad3, hx0, ek, c15, ew]) (fin () 57 _ _ _ trivial (X.eq (by simp [oSlipOf, nl0, nl1, nl2, nl3, nl4, bad3, hx0, ek, c15, ew])) dX12_slipOf_57)
      · refine lv_iload_n hx hb dX12_slipOf_25 rfl (lv_at hl 2 rfl) ?_
        refine lv_iconst (v := 3) hx hb dX12_slipOf_26 (by decide) ?_
        refine k_icmp_ge (x := 2) (y := 3) hx hb 39 dX12_slipOf_27 (by decide) (fun h => absurd h (by decide)) (fun _ => ?_)
        refine lv_aload_n hx hb dX12_slipOf_30 rfl (lv_at hl 0 rfl) ?_
        refine lv_iload_n hx hb dX12_slipOf_31 rfl (lv_at hl 1 rfl) ?_
        refine lv_iload_n hx hb dX12_slipOf_32 rfl (lv_at hl 2 rfl) ?_
        refine k_callV K X gv_X12_49 (As := [.int (nI k), .int 2]) (c_X12_it2 l E b hf wf ik fd tch tp tl tk tb ta tv bad bo so ce f k (by omega)) [0, 1, 2, 3, 4, 5, 6, 7, 8] modW_idC (by decide +kernel) (fun _ => modW_fst) 0 12 rfl rfl (by decide) rfl hl.1 (rest := []) rfl (Nat.le_of_ble_eq_true rfl) dX12_slipOf_33 (st1 := fun _ => [.int (f 3 k)]) (fun _ => rfl) (fun _ H locs _ X => ?_)
        have X : Wd E _ _ (modW E b (flat f) hf wf ik fd tch tp tl tk tb ta tv bad bo so ce) _ _ := X.eq modW_idP
        refine lv_goto (tgt := 57) hx hb dX12_slipOf_36 (by decide) ?_
        exact k_topi (x' := (oSlipOf f fd (nI k) (nI 2)).1) (by simp [oSlipOf, nl0, nl1, nl2, nl3, nl4, bad3, hx0, ek, c15, ew]) (fin () 57 _ _ _ trivial (X.eq (by simp [oSlipOf, nl0, nl1, nl2, nl3, nl4, bad3, hx0, ek, c15, ew])) dX12_slipOf_57)
      · refine lv_iload_n hx hb dX12_slipOf_25 rfl (lv_at hl 2 rfl) ?_
        refine lv_iconst (v := 3) hx hb dX12_slipOf_26 (by decide) ?_
        refine k_icmp_ge (x := 3) (y := 3) hx hb 39 dX12_slipOf_27 (by decide) (fun _ => ?_) (fun h => absurd h (by decide))
        refine lv_iload_n hx hb dX12_slipOf_39 rfl (lv_at hl 2 rfl) ?_
        refine lv_iconst (v := 3) hx hb dX12_slipOf_40 (by decide) ?_
        refine k_icmp_ne (x := 3) (y := 3) hx hb 52 dX12_slipOf_41 (by decide) (fun h => absurd h (by decide)) (fun _ => ?_)
        refine lv_aload_n hx hb dX12_slipOf_44 rfl (lv_at hl 0 rfl) ?_
        refine lv_iload_n hx hb dX12_slipOf_45 rfl (lv_at hl 1 rfl) ?_
        refine k_callV K X gv_X12_78 (As := [.int (nI k)]) (c_X12_happyWith l E b hf wf ik fd tch tp tl tk tb ta tv bad bo so ce f T k I (by omega)) [0, 1, 2, 3, 4, 5, 6, 7, 8] modW_idC (by decide +kernel) (fun _ => modW_fst) 0 12 rfl rfl (by decide) rfl hl.1 (rest := []) rfl (Nat.le_of_ble_eq_true rfl) dX12_slipOf_46 (st1 := fun _ => [.int (happyF f k)]) (fun _ => rfl) (fun _ H locs _ X => ?_)
        have X : Wd E _ _ (modW E b (flat f) hf wf ik fd tch tp tl tk tb ta tv bad bo so ce) _ _ := X.eq modW_idP
        refine lv_goto (tgt := 57) hx hb dX12_slipOf_49 (by decide) ?_
        exact k_topi (x' := (oSlipOf f fd (nI k) (nI 3)).1) (by simp [oSlipOf, nl0, nl1, nl2, nl3, nl4, bad3, hx0, ek, c15, ew]) (fin () 57 _ _ _ trivial (X.eq (by simp [oSlipOf, nl0, nl1, nl2, nl3, nl4, bad3, hx0, ek, c15, ew])) dX12_slipOf_57)
      · refine lv_iload_n hx hb dX12_slipOf_25 rfl (lv_at hl 2 rfl) ?_
        refine lv_iconst (v := 3) hx hb dX12_slipOf_26 (by decide) ?_
        refine k_icmp_ge (x := 4) (y := 3) hx hb 39 dX12_slipOf_27 (by decide) (fun _ => ?_) (fun h => absurd h (by decide))
        refine lv_iload_n hx hb dX12_slipOf_39 rfl (lv_at hl 2 rfl) ?_
        refine lv_iconst (v := 3) hx hb dX12_slipOf_40 (by decide) ?_
        refine k_icmp_ne (x := 4) (y := 3) hx hb 52 dX12_slipOf_41 (by decide) (fun _ => ?_) (fun h => absurd h (by decide))
        refine lv_aload_n hx hb dX12_slipOf_52 rfl (lv_at hl 0 rfl) ?_
        refine lv_iload_n hx hb dX12_slipOf_53 rfl (lv_at hl 1 rfl) ?_
        refine k_callV K X gv_X12_81 (As := [.int (nI k)]) (c_X12_wantMost l E b hf wf ik fd tch tp tl tk tb ta tv bad bo so ce f T k I (by omega)) [0, 1, 2, 3, 4, 5, 6, 7, 8] modW_idC (by decide +kernel) (fun _ => modW_fst) 0 12 rfl rfl (by decide) rfl hl.1 (rest := []) rfl (Nat.le_of_ble_eq_true rfl) dX12_slipOf_54 (st1 := fun _ => [.int (wantF f k)]) (fun _ => rfl) (fun _ H locs _ X => ?_)
        have X : Wd E _ _ (modW E b (flat f) hf wf ik fd tch tp tl tk tb ta tv bad bo so ce) _ _ := X.eq modW_idP
        exact k_topi (x' := (oSlipOf f fd (nI k) (nI 4)).1) (by simp [oSlipOf, nl0, nl1, nl2, nl3, nl4, bad3, hx0, ek, c15, ew]) (fin () 57 _ _ _ trivial (X.eq (by simp [oSlipOf, nl0, nl1, nl2, nl3, nl4, bad3, hx0, ek, c15, ew])) dX12_slipOf_57)
    · have hyn := inR_no4 c15
      refine lv_aload_n hx hb dX12_slipOf_18 rfl (lv_at hl 0 rfl) ?_
      refine lv_ldc (v := (-1000000001)) hx hb K.2.2.2.1 (K.2.2.2.2.1 _ (Mw_at 905 (by decide +kernel) (by decide +kernel))) dX12_slipOf_19 ?_
      refine k_topi (show (-1000000001 : Int32) = fnd 0 by decide) ?_
      refine k_callV K X gv_X12_37 (As := [.int (fnd 0)]) (c_X12_finds l E b (flat f) hf wf ik fd tch tp tl tk tb ta tv bad bo so ce 0 (by decide)) [0, 1, 2, 3, 4, 5, 6, 7, 8] modW_idC (by decide +kernel) (fun _ => modW_fst) 0 12 rfl rfl (by decide) rfl hl.1 (rest := []) rfl (Nat.le_of_ble_eq_true rfl) dX12_slipOf_21 (st1 := fun _ => [.int (fnd 0)]) (fun _ => rfl) (fun _ H locs _ X => ?_)
      have X : Wd E _ _ (modW E b (flat f) hf wf ik (fdU fd 0) tch tp tl tk tb ta tv bad bo so ce) _ _ := X.eq modW_idP
      exact k_topi (x' := (oSlipOf f fd (nI k) y).1) (by simp [oSlipOf, nl0, nl1, nl2, nl3, nl4, bad3, hx0, ek, c15, hyn]) (fin () 24 _ _ _ trivial (X.eq (by simp [oSlipOf, nl0, nl1, nl2, nl3, nl4, bad3, hx0, ek, c15, hyn])) dX12_slipOf_24)
set_option maxRecDepth 100000 in
set_option maxHeartbeats 4000000 in
theorem c_X12_stick (l : Launch) (E : EE) (b : Nat → Nat) (hf : Nat → Int32) (wf : Nat → Int32) (ik : Int32) (fd : Nat → Int32) (tch : Int32) (tp : Nat → Int32) (tl : Int32) (tk : Int32) (tb : Int32) (ta : Int32) (tv : Int32) (bad : Int32) (bo : Nat → Int32) (so : Nat → Int32) (ce : Nat → Int64) (f : St) (T : Nat) (x : Int32) (y : Int32) (z : Int32) (I : Inv T f) : Kd l yX12_stick cX12_stick 5 (some .int) 2 44 E (modW E b (flat f) hf wf ik fd tch tp tl tk tb ta tv bad bo so ce) [.ref (b 0), .int x, .int y, .int z] (some (.int ((oStick f fd x y z).1))) (modW E b (flat ((oStick f fd x y z).2.1)) hf wf ik ((oStick f fd x y z).2.2) tch tp tl tk tb ta tv bad bo so ce) := by
  refine Kn.ofWi (by decide +kernel) (Nat.le_of_ble_eq_true rfl) (fun _ _ => rfl) ?_
  intro pg ev s0 mm below meth cd Q K X fin ls hl
  have hx := K.1
  have hb := K.2.1
  have hs10 := I.s10
  have hp6 := I.p6
  have hl : lv_has ls 5 [(0, .ref (b 0)), (1, .int x), (2, .int y), (3, .int z)] := hl
  refine lv_aload_n hx hb dX12_stick_0 rfl (lv_at hl 0 rfl) ?_
  refine lv_iload_n hx hb dX12_stick_1 rfl (lv_at hl 1 rfl) ?_
  refine k_callV K X gv_X12_74 (As := [.int x]) (c_X12_isSlip l E b hf wf ik fd tch tp tl tk tb ta tv bad bo so ce f x) [0, 1, 2, 3, 4, 5, 6, 7, 8] modW_idC (by decide +kernel) (fun _ => modW_fst) 0 12 rfl rfl (by decide) rfl hl.1 (rest := []) rfl (Nat.le_of_ble_eq_true rfl) dX12_stick_2 (st1 := fun _ => [.int (b2i (inR x 0 (f 0 2 - 1)))]) (fun _ => rfl) (fun _ H locs _ X => ?_)
  have X : Wd E _ _ (modW E b (flat f) hf wf ik fd tch tp tl tk tb ta tv bad bo so ce) _ _ := X.eq modW_idP
  refine k_ifeqB (B := (inR x 0 (f 0 2 - 1))) hx hb 59 dX12_stick_5 (by decide) (fun c5 => ?_) (fun c5 => ?_)
  · have hx0 : isS f x = false := c5
    refine lv_iconst (v := 0) hx hb dX12_stick_59 (by decide) ?_
    refine lv_istore (lv' := [(4, .int 0), (0, .ref (b 0)), (1, .int x), (2, .int y), (3, .int z)]) hx hb dX12_stick_60 hl (by decide) rfl (fun ls hl => ?_)
    refine lv_iload hx hb dX12_stick_62 (lv_at hl 0 rfl) ?_
    refine k_if0eq hx hb 82 dX12_stick_64 (by decide) ?_
    refine lv_aload_n hx hb dX12_stick_82 rfl (lv_at hl 1 rfl) ?_
    refine lv_ldc (v := (-1000000001)) hx hb K.2.2.2.1 (K.2.2.2.2.1 _ (Mw_at 905 (by decide +kernel) (by decide +kernel))) dX12_stick_83 ?_
    refine k_topi (show (-1000000001 : Int32) = fnd 0 by decide) ?_
    refine k_callV K X gv_X12_37 (As := [.int (fnd 0)]) (c_X12_finds l E b (flat f) hf wf ik fd tch tp tl tk tb ta tv bad bo so ce 0 (by decide)) [0, 1, 2, 3, 4, 5, 6, 7, 8] modW_idC (by decide +kernel) (fun _ => modW_fst) 0 12 rfl rfl (by decide) rfl hl.1 (rest := []) rfl (Nat.le_of_ble_eq_true rfl) dX12_stick_85 (st1 := fun _ => [.int (fnd 0)]) (fun _ => rfl) (fun _ H locs _ X => ?_)
    have X : Wd E _ _ (modW E b (flat f) hf wf ik (fdU fd 0) tch tp tl tk tb ta tv bad bo so ce) _ _ := X.eq modW_idP
    exact k_topi (x' := (oStick f fd x y z).1) (by simp [oStick, nl0, nl1, nl2, nl3, nl4, bad3, hx0]) (fin () 88 _ _ _ trivial (X.eq (by simp [oStick, nl0, nl1, nl2, nl3, nl4, bad3, hx0])) dX12_stick_88)
  · have hx0 : isS f x = true := c5
    obtain ⟨k, hk, rfl⟩ := isS_nat I hx0
    have ek : (nI k).toNatClampNeg = k := nI_clamp (by omega)
    refine lv_iload_n hx hb dX12_stick_8 rfl (lv_at hl 2 rfl) ?_
    refine lv_i2l (v := y.toInt64) hx hb dX12_stick_9 rfl ?_
    refine lv_iconst (v := 0) hx hb dX12_stick_10 (by decide) ?_
    refine lv_iconst (v := 2) hx hb dX12_stick_11 (by decide) ?_
    refine k_callS K X gs_X12_41 (As := [.long y.toInt64, .int 0, .int 2]) (c_X12_in l E y 0 2) [] rfl (by decide +kernel) (fun _ => rfl) (by decide) rfl hl.1 (rest := []) rfl (Nat.le_of_ble_eq_true rfl) dX12_stick_12 (st1 := fun _ => [.int (b2i (inR y 0 2))]) (fun _ => rfl) (fun _ H locs _ X => ?_)
    have X : Wd E _ _ (modW E b (flat f) hf wf ik fd tch tp tl tk tb ta tv bad bo so ce) _ _ := X
    refine k_ifeqB (B := (inR y 0 2)) hx hb 59 dX12_stick_15 (by decide) (fun c15 => ?_) (fun c15 => ?_)
    · have hyn := inR_no2 c15
      refine lv_iconst (v := 0) hx hb dX12_stick_59 (by decide) ?_
      refine lv_istore (lv' := [(4, .int 0), (0, .ref (b 0)), (1, .int (nI k)), (2, .int y), (3, .int z)]) hx hb dX12_stick_60 hl (by decide) rfl (fun ls hl => ?_)
      refine lv_iload hx hb dX12_stick_62 (lv_at hl 0 rfl) ?_
      refine k_if0eq hx hb 82 dX12_stick_64 (by decide) ?_
      refine lv_aload_n hx hb dX12_stick_82 rfl (lv_at hl 1 rfl) ?_
      refine lv_ldc (v := (-1000000001)) hx hb K.2.2.2.1 (K.2.2.2.2.1 _ (Mw_at 905 (by decide +kernel) (by decide +kernel))) dX12_stick_83 ?_
      refine k_topi (show (-1000000001 : Int32) = fnd 0 by decide) ?_
      refine k_callV K X gv_X12_37 (As := [.int (fnd 0)]) (c_X12_finds l E b (flat f) hf wf ik fd tch tp tl tk tb ta tv bad bo so ce 0 (by decide)) [0, 1, 2, 3, 4, 5, 6, 7, 8] modW_idC (by decide +kernel) (fun _ => modW_fst) 0 12 rfl rfl (by decide) rfl hl.1 (rest := []) rfl (Nat.le_of_ble_eq_true rfl) dX12_stick_85 (st1 := fun _ => [.int (fnd 0)]) (fun _ => rfl) (fun _ H locs _ X => ?_)
      have X : Wd E _ _ (modW E b (flat f) hf wf ik (fdU fd 0) tch tp tl tk tb ta tv bad bo so ce) _ _ := X.eq modW_idP
      exact k_topi (x' := (oStick f fd (nI k) y z).1) (by simp [oStick, nl0, nl1, nl2, nl3, nl4, bad3, hx0, ek, c15, hyn]) (fin () 88 _ _ _ trivial (X.eq (by simp [oStick, nl0, nl1, nl2, nl3, nl4, bad3, hx0, ek, c15, hyn])) dX12_stick_88)
    · obtain ⟨w, hw, rfl, hwl, hwh⟩ := inR_nat (n := 3) (by decide) (by decide) c15
      have hwl : 0 ≤ w := by have h0 : ((0 : Int32).toInt) = 0 := (by decide); omega
      have ew : (nI w).toNatClampNeg = w := nI_clamp (by omega)
      rcases (show w = 0 ∨ w = 1 ∨ w = 2 by omega) with rfl | rfl | rfl
      · refine lv_iload_n hx hb dX12_stick_18 rfl (lv_at hl 3 rfl) ?_
        refine lv_i2l (v := z.toInt64) hx hb dX12_stick_19 rfl ?_
        refine lv_iload_n hx hb dX12_stick_20 rfl (lv_at hl 2 rfl) ?_
        refine k_if0ne hx hb dX12_stick_21 ⟨28, by decide⟩ ?_
        refine lv_iconst (v := (-1)) hx hb dX12_stick_24 (by decide) ?_
        refine lv_goto (tgt := 29) hx hb dX12_stick_25 (by decide) ?_
        refine lv_iload_n hx hb dX12_stick_29 rfl (lv_at hl 2 rfl) ?_
        refine k_if0ne hx hb dX12_stick_30 ⟨37, by decide⟩ ?_
        refine lv_iconst (v := 5) hx hb dX12_stick_33 (by decide) ?_
        refine lv_goto (tgt := 49) hx hb dX12_stick_34 (by decide) ?_
        refine k_callS K X gs_X12_41 (As := [.long z.toInt64, .int (-1), .int 5]) (c_X12_in l E z (-1) 5) [] rfl (by decide +kernel) (fun _ => rfl) (by decide) rfl hl.1 (rest := []) rfl (Nat.le_of_ble_eq_true rfl) dX12_stick_49 (st1 := fun _ => [.int (b2i (inR z (-1) 5))]) (fun _ => rfl) (fun _ H locs _ X => ?_)
        have X : Wd E _ _ (modW E b (flat f) hf wf ik fd tch tp tl tk tb ta tv bad bo so ce) _ _ := X
        refine k_ifeqB (B := (inR z (-1) 5)) hx hb 59 dX12_stick_52 (by decide) (fun c52 => ?_) (fun c52 => ?_)
        · refine lv_iconst (v := 0) hx hb dX12_stick_59 (by decide) ?_
          refine lv_istore (lv' := [(4, .int 0), (0, .ref (b 0)), (1, .int (nI k)), (2, .int 0), (3, .int z)]) hx hb dX12_stick_60 hl (by decide) rfl (fun ls hl => ?_)
          refine lv_iload hx hb dX12_stick_62 (lv_at hl 0 rfl) ?_
          refine k_if0eq hx hb 82 dX12_stick_64 (by decide) ?_
          refine lv_aload_n hx hb dX12_stick_82 rfl (lv_at hl 1 rfl) ?_
          refine lv_ldc (v := (-1000000001)) hx hb K.2.2.2.1 (K.2.2.2.2.1 _ (Mw_at 905 (by decide +kernel) (by decide +kernel))) dX12_stick_83 ?_
          refine k_topi (show (-1000000001 : Int32) = fnd 0 by decide) ?_
          refine k_callV K X gv_X12_37 (As := [.int (fnd 0)]) (c_X12_finds l E b (flat f) hf wf ik fd tch tp tl tk tb ta tv bad bo so ce 0 (by decide)) [0, 1, 2, 3, 4, 5, 6, 7, 8] modW_idC (by decide +kernel) (fun _ => modW_fst) 0 12 rfl rfl (by decide) rfl hl.1 (rest := []) rfl (Nat.le_of_ble_eq_true rfl) dX12_stick_85 (st1 := fun _ => [.int (fnd 0)]) (fun _ => rfl) (fun _ H locs _ X => ?_)
          have X : Wd E _ _ (modW E b (flat f) hf wf ik (fdU fd 0) tch tp tl tk tb ta tv bad bo so ce) _ _ := X.eq modW_idP
          exact k_topi (x' := (oStick f fd (nI k) (nI 0) z).1) (by simp [oStick, nl0, nl1, nl2, nl3, nl4, bad3, hx0, ek, c15, ew, c52]) (fin () 88 _ _ _ trivial (X.eq (by simp [oStick, nl0, nl1, nl2, nl3, nl4, bad3, hx0, ek, c15, ew, c52])) dX12_stick_88)
        · refine lv_iconst (v := 1) hx hb dX12_stick_55 (by decide) ?_
          refine lv_goto (tgt := 60) hx hb dX12_stick_56 (by decide) ?_
          refine lv_istore (lv' := [(4, .int 1), (0, .ref (b 0)), (1, .int (nI k)), (2, .int 0), (3, .int z)]) hx hb dX12_stick_60 hl (by decide) rfl (fun ls hl => ?_)
          refine lv_iload hx hb dX12_stick_62 (lv_at hl 0 rfl) ?_
          refine k_if1eq hx hb dX12_stick_64 ⟨82, by decide⟩ ?_
          refine lv_aload_n hx hb dX12_stick_67 rfl (lv_at hl 1 rfl) ?_
          refine lv_iconst (v := 4) hx hb dX12_stick_68 (by decide) ?_
          refine lv_iconst (v := 3) hx hb dX12_stick_69 (by decide) ?_
          refine lv_iload_n hx hb dX12_stick_70 rfl (lv_at hl 2 rfl) ?_
          refine lv_imul hx hb dX12_stick_71 ?_
          refine k_topi (pk_mul 3 k) ?_
          refine lv_iadd hx hb dX12_stick_72 ?_
          refine k_topi (nI_add 4 (3 * k)) ?_
          refine lv_iload_n hx hb dX12_stick_73 rfl (lv_at hl 3 rfl) ?_
          refine lv_iadd hx hb dX12_stick_74 ?_
          refine k_topi (nI_add (4 + 3 * k) 0) ?_
          refine lv_iload_n hx hb dX12_stick_75 rfl (lv_at hl 4 rfl) ?_
          refine k_callV K X gv_X12_63 (As := [.int (nI (4 + 3 * k + 0)), .int z]) (c_X12_becomes l E b (flat f) hf wf ik fd tch tp tl tk tb ta tv bad bo so ce (4 + 3 * k + 0) z (by omega)) [0, 1, 2, 3, 4, 5, 6, 7, 8] modW_idC (by decide +kernel) (fun _ => modW_fst) 0 12 rfl rfl (by decide) rfl hl.1 (rest := []) rfl (Nat.le_of_ble_eq_true rfl) dX12_stick_76 (st1 := fun _ => [.int ((flat f) (4 + 3 * k + 0))]) (fun _ => rfl) (fun _ H locs _ X => ?_)
          have X : Wd E _ _ (modW E b (upd (flat f) (4 + 3 * k + 0) z) hf wf ik fd tch tp tl tk tb ta tv bad bo so ce) _ _ := X.eq modW_idP
          have X : Wd E _ _ (modW E b (flat (up2 f 1 k z)) hf wf ik fd tch tp tl tk tb ta tv bad bo so ce) _ _ := X.eq (by rw [flat_slip _ _ (by omega) (by omega)])
          refine k_topi (show _ = f 1 k from flat_rS f (by omega) (w := 0) (by decide)) ?_
          refine lv_goto (tgt := 88) hx hb dX12_stick_79 (by decide) ?_
          exact k_topi (x' := (oStick f fd (nI k) (nI 0) z).1) (by simp [oStick, nl0, nl1, nl2, nl3, nl4, bad3, hx0, ek, c15, ew, c52]) (fin () 88 _ _ _ trivial (X.eq (by simp [oStick, nl0, nl1, nl2, nl3, nl4, bad3, hx0, ek, c15, ew, c52])) dX12_stick_88)
      · refine lv_iload_n hx hb dX12_stick_18 rfl (lv_at hl 3 rfl) ?_
        refine lv_i2l (v := z.toInt64) hx hb dX12_stick_19 rfl ?_
        refine lv_iload_n hx hb dX12_stick_20 rfl (lv_at hl 2 rfl) ?_
        refine k_if1ne hx hb 28 dX12_stick_21 (by decide) ?_
        refine lv_iconst (v := 0) hx hb dX12_stick_28 (by decide) ?_
        refine lv_iload_n hx hb dX12_stick_29 rfl (lv_at hl 2 rfl) ?_
        refine k_if1ne hx hb 37 dX12_stick_30 (by decide) ?_
        refine lv_iload_n hx hb dX12_stick_37 rfl (lv_at hl 2 rfl) ?_
        refine lv_iconst (v := 1) hx hb dX12_stick_38 (by decide) ?_
        refine k_icmp_ne (x := 1) (y := 1) hx hb 48 dX12_stick_39 (by decide) (fun h => absurd h (by decide)) (fun _ => ?_)
        refine lv_sipush (v := 999) hx hb dX12_stick_42 (by decide) ?_
        refine lv_goto (tgt := 49) hx hb dX12_stick_45 (by decide) ?_
        refine k_callS K X gs_X12_41 (As := [.long z.toInt64, .int 0, .int 999]) (c_X12_in l E z 0 999) [] rfl (by decide +kernel) (fun _ => rfl) (by decide) rfl hl.1 (rest := []) rfl (Nat.le_of_ble_eq_true rfl) dX12_stick_49 (st1 := fun _ => [.int (b2i (inR z 0 999))]) (fun _ => rfl) (fun _ H locs _ X => ?_)
        have X : Wd E _ _ (modW E b (flat f) hf wf ik fd tch tp tl tk tb ta tv bad bo so ce) _ _ := X
        refine k_ifeqB (B := (inR z 0 999)) hx hb 59 dX12_stick_52 (by decide) (fun c52 => ?_) (fun c52 => ?_)
        · refine lv_iconst (v := 0) hx hb dX12_stick_59 (by decide) ?_
          refine lv_istore (lv' := [(4, .int 0), (0, .ref (b 0)), (1, .int (nI k)), (2, .int 1), (3, .int z)]) hx hb dX12_stick_60 hl (by decide) rfl (fun ls hl => ?_)
          refine lv_iload hx hb dX12_stick_62 (lv_at hl 0 rfl) ?_
          refine k_if0eq hx hb 82 dX12_stick_64 (by decide) ?_
          refine lv_aload_n hx hb dX12_stick_82 rfl (lv_at hl 1 rfl) ?_
          refine lv_ldc (v := (-1000000001)) hx hb K.2.2.2.1 (K.2.2.2.2.1 _ (Mw_at 905 (by decide +kernel) (by decide +kernel))) dX12_stick_83 ?_
          refine k_topi (show (-1000000001 : Int32) = fnd 0 by decide) ?_
          refine k_callV K X gv_X12_37 (As := [.int (fnd 0)]) (c_X12_finds l E b (flat f) hf wf ik fd tch tp tl tk tb ta tv bad bo so ce 0 (by decide)) [0, 1, 2, 3, 4, 5, 6, 7, 8] modW_idC (by decide +kernel) (fun _ => modW_fst) 0 12 rfl rfl (by decide) rfl hl.1 (rest := []) rfl (Nat.le_of_ble_eq_true rfl) dX12_stick_85 (st1 := fun _ => [.int (fnd 0)]) (fun _ => rfl) (fun _ H locs _ X => ?_)
          have X : Wd E _ _ (modW E b (flat f) hf wf ik (fdU fd 0) tch tp tl tk tb ta tv bad bo so ce) _ _ := X.eq modW_idP
          exact k_topi (x' := (oStick f fd (nI k) (nI 1) z).1) (by simp [oStick, nl0, nl1, nl2, nl3, nl4, bad3, hx0, ek, c15, ew, c52]) (fin () 88 _ _ _ trivial (X.eq (by simp [oStick, nl0, nl1, nl2, nl3, nl4, bad3, hx0, ek, c15, ew, c52])) dX12_stick_88)
        · refine lv_iconst (v := 1) hx hb dX12_stick_55 (by decide) ?_
          refine lv_goto (tgt := 60) hx hb dX12_stick_56 (by decide) ?_
          refine lv_istore (lv' := [(4, .int 1), (0, .ref (b 0)), (1, .int (nI k)), (2, .int 1), (3, .int z)]) hx hb dX12_stick_60 hl (by decide) rfl (fun ls hl => ?_)
          refine lv_iload hx hb dX12_stick_62 (lv_at hl 0 rfl) ?_
          refine k_if1eq hx hb dX12_stick_64 ⟨82, by decide⟩ ?_
          refine lv_aload_n hx hb dX12_stick_67 rfl (lv_at hl 1 rfl) ?_
          refine lv_iconst (v := 4) hx hb dX12_stick_68 (by decide) ?_
          refine lv_iconst (v := 3) hx hb dX12_stick_69 (by decide) ?_
          refine lv_iload_n hx hb dX12_stick_70 rfl (lv_at hl 2 rfl) ?_
          refine lv_imul hx hb dX12_stick_71 ?_
          refine k_topi (pk_mul 3 k) ?_
          refine lv_iadd hx hb dX12_stick_72 ?_
          refine k_topi (nI_add 4 (3 * k)) ?_
          refine lv_iload_n hx hb dX12_stick_73 rfl (lv_at hl 3 rfl) ?_
          refine lv_iadd hx hb dX12_stick_74 ?_
          refine k_topi (nI_add (4 + 3 * k) 1) ?_
          refine lv_iload_n hx hb dX12_stick_75 rfl (lv_at hl 4 rfl) ?_
          refine k_callV K X gv_X12_63 (As := [.int (nI (4 + 3 * k + 1)), .int z]) (c_X12_becomes l E b (flat f) hf wf ik fd tch tp tl tk tb ta tv bad bo so ce (4 + 3 * k + 1) z (by omega)) [0, 1, 2, 3, 4, 5, 6, 7, 8] modW_idC (by decide +kernel) (fun _ => modW_fst) 0 12 rfl rfl (by decide) rfl hl.1 (rest := []) rfl (Nat.le_of_ble_eq_true rfl) dX12_stick_76 (st1 := fun _ => [.int ((flat f) (4 + 3 * k + 1))]) (fun _ => rfl) (fun _ H locs _ X => ?_)
          have X : Wd E _ _ (modW E b (upd (flat f) (4 + 3 * k + 1) z) hf wf ik fd tch tp tl tk tb ta tv bad bo so ce) _ _ := X.eq modW_idP
          have X : Wd E _ _ (modW E b (flat (up2 f 2 k z)) hf wf ik fd tch tp tl tk tb ta tv bad bo so ce) _ _ := X.eq (by rw [flat_slip _ _ (by omega) (by omega)])
          refine k_topi (show _ = f 2 k from flat_rS f (by omega) (w := 1) (by decide)) ?_
          refine lv_goto (tgt := 88) hx hb dX12_stick_79 (by decide) ?_
          exact k_topi (x' := (oStick f fd (nI k) (nI 1) z).1) (by simp [oStick, nl0, nl1, nl2, nl3, nl4, bad3, hx0, ek, c15, ew, c52]) (fin () 88 _ _ _ trivial (X.eq (by simp [oStick, nl0, nl1, nl2, nl3, nl4, bad3, hx0, ek, c15, ew, c52])) dX12_stick_88)
      · refine lv_iload_n hx hb dX12_stick_18 rfl (lv_at hl 3 rfl) ?_
        refine lv_i2l (v := z.toInt64) hx hb dX12_stick_19 rfl ?_
        refine lv_iload_n hx hb dX12_stick_20 rfl (lv_at hl 2 rfl) ?_
        refine k_if_ne hx hb 28 dX12_stick_21 (by decide) (fun _ => ?_) (fun h => absurd h (by decide))
        refine lv_iconst (v := 0) hx hb dX12_stick_28 (by decide) ?_
        refine lv_iload_n hx hb dX12_stick_29 rfl (lv_at hl 2 rfl) ?_
        refine k_if_ne hx hb 37 dX12_stick_30 (by decide) (fun _ => ?_) (fun h => absurd h (by decide))
        refine lv_iload_n hx hb dX12_stick_37 rfl (lv_at hl 2 rfl) ?_
        refine lv_iconst (v := 1) hx hb dX12_stick_38 (by decide) ?_
        refine k_icmp_ne (x := 2) (y := 1) hx hb 48 dX12_stick_39 (by decide) (fun _ => ?_) (fun h => absurd h (by decide))
        refine lv_iconst (v := 1) hx hb dX12_stick_48 (by decide) ?_
        refine k_callS K X gs_X12_41 (As := [.long z.toInt64, .int 0, .int 1]) (c_X12_in l E z 0 1) [] rfl (by decide +kernel) (fun _ => rfl) (by decide) rfl hl.1 (rest := []) rfl (Nat.le_of_ble_eq_true rfl) dX12_stick_49 (st1 := fun _ => [.int (b2i (inR z 0 1))]) (fun _ => rfl) (fun _ H locs _ X => ?_)
        have X : Wd E _ _ (modW E b (flat f) hf wf ik fd tch tp tl tk tb ta tv bad bo so ce) _ _ := X
        refine k_ifeqB (B := (inR z 0 1)) hx hb 59 dX12_stick_52 (by decide) (fun c52 => ?_) (fun c52 => ?_)
        · refine lv_iconst (v := 0) hx hb dX12_stick_59 (by decide) ?_
          refine lv_istore (lv' := [(4, .int 0), (0, .ref (b 0)), (1, .int (nI k)), (2, .int 2), (3, .int z)]) hx hb dX12_stick_60 hl (by decide) rfl (fun ls hl => ?_)
          refine lv_iload hx hb dX12_stick_62 (lv_at hl 0 rfl) ?_
          refine k_if0eq hx hb 82 dX12_stick_64 (by decide) ?_
          refine lv_aload_n hx hb dX12_stick_82 rfl (lv_at hl 1 rfl) ?_
          refine lv_ldc (v := (-1000000001)) hx hb K.2.2.2.1 (K.2.2.2.2.1 _ (Mw_at 905 (by decide +kernel) (by decide +kernel))) dX12_stick_83 ?_
          refine k_topi (show (-1000000001 : Int32) = fnd 0 by decide) ?_
          refine k_callV K X gv_X12_37 (As := [.int (fnd 0)]) (c_X12_finds l E b (flat f) hf wf ik fd tch tp tl tk tb ta tv bad bo so ce 0 (by decide)) [0, 1, 2, 3, 4, 5, 6, 7, 8] modW_idC (by decide +kernel) (fun _ => modW_fst) 0 12 rfl rfl (by decide) rfl hl.1 (rest := []) rfl (Nat.le_of_ble_eq_true rfl) dX12_stick_85 (st1 := fun _ => [.int (fnd 0)]) (fun _ => rfl) (fun _ H locs _ X => ?_)
          have X : Wd E _ _ (modW E b (flat f) hf wf ik (fdU fd 0) tch tp tl tk tb ta tv bad bo so ce) _ _ := X.eq modW_idP
          exact k_topi (x' := (oStick f fd (nI k) (nI 2) z).1) (by simp [oStick, nl0, nl1, nl2, nl3, nl4, bad3, hx0, ek, c15, ew, c52]) (fin () 88 _ _ _ trivial (X.eq (by simp [oStick, nl0, nl1, nl2, nl3, nl4, bad3, hx0, ek, c15, ew, c52])) dX12_stick_88)
        · refine lv_iconst (v := 1) hx hb dX12_stick_55 (by decide) ?_
          refine lv_goto (tgt := 60) hx hb dX12_stick_56 (by decide) ?_
          refine lv_istore (lv' := [(4, .int 1), (0, .ref (b 0)), (1, .int (nI k)), (2, .int 2), (3, .int z)]) hx hb dX12_stick_60 hl (by decide) rfl (fun ls hl => ?_)
          refine lv_iload hx hb dX12_stick_62 (lv_at hl 0 rfl) ?_
          refine k_if1eq hx hb dX12_stick_64 ⟨82, by decide⟩ ?_
          refine lv_aload_n hx hb dX12_stick_67 rfl (lv_at hl 1 rfl) ?_
          refine lv_iconst (v := 4) hx hb dX12_stick_68 (by decide) ?_
          refine lv_iconst (v := 3) hx hb dX12_stick_69 (by decide) ?_
          refine lv_iload_n hx hb dX12_stick_70 rfl (lv_at hl 2 rfl) ?_
          refine lv_imul hx hb dX12_stick_71 ?_
          refine k_topi (pk_mul 3 k) ?_
          refine lv_iadd hx hb dX12_stick_72 ?_
          refine k_topi (nI_add 4 (3 * k)) ?_
          refine lv_iload_n hx hb dX12_stick_73 rfl (lv_at hl 3 rfl) ?_
          refine lv_iadd hx hb dX12_stick_74 ?_
          refine k_topi (nI_add (4 + 3 * k) 2) ?_
          refine lv_iload_n hx hb dX12_stick_75 rfl (lv_at hl 4 rfl) ?_
          refine k_callV K X gv_X12_63 (As := [.int (nI (4 + 3 * k + 2)), .int z]) (c_X12_becomes l E b (flat f) hf wf ik fd tch tp tl tk tb ta tv bad bo so ce (4 + 3 * k + 2) z (by omega)) [0, 1, 2, 3, 4, 5, 6, 7, 8] modW_idC (by decide +kernel) (fun _ => modW_fst) 0 12 rfl rfl (by decide) rfl hl.1 (rest := []) rfl (Nat.le_of_ble_eq_true rfl) dX12_stick_76 (st1 := fun _ => [.int ((flat f) (4 + 3 * k + 2))]) (fun _ => rfl) (fun _ H locs _ X => ?_)
          have X : Wd E _ _ (modW E b (upd (flat f) (4 + 3 * k + 2) z) hf wf ik fd tch tp tl tk tb ta tv bad bo so ce) _ _ := X.eq modW_idP
          have X : Wd E _ _ (modW E b (flat (up2 f 3 k z)) hf wf ik fd tch tp tl tk tb ta tv bad bo so ce) _ _ := X.eq (by rw [flat_slip _ _ (by omega) (by omega)])
          refine k_topi (show _ = f 3 k from flat_rS f (by omega) (w := 2) (by decide)) ?_
          refine lv_goto (tgt := 88) hx hb dX12_stick_79 (by decide) ?_
          exact k_topi (x' := (oStick f fd (nI k) (nI 2) z).1) (by simp [oStick, nl0, nl1, nl2, nl3, nl4, bad3, hx0, ek, c15, ew, c52]) (fin () 88 _ _ _ trivial (X.eq (by simp [oStick, nl0, nl1, nl2, nl3, nl4, bad3, hx0, ek, c15, ew, c52])) dX12_stick_88)
set_option maxRecDepth 100000 in
set_option maxHeartbeats 4000000 in
theorem c_X12_group (l : Launch) (E : EE) (b : Nat → Nat) (hf : Nat → Int32) (wf : Nat → Int32) (ik : Int32) (fd : Nat → Int32) (tch : Int32) (tp : Nat → Int32) (tl : Int32) (tk : Int32) (tb : Int32) (ta : Int32) (tv : Int32) (bad : Int32) (bo : Nat → Int32) (so : Nat → Int32) (ce : Nat → Int64) (f : St) (T : Nat) (x : Int32) (I : Inv T f) : Kd l yX12_group cX12_group 2 (some .int) 2 45 E (modW E b (flat f) hf wf ik fd tch tp tl tk tb ta tv bad bo so ce) [.ref (b 0), .int x] (some (.int ((oGroup f fd x).1))) (modW E b (flat ((oGroup f fd x).2.1)) hf wf ik ((oGroup f fd x).2.2) tch tp tl tk tb ta tv bad bo so ce) := by
  refine Kn.ofWi (by decide +kernel) (Nat.le_of_ble_eq_true rfl) (fun _ _ => rfl) ?_
  intro pg ev s0 mm below meth cd Q K X fin ls hl
  have hx := K.1
  have hb := K.2.1
  have hs10 := I.s10
  have hp6 := I.p6
  have hl : lv_has ls 2 [(0, .ref (b 0)), (1, .int x)] := hl
  refine lv_iload_n hx hb dX12_group_0 rfl (lv_at hl 1 rfl) ?_
  refine lv_i2l (v := x.toInt64) hx hb dX12_group_1 rfl ?_
  refine lv_iconst (v := (-1)) hx hb dX12_group_2 (by decide) ?_
  refine lv_iconst (v := 5) hx hb dX12_group_3 (by decide) ?_
  refine k_callS K X gs_X12_41 (As := [.long x.toInt64, .int (-1), .int 5]) (c_X12_in l E x (-1) 5) [] rfl (by decide +kernel) (fun _ => rfl) (by decide) rfl hl.1 (rest := []) rfl (Nat.le_of_ble_eq_true rfl) dX12_group_4 (st1 := fun _ => [.int (b2i (inR x (-1) 5))]) (fun _ => rfl) (fun _ H locs _ X => ?_)
  have X : Wd E _ _ (modW E b (flat f) hf wf ik fd tch tp tl tk tb ta tv bad bo so ce) _ _ := X
  refine k_ifeqB (B := (inR x (-1) 5)) hx hb 18 dX12_group_7 (by decide) (fun c7 => ?_) (fun c7 => ?_)
  · refine lv_aload_n hx hb dX12_group_18 rfl (lv_at hl 0 rfl) ?_
    refine lv_ldc (v := (-1000000001)) hx hb K.2.2.2.1 (K.2.2.2.2.1 _ (Mw_at 905 (by decide +kernel) (by decide +kernel))) dX12_group_19 ?_
    refine k_topi (show (-1000000001 : Int32) = fnd 0 by decide) ?_
    refine k_callV K X gv_X12_37 (As := [.int (fnd 0)]) (c_X12_finds l E b (flat f) hf wf ik fd tch tp tl tk tb ta tv bad bo so ce 0 (by decide)) [0, 1, 2, 3, 4, 5, 6, 7, 8] modW_idC (by decide +kernel) (fun _ => modW_fst) 0 12 rfl rfl (by decide) rfl hl.1 (rest := []) rfl (Nat.le_of_ble_eq_true rfl) dX12_group_21 (st1 := fun _ => [.int (fnd 0)]) (fun _ => rfl) (fun _ H locs _ X => ?_)
    have X : Wd E _ _ (modW E b (flat f) hf wf ik (fdU fd 0) tch tp tl tk tb ta tv bad bo so ce) _ _ := X.eq modW_idP
    exact k_topi (x' := (oGroup f fd x).1) (by simp [oGroup, bad3, c7]) (fin () 24 _ _ _ trivial (X.eq (by simp [oGroup, bad3, c7])) dX12_group_24)
  · refine lv_aload_n hx hb dX12_group_10 rfl (lv_at hl 0 rfl) ?_
    refine lv_iload_n hx hb dX12_group_11 rfl (lv_at hl 1 rfl) ?_
    refine k_callV K X gv_X12_84 (As := [.int x]) (c_X12_slipsIn l E b hf wf ik fd tch tp tl tk tb ta tv bad bo so ce f T x I) [0, 1, 2, 3, 4, 5, 6, 7, 8] modW_idC (by decide +kernel) (fun _ => modW_fst) 0 12 rfl rfl (by decide) rfl hl.1 (rest := []) rfl (Nat.le_of_ble_eq_true rfl) dX12_group_12 (st1 := fun _ => [.int (inF f x)]) (fun _ => rfl) (fun _ H locs _ X => ?_)
    have X : Wd E _ _ (modW E b (flat f) hf wf ik fd tch tp tl tk tb ta tv bad bo so ce) _ _ := X.eq modW_idP
    refine lv_goto (tgt := 24) hx hb dX12_group_15 (by decide) ?_
    exact k_topi (x' := (oGroup f fd x).1) (by simp [oGroup, bad3, c7]) (fin () 24 _ _ _ trivial (X.eq (by simp [oGroup, bad3, c7])) dX12_group_24)
set_option maxRecDepth 100000 in
set_option maxHeartbeats 4000000 in
theorem c_X12_now (l : Launch) (E : EE) (b : Nat → Nat) (hf : Nat → Int32) (wf : Nat → Int32) (ik : Int32) (fd : Nat → Int32) (tch : Int32) (tp : Nat → Int32) (tl : Int32) (tk : Int32) (tb : Int32) (ta : Int32) (tv : Int32) (bad : Int32) (bo : Nat → Int32) (so : Nat → Int32) (ce : Nat → Int64) (f : St) (T : Nat) (x : Int32) (I : Inv T f) (hT : T < 1000000) : Kd l yX12_now cX12_now 2 (some .int) 3 67 E (modW E b (flat f) hf wf ik fd tch tp tl tk tb ta tv bad bo so ce) [.ref (b 0), .int x] (some (.int ((oNow f fd x).1))) (modW E b (flat ((oNow f fd x).2.1)) hf wf ik ((oNow f fd x).2.2) tch tp tl tk tb ta tv bad bo so ce) := by
  refine Kn.ofWi (by decide +kernel) (Nat.le_of_ble_eq_true rfl) (fun _ _ => rfl) ?_
  intro pg ev s0 mm below meth cd Q K X fin ls hl
  have hx := K.1
  have hb := K.2.1
  have hs10 := I.s10
  have hp6 := I.p6
  have hmT := I.mT
  have hl : lv_has ls 2 [(0, .ref (b 0)), (1, .int x)] := hl
  refine lv_iload_n hx hb dX12_now_0 rfl (lv_at hl 1 rfl) ?_
  by_cases c1_0 : x = 0
  · refine k_topi (x' := 0) c1_0 ?_
    subst c1_0
    refine lv_tableIn (off := 39) (tgt := 40) hx hb dX12_now_1 (by decide) (by decide) rfl (by decide) ?_
    refine lv_aload_n hx hb dX12_now_40 rfl (lv_at hl 0 rfl) ?_
    refine k_get K X 0 rfl fg_X12_9 (v := .ref (b 1)) rfl dX12_now_41 ?_
    refine lv_iconst (v := 0) hx hb dX12_now_44 (by decide) ?_
    refine lv_iload_n hx hb dX12_now_45 rfl (lv_at hl 1 rfl) ?_
    refine lv_iadd hx hb dX12_now_46 ?_
    refine k_topi (nI_add 0 0) ?_
    refine k_ialdN K X 1 rfl (k := 0 + 0) (by omega) (by decide) dX12_now_47 (v := (flat f) (0 + 0)) rfl ?_
    exact k_topi (x' := (oNow f fd 0).1) (by simp [oNow, whoF, tnF, I.hM, flat_z0, flat_z1, bad3]) (fin () 48 _ _ _ trivial (X.eq (by simp [oNow, whoF, tnF, I.hM, flat_z0, flat_z1, bad3])) dX12_now_48)
  · by_cases c1_1 : x = 1
    · refine k_topi (x' := 1) c1_1 ?_
      subst c1_1
      refine lv_tableIn (off := 39) (tgt := 40) hx hb dX12_now_1 (by decide) (by decide) rfl (by decide) ?_
      refine lv_aload_n hx hb dX12_now_40 rfl (lv_at hl 0 rfl) ?_
      refine k_get K X 0 rfl fg_X12_9 (v := .ref (b 1)) rfl dX12_now_41 ?_
      refine lv_iconst (v := 0) hx hb dX12_now_44 (by decide) ?_
      refine lv_iload_n hx hb dX12_now_45 rfl (lv_at hl 1 rfl) ?_
      refine lv_iadd hx hb dX12_now_46 ?_
      refine k_topi (nI_add 0 1) ?_
      refine k_ialdN K X 1 rfl (k := 0 + 1) (by omega) (by decide) dX12_now_47 (v := (flat f) (0 + 1)) rfl ?_
      exact k_topi (x' := (oNow f fd 1).1) (by simp [oNow, whoF, tnF, I.hM, flat_z0, flat_z1, bad3, c1_0]) (fin () 48 _ _ _ trivial (X.eq (by simp [oNow, whoF, tnF, I.hM, flat_z0, flat_z1, bad3, c1_0])) dX12_now_48)
    · by_cases c1_2 : x = 2
      · refine k_topi (x' := 2) c1_2 ?_
        refine lv_tableIn (off := 48) (tgt := 49) hx hb dX12_now_1 (by decide) (by decide) rfl (by decide) ?_
        refine lv_aload_n hx hb dX12_now_49 rfl (lv_at hl 0 rfl) ?_
        refine k_get K X 0 rfl fg_X12_9 (v := .ref (b 1)) rfl dX12_now_50 ?_
        refine lv_iconst (v := 3) hx hb dX12_now_53 (by decide) ?_
        refine k_ialdN K X 1 rfl (k := 3) (by omega) (by decide) dX12_now_54 (v := f 0 3) rfl ?_
        refine k_topi (I.hP) ?_
        refine kN0_ne (x := pe f) hx hb 62 dX12_now_55 (by decide) (by omega) (fun c55 => ?_) (fun c55 => ?_)
        · refine lv_aload_n hx hb dX12_now_62 rfl (lv_at hl 0 rfl) ?_
          refine k_get K X 0 rfl fg_X12_9 (v := .ref (b 1)) rfl dX12_now_63 ?_
          refine lv_iconst (v := 0) hx hb dX12_now_66 (by decide) ?_
          refine k_ialdN K X 1 rfl (k := 0) (by omega) (by decide) dX12_now_67 (v := f 0 0) rfl ?_
          refine k_topi (I.hM) ?_
          refine lv_aload_n hx hb dX12_now_68 rfl (lv_at hl 0 rfl) ?_
          refine k_get K X 0 rfl fg_X12_9 (v := .ref (b 1)) rfl dX12_now_69 ?_
          refine lv_iconst (v := 3) hx hb dX12_now_72 (by decide) ?_
          refine k_ialdN K X 1 rfl (k := 3) (by omega) (by decide) dX12_now_73 (v := f 0 3) rfl ?_
          refine k_topi (I.hP) ?_
          refine lv_irem hx hb dX12_now_74 (nI_ne0 (by omega) (by omega)) ?_
          refine k_topi (pk_rem (a := mn f) (d := pe f) (by omega) (by omega) (by omega)) ?_
          exact k_topi (x' := (oNow f fd x).1) (by simp [oNow, whoF, tnF, I.hM, flat_z0, flat_z1, bad3, c1_0, c1_1, c1_2, c55]) (fin () 75 _ _ _ trivial (X.eq (by simp [oNow, whoF, tnF, I.hM, flat_z0, flat_z1, bad3, c1_0, c1_1, c1_2, c55])) dX12_now_75)
        · refine lv_iconst (v := (-1)) hx hb dX12_now_58 (by decide) ?_
          refine lv_goto (tgt := 75) hx hb dX12_now_59 (by decide) ?_
          exact k_topi (x' := (oNow f fd x).1) (by simp [oNow, whoF, tnF, I.hM, flat_z0, flat_z1, bad3, c1_0, c1_1, c1_2, c55]) (fin () 75 _ _ _ trivial (X.eq (by simp [oNow, whoF, tnF, I.hM, flat_z0, flat_z1, bad3, c1_0, c1_1, c1_2, c55])) dX12_now_75)
      · by_cases c1_3 : x = 3
        · refine k_topi (x' := 3) c1_3 ?_
          refine lv_tableIn (off := 75) (tgt := 76) hx hb dX12_now_1 (by decide) (by decide) rfl (by decide) ?_
          refine lv_aload_n hx hb dX12_now_76 rfl (lv_at hl 0 rfl) ?_
          refine k_callV K X gv_X12_87 (As := []) (c_X12_groupsHad l E b hf wf ik fd tch tp tl tk tb ta tv bad bo so ce f T I) [0, 1, 2, 3, 4, 5, 6, 7, 8] modW_idC (by decide +kernel) (fun _ => modW_fst) 0 12 rfl rfl (by decide) rfl hl.1 (rest := []) rfl (Nat.le_of_ble_eq_true rfl) dX12_now_77 (st1 := fun _ => [.int (groupsF f)]) (fun _ => rfl) (fun _ H locs _ X => ?_)
          have X : Wd E _ _ (modW E b (flat f) hf wf ik fd tch tp tl tk tb ta tv bad bo so ce) _ _ := X.eq modW_idP
          exact k_topi (x' := (oNow f fd x).1) (by simp [oNow, whoF, tnF, I.hM, flat_z0, flat_z1, bad3, c1_0, c1_1, c1_2, c1_3]) (fin () 80 _ _ _ trivial (X.eq (by simp [oNow, whoF, tnF, I.hM, flat_z0, flat_z1, bad3, c1_0, c1_1, c1_2, c1_3])) dX12_now_80)
        · by_cases c1_4 : x = 4
          · refine k_topi (x' := 4) c1_4 ?_
            refine lv_tableIn (off := 80) (tgt := 81) hx hb dX12_now_1 (by decide) (by decide) rfl (by decide) ?_
            refine lv_aload_n hx hb dX12_now_81 rfl (lv_at hl 0 rfl) ?_
            refine k_callV K X gv_X12_91 (As := []) (c_X12_fixedOnes l E b hf wf ik fd tch tp tl tk tb ta tv bad bo so ce f T I) [0, 1, 2, 3, 4, 5, 6, 7, 8] modW_idC (by decide +kernel) (fun _ => modW_fst) 0 12 rfl rfl (by decide) rfl hl.1 (rest := []) rfl (Nat.le_of_ble_eq_true rfl) dX12_now_82 (st1 := fun _ => [.int (fixedF f)]) (fun _ => rfl) (fun _ H locs _ X => ?_)
            have X : Wd E _ _ (modW E b (flat f) hf wf ik fd tch tp tl tk tb ta tv bad bo so ce) _ _ := X.eq modW_idP
            exact k_topi (x' := (oNow f fd x).1) (by simp [oNow, whoF, tnF, I.hM, flat_z0, flat_z1, bad3, c1_0, c1_1, c1_2, c1_3, c1_4]) (fin () 85 _ _ _ trivial (X.eq (by simp [oNow, whoF, tnF, I.hM, flat_z0, flat_z1, bad3, c1_0, c1_1, c1_2, c1_3, c1_4])) dX12_now_85)
          · by_cases c1_5 : x = 5
            · refine k_topi (x' := 5) c1_5 ?_
              refine lv_tableIn (off := 85) (tgt := 86) hx hb dX12_now_1 (by decide) (by decide) rfl (by decide) ?_
              refine lv_aload_n hx hb dX12_now_86 rfl (lv_at hl 0 rfl) ?_
              refine k_callV K X gv_X12_94 (As := []) (c_X12_allMoved l E b hf wf ik fd tch tp tl tk tb ta tv bad bo so ce f T I) [0, 1, 2, 3, 4, 5, 6, 7, 8] modW_idC (by decide +kernel) (fun _ => modW_fst) 0 12 rfl rfl (by decide) rfl hl.1 (rest := []) rfl (Nat.le_of_ble_eq_true rfl) dX12_now_87 (st1 := fun _ => [.int (allF f)]) (fun _ => rfl) (fun _ H locs _ X => ?_)
              have X : Wd E _ _ (modW E b (flat f) hf wf ik fd tch tp tl tk tb ta tv bad bo so ce) _ _ := X.eq modW_idP
              exact k_topi (x' := (oNow f fd x).1) (by simp [oNow, whoF, tnF, I.hM, flat_z0, flat_z1, bad3, c1_0, c1_1, c1_2, c1_3, c1_4, c1_5]) (fin () 90 _ _ _ trivial (X.eq (by simp [oNow, whoF, tnF, I.hM, flat_z0, flat_z1, bad3, c1_0, c1_1, c1_2, c1_3, c1_4, c1_5])) dX12_now_90)
            · refine lv_tableOut (tgt := 91) hx hb dX12_now_1 (by have h0 := sw_ne (n := 0) (by decide) c1_0; have h1 := sw_ne (n := 1) (by decide) c1_1; have h2 := sw_ne (n := 2) (by decide) c1_2; have h3 := sw_ne (n := 3) (by decide) c1_3; have h4 := sw_ne (n := 4) (by decide) c1_4; have h5 := sw_ne (n := 5) (by decide) c1_5; omega) (by decide) ?_
              refine lv_aload_n hx hb dX12_now_91 rfl (lv_at hl 0 rfl) ?_
              refine lv_ldc (v := (-1000000001)) hx hb K.2.2.2.1 (K.2.2.2.2.1 _ (Mw_at 905 (by decide +kernel) (by decide +kernel))) dX12_now_92 ?_
              refine k_topi (show (-1000000001 : Int32) = fnd 0 by decide) ?_
              refine k_callV K X gv_X12_37 (As := [.int (fnd 0)]) (c_X12_finds l E b (flat f) hf wf ik fd tch tp tl tk tb ta tv bad bo so ce 0 (by decide)) [0, 1, 2, 3, 4, 5, 6, 7, 8] modW_idC (by decide +kernel) (fun _ => modW_fst) 0 12 rfl rfl (by decide) rfl hl.1 (rest := []) rfl (Nat.le_of_ble_eq_true rfl) dX12_now_94 (st1 := fun _ => [.int (fnd 0)]) (fun _ => rfl) (fun _ H locs _ X => ?_)
              have X : Wd E _ _ (modW E b (flat f) hf wf ik (fdU fd 0) tch tp tl tk tb ta tv bad bo so ce) _ _ := X.eq modW_idP
              exact k_topi (x' := (oNow f fd x).1) (by simp [oNow, whoF, tnF, I.hM, flat_z0, flat_z1, bad3, c1_0, c1_1, c1_2, c1_3, c1_4, c1_5]) (fin () 97 _ _ _ trivial (X.eq (by simp [oNow, whoF, tnF, I.hM, flat_z0, flat_z1, bad3, c1_0, c1_1, c1_2, c1_3, c1_4, c1_5])) dX12_now_97)
set_option maxRecDepth 100000 in
set_option maxHeartbeats 4000000 in
theorem c_X12_person (l : Launch) (E : EE) (b : Nat → Nat) (hf : Nat → Int32) (wf : Nat → Int32) (ik : Int32) (fd : Nat → Int32) (tch : Int32) (tp : Nat → Int32) (tl : Int32) (tk : Int32) (tb : Int32) (ta : Int32) (tv : Int32) (bad : Int32) (bo : Nat → Int32) (so : Nat → Int32) (ce : Nat → Int64) (f : St) (T : Nat) (x : Int32) (I : Inv T f) : Kd l yX12_person cX12_person 2 (some .int) 1 23 E (modW E b (flat f) hf wf ik fd tch tp tl tk tb ta tv bad bo so ce) [.ref (b 0), .int x] (some (.int ((oPerson f fd x).1))) (modW E b (flat ((oPerson f fd x).2.1)) hf wf ik ((oPerson f fd x).2.2) tch tp tl tk tb ta tv bad bo so ce) := by
  refine Kn.ofWi (by decide +kernel) (Nat.le_of_ble_eq_true rfl) (fun _ _ => rfl) ?_
  intro pg ev s0 mm below meth cd Q K X fin ls hl
  have hx := K.1
  have hb := K.2.1
  have hs10 := I.s10
  have hp6 := I.p6
  have hl : lv_has ls 2 [(0, .ref (b 0)), (1, .int x)] := hl
  refine lv_iload_n hx hb dX12_person_0 rfl (lv_at hl 1 rfl) ?_
  refine lv_i2l (v := x.toInt64) hx hb dX12_person_1 rfl ?_
  refine lv_iconst (v := 0) hx hb dX12_person_2 (by decide) ?_
  refine lv_iconst (v := 5) hx hb dX12_person_3 (by decide) ?_
  refine k_callS K X gs_X12_41 (As := [.long x.toInt64, .int 0, .int 5]) (c_X12_in l E x 0 5) [] rfl (by decide +kernel) (fun _ => rfl) (by decide) rfl hl.1 (rest := []) rfl (Nat.le_of_ble_eq_true rfl) dX12_person_4 (st1 := fun _ => [.int (b2i (inR x 0 5))]) (fun _ => rfl) (fun _ H locs _ X => ?_)
  have X : Wd E _ _ (modW E b (flat f) hf wf ik fd tch tp tl tk tb ta tv bad bo so ce) _ _ := X
  refine k_ifneB (B := (inR x 0 5)) hx hb 17 dX12_person_7 (by decide) (fun c7 => ?_) (fun c7 => ?_)
  · refine lv_aload_n hx hb dX12_person_17 rfl (lv_at hl 0 rfl) ?_
    refine k_get K X 0 rfl fg_X12_9 (v := .ref (b 1)) rfl dX12_person_18 ?_
    refine lv_iconst (v := 3) hx hb dX12_person_21 (by decide) ?_
    refine k_ialdN K X 1 rfl (k := 3) (by omega) (by decide) dX12_person_22 (v := f 0 3) rfl ?_
    refine k_topi (I.hP) ?_
    refine lv_bipush (v := 6) hx hb dX12_person_23 (by decide) ?_
    refine kN_ne (x := pe f) (y := 6) hx hb 37 dX12_person_25 (by decide) (by omega) (by omega) (fun c25 => ?_) (fun c25 => ?_)
    · have hb1 : decide (pe f < 6) = true := by simp; omega
      refine lv_aload_n hx hb dX12_person_37 rfl (lv_at hl 0 rfl) ?_
      refine lv_iload_n hx hb dX12_person_38 rfl (lv_at hl 1 rfl) ?_
      refine k_callV K X gv_X12_97 (As := [.int x]) (c_X12_comesAs l E b hf wf ik fd tch tp tl tk tb ta tv bad bo so ce f T x I (by omega)) [0, 1, 2, 3, 4, 5, 6, 7, 8] modW_idC (by decide +kernel) (fun _ => modW_fst) 0 12 rfl rfl (by decide) rfl hl.1 (rest := []) rfl (Nat.le_of_ble_eq_true rfl) dX12_person_39 (st1 := fun _ => [.int (nI (pe f))]) (fun _ => rfl) (fun _ H locs _ X => ?_)
      have X : Wd E _ _ (modW E b (flat (addP f x)) hf wf ik fd tch tp tl tk tb ta tv bad bo so ce) _ _ := X.eq modW_idP
      exact k_topi (x' := (oPerson f fd x).1) (by simp [oPerson, bad3, c7, hb1]) (fin () 42 _ _ _ trivial (X.eq (by simp [oPerson, bad3, c7, hb1])) dX12_person_42)
    · have hb1 : decide (pe f < 6) = false := by simp; omega
      refine lv_aload_n hx hb dX12_person_28 rfl (lv_at hl 0 rfl) ?_
      refine lv_ldc (v := (-1000000002)) hx hb K.2.2.2.1 (K.2.2.2.2.1 _ (Mw_at 914 (by decide +kernel) (by decide +kernel))) dX12_person_29 ?_
      refine k_topi (show (-1000000002 : Int32) = fnd 1 by decide) ?_
      refine k_callV K X gv_X12_37 (As := [.int (fnd 1)]) (c_X12_finds l E b (flat f) hf wf ik fd tch tp tl tk tb ta tv bad bo so ce 1 (by decide)) [0, 1, 2, 3, 4, 5, 6, 7, 8] modW_idC (by decide +kernel) (fun _ => modW_fst) 0 12 rfl rfl (by decide) rfl hl.1 (rest := []) rfl (Nat.le_of_ble_eq_true rfl) dX12_person_31 (st1 := fun _ => [.int (fnd 1)]) (fun _ => rfl) (fun _ H locs _ X => ?_)
      have X : Wd E _ _ (modW E b (flat f) hf wf ik (fdU fd 1) tch tp tl tk tb ta tv bad bo so ce) _ _ := X.eq modW_idP
      refine lv_goto (tgt := 42) hx hb dX12_person_34 (by decide) ?_
      exact k_topi (x' := (oPerson f fd x).1) (by simp [oPerson, bad3, c7, hb1]) (fin () 42 _ _ _ trivial (X.eq (by simp [oPerson, bad3, c7, hb1])) dX12_person_42)
  · refine lv_aload_n hx hb dX12_person_10 rfl (lv_at hl 0 rfl) ?_
    refine lv_ldc (v := (-1000000001)) hx hb K.2.2.2.1 (K.2.2.2.2.1 _ (Mw_at 905 (by decide +kernel) (by decide +kernel))) dX12_person_11 ?_
    refine k_topi (show (-1000000001 : Int32) = fnd 0 by decide) ?_
    refine k_callV K X gv_X12_37 (As := [.int (fnd 0)]) (c_X12_finds l E b (flat f) hf wf ik fd tch tp tl tk tb ta tv bad bo so ce 0 (by decide)) [0, 1, 2, 3, 4, 5, 6, 7, 8] modW_idC (by decide +kernel) (fun _ => modW_fst) 0 12 rfl rfl (by decide) rfl hl.1 (rest := []) rfl (Nat.le_of_ble_eq_true rfl) dX12_person_13 (st1 := fun _ => [.int (fnd 0)]) (fun _ => rfl) (fun _ H locs _ X => ?_)
    have X : Wd E _ _ (modW E b (flat f) hf wf ik (fdU fd 0) tch tp tl tk tb ta tv bad bo so ce) _ _ := X.eq modW_idP
    exact k_topi (x' := (oPerson f fd x).1) (by simp [oPerson, bad3, c7]) (fin () 16 _ _ _ trivial (X.eq (by simp [oPerson, bad3, c7])) dX12_person_16)
set_option maxRecDepth 100000 in
set_option maxHeartbeats 4000000 in
theorem c_X12_of (l : Launch) (E : EE) (b : Nat → Nat) (hf : Nat → Int32) (wf : Nat → Int32) (ik : Int32) (fd : Nat → Int32) (tch : Int32) (tp : Nat → Int32) (tl : Int32) (tk : Int32) (tb : Int32) (ta : Int32) (tv : Int32) (bad : Int32) (bo : Nat → Int32) (so : Nat → Int32) (ce : Nat → Int64) (f : St) (T : Nat) (x : Int32) (y : Int32) (I : Inv T f) : Kd l yX12_of cX12_of 3 (some .int) 3 71 E (modW E b (flat f) hf wf ik fd tch tp tl tk tb ta tv bad bo so ce) [.ref (b 0), .int x, .int y] (some (.int ((oOf f fd x y).1))) (modW E b (flat ((oOf f fd x y).2.1)) hf wf ik ((oOf f fd x y).2.2) tch tp tl tk tb ta tv bad bo so ce) := by
  refine Kn.ofWi (by decide +kernel) (Nat.le_of_ble_eq_true rfl) (fun _ _ => rfl) ?_
  intro pg ev s0 mm below meth cd Q K X fin ls hl
  have hx := K.1
  have hb := K.2.1
  have hs10 := I.s10
  have hp6 := I.p6
  have hl : lv_has ls 3 [(0, .ref (b 0)), (1, .int x), (2, .int y)] := hl
  refine lv_aload_n hx hb dX12_of_0 rfl (lv_at hl 0 rfl) ?_
  refine lv_iload_n hx hb dX12_of_1 rfl (lv_at hl 1 rfl) ?_
  refine k_callV K X gv_X12_100 (As := [.int x]) (c_X12_isPerson l E b hf wf ik fd tch tp tl tk tb ta tv bad bo so ce f x) [0, 1, 2, 3, 4, 5, 6, 7, 8] modW_idC (by decide +kernel) (fun _ => modW_fst) 0 12 rfl rfl (by decide) rfl hl.1 (rest := []) rfl (Nat.le_of_ble_eq_true rfl) dX12_of_2 (st1 := fun _ => [.int (b2i (inR x 0 (f 0 3 - 1)))]) (fun _ => rfl) (fun _ H locs _ X => ?_)
  have X : Wd E _ _ (modW E b (flat f) hf wf ik fd tch tp tl tk tb ta tv bad bo so ce) _ _ := X.eq modW_idP
  refine k_ifneB (B := (inR x 0 (f 0 3 - 1))) hx hb 15 dX12_of_5 (by decide) (fun c5 => ?_) (fun c5 => ?_)
  · have hx0 : isP f x = true := c5
    obtain ⟨k, hk, rfl⟩ := isP_nat I hx0
    have ek : (nI k).toNatClampNeg = k := nI_clamp (by omega)
    refine lv_iload_n hx hb dX12_of_15 rfl (lv_at hl 2 rfl) ?_
    by_cases c16_0 : y = 0
    · refine k_topi (x' := 0) c16_0 ?_
      subst c16_0
      refine lv_tableIn (off := 36) (tgt := 52) hx hb dX12_of_16 (by decide) (by decide) rfl (by decide) ?_
      refine lv_aload_n hx hb dX12_of_52 rfl (lv_at hl 0 rfl) ?_
      refine lv_iload_n hx hb dX12_of_53 rfl (lv_at hl 1 rfl) ?_
      refine lv_iload_n hx hb dX12_of_54 rfl (lv_at hl 2 rfl) ?_
      refine k_callV K X gv_X12_45 (As := [.int (nI k), .int 0]) (c_X12_who0 l E b hf wf ik fd tch tp tl tk tb ta tv bad bo so ce f k (by omega)) [0, 1, 2, 3, 4, 5, 6, 7, 8] modW_idC (by decide +kernel) (fun _ => modW_fst) 0 12 rfl rfl (by decide) rfl hl.1 (rest := []) rfl (Nat.le_of_ble_eq_true rfl) dX12_of_55 (st1 := fun _ => [.int (f 4 k)]) (fun _ => rfl) (fun _ H locs _ X => ?_)
      have X : Wd E _ _ (modW E b (flat f) hf wf ik fd tch tp tl tk tb ta tv bad bo so ce) _ _ := X.eq modW_idP
      exact k_topi (x' := (oOf f fd (nI k) 0).1) (by simp [oOf, bad3, hx0, ek]) (fin () 58 _ _ _ trivial (X.eq (by simp [oOf, bad3, hx0, ek])) dX12_of_58)
    · by_cases c16_1 : y = 1
      · refine k_topi (x' := 1) c16_1 ?_
        subst c16_1
        refine lv_tableIn (off := 36) (tgt := 52) hx hb dX12_of_16 (by decide) (by decide) rfl (by decide) ?_
        refine lv_aload_n hx hb dX12_of_52 rfl (lv_at hl 0 rfl) ?_
        refine lv_iload_n hx hb dX12_of_53 rfl (lv_at hl 1 rfl) ?_
        refine lv_iload_n hx hb dX12_of_54 rfl (lv_at hl 2 rfl) ?_
        refine k_callV K X gv_X12_45 (As := [.int (nI k), .int 1]) (c_X12_who1 l E b hf wf ik fd tch tp tl tk tb ta tv bad bo so ce f k (by omega)) [0, 1, 2, 3, 4, 5, 6, 7, 8] modW_idC (by decide +kernel) (fun _ => modW_fst) 0 12 rfl rfl (by decide) rfl hl.1 (rest := []) rfl (Nat.le_of_ble_eq_true rfl) dX12_of_55 (st1 := fun _ => [.int (f 5 k)]) (fun _ => rfl) (fun _ H locs _ X => ?_)
        have X : Wd E _ _ (modW E b (flat f) hf wf ik fd tch tp tl tk tb ta tv bad bo so ce) _ _ := X.eq modW_idP
        exact k_topi (x' := (oOf f fd (nI k) 1).1) (by simp [oOf, bad3, hx0, ek, c16_0]) (fin () 58 _ _ _ trivial (X.eq (by simp [oOf, bad3, hx0, ek, c16_0])) dX12_of_58)
      · by_cases c16_2 : y = 2
        · refine k_topi (x' := 2) c16_2 ?_
          refine lv_tableIn (off := 43) (tgt := 59) hx hb dX12_of_16 (by decide) (by decide) rfl (by decide) ?_
          refine lv_aload_n hx hb dX12_of_59 rfl (lv_at hl 0 rfl) ?_
          refine lv_iload_n hx hb dX12_of_60 rfl (lv_at hl 1 rfl) ?_
          refine k_callV K X gv_X12_103 (As := [.int (nI k)]) (c_X12_wayOf l E b hf wf ik fd tch tp tl tk tb ta tv bad bo so ce f T k I (by omega)) [0, 1, 2, 3, 4, 5, 6, 7, 8] modW_idC (by decide +kernel) (fun _ => modW_fst) 0 12 rfl rfl (by decide) rfl hl.1 (rest := []) rfl (Nat.le_of_ble_eq_true rfl) dX12_of_61 (st1 := fun _ => [.int (wayF f k)]) (fun _ => rfl) (fun _ H locs _ X => ?_)
          have X : Wd E _ _ (modW E b (flat f) hf wf ik fd tch tp tl tk tb ta tv bad bo so ce) _ _ := X.eq modW_idP
          exact k_topi (x' := (oOf f fd (nI k) y).1) (by simp [oOf, bad3, hx0, ek, c16_0, c16_1, c16_2]) (fin () 64 _ _ _ trivial (X.eq (by simp [oOf, bad3, hx0, ek, c16_0, c16_1, c16_2])) dX12_of_64)
        · by_cases c16_3 : y = 3
          · refine k_topi (x' := 3) c16_3 ?_
            refine lv_tableIn (off := 49) (tgt := 65) hx hb dX12_of_16 (by decide) (by decide) rfl (by decide) ?_
            refine lv_aload_n hx hb dX12_of_65 rfl (lv_at hl 0 rfl) ?_
            refine lv_iload_n hx hb dX12_of_66 rfl (lv_at hl 1 rfl) ?_
            refine k_callV K X gv_X12_106 (As := [.int (nI k)]) (c_X12_picked l E b hf wf ik fd tch tp tl tk tb ta tv bad bo so ce f T k I (by omega)) [0, 1, 2, 3, 4, 5, 6, 7, 8] modW_idC (by decide +kernel) (fun _ => modW_fst) 0 12 rfl rfl (by decide) rfl hl.1 (rest := []) rfl (Nat.le_of_ble_eq_true rfl) dX12_of_67 (st1 := fun _ => [.int (pickF f k)]) (fun _ => rfl) (fun _ H locs _ X => ?_)
            have X : Wd E _ _ (modW E b (flat f) hf wf ik fd tch tp tl tk tb ta tv bad bo so ce) _ _ := X.eq modW_idP
            exact k_topi (x' := (oOf f fd (nI k) y).1) (by simp [oOf, bad3, hx0, ek, c16_0, c16_1, c16_2, c16_3]) (fin () 70 _ _ _ trivial (X.eq (by simp [oOf, bad3, hx0, ek, c16_0, c16_1, c16_2, c16_3])) dX12_of_70)
          · by_cases c16_4 : y = 4
            · refine k_topi (x' := 4) c16_4 ?_
              refine lv_tableIn (off := 55) (tgt := 71) hx hb dX12_of_16 (by decide) (by decide) rfl (by decide) ?_
              refine lv_aload_n hx hb dX12_of_71 rfl (lv_at hl 0 rfl) ?_
              refine lv_iload_n hx hb dX12_of_72 rfl (lv_at hl 1 rfl) ?_
              refine k_callV K X gv_X12_109 (As := [.int (nI k)]) (c_X12_turnsOf l E b hf wf ik fd tch tp tl tk tb ta tv bad bo so ce f T k I (by omega)) [0, 1, 2, 3, 4, 5, 6, 7, 8] modW_idC (by decide +kernel) (fun _ => modW_fst) 0 12 rfl rfl (by decide) rfl hl.1 (rest := []) rfl (Nat.le_of_ble_eq_true rfl) dX12_of_73 (st1 := fun _ => [.int (nI (turnS (kn f k)))]) (fun _ => rfl) (fun _ H locs _ X => ?_)
              have X : Wd E _ _ (modW E b (flat f) hf wf ik fd tch tp tl tk tb ta tv bad bo so ce) _ _ := X.eq modW_idP
              exact k_topi (x' := (oOf f fd (nI k) y).1) (by simp [oOf, bad3, hx0, ek, c16_0, c16_1, c16_2, c16_3, c16_4]) (fin () 76 _ _ _ trivial (X.eq (by simp [oOf, bad3, hx0, ek, c16_0, c16_1, c16_2, c16_3, c16_4])) dX12_of_76)
            · refine lv_tableOut (tgt := 77) hx hb dX12_of_16 (by have h0 := sw_ne (n := 0) (by decide) c16_0; have h1 := sw_ne (n := 1) (by decide) c16_1; have h2 := sw_ne (n := 2) (by decide) c16_2; have h3 := sw_ne (n := 3) (by decide) c16_3; have h4 := sw_ne (n := 4) (by decide) c16_4; omega) (by decide) ?_
              refine lv_aload_n hx hb dX12_of_77 rfl (lv_at hl 0 rfl) ?_
              refine lv_ldc (v := (-1000000001)) hx hb K.2.2.2.1 (K.2.2.2.2.1 _ (Mw_at 905 (by decide +kernel) (by decide +kernel))) dX12_of_78 ?_
              refine k_topi (show (-1000000001 : Int32) = fnd 0 by decide) ?_
              refine k_callV K X gv_X12_37 (As := [.int (fnd 0)]) (c_X12_finds l E b (flat f) hf wf ik fd tch tp tl tk tb ta tv bad bo so ce 0 (by decide)) [0, 1, 2, 3, 4, 5, 6, 7, 8] modW_idC (by decide +kernel) (fun _ => modW_fst) 0 12 rfl rfl (by decide) rfl hl.1 (rest := []) rfl (Nat.le_of_ble_eq_true rfl) dX12_of_80 (st1 := fun _ => [.int (fnd 0)]) (fun _ => rfl) (fun _ H locs _ X => ?_)
              have X : Wd E _ _ (modW E b (flat f) hf wf ik (fdU fd 0) tch tp tl tk tb ta tv bad bo so ce) _ _ := X.eq modW_idP
              exact k_topi (x' := (oOf f fd (nI k) y).1) (by simp [oOf, bad3, hx0, ek, c16_0, c16_1, c16_2, c16_3, c16_4]) (fin () 83 _ _ _ trivial (X.eq (by simp [oOf, bad3, hx0, ek, c16_0, c16_1, c16_2, c16_3, c16_4])) dX12_of_83)
  · have hx0 : isP f x = false := c5
    refine lv_aload_n hx hb dX12_of_8 rfl (lv_at hl 0 rfl) ?_
    refine lv_ldc (v := (-1000000001)) hx hb K.2.2.2.1 (K.2.2.2.2.1 _ (Mw_at 905 (by decide +kernel) (by decide +kernel))) dX12_of_9 ?_
    refine k_topi (show (-1000000001 : Int32) = fnd 0 by decide) ?_
    refine k_callV K X gv_X12_37 (As := [.int (fnd 0)]) (c_X12_finds l E b (flat f) hf wf ik fd tch tp tl tk tb ta tv bad bo so ce 0 (by decide)) [0, 1, 2, 3, 4, 5, 6, 7, 8] modW_idC (by decide +kernel) (fun _ => modW_fst) 0 12 rfl rfl (by decide) rfl hl.1 (rest := []) rfl (Nat.le_of_ble_eq_true rfl) dX12_of_11 (st1 := fun _ => [.int (fnd 0)]) (fun _ => rfl) (fun _ H locs _ X => ?_)
    have X : Wd E _ _ (modW E b (flat f) hf wf ik (fdU fd 0) tch tp tl tk tb ta tv bad bo so ce) _ _ := X.eq modW_idP
    exact k_topi (x' := (oOf f fd x y).1) (by simp [oOf, bad3, hx0]) (fin () 14 _ _ _ trivial (X.eq (by simp [oOf, bad3, hx0])) dX12_of_14)
set_option maxRecDepth 100000 in
set_option maxHeartbeats 4000000 in
theorem c_X12_wants (l : Launch) (E : EE) (b : Nat → Nat) (hf : Nat → Int32) (wf : Nat → Int32) (ik : Int32) (fd : Nat → Int32) (tch : Int32) (tp : Nat → Int32) (tl : Int32) (tk : Int32) (tb : Int32) (ta : Int32) (tv : Int32) (bad : Int32) (bo : Nat → Int32) (so : Nat → Int32) (ce : Nat → Int64) (f : St) (T : Nat) (x : Int32) (y : Int32) (z : Int32) (I : Inv T f) : Kd l yX12_wants cX12_wants 5 (some .int) 2 44 E (modW E b (flat f) hf wf ik fd tch tp tl tk tb ta tv bad bo so ce) [.ref (b 0), .int x, .int y, .int z] (some (.int ((oWants f fd x y z).1))) (modW E b (flat ((oWants f fd x y z).2.1)) hf wf ik ((oWants f fd x y z).2.2) tch tp tl tk tb ta tv bad bo so ce) := by
  refine Kn.ofWi (by decide +kernel) (Nat.le_of_ble_eq_true rfl) (fun _ _ => rfl) ?_
  intro pg ev s0 mm below meth cd Q K X fin ls hl
  have hx := K.1
  have hb := K.2.1
  have hs10 := I.s10
  have hp6 := I.p6
  have hl : lv_has ls 5 [(0, .ref (b 0)), (1, .int x), (2, .int y), (3, .int z)] := hl
  refine lv_aload_n hx hb dX12_wants_0 rfl (lv_at hl 0 rfl) ?_
  refine lv_iload_n hx hb dX12_wants_1 rfl (lv_at hl 1 rfl) ?_
  refine k_callV K X gv_X12_100 (As := [.int x]) (c_X12_isPerson l E b hf wf ik fd tch tp tl tk tb ta tv bad bo so ce f x) [0, 1, 2, 3, 4, 5, 6, 7, 8] modW_idC (by decide +kernel) (fun _ => modW_fst) 0 12 rfl rfl (by decide) rfl hl.1 (rest := []) rfl (Nat.le_of_ble_eq_true rfl) dX12_wants_2 (st1 := fun _ => [.int (b2i (inR x 0 (f 0 3 - 1)))]) (fun _ => rfl) (fun _ H locs _ X => ?_)
  have X : Wd E _ _ (modW E b (flat f) hf wf ik fd tch tp tl tk tb ta tv bad bo so ce) _ _ := X.eq modW_idP
  refine k_ifeqB (B := (inR x 0 (f 0 3 - 1))) hx hb 33 dX12_wants_5 (by decide) (fun c5 => ?_) (fun c5 => ?_)
  · have hx0 : isP f x = false := c5
    refine lv_iconst (v := 0) hx hb dX12_wants_33 (by decide) ?_
    refine lv_istore (lv' := [(4, .int 0), (0, .ref (b 0)), (1, .int x), (2, .int y), (3, .int z)]) hx hb dX12_wants_34 hl (by decide) rfl (fun ls hl => ?_)
    refine lv_iload hx hb dX12_wants_36 (lv_at hl 0 rfl) ?_
    refine k_if0eq hx hb 60 dX12_wants_38 (by decide) ?_
    refine lv_aload_n hx hb dX12_wants_60 rfl (lv_at hl 1 rfl) ?_
    refine lv_ldc (v := (-1000000001)) hx hb K.2.2.2.1 (K.2.2.2.2.1 _ (Mw_at 905 (by decide +kernel) (by decide +kernel))) dX12_wants_61 ?_
    refine k_topi (show (-1000000001 : Int32) = fnd 0 by decide) ?_
    refine k_callV K X gv_X12_37 (As := [.int (fnd 0)]) (c_X12_finds l E b (flat f) hf wf ik fd tch tp tl tk tb ta tv bad bo so ce 0 (by decide)) [0, 1, 2, 3, 4, 5, 6, 7, 8] modW_idC (by decide +kernel) (fun _ => modW_fst) 0 12 rfl rfl (by decide) rfl hl.1 (rest := []) rfl (Nat.le_of_ble_eq_true rfl) dX12_wants_63 (st1 := fun _ => [.int (fnd 0)]) (fun _ => rfl) (fun _ H locs _ X => ?_)
    have X : Wd E _ _ (modW E b (flat f) hf wf ik (fdU fd 0) tch tp tl tk tb ta tv bad bo so ce) _ _ := X.eq modW_idP
    exact k_topi (x' := (oWants f fd x y z).1) (by simp [oWants, bad3, hx0]) (fin () 66 _ _ _ trivial (X.eq (by simp [oWants, bad3, hx0])) dX12_wants_66)
  · have hx0 : isP f x = true := c5
    obtain ⟨k, hk, rfl⟩ := isP_nat I hx0
    have ek : (nI k).toNatClampNeg = k := nI_clamp (by omega)
    refine lv_iload_n hx hb dX12_wants_8 rfl (lv_at hl 2 rfl) ?_
    refine lv_i2l (v := y.toInt64) hx hb dX12_wants_9 rfl ?_
    refine lv_iconst (v := 0) hx hb dX12_wants_10 (by decide) ?_
    refine lv_bipush (v := 9) hx hb dX12_wants_11 (by decide) ?_
    refine k_callS K X gs_X12_41 (As := [.long y.toInt64, .int 0, .int 9]) (c_X12_in l E y 0 9) [] rfl (by decide +kernel) (fun _ => rfl) (by decide) rfl hl.1 (rest := []) rfl (Nat.le_of_ble_eq_true rfl) dX12_wants_13 (st1 := fun _ => [.int (b2i (inR y 0 9))]) (fun _ => rfl) (fun _ H locs _ X => ?_)
    have X : Wd E _ _ (modW E b (flat f) hf wf ik fd tch tp tl tk tb ta tv bad bo so ce) _ _ := X
    refine k_ifeqB (B := (inR y 0 9)) hx hb 33 dX12_wants_16 (by decide) (fun c16 => ?_) (fun c16 => ?_)
    · refine lv_iconst (v := 0) hx hb dX12_wants_33 (by decide) ?_
      refine lv_istore (lv' := [(4, .int 0), (0, .ref (b 0)), (1, .int (nI k)), (2, .int y), (3, .int z)]) hx hb dX12_wants_34 hl (by decide) rfl (fun ls hl => ?_)
      refine lv_iload hx hb dX12_wants_36 (lv_at hl 0 rfl) ?_
      refine k_if0eq hx hb 60 dX12_wants_38 (by decide) ?_
      refine lv_aload_n hx hb dX12_wants_60 rfl (lv_at hl 1 rfl) ?_
      refine lv_ldc (v := (-1000000001)) hx hb K.2.2.2.1 (K.2.2.2.2.1 _ (Mw_at 905 (by decide +kernel) (by decide +kernel))) dX12_wants_61 ?_
      refine k_topi (show (-1000000001 : Int32) = fnd 0 by decide) ?_
      refine k_callV K X gv_X12_37 (As := [.int (fnd 0)]) (c_X12_finds l E b (flat f) hf wf ik fd tch tp tl tk tb ta tv bad bo so ce 0 (by decide)) [0, 1, 2, 3, 4, 5, 6, 7, 8] modW_idC (by decide +kernel) (fun _ => modW_fst) 0 12 rfl rfl (by decide) rfl hl.1 (rest := []) rfl (Nat.le_of_ble_eq_true rfl) dX12_wants_63 (st1 := fun _ => [.int (fnd 0)]) (fun _ => rfl) (fun _ H locs _ X => ?_)
      have X : Wd E _ _ (modW E b (flat f) hf wf ik (fdU fd 0) tch tp tl tk tb ta tv bad bo so ce) _ _ := X.eq modW_idP
      exact k_topi (x' := (oWants f fd (nI k) y z).1) (by simp [oWants, bad3, hx0, ek, c16]) (fin () 66 _ _ _ trivial (X.eq (by simp [oWants, bad3, hx0, ek, c16])) dX12_wants_66)
    · obtain ⟨j, hj, rfl, hjl, hjh⟩ := inR_nat (n := 10) (by decide) (by decide) c16
      have hjl : 0 ≤ j := by have h0 : ((0 : Int32).toInt) = 0 := (by decide); omega
      have ej : (nI j).toNatClampNeg = j := nI_clamp (by omega)
      refine lv_iload_n hx hb dX12_wants_19 rfl (lv_at hl 3 rfl) ?_
      refine lv_i2l (v := z.toInt64) hx hb dX12_wants_20 rfl ?_
      refine lv_iconst (v := 0) hx hb dX12_wants_21 (by decide) ?_
      refine lv_iconst (v := 5) hx hb dX12_wants_22 (by decide) ?_
      refine k_callS K X gs_X12_41 (As := [.long z.toInt64, .int 0, .int 5]) (c_X12_in l E z 0 5) [] rfl (by decide +kernel) (fun _ => rfl) (by decide) rfl hl.1 (rest := []) rfl (Nat.le_of_ble_eq_true rfl) dX12_wants_23 (st1 := fun _ => [.int (b2i (inR z 0 5))]) (fun _ => rfl) (fun _ H locs _ X => ?_)
      have X : Wd E _ _ (modW E b (flat f) hf wf ik fd tch tp tl tk tb ta tv bad bo so ce) _ _ := X
      refine k_ifeqB (B := (inR z 0 5)) hx hb 33 dX12_wants_26 (by decide) (fun c26 => ?_) (fun c26 => ?_)
      · refine lv_iconst (v := 0) hx hb dX12_wants_33 (by decide) ?_
        refine lv_istore (lv' := [(4, .int 0), (0, .ref (b 0)), (1, .int (nI k)), (2, .int (nI j)), (3, .int z)]) hx hb dX12_wants_34 hl (by decide) rfl (fun ls hl => ?_)
        refine lv_iload hx hb dX12_wants_36 (lv_at hl 0 rfl) ?_
        refine k_if0eq hx hb 60 dX12_wants_38 (by decide) ?_
        refine lv_aload_n hx hb dX12_wants_60 rfl (lv_at hl 1 rfl) ?_
        refine lv_ldc (v := (-1000000001)) hx hb K.2.2.2.1 (K.2.2.2.2.1 _ (Mw_at 905 (by decide +kernel) (by decide +kernel))) dX12_wants_61 ?_
        refine k_topi (show (-1000000001 : Int32) = fnd 0 by decide) ?_
        refine k_callV K X gv_X12_37 (As := [.int (fnd 0)]) (c_X12_finds l E b (flat f) hf wf ik fd tch tp tl tk tb ta tv bad bo so ce 0 (by decide)) [0, 1, 2, 3, 4, 5, 6, 7, 8] modW_idC (by decide +kernel) (fun _ => modW_fst) 0 12 rfl rfl (by decide) rfl hl.1 (rest := []) rfl (Nat.le_of_ble_eq_true rfl) dX12_wants_63 (st1 := fun _ => [.int (fnd 0)]) (fun _ => rfl) (fun _ H locs _ X => ?_)
        have X : Wd E _ _ (modW E b (flat f) hf wf ik (fdU fd 0) tch tp tl tk tb ta tv bad bo so ce) _ _ := X.eq modW_idP
        exact k_topi (x' := (oWants f fd (nI k) (nI j) z).1) (by simp [oWants, bad3, hx0, ek, c16, ej, c26]) (fin () 66 _ _ _ trivial (X.eq (by simp [oWants, bad3, hx0, ek, c16, ej, c26])) dX12_wants_66)
      · refine lv_iconst (v := 1) hx hb dX12_wants_29 (by decide) ?_
        refine lv_goto (tgt := 34) hx hb dX12_wants_30 (by decide) ?_
        refine lv_istore (lv' := [(4, .int 1), (0, .ref (b 0)), (1, .int (nI k)), (2, .int (nI j)), (3, .int z)]) hx hb dX12_wants_34 hl (by decide) rfl (fun ls hl => ?_)
        refine lv_iload hx hb dX12_wants_36 (lv_at hl 0 rfl) ?_
        refine k_if1eq hx hb dX12_wants_38 ⟨60, by decide⟩ ?_
        refine lv_aload_n hx hb dX12_wants_41 rfl (lv_at hl 1 rfl) ?_
        refine lv_bipush (v := 34) hx hb dX12_wants_42 (by decide) ?_
        refine lv_bipush (v := 12) hx hb dX12_wants_44 (by decide) ?_
        refine lv_iload_n hx hb dX12_wants_46 rfl (lv_at hl 2 rfl) ?_
        refine lv_imul hx hb dX12_wants_47 ?_
        refine k_topi (pk_mul 12 k) ?_
        refine lv_iadd hx hb dX12_wants_48 ?_
        refine k_topi (nI_add 34 (12 * k)) ?_
        refine lv_iconst (v := 2) hx hb dX12_wants_49 (by decide) ?_
        refine lv_iadd hx hb dX12_wants_50 ?_
        refine k_topi (nI_add (34 + 12 * k) 2) ?_
        refine lv_iload_n hx hb dX12_wants_51 rfl (lv_at hl 3 rfl) ?_
        refine lv_iadd hx hb dX12_wants_52 ?_
        refine k_topi (nI_add (34 + 12 * k + 2) j) ?_
        refine lv_iload_n hx hb dX12_wants_53 rfl (lv_at hl 4 rfl) ?_
        refine k_callV K X gv_X12_63 (As := [.int (nI (34 + 12 * k + 2 + j)), .int z]) (c_X12_becomes l E b (flat f) hf wf ik fd tch tp tl tk tb ta tv bad bo so ce (34 + 12 * k + 2 + j) z (by omega)) [0, 1, 2, 3, 4, 5, 6, 7, 8] modW_idC (by decide +kernel) (fun _ => modW_fst) 0 12 rfl rfl (by decide) rfl hl.1 (rest := []) rfl (Nat.le_of_ble_eq_true rfl) dX12_wants_54 (st1 := fun _ => [.int ((flat f) (34 + 12 * k + 2 + j))]) (fun _ => rfl) (fun _ H locs _ X => ?_)
        have X : Wd E _ _ (modW E b (upd (flat f) (34 + 12 * k + 2 + j) z) hf wf ik fd tch tp tl tk tb ta tv bad bo so ce) _ _ := X.eq modW_idP
        have X : Wd E _ _ (modW E b (flat (up2 f 6 (10 * k + j) z)) hf wf ik fd tch tp tl tk tb ta tv bad bo so ce) _ _ := X.eq (by rw [flat_wish _ _ (by omega)])
        refine k_topi (x' := f 6 (10 * k + j)) ((congrArg (flat f) (by omega)).trans (flat_rW f k (s := j) (by omega))) ?_
        refine lv_goto (tgt := 66) hx hb dX12_wants_57 (by decide) ?_
        exact k_topi (x' := (oWants f fd (nI k) (nI j) z).1) (by simp [oWants, bad3, hx0, ek, c16, ej, c26]) (fin () 66 _ _ _ trivial (X.eq (by simp [oWants, bad3, hx0, ek, c16, ej, c26])) dX12_wants_66)
set_option maxRecDepth 100000 in
set_option maxHeartbeats 4000000 in
theorem c_X12_out (l : Launch) (E : EE) (b : Nat → Nat) (hf : Nat → Int32) (wf : Nat → Int32) (ik : Int32) (fd : Nat → Int32) (tch : Int32) (tp : Nat → Int32) (tl : Int32) (tk : Int32) (tb : Int32) (ta : Int32) (tv : Int32) (bad : Int32) (bo : Nat → Int32) (so : Nat → Int32) (ce : Nat → Int64) (f : St) (T : Nat) (x : Int32) (y : Int32) (I : Inv T f) : Kd l yX12_out cX12_out 3 (some .int) 2 44 E (modW E b (flat f) hf wf ik fd tch tp tl tk tb ta tv bad bo so ce) [.ref (b 0), .int x, .int y] (some (.int ((oOut f fd x y).1))) (modW E b (flat ((oOut f fd x y).2.1)) hf wf ik ((oOut f fd x y).2.2) tch tp tl tk tb ta tv bad bo so ce) := by
  refine Kn.ofWi (by decide +kernel) (Nat.le_of_ble_eq_true rfl) (fun _ _ => rfl) ?_
  intro pg ev s0 mm below meth cd Q K X fin ls hl
  have hx := K.1
  have hb := K.2.1
  have hs10 := I.s10
  have hp6 := I.p6
  have hl : lv_has ls 3 [(0, .ref (b 0)), (1, .int x), (2, .int y)] := hl
  refine lv_aload_n hx hb dX12_out_0 rfl (lv_at hl 0 rfl) ?_
  refine lv_iload_n hx hb dX12_out_1 rfl (lv_at hl 1 rfl) ?_
  refine k_callV K X gv_X12_100 (As := [.int x]) (c_X12_isPerson l E b hf wf ik fd tch tp tl tk tb ta tv bad bo so ce f x) [0, 1, 2, 3, 4, 5, 6, 7, 8] modW_idC (by decide +kernel) (fun _ => modW_fst) 0 12 rfl rfl (by decide) rfl hl.1 (rest := []) rfl (Nat.le_of_ble_eq_true rfl) dX12_out_2 (st1 := fun _ => [.int (b2i (inR x 0 (f 0 3 - 1)))]) (fun _ => rfl) (fun _ H locs _ X => ?_)
  have X : Wd E _ _ (modW E b (flat f) hf wf ik fd tch tp tl tk tb ta tv bad bo so ce) _ _ := X.eq modW_idP
  refine k_ifeqB (B := (inR x 0 (f 0 3 - 1))) hx hb 35 dX12_out_5 (by decide) (fun c5 => ?_) (fun c5 => ?_)
  · have hx0 : isP f x = false := c5
    refine lv_aload_n hx hb dX12_out_35 rfl (lv_at hl 0 rfl) ?_
    refine lv_ldc (v := (-1000000001)) hx hb K.2.2.2.1 (K.2.2.2.2.1 _ (Mw_at 905 (by decide +kernel) (by decide +kernel))) dX12_out_36 ?_
    refine k_topi (show (-1000000001 : Int32) = fnd 0 by decide) ?_
    refine k_callV K X gv_X12_37 (As := [.int (fnd 0)]) (c_X12_finds l E b (flat f) hf wf ik fd tch tp tl tk tb ta tv bad bo so ce 0 (by decide)) [0, 1, 2, 3, 4, 5, 6, 7, 8] modW_idC (by decide +kernel) (fun _ => modW_fst) 0 12 rfl rfl (by decide) rfl hl.1 (rest := []) rfl (Nat.le_of_ble_eq_true rfl) dX12_out_38 (st1 := fun _ => [.int (fnd 0)]) (fun _ => rfl) (fun _ H locs _ X => ?_)
    have X : Wd E _ _ (modW E b (flat f) hf wf ik (fdU fd 0) tch tp tl tk tb ta tv bad bo so ce) _ _ := X.eq modW_idP
    exact k_topi (x' := (oOut f fd x y).1) (by simp [oOut, bad3, hx0]) (fin () 41 _ _ _ trivial (X.eq (by simp [oOut, bad3, hx0])) dX12_out_41)
  · have hx0 : isP f x = true := c5
    obtain ⟨k, hk, rfl⟩ := isP_nat I hx0
    have ek : (nI k).toNatClampNeg = k := nI_clamp (by omega)
    refine lv_iload_n hx hb dX12_out_8 rfl (lv_at hl 2 rfl) ?_
    refine lv_i2l (v := y.toInt64) hx hb dX12_out_9 rfl ?_
    refine lv_iconst (v := 0) hx hb dX12_out_10 (by decide) ?_
    refine lv_iconst (v := 1) hx hb dX12_out_11 (by decide) ?_
    refine k_callS K X gs_X12_41 (As := [.long y.toInt64, .int 0, .int 1]) (c_X12_in l E y 0 1) [] rfl (by decide +kernel) (fun _ => rfl) (by decide) rfl hl.1 (rest := []) rfl (Nat.le_of_ble_eq_true rfl) dX12_out_12 (st1 := fun _ => [.int (b2i (inR y 0 1))]) (fun _ => rfl) (fun _ H locs _ X => ?_)
    have X : Wd E _ _ (modW E b (flat f) hf wf ik fd tch tp tl tk tb ta tv bad bo so ce) _ _ := X
    refine k_ifeqB (B := (inR y 0 1)) hx hb 35 dX12_out_15 (by decide) (fun c15 => ?_) (fun c15 => ?_)
    · refine lv_aload_n hx hb dX12_out_35 rfl (lv_at hl 0 rfl) ?_
      refine lv_ldc (v := (-1000000001)) hx hb K.2.2.2.1 (K.2.2.2.2.1 _ (Mw_at 905 (by decide +kernel) (by decide +kernel))) dX12_out_36 ?_
      refine k_topi (show (-1000000001 : Int32) = fnd 0 by decide) ?_
      refine k_callV K X gv_X12_37 (As := [.int (fnd 0)]) (c_X12_finds l E b (flat f) hf wf ik fd tch tp tl tk tb ta tv bad bo so ce 0 (by decide)) [0, 1, 2, 3, 4, 5, 6, 7, 8] modW_idC (by decide +kernel) (fun _ => modW_fst) 0 12 rfl rfl (by decide) rfl hl.1 (rest := []) rfl (Nat.le_of_ble_eq_true rfl) dX12_out_38 (st1 := fun _ => [.int (fnd 0)]) (fun _ => rfl) (fun _ H locs _ X => ?_)
      have X : Wd E _ _ (modW E b (flat f) hf wf ik (fdU fd 0) tch tp tl tk tb ta tv bad bo so ce) _ _ := X.eq modW_idP
      exact k_topi (x' := (oOut f fd (nI k) y).1) (by simp [oOut, bad3, hx0, ek, c15]) (fin () 41 _ _ _ trivial (X.eq (by simp [oOut, bad3, hx0, ek, c15])) dX12_out_41)
    · refine lv_aload_n hx hb dX12_out_18 rfl (lv_at hl 0 rfl) ?_
      refine lv_bipush (v := 34) hx hb dX12_out_19 (by decide) ?_
      refine lv_bipush (v := 12) hx hb dX12_out_21 (by decide) ?_
      refine lv_iload_n hx hb dX12_out_23 rfl (lv_at hl 1 rfl) ?_
      refine lv_imul hx hb dX12_out_24 ?_
      refine k_topi (pk_mul 12 k) ?_
      refine lv_iadd hx hb dX12_out_25 ?_
      refine k_topi (nI_add 34 (12 * k)) ?_
      refine lv_iconst (v := 1) hx hb dX12_out_26 (by decide) ?_
      refine lv_iadd hx hb dX12_out_27 ?_
      refine k_topi (nI_add (34 + 12 * k) 1) ?_
      refine lv_iload_n hx hb dX12_out_28 rfl (lv_at hl 2 rfl) ?_
      refine k_callV K X gv_X12_63 (As := [.int (nI (34 + 12 * k + 1)), .int y]) (c_X12_becomes l E b (flat f) hf wf ik fd tch tp tl tk tb ta tv bad bo so ce (34 + 12 * k + 1) y (by omega)) [0, 1, 2, 3, 4, 5, 6, 7, 8] modW_idC (by decide +kernel) (fun _ => modW_fst) 0 12 rfl rfl (by decide) rfl hl.1 (rest := []) rfl (Nat.le_of_ble_eq_true rfl) dX12_out_29 (st1 := fun _ => [.int ((flat f) (34 + 12 * k + 1))]) (fun _ => rfl) (fun _ H locs _ X => ?_)
      have X : Wd E _ _ (modW E b (upd (flat f) (34 + 12 * k + 1) y) hf wf ik fd tch tp tl tk tb ta tv bad bo so ce) _ _ := X.eq modW_idP
      have X : Wd E _ _ (modW E b (flat (up2 f 5 k y)) hf wf ik fd tch tp tl tk tb ta tv bad bo so ce) _ _ := X.eq (by rw [flat_out])
      refine k_topi (x' := f 5 k) (flat_rO f k) ?_
      refine lv_goto (tgt := 41) hx hb dX12_out_32 (by decide) ?_
      exact k_topi (x' := (oOut f fd (nI k) y).1) (by simp [oOut, bad3, hx0, ek, c15]) (fin () 41 _ _ _ trivial (X.eq (by simp [oOut, bad3, hx0, ek, c15])) dX12_out_41)
set_option maxRecDepth 100000 in
set_option maxHeartbeats 4000000 in
theorem c_X12_turn (l : Launch) (E : EE) (b : Nat → Nat) (hf : Nat → Int32) (wf : Nat → Int32) (ik : Int32) (fd : Nat → Int32) (tch : Int32) (tp : Nat → Int32) (tl : Int32) (tk : Int32) (tb : Int32) (ta : Int32) (tv : Int32) (bad : Int32) (bo : Nat → Int32) (so : Nat → Int32) (ce : Nat → Int64) (f : St) (T : Nat) (x : Int32) (y : Int32) (I : Inv T f) : Kd l yX12_turn cX12_turn 3 (some .int) 2 44 E (modW E b (flat f) hf wf ik fd tch tp tl tk tb ta tv bad bo so ce) [.ref (b 0), .int x, .int y] (some (.int ((oTurn f fd x y).1))) (modW E b (flat ((oTurn f fd x y).2.1)) hf wf ik ((oTurn f fd x y).2.2) tch tp tl tk tb ta tv bad bo so ce) := by
  refine Kn.ofWi (by decide +kernel) (Nat.le_of_ble_eq_true rfl) (fun _ _ => rfl) ?_
  intro pg ev s0 mm below meth cd Q K X fin ls hl
  have hx := K.1
  have hb := K.2.1
  have hs10 := I.s10
  have hp6 := I.p6
  have hl : lv_has ls 3 [(0, .ref (b 0)), (1, .int x), (2, .int y)] := hl
  refine lv_aload_n hx hb dX12_turn_0 rfl (lv_at hl 0 rfl) ?_
  refine lv_iload_n hx hb dX12_turn_1 rfl (lv_at hl 1 rfl) ?_
  refine k_callV K X gv_X12_100 (As := [.int x]) (c_X12_isPerson l E b hf wf ik fd tch tp tl tk tb ta tv bad bo so ce f x) [0, 1, 2, 3, 4, 5, 6, 7, 8] modW_idC (by decide +kernel) (fun _ => modW_fst) 0 12 rfl rfl (by decide) rfl hl.1 (rest := []) rfl (Nat.le_of_ble_eq_true rfl) dX12_turn_2 (st1 := fun _ => [.int (b2i (inR x 0 (f 0 3 - 1)))]) (fun _ => rfl) (fun _ H locs _ X => ?_)
  have X : Wd E _ _ (modW E b (flat f) hf wf ik fd tch tp tl tk tb ta tv bad bo so ce) _ _ := X.eq modW_idP
  refine k_ifeqB (B := (inR x 0 (f 0 3 - 1))) hx hb 33 dX12_turn_5 (by decide) (fun c5 => ?_) (fun c5 => ?_)
  · have hx0 : isP f x = false := c5
    refine lv_aload_n hx hb dX12_turn_33 rfl (lv_at hl 0 rfl) ?_
    refine lv_ldc (v := (-1000000001)) hx hb K.2.2.2.1 (K.2.2.2.2.1 _ (Mw_at 905 (by decide +kernel) (by decide +kernel))) dX12_turn_34 ?_
    refine k_topi (show (-1000000001 : Int32) = fnd 0 by decide) ?_
    refine k_callV K X gv_X12_37 (As := [.int (fnd 0)]) (c_X12_finds l E b (flat f) hf wf ik fd tch tp tl tk tb ta tv bad bo so ce 0 (by decide)) [0, 1, 2, 3, 4, 5, 6, 7, 8] modW_idC (by decide +kernel) (fun _ => modW_fst) 0 12 rfl rfl (by decide) rfl hl.1 (rest := []) rfl (Nat.le_of_ble_eq_true rfl) dX12_turn_36 (st1 := fun _ => [.int (fnd 0)]) (fun _ => rfl) (fun _ H locs _ X => ?_)
    have X : Wd E _ _ (modW E b (flat f) hf wf ik (fdU fd 0) tch tp tl tk tb ta tv bad bo so ce) _ _ := X.eq modW_idP
    exact k_topi (x' := (oTurn f fd x y).1) (by simp [oTurn, bad3, hx0]) (fin () 39 _ _ _ trivial (X.eq (by simp [oTurn, bad3, hx0])) dX12_turn_39)
  · have hx0 : isP f x = true := c5
    obtain ⟨k, hk, rfl⟩ := isP_nat I hx0
    have ek : (nI k).toNatClampNeg = k := nI_clamp (by omega)
    refine lv_iload_n hx hb dX12_turn_8 rfl (lv_at hl 2 rfl) ?_
    refine lv_i2l (v := y.toInt64) hx hb dX12_turn_9 rfl ?_
    refine lv_iconst (v := 0) hx hb dX12_turn_10 (by decide) ?_
    refine lv_iconst (v := 5) hx hb dX12_turn_11 (by decide) ?_
    refine k_callS K X gs_X12_41 (As := [.long y.toInt64, .int 0, .int 5]) (c_X12_in l E y 0 5) [] rfl (by decide +kernel) (fun _ => rfl) (by decide) rfl hl.1 (rest := []) rfl (Nat.le_of_ble_eq_true rfl) dX12_turn_12 (st1 := fun _ => [.int (b2i (inR y 0 5))]) (fun _ => rfl) (fun _ H locs _ X => ?_)
    have X : Wd E _ _ (modW E b (flat f) hf wf ik fd tch tp tl tk tb ta tv bad bo so ce) _ _ := X
    refine k_ifeqB (B := (inR y 0 5)) hx hb 33 dX12_turn_15 (by decide) (fun c15 => ?_) (fun c15 => ?_)
    · refine lv_aload_n hx hb dX12_turn_33 rfl (lv_at hl 0 rfl) ?_
      refine lv_ldc (v := (-1000000001)) hx hb K.2.2.2.1 (K.2.2.2.2.1 _ (Mw_at 905 (by decide +kernel) (by decide +kernel))) dX12_turn_34 ?_
      refine k_topi (show (-1000000001 : Int32) = fnd 0 by decide) ?_
      refine k_callV K X gv_X12_37 (As := [.int (fnd 0)]) (c_X12_finds l E b (flat f) hf wf ik fd tch tp tl tk tb ta tv bad bo so ce 0 (by decide)) [0, 1, 2, 3, 4, 5, 6, 7, 8] modW_idC (by decide +kernel) (fun _ => modW_fst) 0 12 rfl rfl (by decide) rfl hl.1 (rest := []) rfl (Nat.le_of_ble_eq_true rfl) dX12_turn_36 (st1 := fun _ => [.int (fnd 0)]) (fun _ => rfl) (fun _ H locs _ X => ?_)
      have X : Wd E _ _ (modW E b (flat f) hf wf ik (fdU fd 0) tch tp tl tk tb ta tv bad bo so ce) _ _ := X.eq modW_idP
      exact k_topi (x' := (oTurn f fd (nI k) y).1) (by simp [oTurn, bad3, hx0, ek, c15]) (fin () 39 _ _ _ trivial (X.eq (by simp [oTurn, bad3, hx0, ek, c15])) dX12_turn_39)
    · refine lv_aload_n hx hb dX12_turn_18 rfl (lv_at hl 0 rfl) ?_
      refine lv_bipush (v := 34) hx hb dX12_turn_19 (by decide) ?_
      refine lv_bipush (v := 12) hx hb dX12_turn_21 (by decide) ?_
      refine lv_iload_n hx hb dX12_turn_23 rfl (lv_at hl 1 rfl) ?_
      refine lv_imul hx hb dX12_turn_24 ?_
      refine k_topi (pk_mul 12 k) ?_
      refine lv_iadd hx hb dX12_turn_25 ?_
      refine k_topi (nI_add 34 (12 * k)) ?_
      refine lv_iload_n hx hb dX12_turn_26 rfl (lv_at hl 2 rfl) ?_
      refine k_callV K X gv_X12_63 (As := [.int (nI (34 + 12 * k)), .int y]) (c_X12_becomes l E b (flat f) hf wf ik fd tch tp tl tk tb ta tv bad bo so ce (34 + 12 * k) y (by omega)) [0, 1, 2, 3, 4, 5, 6, 7, 8] modW_idC (by decide +kernel) (fun _ => modW_fst) 0 12 rfl rfl (by decide) rfl hl.1 (rest := []) rfl (Nat.le_of_ble_eq_true rfl) dX12_turn_27 (st1 := fun _ => [.int ((flat f) (34 + 12 * k))]) (fun _ => rfl) (fun _ H locs _ X => ?_)
      have X : Wd E _ _ (modW E b (upd (flat f) (34 + 12 * k) y) hf wf ik fd tch tp tl tk tb ta tv bad bo so ce) _ _ := X.eq modW_idP
      have X : Wd E _ _ (modW E b (flat (up2 f 4 k y)) hf wf ik fd tch tp tl tk tb ta tv bad bo so ce) _ _ := X.eq (by rw [flat_kind])
      refine k_topi (x' := f 4 k) (flat_rK f k) ?_
      refine lv_goto (tgt := 39) hx hb dX12_turn_30 (by decide) ?_
      exact k_topi (x' := (oTurn f fd (nI k) y).1) (by simp [oTurn, bad3, hx0, ek, c15]) (fin () 39 _ _ _ trivial (X.eq (by simp [oTurn, bad3, hx0, ek, c15])) dX12_turn_39)
set_option maxRecDepth 100000 in
set_option maxHeartbeats 4000000 in
theorem c_X12_as (l : Launch) (E : EE) (b : Nat → Nat) (hf : Nat → Int32) (wf : Nat → Int32) (ik : Int32) (fd : Nat → Int32) (tch : Int32) (tp : Nat → Int32) (tl : Int32) (tk : Int32) (tb : Int32) (ta : Int32) (tv : Int32) (bad : Int32) (bo : Nat → Int32) (so : Nat → Int32) (ce : Nat → Int64) (f : St) (T : Nat) (x : Int32) (y : Int32) (I : Inv T f) : Kd l yX12_as cX12_as 5 (some .int) 3 67 E (modW E b (flat f) hf wf ik fd tch tp tl tk tb ta tv bad bo so ce) [.ref (b 0), .int x, .int y] (some (.int ((oAs f fd x y).1))) (modW E b (flat ((oAs f fd x y).2.1)) hf wf ik ((oAs f fd x y).2.2) tch tp tl tk tb ta tv bad bo so ce) := by
  refine Kn.ofWi (by decide +kernel) (Nat.le_of_ble_eq_true rfl) (fun _ _ => rfl) ?_
  intro pg ev s0 mm below meth cd Q K X fin ls hl
  have hx := K.1
  have hb := K.2.1
  have hs10 := I.s10
  have hp6 := I.p6
  have hl : lv_has ls 5 [(0, .ref (b 0)), (1, .int x), (2, .int y)] := hl
  refine lv_aload_n hx hb dX12_as_0 rfl (lv_at hl 0 rfl) ?_
  refine lv_iload_n hx hb dX12_as_1 rfl (lv_at hl 1 rfl) ?_
  refine k_callV K X gv_X12_100 (As := [.int x]) (c_X12_isPerson l E b hf wf ik fd tch tp tl tk tb ta tv bad bo so ce f x) [0, 1, 2, 3, 4, 5, 6, 7, 8] modW_idC (by decide +kernel) (fun _ => modW_fst) 0 12 rfl rfl (by decide) rfl hl.1 (rest := []) rfl (Nat.le_of_ble_eq_true rfl) dX12_as_2 (st1 := fun _ => [.int (b2i (inR x 0 (f 0 3 - 1)))]) (fun _ => rfl) (fun _ H locs _ X => ?_)
  have X : Wd E _ _ (modW E b (flat f) hf wf ik fd tch tp tl tk tb ta tv bad bo so ce) _ _ := X.eq modW_idP
  refine k_ifeqB (B := (inR x 0 (f 0 3 - 1))) hx hb 18 dX12_as_5 (by decide) (fun c5 => ?_) (fun c5 => ?_)
  · have hx0 : isP f x = false := c5
    refine lv_aload_n hx hb dX12_as_18 rfl (lv_at hl 0 rfl) ?_
    refine lv_ldc (v := (-1000000001)) hx hb K.2.2.2.1 (K.2.2.2.2.1 _ (Mw_at 905 (by decide +kernel) (by decide +kernel))) dX12_as_19 ?_
    refine k_topi (show (-1000000001 : Int32) = fnd 0 by decide) ?_
    refine k_callV K X gv_X12_37 (As := [.int (fnd 0)]) (c_X12_finds l E b (flat f) hf wf ik fd tch tp tl tk tb ta tv bad bo so ce 0 (by decide)) [0, 1, 2, 3, 4, 5, 6, 7, 8] modW_idC (by decide +kernel) (fun _ => modW_fst) 0 12 rfl rfl (by decide) rfl hl.1 (rest := []) rfl (Nat.le_of_ble_eq_true rfl) dX12_as_21 (st1 := fun _ => [.int (fnd 0)]) (fun _ => rfl) (fun _ H locs _ X => ?_)
    have X : Wd E _ _ (modW E b (flat f) hf wf ik (fdU fd 0) tch tp tl tk tb ta tv bad bo so ce) _ _ := X.eq modW_idP
    exact k_topi (x' := (oAs f fd x y).1) (by simp [oAs, bad3, hx0]) (fin () 24 _ _ _ trivial (X.eq (by simp [oAs, bad3, hx0])) dX12_as_24)
  · have hx0 : isP f x = true := c5
    obtain ⟨k, hk, rfl⟩ := isP_nat I hx0
    have ek : (nI k).toNatClampNeg = k := nI_clamp (by omega)
    refine lv_iload_n hx hb dX12_as_8 rfl (lv_at hl 2 rfl) ?_
    refine lv_i2l (v := y.toInt64) hx hb dX12_as_9 rfl ?_
    refine lv_iconst (v := 0) hx hb dX12_as_10 (by decide) ?_
    refine lv_iconst (v := 5) hx hb dX12_as_11 (by decide) ?_
    refine k_callS K X gs_X12_41 (As := [.long y.toInt64, .int 0, .int 5]) (c_X12_in l E y 0 5) [] rfl (by decide +kernel) (fun _ => rfl) (by decide) rfl hl.1 (rest := []) rfl (Nat.le_of_ble_eq_true rfl) dX12_as_12 (st1 := fun _ => [.int (b2i (inR y 0 5))]) (fun _ => rfl) (fun _ H locs _ X => ?_)
    have X : Wd E _ _ (modW E b (flat f) hf wf ik fd tch tp tl tk tb ta tv bad bo so ce) _ _ := X
    refine k_ifneB (B := (inR y 0 5)) hx hb 25 dX12_as_15 (by decide) (fun c15 => ?_) (fun c15 => ?_)
    · obtain ⟨j, hj, rfl, hjl, hjh⟩ := inR_nat (n := 6) (by decide) (by decide) c15
      have hjl : 0 ≤ j := by have h0 : ((0 : Int32).toInt) = 0 := (by decide); omega
      have ej : (nI j).toNatClampNeg = j := nI_clamp (by omega)
      have hk6 := I.k6 (p := k) (by omega)
      refine lv_aload_n hx hb dX12_as_25 rfl (lv_at hl 0 rfl) ?_
      refine lv_iload_n hx hb dX12_as_26 rfl (lv_at hl 1 rfl) ?_
      refine lv_iconst (v := 0) hx hb dX12_as_27 (by decide) ?_
      refine k_callV K X gv_X12_45 (As := [.int (nI k), .int 0]) (c_X12_who0 l E b hf wf ik fd tch tp tl tk tb ta tv bad bo so ce f k (by omega)) [0, 1, 2, 3, 4, 5, 6, 7, 8] modW_idC (by decide +kernel) (fun _ => modW_fst) 0 12 rfl rfl (by decide) rfl hl.1 (rest := []) rfl (Nat.le_of_ble_eq_true rfl) dX12_as_28 (st1 := fun _ => [.int (f 4 k)]) (fun _ => rfl) (fun _ H locs _ X => ?_)
      have X : Wd E _ _ (modW E b (flat f) hf wf ik fd tch tp tl tk tb ta tv bad bo so ce) _ _ := X.eq modW_idP
      refine k_topi (I.hK (by omega)) ?_
      refine lv_istore_n (lv' := [(3, .int (nI (kn f k))), (0, .ref (b 0)), (1, .int (nI k)), (2, .int (nI j))]) hx hb dX12_as_31 rfl hl (by decide) rfl (fun ls hl => ?_)
      refine lv_iload_n hx hb dX12_as_32 rfl (lv_at hl 3 rfl) ?_
      refine kN0_eq (x := j) hx hb 61 dX12_as_33 (by decide) (by omega) (fun c33 => ?_) (fun c33 => ?_)
      · refine lv_iconst (v := 1) hx hb dX12_as_61 (by decide) ?_
        refine lv_goto (tgt := 66) hx hb dX12_as_62 (by decide) ?_
        refine lv_istore (lv' := [(4, .int 1), (3, .int (nI (kn f k))), (0, .ref (b 0)), (1, .int (nI k)), (2, .int (nI j))]) hx hb dX12_as_66 hl (by decide) rfl (fun ls hl => ?_)
        refine lv_iload hx hb dX12_as_68 (lv_at hl 0 rfl) ?_
        refine k_if1eq hx hb dX12_as_70 ⟨84, by decide⟩ ?_
        refine lv_aload_n hx hb dX12_as_73 rfl (lv_at hl 2 rfl) ?_
        refine lv_iload_n hx hb dX12_as_74 rfl (lv_at hl 3 rfl) ?_
        refine k_callV K X gv_X12_103 (As := [.int (nI k)]) (c_X12_wayOf l E b hf wf ik fd tch tp tl tk tb ta tv bad bo so ce f T k I (by omega)) [0, 1, 2, 3, 4, 5, 6, 7, 8] modW_idC (by decide +kernel) (fun _ => modW_fst) 0 12 rfl rfl (by decide) rfl hl.1 (rest := []) rfl (Nat.le_of_ble_eq_true rfl) dX12_as_75 (st1 := fun _ => [.int (wayF f k)]) (fun _ => rfl) (fun _ H locs _ X => ?_)
        have X : Wd E _ _ (modW E b (flat f) hf wf ik fd tch tp tl tk tb ta tv bad bo so ce) _ _ := X.eq modW_idP
        refine k_callS K X gs_X12_112 (As := [.int (wayF f k)]) (c_X12_bits l E (wayF f k) (wayF_nat I k)) [] rfl (by decide +kernel) (fun _ => rfl) (by decide) rfl hl.1 (rest := []) rfl (Nat.le_of_ble_eq_true rfl) dX12_as_78 (st1 := fun _ => [.int (bcF (wayF f k))]) (fun _ => rfl) (fun _ H locs _ X => ?_)
        have X : Wd E _ _ (modW E b (flat f) hf wf ik fd tch tp tl tk tb ta tv bad bo so ce) _ _ := X
        refine lv_goto (tgt := 90) hx hb dX12_as_81 (by decide) ?_
        exact k_topi (x' := (oAs f fd (nI k) (nI j)).1) ((fun (hks : isKS (kn f k) (nI j) = true) => by simp [oAs, bad3, hx0, ek, ej, c15, hks]) (by rw [isKS_nat (kn f k) hk6 j hj]; simp; omega)) (fin () 90 _ _ _ trivial (X.eq ((fun (hks : isKS (kn f k) (nI j) = true) => by simp [oAs, bad3, hx0, ek, ej, c15, hks]) (by rw [isKS_nat (kn f k) hk6 j hj]; simp; omega))) dX12_as_90)
      · refine lv_iload_n hx hb dX12_as_36 rfl (lv_at hl 3 rfl) ?_
        refine lv_iload_n hx hb dX12_as_37 rfl (lv_at hl 0 rfl) ?_
        refine kN_eq (x := j) (y := kn f k) hx hb 61 dX12_as_38 (by decide) (by omega) (by omega) (fun c38 => ?_) (fun c38 => ?_)
        · refine lv_iconst (v := 1) hx hb dX12_as_61 (by decide) ?_
          refine lv_goto (tgt := 66) hx hb dX12_as_62 (by decide) ?_
          refine lv_istore (lv' := [(4, .int 1), (3, .int (nI (kn f k))), (0, .ref (b 0)), (1, .int (nI k)), (2, .int (nI j))]) hx hb dX12_as_66 hl (by decide) rfl (fun ls hl => ?_)
          refine lv_iload hx hb dX12_as_68 (lv_at hl 0 rfl) ?_
          refine k_if1eq hx hb dX12_as_70 ⟨84, by decide⟩ ?_
          refine lv_aload_n hx hb dX12_as_73 rfl (lv_at hl 2 rfl) ?_
          refine lv_iload_n hx hb dX12_as_74 rfl (lv_at hl 3 rfl) ?_
          refine k_callV K X gv_X12_103 (As := [.int (nI k)]) (c_X12_wayOf l E b hf wf ik fd tch tp tl tk tb ta tv bad bo so ce f T k I (by omega)) [0, 1, 2, 3, 4, 5, 6, 7, 8] modW_idC (by decide +kernel) (fun _ => modW_fst) 0 12 rfl rfl (by decide) rfl hl.1 (rest := []) rfl (Nat.le_of_ble_eq_true rfl) dX12_as_75 (st1 := fun _ => [.int (wayF f k)]) (fun _ => rfl) (fun _ H locs _ X => ?_)
          have X : Wd E _ _ (modW E b (flat f) hf wf ik fd tch tp tl tk tb ta tv bad bo so ce) _ _ := X.eq modW_idP
          refine k_callS K X gs_X12_112 (As := [.int (wayF f k)]) (c_X12_bits l E (wayF f k) (wayF_nat I k)) [] rfl (by decide +kernel) (fun _ => rfl) (by decide) rfl hl.1 (rest := []) rfl (Nat.le_of_ble_eq_true rfl) dX12_as_78 (st1 := fun _ => [.int (bcF (wayF f k))]) (fun _ => rfl) (fun _ H locs _ X => ?_)
          have X : Wd E _ _ (modW E b (flat f) hf wf ik fd tch tp tl tk tb ta tv bad bo so ce) _ _ := X
          refine lv_goto (tgt := 90) hx hb dX12_as_81 (by decide) ?_
          exact k_topi (x' := (oAs f fd (nI k) (nI j)).1) ((fun (hks : isKS (kn f k) (nI j) = true) => by simp [oAs, bad3, hx0, ek, ej, c15, hks]) (by rw [isKS_nat (kn f k) hk6 j hj]; simp; omega)) (fin () 90 _ _ _ trivial (X.eq ((fun (hks : isKS (kn f k) (nI j) = true) => by simp [oAs, bad3, hx0, ek, ej, c15, hks]) (by rw [isKS_nat (kn f k) hk6 j hj]; simp; omega))) dX12_as_90)
        · refine lv_iload_n hx hb dX12_as_41 rfl (lv_at hl 3 rfl) ?_
          refine lv_iconst (v := 1) hx hb dX12_as_42 (by decide) ?_
          refine kN_ne (x := j) (y := 1) hx hb 51 dX12_as_43 (by decide) (by omega) (by omega) (fun c43 => ?_) (fun c43 => ?_)
          · refine lv_iload_n hx hb dX12_as_51 rfl (lv_at hl 3 rfl) ?_
            refine lv_iconst (v := 2) hx hb dX12_as_52 (by decide) ?_
            refine kN_ne (x := j) (y := 2) hx hb 65 dX12_as_53 (by decide) (by omega) (by omega) (fun c53 => ?_) (fun c53 => ?_)
            · refine lv_iconst (v := 0) hx hb dX12_as_65 (by decide) ?_
              refine lv_istore (lv' := [(4, .int 0), (3, .int (nI (kn f k))), (0, .ref (b 0)), (1, .int (nI k)), (2, .int (nI j))]) hx hb dX12_as_66 hl (by decide) rfl (fun ls hl => ?_)
              refine lv_iload hx hb dX12_as_68 (lv_at hl 0 rfl) ?_
              refine k_if0eq hx hb 84 dX12_as_70 (by decide) ?_
              refine lv_aload_n hx hb dX12_as_84 rfl (lv_at hl 2 rfl) ?_
              refine lv_ldc (v := (-1000000003)) hx hb K.2.2.2.1 (K.2.2.2.2.1 _ (Mw_at 1034 (by decide +kernel) (by decide +kernel))) dX12_as_85 ?_
              refine k_topi (show (-1000000003 : Int32) = fnd 2 by decide) ?_
              refine k_callV K X gv_X12_37 (As := [.int (fnd 2)]) (c_X12_finds l E b (flat f) hf wf ik fd tch tp tl tk tb ta tv bad bo so ce 2 (by decide)) [0, 1, 2, 3, 4, 5, 6, 7, 8] modW_idC (by decide +kernel) (fun _ => modW_fst) 0 12 rfl rfl (by decide) rfl hl.1 (rest := []) rfl (Nat.le_of_ble_eq_true rfl) dX12_as_87 (st1 := fun _ => [.int (fnd 2)]) (fun _ => rfl) (fun _ H locs _ X => ?_)
              have X : Wd E _ _ (modW E b (flat f) hf wf ik (fdU fd 2) tch tp tl tk tb ta tv bad bo so ce) _ _ := X.eq modW_idP
              exact k_topi (x' := (oAs f fd (nI k) (nI j)).1) ((fun (hks : isKS (kn f k) (nI j) = false) => by simp [oAs, bad3, hx0, ek, ej, c15, hks]) (by rw [isKS_nat (kn f k) hk6 j hj]; simp; omega)) (fin () 90 _ _ _ trivial (X.eq ((fun (hks : isKS (kn f k) (nI j) = false) => by simp [oAs, bad3, hx0, ek, ej, c15, hks]) (by rw [isKS_nat (kn f k) hk6 j hj]; simp; omega))) dX12_as_90)
            · refine lv_iload_n hx hb dX12_as_56 rfl (lv_at hl 0 rfl) ?_
              refine lv_iconst (v := 5) hx hb dX12_as_57 (by decide) ?_
              refine kN_ne (x := kn f k) (y := 5) hx hb 65 dX12_as_58 (by decide) (by omega) (by omega) (fun c58 => ?_) (fun c58 => ?_)
              · refine lv_iconst (v := 0) hx hb dX12_as_65 (by decide) ?_
                refine lv_istore (lv' := [(4, .int 0), (3, .int (nI (kn f k))), (0, .ref (b 0)), (1, .int (nI k)), (2, .int (nI j))]) hx hb dX12_as_66 hl (by decide) rfl (fun ls hl => ?_)
                refine lv_iload hx hb dX12_as_68 (lv_at hl 0 rfl) ?_
                refine k_if0eq hx hb 84 dX12_as_70 (by decide) ?_
                refine lv_aload_n hx hb dX12_as_84 rfl (lv_at hl 2 rfl) ?_
                refine lv_ldc (v := (-1000000003)) hx hb K.2.2.2.1 (K.2.2.2.2.1 _ (Mw_at 1034 (by decide +kernel) (by decide +kernel))) dX12_as_85 ?_
                refine k_topi (show (-1000000003 : Int32) = fnd 2 by decide) ?_
                refine k_callV K X gv_X12_37 (As := [.int (fnd 2)]) (c_X12_finds l E b (flat f) hf wf ik fd tch tp tl tk tb ta tv bad bo so ce 2 (by decide)) [0, 1, 2, 3, 4, 5, 6, 7, 8] modW_idC (by decide +kernel) (fun _ => modW_fst) 0 12 rfl rfl (by decide) rfl hl.1 (rest := []) rfl (Nat.le_of_ble_eq_true rfl) dX12_as_87 (st1 := fun _ => [.int (fnd 2)]) (fun _ => rfl) (fun _ H locs _ X => ?_)
                have X : Wd E _ _ (modW E b (flat f) hf wf ik (fdU fd 2) tch tp tl tk tb ta tv bad bo so ce) _ _ := X.eq modW_idP
                exact k_topi (x' := (oAs f fd (nI k) (nI j)).1) ((fun (hks : isKS (kn f k) (nI j) = false) => by simp [oAs, bad3, hx0, ek, ej, c15, hks]) (by rw [isKS_nat (kn f k) hk6 j hj]; simp; omega)) (fin () 90 _ _ _ trivial (X.eq ((fun (hks : isKS (kn f k) (nI j) = false) => by simp [oAs, bad3, hx0, ek, ej, c15, hks]) (by rw [isKS_nat (kn f k) hk6 j hj]; simp; omega))) dX12_as_90)
              · refine lv_iconst (v := 1) hx hb dX12_as_61 (by decide) ?_
                refine lv_goto (tgt := 66) hx hb dX12_as_62 (by decide) ?_
                refine lv_istore (lv' := [(4, .int 1), (3, .int (nI (kn f k))), (0, .ref (b 0)), (1, .int (nI k)), (2, .int (nI j))]) hx hb dX12_as_66 hl (by decide) rfl (fun ls hl => ?_)
                refine lv_iload hx hb dX12_as_68 (lv_at hl 0 rfl) ?_
                refine k_if1eq hx hb dX12_as_70 ⟨84, by decide⟩ ?_
                refine lv_aload_n hx hb dX12_as_73 rfl (lv_at hl 2 rfl) ?_
                refine lv_iload_n hx hb dX12_as_74 rfl (lv_at hl 3 rfl) ?_
                refine k_callV K X gv_X12_103 (As := [.int (nI k)]) (c_X12_wayOf l E b hf wf ik fd tch tp tl tk tb ta tv bad bo so ce f T k I (by omega)) [0, 1, 2, 3, 4, 5, 6, 7, 8] modW_idC (by decide +kernel) (fun _ => modW_fst) 0 12 rfl rfl (by decide) rfl hl.1 (rest := []) rfl (Nat.le_of_ble_eq_true rfl) dX12_as_75 (st1 := fun _ => [.int (wayF f k)]) (fun _ => rfl) (fun _ H locs _ X => ?_)
                have X : Wd E _ _ (modW E b (flat f) hf wf ik fd tch tp tl tk tb ta tv bad bo so ce) _ _ := X.eq modW_idP
                refine k_callS K X gs_X12_112 (As := [.int (wayF f k)]) (c_X12_bits l E (wayF f k) (wayF_nat I k)) [] rfl (by decide +kernel) (fun _ => rfl) (by decide) rfl hl.1 (rest := []) rfl (Nat.le_of_ble_eq_true rfl) dX12_as_78 (st1 := fun _ => [.int (bcF (wayF f k))]) (fun _ => rfl) (fun _ H locs _ X => ?_)
                have X : Wd E _ _ (modW E b (flat f) hf wf ik fd tch tp tl tk tb ta tv bad bo so ce) _ _ := X
                refine lv_goto (tgt := 90) hx hb dX12_as_81 (by decide) ?_
                exact k_topi (x' := (oAs f fd (nI k) (nI j)).1) ((fun (hks : isKS (kn f k) (nI j) = true) => by simp [oAs, bad3, hx0, ek, ej, c15, hks]) (by rw [isKS_nat (kn f k) hk6 j hj]; simp; omega)) (fin () 90 _ _ _ trivial (X.eq ((fun (hks : isKS (kn f k) (nI j) = true) => by simp [oAs, bad3, hx0, ek, ej, c15, hks]) (by rw [isKS_nat (kn f k) hk6 j hj]; simp; omega))) dX12_as_90)
          · refine lv_iload_n hx hb dX12_as_46 rfl (lv_at hl 0 rfl) ?_
            refine lv_iconst (v := 4) hx hb dX12_as_47 (by decide) ?_
            refine kN_eq (x := kn f k) (y := 4) hx hb 61 dX12_as_48 (by decide) (by omega) (by omega) (fun c48 => ?_) (fun c48 => ?_)
            · refine lv_iconst (v := 1) hx hb dX12_as_61 (by decide) ?_
              refine lv_goto (tgt := 66) hx hb dX12_as_62 (by decide) ?_
              refine lv_istore (lv' := [(4, .int 1), (3, .int (nI (kn f k))), (0, .ref (b 0)), (1, .int (nI k)), (2, .int (nI j))]) hx hb dX12_as_66 hl (by decide) rfl (fun ls hl => ?_)
              refine lv_iload hx hb dX12_as_68 (lv_at hl 0 rfl) ?_
              refine k_if1eq hx hb dX12_as_70 ⟨84, by decide⟩ ?_
              refine lv_aload_n hx hb dX12_as_73 rfl (lv_at hl 2 rfl) ?_
              refine lv_iload_n hx hb dX12_as_74 rfl (lv_at hl 3 rfl) ?_
              refine k_callV K X gv_X12_103 (As := [.int (nI k)]) (c_X12_wayOf l E b hf wf ik fd tch tp tl tk tb ta tv bad bo so ce f T k I (by omega)) [0, 1, 2, 3, 4, 5, 6, 7, 8] modW_idC (by decide +kernel) (fun _ => modW_fst) 0 12 rfl rfl (by decide) rfl hl.1 (rest := []) rfl (Nat.le_of_ble_eq_true rfl) dX12_as_75 (st1 := fun _ => [.int (wayF f k)]) (fun _ => rfl) (fun _ H locs _ X => ?_)
              have X : Wd E _ _ (modW E b (flat f) hf wf ik fd tch tp tl tk tb ta tv bad bo so ce) _ _ := X.eq modW_idP
              refine k_callS K X gs_X12_112 (As := [.int (wayF f k)]) (c_X12_bits l E (wayF f k) (wayF_nat I k)) [] rfl (by decide +kernel) (fun _ => rfl) (by decide) rfl hl.1 (rest := []) rfl (Nat.le_of_ble_eq_true rfl) dX12_as_78 (st1 := fun _ => [.int (bcF (wayF f k))]) (fun _ => rfl) (fun _ H locs _ X => ?_)
              have X : Wd E _ _ (modW E b (flat f) hf wf ik fd tch tp tl tk tb ta tv bad bo so ce) _ _ := X
              refine lv_goto (tgt := 90) hx hb dX12_as_81 (by decide) ?_
              exact k_topi (x' := (oAs f fd (nI k) (nI j)).1) ((fun (hks : isKS (kn f k) (nI j) = true) => by simp [oAs, bad3, hx0, ek, ej, c15, hks]) (by rw [isKS_nat (kn f k) hk6 j hj]; simp; omega)) (fin () 90 _ _ _ trivial (X.eq ((fun (hks : isKS (kn f k) (nI j) = true) => by simp [oAs, bad3, hx0, ek, ej, c15, hks]) (by rw [isKS_nat (kn f k) hk6 j hj]; simp; omega))) dX12_as_90)
            · refine lv_iload_n hx hb dX12_as_51 rfl (lv_at hl 3 rfl) ?_
              refine lv_iconst (v := 2) hx hb dX12_as_52 (by decide) ?_
              refine kN_ne (x := j) (y := 2) hx hb 65 dX12_as_53 (by decide) (by omega) (by omega) (fun c53 => ?_) (fun c53 => ?_)
              · refine lv_iconst (v := 0) hx hb dX12_as_65 (by decide) ?_
                refine lv_istore (lv' := [(4, .int 0), (3, .int (nI (kn f k))), (0, .ref (b 0)), (1, .int (nI k)), (2, .int (nI j))]) hx hb dX12_as_66 hl (by decide) rfl (fun ls hl => ?_)
                refine lv_iload hx hb dX12_as_68 (lv_at hl 0 rfl) ?_
                refine k_if0eq hx hb 84 dX12_as_70 (by decide) ?_
                refine lv_aload_n hx hb dX12_as_84 rfl (lv_at hl 2 rfl) ?_
                refine lv_ldc (v := (-1000000003)) hx hb K.2.2.2.1 (K.2.2.2.2.1 _ (Mw_at 1034 (by decide +kernel) (by decide +kernel))) dX12_as_85 ?_
                refine k_topi (show (-1000000003 : Int32) = fnd 2 by decide) ?_
                refine k_callV K X gv_X12_37 (As := [.int (fnd 2)]) (c_X12_finds l E b (flat f) hf wf ik fd tch tp tl tk tb ta tv bad bo so ce 2 (by decide)) [0, 1, 2, 3, 4, 5, 6, 7, 8] modW_idC (by decide +kernel) (fun _ => modW_fst) 0 12 rfl rfl (by decide) rfl hl.1 (rest := []) rfl (Nat.le_of_ble_eq_true rfl) dX12_as_87 (st1 := fun _ => [.int (fnd 2)]) (fun _ => rfl) (fun _ H locs _ X => ?_)
                have X : Wd E _ _ (modW E b (flat f) hf wf ik (fdU fd 2) tch tp tl tk tb ta tv bad bo so ce) _ _ := X.eq modW_idP
                exact k_topi (x' := (oAs f fd (nI k) (nI j)).1) ((fun (hks : isKS (kn f k) (nI j) = false) => by simp [oAs, bad3, hx0, ek, ej, c15, hks]) (by rw [isKS_nat (kn f k) hk6 j hj]; simp; omega)) (fin () 90 _ _ _ trivial (X.eq ((fun (hks : isKS (kn f k) (nI j) = false) => by simp [oAs, bad3, hx0, ek, ej, c15, hks]) (by rw [isKS_nat (kn f k) hk6 j hj]; simp; omega))) dX12_as_90)
              · refine lv_iload_n hx hb dX12_as_56 rfl (lv_at hl 0 rfl) ?_
                refine lv_iconst (v := 5) hx hb dX12_as_57 (by decide) ?_
                refine kN_ne (x := kn f k) (y := 5) hx hb 65 dX12_as_58 (by decide) (by omega) (by omega) (fun c58 => ?_) (fun c58 => ?_)
                · refine lv_iconst (v := 0) hx hb dX12_as_65 (by decide) ?_
                  refine lv_istore (lv' := [(4, .int 0), (3, .int (nI (kn f k))), (0, .ref (b 0)), (1, .int (nI k)), (2, .int (nI j))]) hx hb dX12_as_66 hl (by decide) rfl (fun ls hl => ?_)
                  refine lv_iload hx hb dX12_as_68 (lv_at hl 0 rfl) ?_
                  refine k_if0eq hx hb 84 dX12_as_70 (by decide) ?_
                  refine lv_aload_n hx hb dX12_as_84 rfl (lv_at hl 2 rfl) ?_
                  refine lv_ldc (v := (-1000000003)) hx hb K.2.2.2.1 (K.2.2.2.2.1 _ (Mw_at 1034 (by decide +kernel) (by decide +kernel))) dX12_as_85 ?_
                  refine k_topi (show (-1000000003 : Int32) = fnd 2 by decide) ?_
                  refine k_callV K X gv_X12_37 (As := [.int (fnd 2)]) (c_X12_finds l E b (flat f) hf wf ik fd tch tp tl tk tb ta tv bad bo so ce 2 (by decide)) [0, 1, 2, 3, 4, 5, 6, 7, 8] modW_idC (by decide +kernel) (fun _ => modW_fst) 0 12 rfl rfl (by decide) rfl hl.1 (rest := []) rfl (Nat.le_of_ble_eq_true rfl) dX12_as_87 (st1 := fun _ => [.int (fnd 2)]) (fun _ => rfl) (fun _ H locs _ X => ?_)
                  have X : Wd E _ _ (modW E b (flat f) hf wf ik (fdU fd 2) tch tp tl tk tb ta tv bad bo so ce) _ _ := X.eq modW_idP
                  exact k_topi (x' := (oAs f fd (nI k) (nI j)).1) ((fun (hks : isKS (kn f k) (nI j) = false) => by simp [oAs, bad3, hx0, ek, ej, c15, hks]) (by rw [isKS_nat (kn f k) hk6 j hj]; simp; omega)) (fin () 90 _ _ _ trivial (X.eq ((fun (hks : isKS (kn f k) (nI j) = false) => by simp [oAs, bad3, hx0, ek, ej, c15, hks]) (by rw [isKS_nat (kn f k) hk6 j hj]; simp; omega))) dX12_as_90)
                · refine lv_iconst (v := 1) hx hb dX12_as_61 (by decide) ?_
                  refine lv_goto (tgt := 66) hx hb dX12_as_62 (by decide) ?_
                  refine lv_istore (lv' := [(4, .int 1), (3, .int (nI (kn f k))), (0, .ref (b 0)), (1, .int (nI k)), (2, .int (nI j))]) hx hb dX12_as_66 hl (by decide) rfl (fun ls hl => ?_)
                  refine lv_iload hx hb dX12_as_68 (lv_at hl 0 rfl) ?_
                  refine k_if1eq hx hb dX12_as_70 ⟨84, by decide⟩ ?_
                  refine lv_aload_n hx hb dX12_as_73 rfl (lv_at hl 2 rfl) ?_
                  refine lv_iload_n hx hb dX12_as_74 rfl (lv_at hl 3 rfl) ?_
                  refine k_callV K X gv_X12_103 (As := [.int (nI k)]) (c_X12_wayOf l E b hf wf ik fd tch tp tl tk tb ta tv bad bo so ce f T k I (by omega)) [0, 1, 2, 3, 4, 5, 6, 7, 8] modW_idC (by decide +kernel) (fun _ => modW_fst) 0 12 rfl rfl (by decide) rfl hl.1 (rest := []) rfl (Nat.le_of_ble_eq_true rfl) dX12_as_75 (st1 := fun _ => [.int (wayF f k)]) (fun _ => rfl) (fun _ H locs _ X => ?_)
                  have X : Wd E _ _ (modW E b (flat f) hf wf ik fd tch tp tl tk tb ta tv bad bo so ce) _ _ := X.eq modW_idP
                  refine k_callS K X gs_X12_112 (As := [.int (wayF f k)]) (c_X12_bits l E (wayF f k) (wayF_nat I k)) [] rfl (by decide +kernel) (fun _ => rfl) (by decide) rfl hl.1 (rest := []) rfl (Nat.le_of_ble_eq_true rfl) dX12_as_78 (st1 := fun _ => [.int (bcF (wayF f k))]) (fun _ => rfl) (fun _ H locs _ X => ?_)
                  have X : Wd E _ _ (modW E b (flat f) hf wf ik fd tch tp tl tk tb ta tv bad bo so ce) _ _ := X
                  refine lv_goto (tgt := 90) hx hb dX12_as_81 (by decide) ?_
                  exact k_topi (x' := (oAs f fd (nI k) (nI j)).1) ((fun (hks : isKS (kn f k) (nI j) = true) => by simp [oAs, bad3, hx0, ek, ej, c15, hks]) (by rw [isKS_nat (kn f k) hk6 j hj]; simp; omega)) (fin () 90 _ _ _ trivial (X.eq ((fun (hks : isKS (kn f k) (nI j) = true) => by simp [oAs, bad3, hx0, ek, ej, c15, hks]) (by rw [isKS_nat (kn f k) hk6 j hj]; simp; omega))) dX12_as_90)
    · refine lv_aload_n hx hb dX12_as_18 rfl (lv_at hl 0 rfl) ?_
      refine lv_ldc (v := (-1000000001)) hx hb K.2.2.2.1 (K.2.2.2.2.1 _ (Mw_at 905 (by decide +kernel) (by decide +kernel))) dX12_as_19 ?_
      refine k_topi (show (-1000000001 : Int32) = fnd 0 by decide) ?_
      refine k_callV K X gv_X12_37 (As := [.int (fnd 0)]) (c_X12_finds l E b (flat f) hf wf ik fd tch tp tl tk tb ta tv bad bo so ce 0 (by decide)) [0, 1, 2, 3, 4, 5, 6, 7, 8] modW_idC (by decide +kernel) (fun _ => modW_fst) 0 12 rfl rfl (by decide) rfl hl.1 (rest := []) rfl (Nat.le_of_ble_eq_true rfl) dX12_as_21 (st1 := fun _ => [.int (fnd 0)]) (fun _ => rfl) (fun _ H locs _ X => ?_)
      have X : Wd E _ _ (modW E b (flat f) hf wf ik (fdU fd 0) tch tp tl tk tb ta tv bad bo so ce) _ _ := X.eq modW_idP
      exact k_topi (x' := (oAs f fd (nI k) y).1) (by simp [oAs, bad3, hx0, ek, c15]) (fin () 24 _ _ _ trivial (X.eq (by simp [oAs, bad3, hx0, ek, c15])) dX12_as_24)
set_option maxRecDepth 100000 in
set_option maxHeartbeats 4000000 in
theorem c_X12_alike (l : Launch) (E : EE) (b : Nat → Nat) (hf : Nat → Int32) (wf : Nat → Int32) (ik : Int32) (fd : Nat → Int32) (tch : Int32) (tp : Nat → Int32) (tl : Int32) (tk : Int32) (tb : Int32) (ta : Int32) (tv : Int32) (bad : Int32) (bo : Nat → Int32) (so : Nat → Int32) (ce : Nat → Int64) (f : St) (T : Nat) (x : Int32) (y : Int32) (I : Inv T f) : Kd l yX12_alike cX12_alike 3 (some .int) 3 68 E (modW E b (flat f) hf wf ik fd tch tp tl tk tb ta tv bad bo so ce) [.ref (b 0), .int x, .int y] (some (.int ((oAlike f fd x y).1))) (modW E b (flat ((oAlike f fd x y).2.1)) hf wf ik ((oAlike f fd x y).2.2) tch tp tl tk tb ta tv bad bo so ce) := by
  refine Kn.ofWi (by decide +kernel) (Nat.le_of_ble_eq_true rfl) (fun _ _ => rfl) ?_
  intro pg ev s0 mm below meth cd Q K X fin ls hl
  have hx := K.1
  have hb := K.2.1
  have hs10 := I.s10
  have hp6 := I.p6
  have hl : lv_has ls 3 [(0, .ref (b 0)), (1, .int x), (2, .int y)] := hl
  refine lv_aload_n hx hb dX12_alike_0 rfl (lv_at hl 0 rfl) ?_
  refine lv_iload_n hx hb dX12_alike_1 rfl (lv_at hl 1 rfl) ?_
  refine k_callV K X gv_X12_100 (As := [.int x]) (c_X12_isPerson l E b hf wf ik fd tch tp tl tk tb ta tv bad bo so ce f x) [0, 1, 2, 3, 4, 5, 6, 7, 8] modW_idC (by decide +kernel) (fun _ => modW_fst) 0 12 rfl rfl (by decide) rfl hl.1 (rest := []) rfl (Nat.le_of_ble_eq_true rfl) dX12_alike_2 (st1 := fun _ => [.int (b2i (inR x 0 (f 0 3 - 1)))]) (fun _ => rfl) (fun _ H locs _ X => ?_)
  have X : Wd E _ _ (modW E b (flat f) hf wf ik fd tch tp tl tk tb ta tv bad bo so ce) _ _ := X.eq modW_idP
  refine k_ifeqB (B := (inR x 0 (f 0 3 - 1))) hx hb 30 dX12_alike_5 (by decide) (fun c5 => ?_) (fun c5 => ?_)
  · have hx0 : isP f x = false := c5
    refine lv_aload_n hx hb dX12_alike_30 rfl (lv_at hl 0 rfl) ?_
    refine lv_ldc (v := (-1000000001)) hx hb K.2.2.2.1 (K.2.2.2.2.1 _ (Mw_at 905 (by decide +kernel) (by decide +kernel))) dX12_alike_31 ?_
    refine k_topi (show (-1000000001 : Int32) = fnd 0 by decide) ?_
    refine k_callV K X gv_X12_37 (As := [.int (fnd 0)]) (c_X12_finds l E b (flat f) hf wf ik fd tch tp tl tk tb ta tv bad bo so ce 0 (by decide)) [0, 1, 2, 3, 4, 5, 6, 7, 8] modW_idC (by decide +kernel) (fun _ => modW_fst) 0 12 rfl rfl (by decide) rfl hl.1 (rest := []) rfl (Nat.le_of_ble_eq_true rfl) dX12_alike_33 (st1 := fun _ => [.int (fnd 0)]) (fun _ => rfl) (fun _ H locs _ X => ?_)
    have X : Wd E _ _ (modW E b (flat f) hf wf ik (fdU fd 0) tch tp tl tk tb ta tv bad bo so ce) _ _ := X.eq modW_idP
    exact k_topi (x' := (oAlike f fd x y).1) (by simp [oAlike, bad3, hx0]) (fin () 36 _ _ _ trivial (X.eq (by simp [oAlike, bad3, hx0])) dX12_alike_36)
  · have hx0 : isP f x = true := c5
    obtain ⟨k, hk, rfl⟩ := isP_nat I hx0
    have ek : (nI k).toNatClampNeg = k := nI_clamp (by omega)
    refine lv_aload_n hx hb dX12_alike_8 rfl (lv_at hl 0 rfl) ?_
    refine lv_iload_n hx hb dX12_alike_9 rfl (lv_at hl 2 rfl) ?_
    refine k_callV K X gv_X12_100 (As := [.int y]) (c_X12_isPerson l E b hf wf ik fd tch tp tl tk tb ta tv bad bo so ce f y) [0, 1, 2, 3, 4, 5, 6, 7, 8] modW_idC (by decide +kernel) (fun _ => modW_fst) 0 12 rfl rfl (by decide) rfl hl.1 (rest := []) rfl (Nat.le_of_ble_eq_true rfl) dX12_alike_10 (st1 := fun _ => [.int (b2i (inR y 0 (f 0 3 - 1)))]) (fun _ => rfl) (fun _ H locs _ X => ?_)
    have X : Wd E _ _ (modW E b (flat f) hf wf ik fd tch tp tl tk tb ta tv bad bo so ce) _ _ := X.eq modW_idP
    refine k_ifeqB (B := (inR y 0 (f 0 3 - 1))) hx hb 30 dX12_alike_13 (by decide) (fun c13 => ?_) (fun c13 => ?_)
    · have hy0 : isP f y = false := c13
      refine lv_aload_n hx hb dX12_alike_30 rfl (lv_at hl 0 rfl) ?_
      refine lv_ldc (v := (-1000000001)) hx hb K.2.2.2.1 (K.2.2.2.2.1 _ (Mw_at 905 (by decide +kernel) (by decide +kernel))) dX12_alike_31 ?_
      refine k_topi (show (-1000000001 : Int32) = fnd 0 by decide) ?_
      refine k_callV K X gv_X12_37 (As := [.int (fnd 0)]) (c_X12_finds l E b (flat f) hf wf ik fd tch tp tl tk tb ta tv bad bo so ce 0 (by decide)) [0, 1, 2, 3, 4, 5, 6, 7, 8] modW_idC (by decide +kernel) (fun _ => modW_fst) 0 12 rfl rfl (by decide) rfl hl.1 (rest := []) rfl (Nat.le_of_ble_eq_true rfl) dX12_alike_33 (st1 := fun _ => [.int (fnd 0)]) (fun _ => rfl) (fun _ H locs _ X => ?_)
      have X : Wd E _ _ (modW E b (flat f) hf wf ik (fdU fd 0) tch tp tl tk tb ta tv bad bo so ce) _ _ := X.eq modW_idP
      exact k_topi (x' := (oAlike f fd (nI k) y).1) (by simp [oAlike, bad3, hx0, ek, hy0]) (fin () 36 _ _ _ trivial (X.eq (by simp [oAlike, bad3, hx0, ek, hy0])) dX12_alike_36)
    · have hy0 : isP f y = true := c13
      obtain ⟨j, hj, rfl⟩ := isP_nat I hy0
      have ej : (nI j).toNatClampNeg = j := nI_clamp (by omega)
      refine lv_iload_n hx hb dX12_alike_16 rfl (lv_at hl 1 rfl) ?_
      refine lv_iload_n hx hb dX12_alike_17 rfl (lv_at hl 2 rfl) ?_
      refine kN_eq (x := k) (y := j) hx hb 30 dX12_alike_18 (by decide) (by omega) (by omega) (fun c18 => ?_) (fun c18 => ?_)
      · have cne : nI k = nI j := by rw [c18]
        refine lv_aload_n hx hb dX12_alike_30 rfl (lv_at hl 0 rfl) ?_
        refine lv_ldc (v := (-1000000001)) hx hb K.2.2.2.1 (K.2.2.2.2.1 _ (Mw_at 905 (by decide +kernel) (by decide +kernel))) dX12_alike_31 ?_
        refine k_topi (show (-1000000001 : Int32) = fnd 0 by decide) ?_
        refine k_callV K X gv_X12_37 (As := [.int (fnd 0)]) (c_X12_finds l E b (flat f) hf wf ik fd tch tp tl tk tb ta tv bad bo so ce 0 (by decide)) [0, 1, 2, 3, 4, 5, 6, 7, 8] modW_idC (by decide +kernel) (fun _ => modW_fst) 0 12 rfl rfl (by decide) rfl hl.1 (rest := []) rfl (Nat.le_of_ble_eq_true rfl) dX12_alike_33 (st1 := fun _ => [.int (fnd 0)]) (fun _ => rfl) (fun _ H locs _ X => ?_)
        have X : Wd E _ _ (modW E b (flat f) hf wf ik (fdU fd 0) tch tp tl tk tb ta tv bad bo so ce) _ _ := X.eq modW_idP
        exact k_topi (x' := (oAlike f fd (nI k) (nI j)).1) (by simp [oAlike, bad3, hx0, ek, hy0, ej, c18, cne]) (fin () 36 _ _ _ trivial (X.eq (by simp [oAlike, bad3, hx0, ek, hy0, ej, c18, cne])) dX12_alike_36)
      · have cne : ¬ nI k = nI j := fun e => c18 ((nI_eq (by omega) (by omega)).mp e)
        refine lv_aload_n hx hb dX12_alike_21 rfl (lv_at hl 0 rfl) ?_
        refine lv_iload_n hx hb dX12_alike_22 rfl (lv_at hl 1 rfl) ?_
        refine lv_iload_n hx hb dX12_alike_23 rfl (lv_at hl 2 rfl) ?_
        refine k_callV K X gv_X12_116 (As := [.int (nI k), .int (nI j)]) (c_X12_sameOf l E b hf wf ik fd tch tp tl tk tb ta tv bad bo so ce f T k j I (by omega) (by omega)) [0, 1, 2, 3, 4, 5, 6, 7, 8] modW_idC (by decide +kernel) (fun _ => modW_fst) 0 12 rfl rfl (by decide) rfl hl.1 (rest := []) rfl (Nat.le_of_ble_eq_true rfl) dX12_alike_24 (st1 := fun _ => [.int (nI (sameF f k j))]) (fun _ => rfl) (fun _ H locs _ X => ?_)
        have X : Wd E _ _ (modW E b (flat f) hf wf ik fd tch tp tl tk tb ta tv bad bo so ce) _ _ := X.eq modW_idP
        refine lv_goto (tgt := 36) hx hb dX12_alike_27 (by decide) ?_
        exact k_topi (x' := (oAlike f fd (nI k) (nI j)).1) (by simp [oAlike, bad3, hx0, ek, hy0, ej, c18, cne]) (fin () 36 _ _ _ trivial (X.eq (by simp [oAlike, bad3, hx0, ek, hy0, ej, c18, cne])) dX12_alike_36)
set_option maxRecDepth 100000 in
set_option maxHeartbeats 4000000 in
theorem c_X12_minutes (l : Launch) (E : EE) (b : Nat → Nat) (hf : Nat → Int32) (wf : Nat → Int32) (ik : Int32) (fd : Nat → Int32) (tch : Int32) (tp : Nat → Int32) (tl : Int32) (tk : Int32) (tb : Int32) (ta : Int32) (tv : Int32) (bad : Int32) (bo : Nat → Int32) (so : Nat → Int32) (ce : Nat → Int64) (f : St) (T : Nat) (x : Int32) (I : Inv T f) (hT : T < 999000) : Kn l yX12_minutes cX12_minutes 2 (some .int) 6 137 E (modW E b (flat f) hf wf ik fd tch tp tl tk tb ta tv bad bo so ce) [.ref (b 0), .int x] (S := Int32) (fun _ => True) (fun _ => (some (.int ((oMinutes f fd x).1)))) (fun u => (modW E b (flat ((oMinutes f fd x).2.1)) hf wf ik ((oMinutes f fd x).2.2) u tp tl tk tb ta tv bad bo so ce)) := by
  refine Kn.ofWi (by decide +kernel) (Nat.le_of_ble_eq_true rfl) (fun _ _ => rfl) ?_
  intro pg ev s0 mm below meth cd Q K X fin ls hl
  have hx := K.1
  have hb := K.2.1
  have hs10 := I.s10
  have hp6 := I.p6
  have hmT := I.mT
  have hl : lv_has ls 2 [(0, .ref (b 0)), (1, .int x)] := hl
  refine lv_iload_n hx hb dX12_minutes_0 rfl (lv_at hl 1 rfl) ?_
  refine lv_i2l (v := x.toInt64) hx hb dX12_minutes_1 rfl ?_
  refine lv_iconst (v := 1) hx hb dX12_minutes_2 (by decide) ?_
  refine lv_bipush (v := 100) hx hb dX12_minutes_3 (by decide) ?_
  refine k_callS K X gs_X12_41 (As := [.long x.toInt64, .int 1, .int 100]) (c_X12_in l E x 1 100) [] rfl (by decide +kernel) (fun _ => rfl) (by decide) rfl hl.1 (rest := []) rfl (Nat.le_of_ble_eq_true rfl) dX12_minutes_5 (st1 := fun _ => [.int (b2i (inR x 1 100))]) (fun _ => rfl) (fun _ H locs _ X => ?_)
  have X : Wd E _ _ (modW E b (flat f) hf wf ik fd tch tp tl tk tb ta tv bad bo so ce) _ _ := X
  refine k_ifneB (B := (inR x 1 100)) hx hb 18 dX12_minutes_8 (by decide) (fun c8 => ?_) (fun c8 => ?_)
  · obtain ⟨u, hu, rfl, hul, huh⟩ := inR_nat (n := 101) (by decide) (by decide) c8
    have hul : 1 ≤ u := by have h0 : ((1 : Int32).toInt) = 1 := (by decide); omega
    have eu : (nI u).toNatClampNeg = u := nI_clamp (by omega)
    refine lv_aload_n hx hb dX12_minutes_18 rfl (lv_at hl 0 rfl) ?_
    refine k_get K X 0 rfl fg_X12_9 (v := .ref (b 1)) rfl dX12_minutes_19 ?_
    refine lv_iconst (v := 0) hx hb dX12_minutes_22 (by decide) ?_
    refine k_ialdN K X 1 rfl (k := 0) (by omega) (by decide) dX12_minutes_23 (v := f 0 0) rfl ?_
    refine k_topi (I.hM) ?_
    refine lv_iload_n hx hb dX12_minutes_24 rfl (lv_at hl 1 rfl) ?_
    refine lv_iadd hx hb dX12_minutes_25 ?_
    refine k_topi (nI_add (mn f) u) ?_
    refine lv_ldc (v := 99999) hx hb K.2.2.2.1 (K.2.2.2.2.1 _ (Mw_at 1047 (by decide +kernel) (by decide +kernel))) dX12_minutes_26 ?_
    refine kN_le (x := mn f + u) (y := 99999) hx hb 38 dX12_minutes_28 (by decide) (by omega) (by omega) (fun c28 => ?_) (fun c28 => ?_)
    · have hb1 : decide (mn f + u ≤ 99999) = true := by simp; omega
      refine lv_aload_n hx hb dX12_minutes_38 rfl (lv_at hl 0 rfl) ?_
      refine lv_iload_n hx hb dX12_minutes_39 rfl (lv_at hl 1 rfl) ?_
      refine k_callV K X gv_X12_139 (As := [.int (nI u)]) (c_X12_goesFor l E b hf wf ik fd tch tp tl tk tb ta tv bad bo so ce f T u I (by omega)) [0, 1, 2, 3, 4, 5, 6, 7, 8] modW_idC (by decide +kernel) (fun _ => modW_fst) 0 12 rfl rfl (by decide) rfl hl.1 (rest := []) rfl (Nat.le_of_ble_eq_true rfl) dX12_minutes_40 (st1 := fun _ => []) (fun _ => rfl) (fun _ H locs _ X => ?_)
      have X : Wd E _ _ (modW E b (flat (goN u f)) hf wf ik fd (tcN u f tch) tp tl tk tb ta tv bad bo so ce) _ _ := X.eq modW_idP
      refine lv_aload_n hx hb dX12_minutes_43 rfl (lv_at hl 0 rfl) ?_
      refine k_callV K X gv_X12_94 (As := []) (c_X12_allMoved l E b hf wf ik fd (tcN u f tch) tp tl tk tb ta tv bad bo so ce (goN u f) (T + u) (I.more u (by omega))) [0, 1, 2, 3, 4, 5, 6, 7, 8] modW_idC (by decide +kernel) (fun _ => modW_fst) 0 12 rfl rfl (by decide) rfl hl.1 (rest := []) rfl (Nat.le_of_ble_eq_true rfl) dX12_minutes_44 (st1 := fun _ => [.int (allF (goN u f))]) (fun _ => rfl) (fun _ H locs _ X => ?_)
      have X : Wd E _ _ (modW E b (flat (goN u f)) hf wf ik fd (tcN u f tch) tp tl tk tb ta tv bad bo so ce) _ _ := X.eq modW_idP
      exact k_topi (x' := (oMinutes f fd (nI u)).1) (by simp [oMinutes, bad3, c8, eu, hb1]) (fin ((tcN u f tch)) 47 _ _ _ trivial (X.eq (by simp [oMinutes, bad3, c8, eu, hb1])) dX12_minutes_47)
    · have hb1 : decide (mn f + u ≤ 99999) = false := by simp; omega
      refine lv_aload_n hx hb dX12_minutes_31 rfl (lv_at hl 0 rfl) ?_
      refine lv_ldc (v := (-1000000005)) hx hb K.2.2.2.1 (K.2.2.2.2.1 _ (Mw_at 1048 (by decide +kernel) (by decide +kernel))) dX12_minutes_32 ?_
      refine k_topi (show (-1000000005 : Int32) = fnd 4 by decide) ?_
      refine k_callV K X gv_X12_37 (As := [.int (fnd 4)]) (c_X12_finds l E b (flat f) hf wf ik fd tch tp tl tk tb ta tv bad bo so ce 4 (by decide)) [0, 1, 2, 3, 4, 5, 6, 7, 8] modW_idC (by decide +kernel) (fun _ => modW_fst) 0 12 rfl rfl (by decide) rfl hl.1 (rest := []) rfl (Nat.le_of_ble_eq_true rfl) dX12_minutes_34 (st1 := fun _ => [.int (fnd 4)]) (fun _ => rfl) (fun _ H locs _ X => ?_)
      have X : Wd E _ _ (modW E b (flat f) hf wf ik (fdU fd 4) tch tp tl tk tb ta tv bad bo so ce) _ _ := X.eq modW_idP
      exact k_topi (x' := (oMinutes f fd (nI u)).1) (by simp [oMinutes, bad3, c8, eu, hb1]) (fin (tch) 37 _ _ _ trivial (X.eq (by simp [oMinutes, bad3, c8, eu, hb1])) dX12_minutes_37)
  · refine lv_aload_n hx hb dX12_minutes_11 rfl (lv_at hl 0 rfl) ?_
    refine lv_ldc (v := (-1000000001)) hx hb K.2.2.2.1 (K.2.2.2.2.1 _ (Mw_at 905 (by decide +kernel) (by decide +kernel))) dX12_minutes_12 ?_
    refine k_topi (show (-1000000001 : Int32) = fnd 0 by decide) ?_
    refine k_callV K X gv_X12_37 (As := [.int (fnd 0)]) (c_X12_finds l E b (flat f) hf wf ik fd tch tp tl tk tb ta tv bad bo so ce 0 (by decide)) [0, 1, 2, 3, 4, 5, 6, 7, 8] modW_idC (by decide +kernel) (fun _ => modW_fst) 0 12 rfl rfl (by decide) rfl hl.1 (rest := []) rfl (Nat.le_of_ble_eq_true rfl) dX12_minutes_14 (st1 := fun _ => [.int (fnd 0)]) (fun _ => rfl) (fun _ H locs _ X => ?_)
    have X : Wd E _ _ (modW E b (flat f) hf wf ik (fdU fd 0) tch tp tl tk tb ta tv bad bo so ce) _ _ := X.eq modW_idP
    exact k_topi (x' := (oMinutes f fd x).1) (by simp [oMinutes, bad3, c8]) (fin (tch) 17 _ _ _ trivial (X.eq (by simp [oMinutes, bad3, c8])) dX12_minutes_17)
set_option maxRecDepth 100000 in
set_option maxHeartbeats 4000000 in
theorem c_X12_on (l : Launch) (E : EE) (b : Nat → Nat) (hf : Nat → Int32) (wf : Nat → Int32) (ik : Int32) (fd : Nat → Int32) (tch : Int32) (tp : Nat → Int32) (tl : Int32) (tk : Int32) (tb : Int32) (ta : Int32) (tv : Int32) (bad : Int32) (bo : Nat → Int32) (so : Nat → Int32) (ce : Nat → Int64) (f : St) (T : Nat) (x : Int32) (y : Int32) (z : Int32) (I : Inv T f) (hT : T < 999000) : Kn l yX12_on cX12_on 5 (some .int) 6 137 E (modW E b (flat f) hf wf ik fd tch tp tl tk tb ta tv bad bo so ce) [.ref (b 0), .int x, .int y, .int z] (S := (Nat → Int32) × Int32) (fun _ => True) (fun _ => (some (.int ((oOn f fd x y z).1)))) (fun u => (modW E b (flat ((oOn f fd x y z).2.1)) hf u.1 ik ((oOn f fd x y z).2.2) u.2 tp tl tk tb ta tv bad bo so ce)) := by
  refine Kn.ofWi (by decide +kernel) (Nat.le_of_ble_eq_true rfl) (fun _ _ => rfl) ?_
  intro pg ev s0 mm below meth cd Q K X fin ls hl
  have hx := K.1
  have hb := K.2.1
  have hs10 := I.s10
  have hp6 := I.p6
  have hl : lv_has ls 5 [(0, .ref (b 0)), (1, .int x), (2, .int y), (3, .int z)] := hl
  refine lv_aload_n hx hb dX12_on_0 rfl (lv_at hl 0 rfl) ?_
  refine lv_iload_n hx hb dX12_on_1 rfl (lv_at hl 1 rfl) ?_
  refine k_callV K X gv_X12_74 (As := [.int x]) (c_X12_isSlip l E b hf wf ik fd tch tp tl tk tb ta tv bad bo so ce f x) [0, 1, 2, 3, 4, 5, 6, 7, 8] modW_idC (by decide +kernel) (fun _ => modW_fst) 0 12 rfl rfl (by decide) rfl hl.1 (rest := []) rfl (Nat.le_of_ble_eq_true rfl) dX12_on_2 (st1 := fun _ => [.int (b2i (inR x 0 (f 0 2 - 1)))]) (fun _ => rfl) (fun _ H locs _ X => ?_)
  have X : Wd E _ _ (modW E b (flat f) hf wf ik fd tch tp tl tk tb ta tv bad bo so ce) _ _ := X.eq modW_idP
  refine k_ifeqB (B := (inR x 0 (f 0 2 - 1))) hx hb 30 dX12_on_5 (by decide) (fun c5 => ?_) (fun c5 => ?_)
  · have hx0 : isS f x = false := c5
    refine lv_aload_n hx hb dX12_on_30 rfl (lv_at hl 0 rfl) ?_
    refine lv_ldc (v := (-1000000001)) hx hb K.2.2.2.1 (K.2.2.2.2.1 _ (Mw_at 905 (by decide +kernel) (by decide +kernel))) dX12_on_31 ?_
    refine k_topi (show (-1000000001 : Int32) = fnd 0 by decide) ?_
    refine k_callV K X gv_X12_37 (As := [.int (fnd 0)]) (c_X12_finds l E b (flat f) hf wf ik fd tch tp tl tk tb ta tv bad bo so ce 0 (by decide)) [0, 1, 2, 3, 4, 5, 6, 7, 8] modW_idC (by decide +kernel) (fun _ => modW_fst) 0 12 rfl rfl (by decide) rfl hl.1 (rest := []) rfl (Nat.le_of_ble_eq_true rfl) dX12_on_33 (st1 := fun _ => [.int (fnd 0)]) (fun _ => rfl) (fun _ H locs _ X => ?_)
    have X : Wd E _ _ (modW E b (flat f) hf wf ik (fdU fd 0) tch tp tl tk tb ta tv bad bo so ce) _ _ := X.eq modW_idP
    exact k_topi (x' := (oOn f fd x y z).1) (by simp [oOn, bad3, hx0]) (fin (wf, tch) 36 _ _ _ trivial (X.eq (by simp [oOn, bad3, hx0])) dX12_on_36)
  · have hx0 : isS f x = true := c5
    obtain ⟨k, hk, rfl⟩ := isS_nat I hx0
    have ek : (nI k).toNatClampNeg = k := nI_clamp (by omega)
    refine lv_iload_n hx hb dX12_on_8 rfl (lv_at hl 2 rfl) ?_
    refine lv_i2l (v := y.toInt64) hx hb dX12_on_9 rfl ?_
    refine lv_iconst (v := 0) hx hb dX12_on_10 (by decide) ?_
    refine lv_sipush (v := 200) hx hb dX12_on_11 (by decide) ?_
    refine k_callS K X gs_X12_41 (As := [.long y.toInt64, .int 0, .int 200]) (c_X12_in l E y 0 200) [] rfl (by decide +kernel) (fun _ => rfl) (by decide) rfl hl.1 (rest := []) rfl (Nat.le_of_ble_eq_true rfl) dX12_on_14 (st1 := fun _ => [.int (b2i (inR y 0 200))]) (fun _ => rfl) (fun _ H locs _ X => ?_)
    have X : Wd E _ _ (modW E b (flat f) hf wf ik fd tch tp tl tk tb ta tv bad bo so ce) _ _ := X
    refine k_ifeqB (B := (inR y 0 200)) hx hb 30 dX12_on_17 (by decide) (fun c17 => ?_) (fun c17 => ?_)
    · refine lv_aload_n hx hb dX12_on_30 rfl (lv_at hl 0 rfl) ?_
      refine lv_ldc (v := (-1000000001)) hx hb K.2.2.2.1 (K.2.2.2.2.1 _ (Mw_at 905 (by decide +kernel) (by decide +kernel))) dX12_on_31 ?_
      refine k_topi (show (-1000000001 : Int32) = fnd 0 by decide) ?_
      refine k_callV K X gv_X12_37 (As := [.int (fnd 0)]) (c_X12_finds l E b (flat f) hf wf ik fd tch tp tl tk tb ta tv bad bo so ce 0 (by decide)) [0, 1, 2, 3, 4, 5, 6, 7, 8] modW_idC (by decide +kernel) (fun _ => modW_fst) 0 12 rfl rfl (by decide) rfl hl.1 (rest := []) rfl (Nat.le_of_ble_eq_true rfl) dX12_on_33 (st1 := fun _ => [.int (fnd 0)]) (fun _ => rfl) (fun _ H locs _ X => ?_)
      have X : Wd E _ _ (modW E b (flat f) hf wf ik (fdU fd 0) tch tp tl tk tb ta tv bad bo so ce) _ _ := X.eq modW_idP
      exact k_topi (x' := (oOn f fd (nI k) y z).1) (by simp [oOn, bad3, hx0, ek, c17]) (fin (wf, tch) 36 _ _ _ trivial (X.eq (by simp [oOn, bad3, hx0, ek, c17])) dX12_on_36)
    · obtain ⟨u, hu, rfl, hul, huh⟩ := inR_nat (n := 201) (by decide) (by decide) c17
      have hul : 0 ≤ u := by have h0 : ((0 : Int32).toInt) = 0 := (by decide); omega
      have eu : (nI u).toNatClampNeg = u := nI_clamp (by omega)
      refine lv_iload_n hx hb dX12_on_20 rfl (lv_at hl 3 rfl) ?_
      refine lv_i2l (v := z.toInt64) hx hb dX12_on_21 rfl ?_
      refine lv_iconst (v := 0) hx hb dX12_on_22 (by decide) ?_
      refine lv_iconst (v := 2) hx hb dX12_on_23 (by decide) ?_
      refine k_callS K X gs_X12_41 (As := [.long z.toInt64, .int 0, .int 2]) (c_X12_in l E z 0 2) [] rfl (by decide +kernel) (fun _ => rfl) (by decide) rfl hl.1 (rest := []) rfl (Nat.le_of_ble_eq_true rfl) dX12_on_24 (st1 := fun _ => [.int (b2i (inR z 0 2))]) (fun _ => rfl) (fun _ H locs _ X => ?_)
      have X : Wd E _ _ (modW E b (flat f) hf wf ik fd tch tp tl tk tb ta tv bad bo so ce) _ _ := X
      refine k_ifneB (B := (inR z 0 2)) hx hb 37 dX12_on_27 (by decide) (fun c27 => ?_) (fun c27 => ?_)
      · obtain ⟨w, hw, rfl, hwl, hwh⟩ := inR_nat (n := 3) (by decide) (by decide) c27
        have hwl : 0 ≤ w := by have h0 : ((0 : Int32).toInt) = 0 := (by decide); omega
        have ew : (nI w).toNatClampNeg = w := nI_clamp (by omega)
        refine lv_aload_n hx hb dX12_on_37 rfl (lv_at hl 0 rfl) ?_
        refine k_callV K X gv_X12_146 (As := []) (c_X12_thinks l E b (flat f) hf wf ik fd tch tp tl tk tb ta tv bad bo so ce) [0, 1, 2, 3, 4, 5, 6, 7, 8] modW_idC (by decide +kernel) (fun _ => modW_fst) 0 12 rfl rfl (by decide) rfl hl.1 (rest := []) rfl (Nat.le_of_ble_eq_true rfl) dX12_on_38 (st1 := fun _ => []) (fun _ => rfl) (fun _ H locs _ X => ?_)
        have X : Wd E _ _ (modW E b (flat f) hf (flat f) ik fd tch tp tl tk tb ta tv bad bo so ce) _ _ := X.eq modW_idP
        refine lv_aload_n hx hb dX12_on_41 rfl (lv_at hl 0 rfl) ?_
        refine lv_iload_n hx hb dX12_on_42 rfl (lv_at hl 2 rfl) ?_
        refine k_callV K X gv_X12_139 (As := [.int (nI u)]) (c_X12_goesFor l E b hf (flat f) ik fd tch tp tl tk tb ta tv bad bo so ce f T u I (by omega)) [0, 1, 2, 3, 4, 5, 6, 7, 8] modW_idC (by decide +kernel) (fun _ => modW_fst) 0 12 rfl rfl (by decide) rfl hl.1 (rest := []) rfl (Nat.le_of_ble_eq_true rfl) dX12_on_43 (st1 := fun _ => []) (fun _ => rfl) (fun _ H locs _ X => ?_)
        have X : Wd E _ _ (modW E b (flat (goN u f)) hf (flat f) ik fd (tcN u f tch) tp tl tk tb ta tv bad bo so ce) _ _ := X.eq modW_idP
        refine lv_aload_n hx hb dX12_on_46 rfl (lv_at hl 0 rfl) ?_
        refine lv_iload_n hx hb dX12_on_47 rfl (lv_at hl 1 rfl) ?_
        refine lv_iload_n hx hb dX12_on_48 rfl (lv_at hl 3 rfl) ?_
        refine k_callV K X gv_X12_49 (As := [.int (nI k), .int (nI w)]) (c_X12_it l E b hf (flat f) ik fd (tcN u f tch) tp tl tk tb ta tv bad bo so ce (goN u f) k w (by omega) (by omega)) [0, 1, 2, 3, 4, 5, 6, 7, 8] modW_idC (by decide +kernel) (fun _ => modW_fst) 0 12 rfl rfl (by decide) rfl hl.1 (rest := []) rfl (Nat.le_of_ble_eq_true rfl) dX12_on_49 (st1 := fun _ => [.int ((goN u f) (1 + w) k)]) (fun _ => rfl) (fun _ H locs _ X => ?_)
        have X : Wd E _ _ (modW E b (flat (goN u f)) hf (flat f) ik fd (tcN u f tch) tp tl tk tb ta tv bad bo so ce) _ _ := X.eq modW_idP
        refine lv_istore (lv' := [(4, .int ((goN u f) (1 + w) k)), (0, .ref (b 0)), (1, .int (nI k)), (2, .int (nI u)), (3, .int (nI w))]) hx hb dX12_on_52 hl (by decide) rfl (fun ls hl => ?_)
        refine lv_aload_n hx hb dX12_on_54 rfl (lv_at hl 1 rfl) ?_
        refine k_callV K X gv_X12_149 (As := []) (c_X12_putsBack l E b (flat (goN u f)) hf (flat f) ik fd (tcN u f tch) tp tl tk tb ta tv bad bo so ce) [0, 1, 2, 3, 4, 5, 6, 7, 8] modW_idC (by decide +kernel) (fun _ => modW_fst) 0 12 rfl rfl (by decide) rfl hl.1 (rest := []) rfl (Nat.le_of_ble_eq_true rfl) dX12_on_55 (st1 := fun _ => []) (fun _ => rfl) (fun _ H locs _ X => ?_)
        have X : Wd E _ _ (modW E b (flat f) hf (flat f) ik fd (tcN u f tch) tp tl tk tb ta tv bad bo so ce) _ _ := X.eq modW_idP
        refine lv_iload hx hb dX12_on_58 (lv_at hl 0 rfl) ?_
        exact k_topi (x' := (oOn f fd (nI k) (nI u) (nI w)).1) (by simp [oOn, bad3, hx0, ek, c17, eu, c27, ew]) (fin ((flat f), (tcN u f tch)) 60 _ _ _ trivial (X.eq (by simp [oOn, bad3, hx0, ek, c17, eu, c27, ew])) dX12_on_60)
      · refine lv_aload_n hx hb dX12_on_30 rfl (lv_at hl 0 rfl) ?_
        refine lv_ldc (v := (-1000000001)) hx hb K.2.2.2.1 (K.2.2.2.2.1 _ (Mw_at 905 (by decide +kernel) (by decide +kernel))) dX12_on_31 ?_
        refine k_topi (show (-1000000001 : Int32) = fnd 0 by decide) ?_
        refine k_callV K X gv_X12_37 (As := [.int (fnd 0)]) (c_X12_finds l E b (flat f) hf wf ik fd tch tp tl tk tb ta tv bad bo so ce 0 (by decide)) [0, 1, 2, 3, 4, 5, 6, 7, 8] modW_idC (by decide +kernel) (fun _ => modW_fst) 0 12 rfl rfl (by decide) rfl hl.1 (rest := []) rfl (Nat.le_of_ble_eq_true rfl) dX12_on_33 (st1 := fun _ => [.int (fnd 0)]) (fun _ => rfl) (fun _ H locs _ X => ?_)
        have X : Wd E _ _ (modW E b (flat f) hf wf ik (fdU fd 0) tch tp tl tk tb ta tv bad bo so ce) _ _ := X.eq modW_idP
        exact k_topi (x' := (oOn f fd (nI k) (nI u) z).1) (by simp [oOn, bad3, hx0, ek, c17, eu, c27]) (fin (wf, tch) 36 _ _ _ trivial (X.eq (by simp [oOn, bad3, hx0, ek, c17, eu, c27])) dX12_on_36)
set_option maxRecDepth 100000 in
set_option maxHeartbeats 4000000 in
theorem c_X12_way (l : Launch) (E : EE) (b : Nat → Nat) (hf : Nat → Int32) (wf : Nat → Int32) (ik : Int32) (fd : Nat → Int32) (tch : Int32) (tp : Nat → Int32) (tl : Int32) (tk : Int32) (tb : Int32) (ta : Int32) (tv : Int32) (bad : Int32) (bo : Nat → Int32) (so : Nat → Int32) (ce : Nat → Int64) (f : St) (T : Nat) (x : Int32) (y : Int32) (I : Inv T f) (hT : T < 999000) : Kn l yX12_way cX12_way 3 (some .int) 7 160 E (modW E b (flat f) hf wf ik fd tch tp tl tk tb ta tv bad bo so ce) [.ref (b 0), .int x, .int y] (S := (Nat → Int32) × Int32) (fun _ => True) (fun _ => (some (.int ((oWay f fd x y).1)))) (fun u => (modW E b (flat ((oWay f fd x y).2.1)) hf u.1 ik ((oWay f fd x y).2.2) u.2 tp tl tk tb ta tv bad bo so ce)) := by
  refine Kn.ofWi (by decide +kernel) (Nat.le_of_ble_eq_true rfl) (fun _ _ => rfl) ?_
  intro pg ev s0 mm below meth cd Q K X fin ls hl
  have hx := K.1
  have hb := K.2.1
  have hs10 := I.s10
  have hp6 := I.p6
  have hl : lv_has ls 3 [(0, .ref (b 0)), (1, .int x), (2, .int y)] := hl
  refine lv_aload_n hx hb dX12_way_0 rfl (lv_at hl 0 rfl) ?_
  refine lv_iload_n hx hb dX12_way_1 rfl (lv_at hl 1 rfl) ?_
  refine k_callV K X gv_X12_100 (As := [.int x]) (c_X12_isPerson l E b hf wf ik fd tch tp tl tk tb ta tv bad bo so ce f x) [0, 1, 2, 3, 4, 5, 6, 7, 8] modW_idC (by decide +kernel) (fun _ => modW_fst) 0 12 rfl rfl (by decide) rfl hl.1 (rest := []) rfl (Nat.le_of_ble_eq_true rfl) dX12_way_2 (st1 := fun _ => [.int (b2i (inR x 0 (f 0 3 - 1)))]) (fun _ => rfl) (fun _ H locs _ X => ?_)
  have X : Wd E _ _ (modW E b (flat f) hf wf ik fd tch tp tl tk tb ta tv bad bo so ce) _ _ := X.eq modW_idP
  refine k_ifeqB (B := (inR x 0 (f 0 3 - 1))) hx hb 20 dX12_way_5 (by decide) (fun c5 => ?_) (fun c5 => ?_)
  · have hx0 : isP f x = false := c5
    refine lv_aload_n hx hb dX12_way_20 rfl (lv_at hl 0 rfl) ?_
    refine lv_ldc (v := (-1000000001)) hx hb K.2.2.2.1 (K.2.2.2.2.1 _ (Mw_at 905 (by decide +kernel) (by decide +kernel))) dX12_way_21 ?_
    refine k_topi (show (-1000000001 : Int32) = fnd 0 by decide) ?_
    refine k_callV K X gv_X12_37 (As := [.int (fnd 0)]) (c_X12_finds l E b (flat f) hf wf ik fd tch tp tl tk tb ta tv bad bo so ce 0 (by decide)) [0, 1, 2, 3, 4, 5, 6, 7, 8] modW_idC (by decide +kernel) (fun _ => modW_fst) 0 12 rfl rfl (by decide) rfl hl.1 (rest := []) rfl (Nat.le_of_ble_eq_true rfl) dX12_way_23 (st1 := fun _ => [.int (fnd 0)]) (fun _ => rfl) (fun _ H locs _ X => ?_)
    have X : Wd E _ _ (modW E b (flat f) hf wf ik (fdU fd 0) tch tp tl tk tb ta tv bad bo so ce) _ _ := X.eq modW_idP
    exact k_topi (x' := (oWay f fd x y).1) (by simp [oWay, bad3, hx0]) (fin (wf, tch) 26 _ _ _ trivial (X.eq (by simp [oWay, bad3, hx0])) dX12_way_26)
  · have hx0 : isP f x = true := c5
    obtain ⟨k, hk, rfl⟩ := isP_nat I hx0
    have ek : (nI k).toNatClampNeg = k := nI_clamp (by omega)
    refine lv_iload_n hx hb dX12_way_8 rfl (lv_at hl 2 rfl) ?_
    refine lv_i2l (v := y.toInt64) hx hb dX12_way_9 rfl ?_
    refine lv_iconst (v := 0) hx hb dX12_way_10 (by decide) ?_
    refine lv_sipush (v := 200) hx hb dX12_way_11 (by decide) ?_
    refine k_callS K X gs_X12_41 (As := [.long y.toInt64, .int 0, .int 200]) (c_X12_in l E y 0 200) [] rfl (by decide +kernel) (fun _ => rfl) (by decide) rfl hl.1 (rest := []) rfl (Nat.le_of_ble_eq_true rfl) dX12_way_14 (st1 := fun _ => [.int (b2i (inR y 0 200))]) (fun _ => rfl) (fun _ H locs _ X => ?_)
    have X : Wd E _ _ (modW E b (flat f) hf wf ik fd tch tp tl tk tb ta tv bad bo so ce) _ _ := X
    refine k_ifneB (B := (inR y 0 200)) hx hb 27 dX12_way_17 (by decide) (fun c17 => ?_) (fun c17 => ?_)
    · obtain ⟨u, hu, rfl, hul, huh⟩ := inR_nat (n := 201) (by decide) (by decide) c17
      have hul : 0 ≤ u := by have h0 : ((0 : Int32).toInt) = 0 := (by decide); omega
      have eu : (nI u).toNatClampNeg = u := nI_clamp (by omega)
      refine lv_aload_n hx hb dX12_way_27 rfl (lv_at hl 0 rfl) ?_
      refine k_callV K X gv_X12_146 (As := []) (c_X12_thinks l E b (flat f) hf wf ik fd tch tp tl tk tb ta tv bad bo so ce) [0, 1, 2, 3, 4, 5, 6, 7, 8] modW_idC (by decide +kernel) (fun _ => modW_fst) 0 12 rfl rfl (by decide) rfl hl.1 (rest := []) rfl (Nat.le_of_ble_eq_true rfl) dX12_way_28 (st1 := fun _ => []) (fun _ => rfl) (fun _ H locs _ X => ?_)
      have X : Wd E _ _ (modW E b (flat f) hf (flat f) ik fd tch tp tl tk tb ta tv bad bo so ce) _ _ := X.eq modW_idP
      refine lv_aload_n hx hb dX12_way_31 rfl (lv_at hl 0 rfl) ?_
      refine lv_iload_n hx hb dX12_way_32 rfl (lv_at hl 1 rfl) ?_
      refine lv_iload_n hx hb dX12_way_33 rfl (lv_at hl 2 rfl) ?_
      refine k_callV K X gv_X12_152 (As := [.int (nI k), .int (nI u)]) (c_X12_wayOn l E b hf ik fd tch tp tl tk tb ta tv bad bo so ce f T f k u I (by omega) (by omega)) [0, 1, 2, 3, 4, 5, 6, 7, 8] modW_idC (by decide +kernel) (fun _ => modW_fst) 0 12 rfl rfl (by decide) rfl hl.1 (rest := []) rfl (Nat.le_of_ble_eq_true rfl) dX12_way_34 (st1 := fun _ => [.int (bcF (wayF (goN u f) k))]) (fun _ => rfl) (fun _ H locs _ X => ?_)
      have X : Wd E _ _ (modW E b (flat f) hf (flat f) ik fd (tcN u f tch) tp tl tk tb ta tv bad bo so ce) _ _ := X.eq modW_idP
      exact k_topi (x' := (oWay f fd (nI k) (nI u)).1) (by simp [oWay, bad3, hx0, ek, c17, eu]) (fin ((flat f), (tcN u f tch)) 37 _ _ _ trivial (X.eq (by simp [oWay, bad3, hx0, ek, c17, eu])) dX12_way_37)
    · refine lv_aload_n hx hb dX12_way_20 rfl (lv_at hl 0 rfl) ?_
      refine lv_ldc (v := (-1000000001)) hx hb K.2.2.2.1 (K.2.2.2.2.1 _ (Mw_at 905 (by decide +kernel) (by decide +kernel))) dX12_way_21 ?_
      refine k_topi (show (-1000000001 : Int32) = fnd 0 by decide) ?_
      refine k_callV K X gv_X12_37 (As := [.int (fnd 0)]) (c_X12_finds l E b (flat f) hf wf ik fd tch tp tl tk tb ta tv bad bo so ce 0 (by decide)) [0, 1, 2, 3, 4, 5, 6, 7, 8] modW_idC (by decide +kernel) (fun _ => modW_fst) 0 12 rfl rfl (by decide) rfl hl.1 (rest := []) rfl (Nat.le_of_ble_eq_true rfl) dX12_way_23 (st1 := fun _ => [.int (fnd 0)]) (fun _ => rfl) (fun _ H locs _ X => ?_)
      have X : Wd E _ _ (modW E b (flat f) hf wf ik (fdU fd 0) tch tp tl tk tb ta tv bad bo so ce) _ _ := X.eq modW_idP
      exact k_topi (x' := (oWay f fd (nI k) y).1) (by simp [oWay, bad3, hx0, ek, c17]) (fin (wf, tch) 26 _ _ _ trivial (X.eq (by simp [oWay, bad3, hx0, ek, c17])) dX12_way_26)
