set_option maxRecDepth 100000 in
set_option maxHeartbeats 4000000 in
theorem c_X12_done (l : Launch) (E : EE) (b : Nat → Nat) (hf : Nat → Int32) (wf : Nat → Int32) (ik : Int32) (fd : Nat → Int32) (tch : Int32) (tp : Nat → Int32) (tl : Int32) (tk : Int32) (tb : Int32) (ta : Int32) (tv : Int32) (bad : Int32) (bo : Nat → Int32) (so : Nat → Int32) (ce : Nat → Int64) (f : St) (T : Nat) (I : Inv T f) (hT : T < 999000) : Kn l yX12_done cX12_done 3 (some .int) 5 115 E (modW E b (flat f) hf wf ik fd tch tp tl tk tb ta tv bad bo so ce) [.ref (b 0)] (S := (Nat → Int32) × Int32) (fun _ => True) (fun _ => (some (.int ((oDone f fd).1)))) (fun u => (modW E b (flat ((oDone f fd).2.1)) hf u.1 ik ((oDone f fd).2.2) u.2 tp tl tk tb ta tv bad bo so ce)) := by
  refine Kn.ofWi (by decide +kernel) (Nat.le_of_ble_eq_true rfl) (fun _ _ => rfl) ?_
  intro pg ev s0 mm below meth cd Q K X fin ls hl
  have hx := K.1
  have hb := K.2.1
  have hs10 := I.s10
  have hp6 := I.p6
  have hl : lv_has ls 3 [(0, .ref (b 0))] := hl
  refine lv_aload_n hx hb dX12_done_0 rfl (lv_at hl 0 rfl) ?_
  refine k_callV K X gv_X12_146 (As := []) (c_X12_thinks l E b (flat f) hf wf ik fd tch tp tl tk tb ta tv bad bo so ce) [0, 1, 2, 3, 4, 5, 6, 7, 8] modW_idC (by decide +kernel) (fun _ => modW_fst) 0 12 rfl rfl (by decide) rfl hl.1 (rest := []) rfl (Nat.le_of_ble_eq_true rfl) dX12_done_1 (st1 := fun _ => []) (fun _ => rfl) (fun _ H locs _ X => ?_)
  have X : Wd E _ _ (modW E b (flat f) hf (flat f) ik fd tch tp tl tk tb ta tv bad bo so ce) _ _ := X.eq modW_idP
  refine lv_iconst (v := 0) hx hb dX12_done_4 (by decide) ?_
  refine lv_istore_n (lv' := [(1, .int 0), (0, .ref (b 0))]) hx hb dX12_done_5 rfl hl (by decide) rfl (fun ls hl => ?_)
  refine lv_iconst (v := 0) hx hb dX12_done_6 (by decide) ?_
  refine lv_istore_n (lv' := [(2, .int 0), (1, .int 0), (0, .ref (b 0))]) hx hb dX12_done_7 rfl hl (by decide) rfl (fun ls hl => ?_)
  have lp8 : ∀ (fu : Nat) (i : Nat) (n : Nat) (j : Nat) (g : St) (t : Int32) (hfu : n < fu) (hin : i + n = 201 + pe f) (hj : j ≤ i) (hl2 : i ≤ j + pe f) (hR : doneL (pe f) n i j g = doneL (pe f) (201 + pe f) 0 0 f) (Ig : Inv (T + i) g) (hg : pe g = pe f) (ls : Array Slot) (hl : lv_has ls 3 [(2, .int (nI i)), (1, .int (nI j)), (0, .ref (b 0))]) (H : Heap) (locs : List Loc) (X : Wd E (inW (modW E b (flat f) hf wf ik fd tch tp tl tk tb ta tv bad bo so ce)) s0.heap (modW E b (flat g) hf (flat f) ik fd t tp tl tk tb ta tv bad bo so ce) H locs), W pg l ev (rmK 5 115) s0 mm ([.ref (b 0)] : List Value).toArray below meth cd H locs 0 0 Q (F0 mm 8 ls []) := by
    intro fu
    induction fu with
    | zero => intro i n j g t hfu; exact absurd hfu (Nat.not_lt_zero _)
    | succ fu ih8 =>
      intro i n j g t hfu hin hj hl2 hR Ig hg ls hl H locs X
      refine lv_iload_n hx hb dX12_done_8 rfl (lv_at hl 1 rfl) ?_
      refine lv_sipush (v := 200) hx hb dX12_done_9 (by decide) ?_
      refine kN_gt (x := j) (y := 200) hx hb 50 dX12_done_12 (by decide) (by omega) (by omega) (fun c12 => ?_) (fun c12 => ?_)
      · refine lv_aload_n hx hb dX12_done_50 rfl (lv_at hl 2 rfl) ?_
        refine k_callV K X gv_X12_149 (As := []) (c_X12_putsBack l E b (flat g) hf (flat f) ik fd t tp tl tk tb ta tv bad bo so ce) [0, 1, 2, 3, 4, 5, 6, 7, 8] modW_idC (by decide +kernel) (fun _ => modW_fst) 0 12 rfl rfl (by decide) rfl hl.1 (rest := []) rfl (Nat.le_of_ble_eq_true rfl) dX12_done_51 (st1 := fun _ => []) (fun _ => rfl) (fun _ H locs _ X => ?_)
        have X : Wd E _ _ (modW E b (flat f) hf (flat f) ik fd t tp tl tk tb ta tv bad bo so ce) _ _ := X.eq modW_idP
        refine lv_iload_n hx hb dX12_done_54 rfl (lv_at hl 1 rfl) ?_
        refine lv_sipush (v := 200) hx hb dX12_done_55 (by decide) ?_
        refine kN_le (x := j) (y := 200) hx hb 70 dX12_done_58 (by decide) (by omega) (by omega) (fun c58 => ?_) (fun c58 => ?_)
        · refine lv_iload_n hx hb dX12_done_70 rfl (lv_at hl 1 rfl) ?_
          exact k_topi (x' := (oDone f fd).1) (by rw [oDone, ← hR, doneL_now _ _ _ _ (by omega) (by omega) (by omega)]) (fin ((flat f), t) 71 _ _ _ trivial (X.eq (by rw [oDone, ← hR, doneL_now _ _ _ _ (by omega) (by omega) (by omega)])) dX12_done_71)
        · refine lv_aload_n hx hb dX12_done_61 rfl (lv_at hl 2 rfl) ?_
          refine lv_ldc (v := (-1000000004)) hx hb K.2.2.2.1 (K.2.2.2.2.1 _ (Mw_at 1095 (by decide +kernel) (by decide +kernel))) dX12_done_62 ?_
          refine k_topi (show (-1000000004 : Int32) = fnd 3 by decide) ?_
          refine k_callV K X gv_X12_37 (As := [.int (fnd 3)]) (c_X12_finds l E b (flat f) hf (flat f) ik fd t tp tl tk tb ta tv bad bo so ce 3 (by decide)) [0, 1, 2, 3, 4, 5, 6, 7, 8] modW_idC (by decide +kernel) (fun _ => modW_fst) 0 12 rfl rfl (by decide) rfl hl.1 (rest := []) rfl (Nat.le_of_ble_eq_true rfl) dX12_done_64 (st1 := fun _ => [.int (fnd 3)]) (fun _ => rfl) (fun _ H locs _ X => ?_)
          have X : Wd E _ _ (modW E b (flat f) hf (flat f) ik (fdU fd 3) t tp tl tk tb ta tv bad bo so ce) _ _ := X.eq modW_idP
          refine lv_goto (tgt := 71) hx hb dX12_done_67 (by decide) ?_
          exact k_topi (x' := (oDone f fd).1) (by rw [oDone, ← hR, doneL_late _ _ _ _ (by omega) (by omega) hin]; rfl) (fin ((flat f), t) 71 _ _ _ trivial (X.eq (by rw [oDone, ← hR, doneL_late _ _ _ _ (by omega) (by omega) hin]; rfl)) dX12_done_71)
      · refine lv_iload_n hx hb dX12_done_15 rfl (lv_at hl 0 rfl) ?_
        refine lv_iload_n hx hb dX12_done_16 rfl (lv_at hl 1 rfl) ?_
        refine lv_isub hx hb dX12_done_17 ?_
        refine k_topi (x' := nI (i - j)) (pk_sub (a := i) (b := j) hj) ?_
        refine lv_aload_n hx hb dX12_done_18 rfl (lv_at hl 2 rfl) ?_
        refine k_get K X 0 rfl fg_X12_9 (v := .ref (b 1)) rfl dX12_done_19 ?_
        refine lv_iconst (v := 3) hx hb dX12_done_22 (by decide) ?_
        refine k_ialdN K X 1 rfl (k := 3) (by omega) (by decide) dX12_done_23 (v := g 0 3) rfl ?_
        refine k_topi ((congrArg nI hg) ▸ Ig.hP) ?_
        refine kN_ge (x := i - j) (y := pe f) hx hb 50 dX12_done_24 (by decide) (by omega) (by omega) (fun c24 => ?_) (fun c24 => ?_)
        · refine lv_aload_n hx hb dX12_done_50 rfl (lv_at hl 2 rfl) ?_
          refine k_callV K X gv_X12_149 (As := []) (c_X12_putsBack l E b (flat g) hf (flat f) ik fd t tp tl tk tb ta tv bad bo so ce) [0, 1, 2, 3, 4, 5, 6, 7, 8] modW_idC (by decide +kernel) (fun _ => modW_fst) 0 12 rfl rfl (by decide) rfl hl.1 (rest := []) rfl (Nat.le_of_ble_eq_true rfl) dX12_done_51 (st1 := fun _ => []) (fun _ => rfl) (fun _ H locs _ X => ?_)
          have X : Wd E _ _ (modW E b (flat f) hf (flat f) ik fd t tp tl tk tb ta tv bad bo so ce) _ _ := X.eq modW_idP
          refine lv_iload_n hx hb dX12_done_54 rfl (lv_at hl 1 rfl) ?_
          refine lv_sipush (v := 200) hx hb dX12_done_55 (by decide) ?_
          refine kN_le (x := j) (y := 200) hx hb 70 dX12_done_58 (by decide) (by omega) (by omega) (fun c58 => ?_) (fun c58 => ?_)
          · refine lv_iload_n hx hb dX12_done_70 rfl (lv_at hl 1 rfl) ?_
            exact k_topi (x' := (oDone f fd).1) (by rw [oDone, ← hR, doneL_now _ _ _ _ (by omega) (by omega) (by omega)]) (fin ((flat f), t) 71 _ _ _ trivial (X.eq (by rw [oDone, ← hR, doneL_now _ _ _ _ (by omega) (by omega) (by omega)])) dX12_done_71)
          · refine lv_aload_n hx hb dX12_done_61 rfl (lv_at hl 2 rfl) ?_
            refine lv_ldc (v := (-1000000004)) hx hb K.2.2.2.1 (K.2.2.2.2.1 _ (Mw_at 1095 (by decide +kernel) (by decide +kernel))) dX12_done_62 ?_
            refine k_topi (show (-1000000004 : Int32) = fnd 3 by decide) ?_
            refine k_callV K X gv_X12_37 (As := [.int (fnd 3)]) (c_X12_finds l E b (flat f) hf (flat f) ik fd t tp tl tk tb ta tv bad bo so ce 3 (by decide)) [0, 1, 2, 3, 4, 5, 6, 7, 8] modW_idC (by decide +kernel) (fun _ => modW_fst) 0 12 rfl rfl (by decide) rfl hl.1 (rest := []) rfl (Nat.le_of_ble_eq_true rfl) dX12_done_64 (st1 := fun _ => [.int (fnd 3)]) (fun _ => rfl) (fun _ H locs _ X => ?_)
            have X : Wd E _ _ (modW E b (flat f) hf (flat f) ik (fdU fd 3) t tp tl tk tb ta tv bad bo so ce) _ _ := X.eq modW_idP
            refine lv_goto (tgt := 71) hx hb dX12_done_67 (by decide) ?_
            exact k_topi (x' := (oDone f fd).1) (by rw [oDone, ← hR, doneL_late _ _ _ _ (by omega) (by omega) hin]; rfl) (fin ((flat f), t) 71 _ _ _ trivial (X.eq (by rw [oDone, ← hR, doneL_late _ _ _ _ (by omega) (by omega) hin]; rfl)) dX12_done_71)
        · obtain ⟨n, rfl⟩ : ∃ z, n = z + 1 := ⟨n - 1, by omega⟩
          refine lv_aload_n hx hb dX12_done_27 rfl (lv_at hl 2 rfl) ?_
          refine k_callV K X gv_X12_134 (As := []) (c_X12_goes l E b hf (flat f) ik fd t tp tl tk tb ta tv bad bo so ce g (T + i) Ig (by omega)) [0, 1, 2, 3, 4, 5, 6, 7, 8] modW_idC (by decide +kernel) (fun _ => modW_fst) 0 12 rfl rfl (by decide) rfl hl.1 (rest := []) rfl (Nat.le_of_ble_eq_true rfl) dX12_done_28 (st1 := fun _ => []) (fun _ => rfl) (fun _ H locs _ X => ?_)
          have X : Wd E _ _ (modW E b (flat (goF g)) hf (flat f) ik fd (tcF g) tp tl tk tb ta tv bad bo so ce) _ _ := X.eq modW_idP
          refine lv_iinc (v := nI (i + 1)) (lv' := [(2, .int (nI (i + 1))), (1, .int (nI j)), (0, .ref (b 0))]) hx hb dX12_done_31 hl (k := 0) rfl (nI_add i 1) (by decide) rfl (fun ls hl => ?_)
          refine lv_aload_n hx hb dX12_done_34 rfl (lv_at hl 2 rfl) ?_
          refine k_get K X 0 rfl fg_X12_126 (v := .int (tcF g)) rfl dX12_done_35 ?_
          refine k_if_ne (x := (tcF g)) hx hb 45 dX12_done_38 (by decide) (fun c38 => ?_) (fun c38 => ?_)
          · refine lv_iload_n hx hb dX12_done_45 rfl (lv_at hl 0 rfl) ?_
            refine lv_istore_n (lv' := [(1, .int (nI (i + 1))), (2, .int (nI (i + 1))), (0, .ref (b 0))]) hx hb dX12_done_46 rfl hl (by decide) rfl (fun ls hl => ?_)
            refine lv_goto (tgt := 8) hx hb dX12_done_47 (by decide) ?_
            exact ih8 (i + 1) n (i + 1) (goF g) (tcF g) (by omega) (by omega) (by omega) (by omega) (by rw [← hR, doneL, if_neg (by omega), if_neg c38]) (Ig.go (by omega)) ((pe_go Ig).trans hg) _ (lv_sub hl [1, 0, 2] rfl) _ _ X
          · refine lv_iload_n hx hb dX12_done_41 rfl (lv_at hl 1 rfl) ?_
            refine lv_goto (tgt := 46) hx hb dX12_done_42 (by decide) ?_
            refine lv_istore_n (lv' := [(1, .int (nI j)), (2, .int (nI (i + 1))), (0, .ref (b 0))]) hx hb dX12_done_46 rfl hl (by decide) rfl (fun ls hl => ?_)
            refine lv_goto (tgt := 8) hx hb dX12_done_47 (by decide) ?_
            exact ih8 (i + 1) n j (goF g) (tcF g) (by omega) (by omega) (by omega) (by omega) (by rw [← hR, doneL, if_neg (by omega), if_pos c38]) (Ig.go (by omega)) ((pe_go Ig).trans hg) _ (lv_sub hl [1, 0, 2] rfl) _ _ X
  exact lp8 ((201 + pe f) + 1) 0 (201 + pe f) 0 f tch (by omega) (by omega) (by omega) (by omega) (rfl) (I.mono (by omega)) (rfl) _ hl _ _ X
set_option maxRecDepth 100000 in
set_option maxHeartbeats 4000000 in
theorem c_X12_moved (l : Launch) (E : EE) (b : Nat → Nat) (hf : Nat → Int32) (wf : Nat → Int32) (ik : Int32) (fd : Nat → Int32) (tch : Int32) (tp : Nat → Int32) (tl : Int32) (tk : Int32) (tb : Int32) (ta : Int32) (tv : Int32) (bad : Int32) (bo : Nat → Int32) (so : Nat → Int32) (ce : Nat → Int64) (f : St) (T : Nat) (x : Int32) (I : Inv T f) (hT : T < 999000) : Kn l yX12_moved cX12_moved 3 (some .int) 5 115 E (modW E b (flat f) hf wf ik fd tch tp tl tk tb ta tv bad bo so ce) [.ref (b 0), .int x] (S := (Nat → Int32) × Int32) (fun _ => True) (fun _ => (some (.int ((oMoved f fd x).1)))) (fun u => (modW E b (flat ((oMoved f fd x).2.1)) hf u.1 ik ((oMoved f fd x).2.2) u.2 tp tl tk tb ta tv bad bo so ce)) := by
  refine Kn.ofWi (by decide +kernel) (Nat.le_of_ble_eq_true rfl) (fun _ _ => rfl) ?_
  intro pg ev s0 mm below meth cd Q K X fin ls hl
  have hx := K.1
  have hb := K.2.1
  have hs10 := I.s10
  have hp6 := I.p6
  have hl : lv_has ls 3 [(0, .ref (b 0)), (1, .int x)] := hl
  refine lv_aload_n hx hb dX12_moved_0 rfl (lv_at hl 0 rfl) ?_
  refine lv_iload_n hx hb dX12_moved_1 rfl (lv_at hl 1 rfl) ?_
  refine k_callV K X gv_X12_74 (As := [.int x]) (c_X12_isSlip l E b hf wf ik fd tch tp tl tk tb ta tv bad bo so ce f x) [0, 1, 2, 3, 4, 5, 6, 7, 8] modW_idC (by decide +kernel) (fun _ => modW_fst) 0 12 rfl rfl (by decide) rfl hl.1 (rest := []) rfl (Nat.le_of_ble_eq_true rfl) dX12_moved_2 (st1 := fun _ => [.int (b2i (inR x 0 (f 0 2 - 1)))]) (fun _ => rfl) (fun _ H locs _ X => ?_)
  have X : Wd E _ _ (modW E b (flat f) hf wf ik fd tch tp tl tk tb ta tv bad bo so ce) _ _ := X.eq modW_idP
  refine k_ifneB (B := (inR x 0 (f 0 2 - 1))) hx hb 15 dX12_moved_5 (by decide) (fun c5 => ?_) (fun c5 => ?_)
  · have hx0 : isS f x = true := c5
    obtain ⟨k, hk, rfl⟩ := isS_nat I hx0
    have ek : (nI k).toNatClampNeg = k := nI_clamp (by omega)
    refine lv_aload_n hx hb dX12_moved_15 rfl (lv_at hl 0 rfl) ?_
    refine k_callV K X gv_X12_146 (As := []) (c_X12_thinks l E b (flat f) hf wf ik fd tch tp tl tk tb ta tv bad bo so ce) [0, 1, 2, 3, 4, 5, 6, 7, 8] modW_idC (by decide +kernel) (fun _ => modW_fst) 0 12 rfl rfl (by decide) rfl hl.1 (rest := []) rfl (Nat.le_of_ble_eq_true rfl) dX12_moved_16 (st1 := fun _ => []) (fun _ => rfl) (fun _ H locs _ X => ?_)
    have X : Wd E _ _ (modW E b (flat f) hf (flat f) ik fd tch tp tl tk tb ta tv bad bo so ce) _ _ := X.eq modW_idP
    refine lv_iconst (v := 1) hx hb dX12_moved_19 (by decide) ?_
    refine lv_istore_n (lv' := [(2, .int 1), (0, .ref (b 0)), (1, .int (nI k))]) hx hb dX12_moved_20 rfl hl (by decide) rfl (fun ls hl => ?_)
    refine lv_aload_n hx hb dX12_moved_21 rfl (lv_at hl 1 rfl) ?_
    refine k_callV K X gv_X12_134 (As := []) (c_X12_goes l E b hf (flat f) ik fd tch tp tl tk tb ta tv bad bo so ce f T I (by omega)) [0, 1, 2, 3, 4, 5, 6, 7, 8] modW_idC (by decide +kernel) (fun _ => modW_fst) 0 12 rfl rfl (by decide) rfl hl.1 (rest := []) rfl (Nat.le_of_ble_eq_true rfl) dX12_moved_22 (st1 := fun _ => []) (fun _ => rfl) (fun _ H locs _ X => ?_)
    have X : Wd E _ _ (modW E b (flat (goF f)) hf (flat f) ik fd (tcF f) tp tl tk tb ta tv bad bo so ce) _ _ := X.eq modW_idP
    have lp25 : ∀ (fu : Nat) (i : Nat) (n : Nat) (g : St) (hfu : n < fu) (hin : i + n = 201) (hR : mvL k n i g = mvL k 200 1 f) (Ig : Inv (T + i) g) (ls : Array Slot) (hl : lv_has ls 3 [(2, .int (nI i)), (0, .ref (b 0)), (1, .int (nI k))]) (H : Heap) (locs : List Loc) (X : Wd E (inW (modW E b (flat f) hf wf ik fd tch tp tl tk tb ta tv bad bo so ce)) s0.heap (modW E b (flat (goF g)) hf (flat f) ik fd (tcF g) tp tl tk tb ta tv bad bo so ce) H locs), W pg l ev (rmK 5 115) s0 mm ([.ref (b 0), .int (nI k)] : List Value).toArray below meth cd H locs 0 0 Q (F0 mm 25 ls []) := by
      intro fu
      induction fu with
      | zero => intro i n g hfu; exact absurd hfu (Nat.not_lt_zero _)
      | succ fu ih25 =>
        intro i n g hfu hin hR Ig ls hl H locs X
        refine lv_iload_n hx hb dX12_moved_25 rfl (lv_at hl 0 rfl) ?_
        refine lv_sipush (v := 200) hx hb dX12_moved_26 (by decide) ?_
        refine kN_gt (x := i) (y := 200) hx hb 53 dX12_moved_29 (by decide) (by omega) (by omega) (fun c29 => ?_) (fun c29 => ?_)
        · refine lv_aload_n hx hb dX12_moved_53 rfl (lv_at hl 1 rfl) ?_
          refine k_callV K X gv_X12_149 (As := []) (c_X12_putsBack l E b (flat (goF g)) hf (flat f) ik fd (tcF g) tp tl tk tb ta tv bad bo so ce) [0, 1, 2, 3, 4, 5, 6, 7, 8] modW_idC (by decide +kernel) (fun _ => modW_fst) 0 12 rfl rfl (by decide) rfl hl.1 (rest := []) rfl (Nat.le_of_ble_eq_true rfl) dX12_moved_54 (st1 := fun _ => []) (fun _ => rfl) (fun _ H locs _ X => ?_)
          have X : Wd E _ _ (modW E b (flat f) hf (flat f) ik fd (tcF g) tp tl tk tb ta tv bad bo so ce) _ _ := X.eq modW_idP
          refine lv_iload_n hx hb dX12_moved_57 rfl (lv_at hl 0 rfl) ?_
          refine lv_sipush (v := 200) hx hb dX12_moved_58 (by decide) ?_
          refine kN_le (x := i) (y := 200) hx hb 73 dX12_moved_61 (by decide) (by omega) (by omega) (fun c61 => ?_) (fun c61 => ?_)
          · exact absurd c61 (by omega)
          · refine lv_aload_n hx hb dX12_moved_64 rfl (lv_at hl 1 rfl) ?_
            refine lv_ldc (v := (-1000000004)) hx hb K.2.2.2.1 (K.2.2.2.2.1 _ (Mw_at 1095 (by decide +kernel) (by decide +kernel))) dX12_moved_65 ?_
            refine k_topi (show (-1000000004 : Int32) = fnd 3 by decide) ?_
            refine k_callV K X gv_X12_37 (As := [.int (fnd 3)]) (c_X12_finds l E b (flat f) hf (flat f) ik fd (tcF g) tp tl tk tb ta tv bad bo so ce 3 (by decide)) [0, 1, 2, 3, 4, 5, 6, 7, 8] modW_idC (by decide +kernel) (fun _ => modW_fst) 0 12 rfl rfl (by decide) rfl hl.1 (rest := []) rfl (Nat.le_of_ble_eq_true rfl) dX12_moved_67 (st1 := fun _ => [.int (fnd 3)]) (fun _ => rfl) (fun _ H locs _ X => ?_)
            have X : Wd E _ _ (modW E b (flat f) hf (flat f) ik (fdU fd 3) (tcF g) tp tl tk tb ta tv bad bo so ce) _ _ := X.eq modW_idP
            refine lv_goto (tgt := 74) hx hb dX12_moved_70 (by decide) ?_
            exact k_topi (x' := (oMoved f fd (nI k)).1) (by rw [oMoved, hx0, cond_true, ek, ← hR, show n = 0 by omega]; rfl) (fin ((flat f), (tcF g)) 74 _ _ _ trivial (X.eq (by rw [oMoved, hx0, cond_true, ek, ← hR, show n = 0 by omega]; rfl)) dX12_moved_74)
        · refine lv_aload_n hx hb dX12_moved_32 rfl (lv_at hl 1 rfl) ?_
          refine k_get K X 0 rfl fg_X12_126 (v := .int (tcF g)) rfl dX12_moved_33 ?_
          refine lv_iload_n hx hb dX12_moved_36 rfl (lv_at hl 2 rfl) ?_
          refine lv_ishr hx hb dX12_moved_37 ?_
          refine lv_iconst (v := 1) hx hb dX12_moved_38 (by decide) ?_
          refine lv_iand hx hb dX12_moved_39 ?_
          refine k_if_ne (x := ((tcF g) >>> ((nI k) &&& 31)) &&& 1) hx hb 53 dX12_moved_40 (by decide) (fun c40 => ?_) (fun c40 => ?_)
          · obtain ⟨tv2, htv, etv⟩ := tcF_nat Ig
            have hbit := bit_eq k (by omega) tv2 htv
            rw [← etv] at hbit
            have hbit : ¬ tcF g &&& (1 <<< (nI k &&& 31)) = 0 := fun e => c40 (hbit.mpr e)
            refine lv_aload_n hx hb dX12_moved_53 rfl (lv_at hl 1 rfl) ?_
            refine k_callV K X gv_X12_149 (As := []) (c_X12_putsBack l E b (flat (goF g)) hf (flat f) ik fd (tcF g) tp tl tk tb ta tv bad bo so ce) [0, 1, 2, 3, 4, 5, 6, 7, 8] modW_idC (by decide +kernel) (fun _ => modW_fst) 0 12 rfl rfl (by decide) rfl hl.1 (rest := []) rfl (Nat.le_of_ble_eq_true rfl) dX12_moved_54 (st1 := fun _ => []) (fun _ => rfl) (fun _ H locs _ X => ?_)
            have X : Wd E _ _ (modW E b (flat f) hf (flat f) ik fd (tcF g) tp tl tk tb ta tv bad bo so ce) _ _ := X.eq modW_idP
            refine lv_iload_n hx hb dX12_moved_57 rfl (lv_at hl 0 rfl) ?_
            refine lv_sipush (v := 200) hx hb dX12_moved_58 (by decide) ?_
            refine kN_le (x := i) (y := 200) hx hb 73 dX12_moved_61 (by decide) (by omega) (by omega) (fun c61 => ?_) (fun c61 => ?_)
            · refine lv_iload_n hx hb dX12_moved_73 rfl (lv_at hl 0 rfl) ?_
              exact k_topi (x' := (oMoved f fd (nI k)).1) (by rw [oMoved, hx0, cond_true, ek, ← hR, show n = (n - 1) + 1 by omega, mvL, if_neg hbit]) (fin ((flat f), (tcF g)) 74 _ _ _ trivial (X.eq (by rw [oMoved, hx0, cond_true, ek, ← hR, show n = (n - 1) + 1 by omega, mvL, if_neg hbit])) dX12_moved_74)
            · refine lv_aload_n hx hb dX12_moved_64 rfl (lv_at hl 1 rfl) ?_
              refine lv_ldc (v := (-1000000004)) hx hb K.2.2.2.1 (K.2.2.2.2.1 _ (Mw_at 1095 (by decide +kernel) (by decide +kernel))) dX12_moved_65 ?_
              refine k_topi (show (-1000000004 : Int32) = fnd 3 by decide) ?_
              refine k_callV K X gv_X12_37 (As := [.int (fnd 3)]) (c_X12_finds l E b (flat f) hf (flat f) ik fd (tcF g) tp tl tk tb ta tv bad bo so ce 3 (by decide)) [0, 1, 2, 3, 4, 5, 6, 7, 8] modW_idC (by decide +kernel) (fun _ => modW_fst) 0 12 rfl rfl (by decide) rfl hl.1 (rest := []) rfl (Nat.le_of_ble_eq_true rfl) dX12_moved_67 (st1 := fun _ => [.int (fnd 3)]) (fun _ => rfl) (fun _ H locs _ X => ?_)
              have X : Wd E _ _ (modW E b (flat f) hf (flat f) ik (fdU fd 3) (tcF g) tp tl tk tb ta tv bad bo so ce) _ _ := X.eq modW_idP
              refine lv_goto (tgt := 74) hx hb dX12_moved_70 (by decide) ?_
              exact k_topi (x' := (oMoved f fd (nI k)).1) (by rw [oMoved, hx0, cond_true, ek, ← hR, show n = 0 by omega]; rfl) (fin ((flat f), (tcF g)) 74 _ _ _ trivial (X.eq (by rw [oMoved, hx0, cond_true, ek, ← hR, show n = 0 by omega]; rfl)) dX12_moved_74)
          · obtain ⟨tv2, htv, etv⟩ := tcF_nat Ig
            have hbit := bit_eq k (by omega) tv2 htv
            rw [← etv] at hbit
            have hbit : tcF g &&& (1 <<< (nI k &&& 31)) = 0 := hbit.mp c40
            obtain ⟨n, rfl⟩ : ∃ z, n = z + 1 := ⟨n - 1, by omega⟩
            refine lv_aload_n hx hb dX12_moved_43 rfl (lv_at hl 1 rfl) ?_
            refine k_callV K X gv_X12_134 (As := []) (c_X12_goes l E b hf (flat f) ik fd (tcF g) tp tl tk tb ta tv bad bo so ce (goF g) (T + i + 1) (Ig.go (by omega)) (by omega)) [0, 1, 2, 3, 4, 5, 6, 7, 8] modW_idC (by decide +kernel) (fun _ => modW_fst) 0 12 rfl rfl (by decide) rfl hl.1 (rest := []) rfl (Nat.le_of_ble_eq_true rfl) dX12_moved_44 (st1 := fun _ => []) (fun _ => rfl) (fun _ H locs _ X => ?_)
            have X : Wd E _ _ (modW E b (flat (goF (goF g))) hf (flat f) ik fd (tcF (goF g)) tp tl tk tb ta tv bad bo so ce) _ _ := X.eq modW_idP
            refine lv_iinc (v := nI (i + 1)) (lv' := [(2, .int (nI (i + 1))), (0, .ref (b 0)), (1, .int (nI k))]) hx hb dX12_moved_47 hl (k := 0) rfl (nI_add i 1) (by decide) rfl (fun ls hl => ?_)
            refine lv_goto (tgt := 25) hx hb dX12_moved_50 (by decide) ?_
            exact ih25 (i + 1) n (goF g) (by omega) (by omega) (by rw [← hR, mvL, if_pos hbit]) (Ig.go (by omega)) _ hl _ _ X
    exact lp25 (200 + 1) 1 200 f (by omega) (by omega) (rfl) (I.mono (by omega)) _ hl _ _ X
  · have hx0 : isS f x = false := c5
    refine lv_aload_n hx hb dX12_moved_8 rfl (lv_at hl 0 rfl) ?_
    refine lv_ldc (v := (-1000000001)) hx hb K.2.2.2.1 (K.2.2.2.2.1 _ (Mw_at 905 (by decide +kernel) (by decide +kernel))) dX12_moved_9 ?_
    refine k_topi (show (-1000000001 : Int32) = fnd 0 by decide) ?_
    refine k_callV K X gv_X12_37 (As := [.int (fnd 0)]) (c_X12_finds l E b (flat f) hf wf ik fd tch tp tl tk tb ta tv bad bo so ce 0 (by decide)) [0, 1, 2, 3, 4, 5, 6, 7, 8] modW_idC (by decide +kernel) (fun _ => modW_fst) 0 12 rfl rfl (by decide) rfl hl.1 (rest := []) rfl (Nat.le_of_ble_eq_true rfl) dX12_moved_11 (st1 := fun _ => [.int (fnd 0)]) (fun _ => rfl) (fun _ H locs _ X => ?_)
    have X : Wd E _ _ (modW E b (flat f) hf wf ik (fdU fd 0) tch tp tl tk tb ta tv bad bo so ce) _ _ := X.eq modW_idP
    exact k_topi (x' := (oMoved f fd x).1) (by simp [oMoved, bad3, hx0]) (fin (wf, tch) 14 _ _ _ trivial (X.eq (by simp [oMoved, bad3, hx0])) dX12_moved_14)
set_option maxRecDepth 100000 in
set_option maxHeartbeats 4000000 in
theorem c_X12_bestAtM (l : Launch) (E : EE) (b : Nat → Nat) (hf : Nat → Int32) (wf : Nat → Int32) (ik : Int32) (fd : Nat → Int32) (tch : Int32) (tp : Nat → Int32) (tl : Int32) (tk : Int32) (tb : Int32) (ta : Int32) (tv : Int32) (bad : Int32) (bo : Nat → Int32) (so : Nat → Int32) (ce : Nat → Int64) (f : St) (T : Nat) (p : Nat) (u : Nat) (I : Inv T f) (hp : p < 6) (hT : T < 999000) (hu : u ≤ 100) : Kn l yX12_bestAt cX12_bestAt 9 (some .int) 7 160 E (modW E b (flat f) hf wf ik fd tch tp tl tk tb ta tv bad bo so ce) [.ref (b 0), .int 1, .int 21, .int (nI p), .int (nI u)] (S := (Nat → Int32) × Int32) (fun _ => True) (fun _ => (some (.int ((bsL (fun _ => true) (fun v => bcF (wayF (goN u (up2 f 0 1 (nI v))) p)) (fun v => nI v) 21 0 (-1) 0).1)))) (fun u => (modW E b (flat f) hf u.1 ik fd u.2 tp tl tk tb ta tv bad bo so ce)) := by
  refine Kn.ofWi (by decide +kernel) (Nat.le_of_ble_eq_true rfl) (fun _ _ => rfl) ?_
  intro pg ev s0 mm below meth cd Q K X fin ls hl
  have hx := K.1
  have hb := K.2.1
  have hs10 := I.s10
  have hp6 := I.p6
  have hl : lv_has ls 9 [(0, .ref (b 0)), (1, .int 1), (2, .int 21), (3, .int (nI p)), (4, .int (nI u))] := hl
  refine lv_aload_n hx hb dX12_bestAt_0 rfl (lv_at hl 0 rfl) ?_
  refine k_callV K X gv_X12_146 (As := []) (c_X12_thinks l E b (flat f) hf wf ik fd tch tp tl tk tb ta tv bad bo so ce) [0, 1, 2, 3, 4, 5, 6, 7, 8] modW_idC (by decide +kernel) (fun _ => modW_fst) 0 12 rfl rfl (by decide) rfl hl.1 (rest := []) rfl (Nat.le_of_ble_eq_true rfl) dX12_bestAt_1 (st1 := fun _ => []) (fun _ => rfl) (fun _ H locs _ X => ?_)
  have X : Wd E _ _ (modW E b (flat f) hf (flat f) ik fd tch tp tl tk tb ta tv bad bo so ce) _ _ := X.eq modW_idP
  refine lv_iconst (v := 0) hx hb dX12_bestAt_4 (by decide) ?_
  refine lv_istore (lv' := [(5, .int 0), (0, .ref (b 0)), (1, .int 1), (2, .int 21), (3, .int (nI p)), (4, .int (nI u))]) hx hb dX12_bestAt_5 hl (by decide) rfl (fun ls hl => ?_)
  refine lv_iconst (v := (-1)) hx hb dX12_bestAt_7 (by decide) ?_
  refine lv_istore (lv' := [(6, .int (-1)), (5, .int 0), (0, .ref (b 0)), (1, .int 1), (2, .int 21), (3, .int (nI p)), (4, .int (nI u))]) hx hb dX12_bestAt_8 hl (by decide) rfl (fun ls hl => ?_)
  refine lv_iconst (v := 0) hx hb dX12_bestAt_10 (by decide) ?_
  refine lv_istore (lv' := [(7, .int 0), (6, .int (-1)), (5, .int 0), (0, .ref (b 0)), (1, .int 1), (2, .int 21), (3, .int (nI p)), (4, .int (nI u))]) hx hb dX12_bestAt_11 hl (by decide) rfl (fun ls hl => ?_)
  have lp13 : ∀ (fu : Nat) (i : Nat) (n : Nat) (b1 : Int32) (w1 : Int32) (t : Int32) (hfu : n < fu) (hin : i + n = 21) (hR : bmL (fun _ => true) (fun v => bcF (wayF (goN u (up2 f 0 1 (nI v))) p)) (fun v => nI v) n i b1 w1 = bmL (fun _ => true) (fun v => bcF (wayF (goN u (up2 f 0 1 (nI v))) p)) (fun v => nI v) 21 0 (0) (-1)) (ls : Array Slot) (hl : lv_has ls 9 [(7, .int (nI i)), (6, .int w1), (5, .int b1), (0, .ref (b 0)), (1, .int 1), (2, .int 21), (3, .int (nI p)), (4, .int (nI u))]) (H : Heap) (locs : List Loc) (X : Wd E (inW (modW E b (flat f) hf wf ik fd tch tp tl tk tb ta tv bad bo so ce)) s0.heap (modW E b (flat f) hf (flat f) ik fd t tp tl tk tb ta tv bad bo so ce) H locs), W pg l ev (rmK 7 160) s0 mm ([.ref (b 0), .int 1, .int 21, .int (nI p), .int (nI u)] : List Value).toArray below meth cd H locs 0 0 Q (F0 mm 13 ls []) := by
    intro fu
    induction fu with
    | zero => intro i n b1 w1 t hfu; exact absurd hfu (Nat.not_lt_zero _)
    | succ fu ih13 =>
      intro i n b1 w1 t hfu hin hR ls hl H locs X
      refine lv_iload hx hb dX12_bestAt_13 (lv_at hl 0 rfl) ?_
      refine lv_iload_n hx hb dX12_bestAt_15 rfl (lv_at hl 5 rfl) ?_
      refine kN_ge (x := i) (y := 21) hx hb 74 dX12_bestAt_16 (by decide) (by omega) (by omega) (fun c16 => ?_) (fun c16 => ?_)
      · obtain rfl : n = 0 := by omega
        refine lv_iload hx hb dX12_bestAt_74 (lv_at hl 2 rfl) ?_
        exact k_topi (x' := (bsL (fun _ => true) (fun v => bcF (wayF (goN u (up2 f 0 1 (nI v))) p)) (fun v => nI v) 21 0 (-1) 0).1) (best_lem (c := (fun v => bcF (wayF (goN u (up2 f 0 1 (nI v))) p))) (N := 21) (by decide) (by decide) hR (fun j hj => bc_way ((I.up01 _).more u (by omega)) p)) (fin ((flat f), t) 76 _ _ _ trivial X dX12_bestAt_76)
      · obtain ⟨n, rfl⟩ : ∃ z, n = z + 1 := ⟨n - 1, by omega⟩
        refine lv_aload_n hx hb dX12_bestAt_19 rfl (lv_at hl 3 rfl) ?_
        refine k_get K X 0 rfl fg_X12_9 (v := .ref (b 1)) rfl dX12_bestAt_20 ?_
        refine lv_iload_n hx hb dX12_bestAt_23 rfl (lv_at hl 4 rfl) ?_
        refine lv_iload hx hb dX12_bestAt_24 (lv_at hl 0 rfl) ?_
        refine k_iastN K X 1 rfl (k := 1) (x := nI i) (by omega) (by decide) dX12_bestAt_26 (fun H locs X => ?_)
        have X : Wd E _ _ (modW E b (upd (flat f) 1 (nI i)) hf (flat f) ik fd t tp tl tk tb ta tv bad bo so ce) _ _ := X
        have X : Wd E _ _ (modW E b (flat (up2 f 0 1 (nI i))) hf (flat f) ik fd t tp tl tk tb ta tv bad bo so ce) _ _ := X.eq (by rw [flat_top _ _ (by decide)])
        refine lv_aload_n hx hb dX12_bestAt_27 rfl (lv_at hl 3 rfl) ?_
        refine lv_iload_n hx hb dX12_bestAt_28 rfl (lv_at hl 6 rfl) ?_
        refine lv_iload hx hb dX12_bestAt_29 (lv_at hl 7 rfl) ?_
        refine k_callV K X gv_X12_152 (As := [.int (nI p), .int (nI u)]) (c_X12_wayOn l E b hf ik fd t tp tl tk tb ta tv bad bo so ce (up2 f 0 1 (nI i)) T f p u (I.up01 _) (by omega) (by omega)) [0, 1, 2, 3, 4, 5, 6, 7, 8] modW_idC (by decide +kernel) (fun _ => modW_fst) 0 12 rfl rfl (by decide) rfl hl.1 (rest := []) rfl (Nat.le_of_ble_eq_true rfl) dX12_bestAt_31 (st1 := fun _ => [.int (bcF (wayF (goN u (up2 f 0 1 (nI i))) p))]) (fun _ => rfl) (fun _ H locs _ X => ?_)
        have X : Wd E _ _ (modW E b (flat f) hf (flat f) ik fd (tcN u (up2 f 0 1 (nI i)) t) tp tl tk tb ta tv bad bo so ce) _ _ := X.eq modW_idP
        refine lv_istore (lv' := [(8, .int (bcF (wayF (goN u (up2 f 0 1 (nI i))) p))), (7, .int (nI i)), (6, .int w1), (5, .int b1), (0, .ref (b 0)), (1, .int 1), (2, .int 21), (3, .int (nI p)), (4, .int (nI u))]) hx hb dX12_bestAt_34 hl (by decide) rfl (fun ls hl => ?_)
        refine lv_iload hx hb dX12_bestAt_36 (lv_at hl 0 rfl) ?_
        refine lv_iload hx hb dX12_bestAt_38 (lv_at hl 2 rfl) ?_
        refine k_icmp_le (x := bcF (wayF (goN u (up2 f 0 1 (nI i))) p)) (y := w1) hx hb 48 dX12_bestAt_40 (by decide) (fun c40 => ?_) (fun c40 => ?_)
        · refine lv_iload hx hb dX12_bestAt_48 (lv_at hl 3 rfl) ?_
          refine lv_istore (lv' := [(5, .int b1), (8, .int (bcF (wayF (goN u (up2 f 0 1 (nI i))) p))), (7, .int (nI i)), (6, .int w1), (0, .ref (b 0)), (1, .int 1), (2, .int 21), (3, .int (nI p)), (4, .int (nI u))]) hx hb dX12_bestAt_50 hl (by decide) rfl (fun ls hl => ?_)
          refine lv_iload hx hb dX12_bestAt_52 (lv_at hl 1 rfl) ?_
          refine lv_iload hx hb dX12_bestAt_54 (lv_at hl 3 rfl) ?_
          refine k_icmp_le (x := bcF (wayF (goN u (up2 f 0 1 (nI i))) p)) (y := w1) hx hb 64 dX12_bestAt_56 (by decide) (fun c56 => ?_) (fun c56 => ?_)
          · refine lv_iload hx hb dX12_bestAt_64 (lv_at hl 3 rfl) ?_
            refine lv_istore (lv' := [(6, .int w1), (5, .int b1), (8, .int (bcF (wayF (goN u (up2 f 0 1 (nI i))) p))), (7, .int (nI i)), (0, .ref (b 0)), (1, .int 1), (2, .int 21), (3, .int (nI p)), (4, .int (nI u))]) hx hb dX12_bestAt_66 hl (by decide) rfl (fun ls hl => ?_)
            refine lv_iinc (v := nI (i + 1)) (lv' := [(7, .int (nI (i + 1))), (6, .int w1), (5, .int b1), (8, .int (bcF (wayF (goN u (up2 f 0 1 (nI i))) p))), (0, .ref (b 0)), (1, .int 1), (2, .int 21), (3, .int (nI p)), (4, .int (nI u))]) hx hb dX12_bestAt_68 hl (k := 3) rfl (nI_add i 1) (by decide) rfl (fun ls hl => ?_)
            refine lv_goto (tgt := 13) hx hb dX12_bestAt_71 (by decide) ?_
            exact ih13 (i + 1) n b1 w1 (tcN u (up2 f 0 1 (nI i)) t) (by omega) (by omega) (by rw [← hR]; simp [bmL, c16, c40, c56]) _ (lv_sub hl [0, 1, 2, 4, 5, 6, 7, 8] rfl) _ _ X
          · exact absurd c56 c40
        · refine lv_iload hx hb dX12_bestAt_43 (lv_at hl 1 rfl) ?_
          refine lv_goto (tgt := 50) hx hb dX12_bestAt_45 (by decide) ?_
          refine lv_istore (lv' := [(5, .int (nI i)), (8, .int (bcF (wayF (goN u (up2 f 0 1 (nI i))) p))), (7, .int (nI i)), (6, .int w1), (0, .ref (b 0)), (1, .int 1), (2, .int 21), (3, .int (nI p)), (4, .int (nI u))]) hx hb dX12_bestAt_50 hl (by decide) rfl (fun ls hl => ?_)
          refine lv_iload hx hb dX12_bestAt_52 (lv_at hl 1 rfl) ?_
          refine lv_iload hx hb dX12_bestAt_54 (lv_at hl 3 rfl) ?_
          refine k_icmp_le (x := bcF (wayF (goN u (up2 f 0 1 (nI i))) p)) (y := w1) hx hb 64 dX12_bestAt_56 (by decide) (fun c56 => ?_) (fun c56 => ?_)
          · exact absurd c40 c56
          · refine lv_iload hx hb dX12_bestAt_59 (lv_at hl 1 rfl) ?_
            refine lv_goto (tgt := 66) hx hb dX12_bestAt_61 (by decide) ?_
            refine lv_istore (lv' := [(6, .int (bcF (wayF (goN u (up2 f 0 1 (nI i))) p))), (5, .int (nI i)), (8, .int (bcF (wayF (goN u (up2 f 0 1 (nI i))) p))), (7, .int (nI i)), (0, .ref (b 0)), (1, .int 1), (2, .int 21), (3, .int (nI p)), (4, .int (nI u))]) hx hb dX12_bestAt_66 hl (by decide) rfl (fun ls hl => ?_)
            refine lv_iinc (v := nI (i + 1)) (lv' := [(7, .int (nI (i + 1))), (6, .int (bcF (wayF (goN u (up2 f 0 1 (nI i))) p))), (5, .int (nI i)), (8, .int (bcF (wayF (goN u (up2 f 0 1 (nI i))) p))), (0, .ref (b 0)), (1, .int 1), (2, .int 21), (3, .int (nI p)), (4, .int (nI u))]) hx hb dX12_bestAt_68 hl (k := 3) rfl (nI_add i 1) (by decide) rfl (fun ls hl => ?_)
            refine lv_goto (tgt := 13) hx hb dX12_bestAt_71 (by decide) ?_
            exact ih13 (i + 1) n (nI i) (bcF (wayF (goN u (up2 f 0 1 (nI i))) p)) (tcN u (up2 f 0 1 (nI i)) t) (by omega) (by omega) (by rw [← hR]; simp [bmL, c16, c40, c56]) _ (lv_sub hl [0, 1, 2, 4, 5, 6, 7, 8] rfl) _ _ X
  exact lp13 (21 + 1) 0 21 0 (-1) tch (by omega) (by omega) (rfl) _ hl _ _ X
set_option maxRecDepth 100000 in
set_option maxHeartbeats 4000000 in
theorem c_X12_bestAtK (l : Launch) (E : EE) (b : Nat → Nat) (hf : Nat → Int32) (wf : Nat → Int32) (ik : Int32) (fd : Nat → Int32) (tch : Int32) (tp : Nat → Int32) (tl : Int32) (tk : Int32) (tb : Int32) (ta : Int32) (tv : Int32) (bad : Int32) (bo : Nat → Int32) (so : Nat → Int32) (ce : Nat → Int64) (f : St) (T : Nat) (p : Nat) (u : Nat) (I : Inv T f) (hp : p < 6) (hT : T < 999000) (hu : u ≤ 100) : Kn l yX12_bestAt cX12_bestAt 9 (some .int) 7 160 E (modW E b (flat f) hf wf ik fd tch tp tl tk tb ta tv bad bo so ce) [.ref (b 0), .int (nI (34 + 12 * p)), .int 6, .int (nI p), .int (nI u)] (S := (Nat → Int32) × Int32) (fun _ => True) (fun _ => (some (.int ((bsL (fun _ => true) (fun v => bcF (wayF (goN u (up2 f 4 p (nI v))) p)) (fun v => nI v) 6 0 (-1) 0).1)))) (fun u => (modW E b (flat f) hf u.1 ik fd u.2 tp tl tk tb ta tv bad bo so ce)) := by
  refine Kn.ofWi (by decide +kernel) (Nat.le_of_ble_eq_true rfl) (fun _ _ => rfl) ?_
  intro pg ev s0 mm below meth cd Q K X fin ls hl
  have hx := K.1
  have hb := K.2.1
  have hs10 := I.s10
  have hp6 := I.p6
  have hl : lv_has ls 9 [(0, .ref (b 0)), (1, .int (nI (34 + 12 * p))), (2, .int 6), (3, .int (nI p)), (4, .int (nI u))] := hl
  refine lv_aload_n hx hb dX12_bestAt_0 rfl (lv_at hl 0 rfl) ?_
  refine k_callV K X gv_X12_146 (As := []) (c_X12_thinks l E b (flat f) hf wf ik fd tch tp tl tk tb ta tv bad bo so ce) [0, 1, 2, 3, 4, 5, 6, 7, 8] modW_idC (by decide +kernel) (fun _ => modW_fst) 0 12 rfl rfl (by decide) rfl hl.1 (rest := []) rfl (Nat.le_of_ble_eq_true rfl) dX12_bestAt_1 (st1 := fun _ => []) (fun _ => rfl) (fun _ H locs _ X => ?_)
  have X : Wd E _ _ (modW E b (flat f) hf (flat f) ik fd tch tp tl tk tb ta tv bad bo so ce) _ _ := X.eq modW_idP
  refine lv_iconst (v := 0) hx hb dX12_bestAt_4 (by decide) ?_
  refine lv_istore (lv' := [(5, .int 0), (0, .ref (b 0)), (1, .int (nI (34 + 12 * p))), (2, .int 6), (3, .int (nI p)), (4, .int (nI u))]) hx hb dX12_bestAt_5 hl (by decide) rfl (fun ls hl => ?_)
  refine lv_iconst (v := (-1)) hx hb dX12_bestAt_7 (by decide) ?_
  refine lv_istore (lv' := [(6, .int (-1)), (5, .int 0), (0, .ref (b 0)), (1, .int (nI (34 + 12 * p))), (2, .int 6), (3, .int (nI p)), (4, .int (nI u))]) hx hb dX12_bestAt_8 hl (by decide) rfl (fun ls hl => ?_)
  refine lv_iconst (v := 0) hx hb dX12_bestAt_10 (by decide) ?_
  refine lv_istore (lv' := [(7, .int 0), (6, .int (-1)), (5, .int 0), (0, .ref (b 0)), (1, .int (nI (34 + 12 * p))), (2, .int 6), (3, .int (nI p)), (4, .int (nI u))]) hx hb dX12_bestAt_11 hl (by decide) rfl (fun ls hl => ?_)
  have lp13 : ∀ (fu : Nat) (i : Nat) (n : Nat) (b1 : Int32) (w1 : Int32) (t : Int32) (hfu : n < fu) (hin : i + n = 6) (hR : bmL (fun _ => true) (fun v => bcF (wayF (goN u (up2 f 4 p (nI v))) p)) (fun v => nI v) n i b1 w1 = bmL (fun _ => true) (fun v => bcF (wayF (goN u (up2 f 4 p (nI v))) p)) (fun v => nI v) 6 0 (0) (-1)) (ls : Array Slot) (hl : lv_has ls 9 [(7, .int (nI i)), (6, .int w1), (5, .int b1), (0, .ref (b 0)), (1, .int (nI (34 + 12 * p))), (2, .int 6), (3, .int (nI p)), (4, .int (nI u))]) (H : Heap) (locs : List Loc) (X : Wd E (inW (modW E b (flat f) hf wf ik fd tch tp tl tk tb ta tv bad bo so ce)) s0.heap (modW E b (flat f) hf (flat f) ik fd t tp tl tk tb ta tv bad bo so ce) H locs), W pg l ev (rmK 7 160) s0 mm ([.ref (b 0), .int (nI (34 + 12 * p)), .int 6, .int (nI p), .int (nI u)] : List Value).toArray below meth cd H locs 0 0 Q (F0 mm 13 ls []) := by
    intro fu
    induction fu with
    | zero => intro i n b1 w1 t hfu; exact absurd hfu (Nat.not_lt_zero _)
    | succ fu ih13 =>
      intro i n b1 w1 t hfu hin hR ls hl H locs X
      refine lv_iload hx hb dX12_bestAt_13 (lv_at hl 0 rfl) ?_
      refine lv_iload_n hx hb dX12_bestAt_15 rfl (lv_at hl 5 rfl) ?_
      refine kN_ge (x := i) (y := 6) hx hb 74 dX12_bestAt_16 (by decide) (by omega) (by omega) (fun c16 => ?_) (fun c16 => ?_)
      · obtain rfl : n = 0 := by omega
        refine lv_iload hx hb dX12_bestAt_74 (lv_at hl 2 rfl) ?_
        exact k_topi (x' := (bsL (fun _ => true) (fun v => bcF (wayF (goN u (up2 f 4 p (nI v))) p)) (fun v => nI v) 6 0 (-1) 0).1) (best_lem (c := (fun v => bcF (wayF (goN u (up2 f 4 p (nI v))) p))) (N := 6) (by decide) (by decide) hR (fun j hj => bc_way ((I.up4 p (by omega)).more u (by omega)) p)) (fin ((flat f), t) 76 _ _ _ trivial X dX12_bestAt_76)
      · obtain ⟨n, rfl⟩ : ∃ z, n = z + 1 := ⟨n - 1, by omega⟩
        refine lv_aload_n hx hb dX12_bestAt_19 rfl (lv_at hl 3 rfl) ?_
        refine k_get K X 0 rfl fg_X12_9 (v := .ref (b 1)) rfl dX12_bestAt_20 ?_
        refine lv_iload_n hx hb dX12_bestAt_23 rfl (lv_at hl 4 rfl) ?_
        refine lv_iload hx hb dX12_bestAt_24 (lv_at hl 0 rfl) ?_
        refine k_iastN K X 1 rfl (k := 34 + 12 * p) (x := nI i) (by omega) (by decide) dX12_bestAt_26 (fun H locs X => ?_)
        have X : Wd E _ _ (modW E b (upd (flat f) (34 + 12 * p) (nI i)) hf (flat f) ik fd t tp tl tk tb ta tv bad bo so ce) _ _ := X
        have X : Wd E _ _ (modW E b (flat (up2 f 4 p (nI i))) hf (flat f) ik fd t tp tl tk tb ta tv bad bo so ce) _ _ := X.eq (by rw [flat_kind])
        refine lv_aload_n hx hb dX12_bestAt_27 rfl (lv_at hl 3 rfl) ?_
        refine lv_iload_n hx hb dX12_bestAt_28 rfl (lv_at hl 6 rfl) ?_
        refine lv_iload hx hb dX12_bestAt_29 (lv_at hl 7 rfl) ?_
        refine k_callV K X gv_X12_152 (As := [.int (nI p), .int (nI u)]) (c_X12_wayOn l E b hf ik fd t tp tl tk tb ta tv bad bo so ce (up2 f 4 p (nI i)) T f p u (I.up4 p (by omega)) (by omega) (by omega)) [0, 1, 2, 3, 4, 5, 6, 7, 8] modW_idC (by decide +kernel) (fun _ => modW_fst) 0 12 rfl rfl (by decide) rfl hl.1 (rest := []) rfl (Nat.le_of_ble_eq_true rfl) dX12_bestAt_31 (st1 := fun _ => [.int (bcF (wayF (goN u (up2 f 4 p (nI i))) p))]) (fun _ => rfl) (fun _ H locs _ X => ?_)
        have X : Wd E _ _ (modW E b (flat f) hf (flat f) ik fd (tcN u (up2 f 4 p (nI i)) t) tp tl tk tb ta tv bad bo so ce) _ _ := X.eq modW_idP
        refine lv_istore (lv' := [(8, .int (bcF (wayF (goN u (up2 f 4 p (nI i))) p))), (7, .int (nI i)), (6, .int w1), (5, .int b1), (0, .ref (b 0)), (1, .int (nI (34 + 12 * p))), (2, .int 6), (3, .int (nI p)), (4, .int (nI u))]) hx hb dX12_bestAt_34 hl (by decide) rfl (fun ls hl => ?_)
        refine lv_iload hx hb dX12_bestAt_36 (lv_at hl 0 rfl) ?_
        refine lv_iload hx hb dX12_bestAt_38 (lv_at hl 2 rfl) ?_
        refine k_icmp_le (x := bcF (wayF (goN u (up2 f 4 p (nI i))) p)) (y := w1) hx hb 48 dX12_bestAt_40 (by decide) (fun c40 => ?_) (fun c40 => ?_)
        · refine lv_iload hx hb dX12_bestAt_48 (lv_at hl 3 rfl) ?_
          refine lv_istore (lv' := [(5, .int b1), (8, .int (bcF (wayF (goN u (up2 f 4 p (nI i))) p))), (7, .int (nI i)), (6, .int w1), (0, .ref (b 0)), (1, .int (nI (34 + 12 * p))), (2, .int 6), (3, .int (nI p)), (4, .int (nI u))]) hx hb dX12_bestAt_50 hl (by decide) rfl (fun ls hl => ?_)
          refine lv_iload hx hb dX12_bestAt_52 (lv_at hl 1 rfl) ?_
          refine lv_iload hx hb dX12_bestAt_54 (lv_at hl 3 rfl) ?_
          refine k_icmp_le (x := bcF (wayF (goN u (up2 f 4 p (nI i))) p)) (y := w1) hx hb 64 dX12_bestAt_56 (by decide) (fun c56 => ?_) (fun c56 => ?_)
          · refine lv_iload hx hb dX12_bestAt_64 (lv_at hl 3 rfl) ?_
            refine lv_istore (lv' := [(6, .int w1), (5, .int b1), (8, .int (bcF (wayF (goN u (up2 f 4 p (nI i))) p))), (7, .int (nI i)), (0, .ref (b 0)), (1, .int (nI (34 + 12 * p))), (2, .int 6), (3, .int (nI p)), (4, .int (nI u))]) hx hb dX12_bestAt_66 hl (by decide) rfl (fun ls hl => ?_)
            refine lv_iinc (v := nI (i + 1)) (lv' := [(7, .int (nI (i + 1))), (6, .int w1), (5, .int b1), (8, .int (bcF (wayF (goN u (up2 f 4 p (nI i))) p))), (0, .ref (b 0)), (1, .int (nI (34 + 12 * p))), (2, .int 6), (3, .int (nI p)), (4, .int (nI u))]) hx hb dX12_bestAt_68 hl (k := 3) rfl (nI_add i 1) (by decide) rfl (fun ls hl => ?_)
            refine lv_goto (tgt := 13) hx hb dX12_bestAt_71 (by decide) ?_
            exact ih13 (i + 1) n b1 w1 (tcN u (up2 f 4 p (nI i)) t) (by omega) (by omega) (by rw [← hR]; simp [bmL, c16, c40, c56]) _ (lv_sub hl [0, 1, 2, 4, 5, 6, 7, 8] rfl) _ _ X
          · exact absurd c56 c40
        · refine lv_iload hx hb dX12_bestAt_43 (lv_at hl 1 rfl) ?_
          refine lv_goto (tgt := 50) hx hb dX12_bestAt_45 (by decide) ?_
          refine lv_istore (lv' := [(5, .int (nI i)), (8, .int (bcF (wayF (goN u (up2 f 4 p (nI i))) p))), (7, .int (nI i)), (6, .int w1), (0, .ref (b 0)), (1, .int (nI (34 + 12 * p))), (2, .int 6), (3, .int (nI p)), (4, .int (nI u))]) hx hb dX12_bestAt_50 hl (by decide) rfl (fun ls hl => ?_)
          refine lv_iload hx hb dX12_bestAt_52 (lv_at hl 1 rfl) ?_
          refine lv_iload hx hb dX12_bestAt_54 (lv_at hl 3 rfl) ?_
          refine k_icmp_le (x := bcF (wayF (goN u (up2 f 4 p (nI i))) p)) (y := w1) hx hb 64 dX12_bestAt_56 (by decide) (fun c56 => ?_) (fun c56 => ?_)
          · exact absurd c40 c56
          · refine lv_iload hx hb dX12_bestAt_59 (lv_at hl 1 rfl) ?_
            refine lv_goto (tgt := 66) hx hb dX12_bestAt_61 (by decide) ?_
            refine lv_istore (lv' := [(6, .int (bcF (wayF (goN u (up2 f 4 p (nI i))) p))), (5, .int (nI i)), (8, .int (bcF (wayF (goN u (up2 f 4 p (nI i))) p))), (7, .int (nI i)), (0, .ref (b 0)), (1, .int (nI (34 + 12 * p))), (2, .int 6), (3, .int (nI p)), (4, .int (nI u))]) hx hb dX12_bestAt_66 hl (by decide) rfl (fun ls hl => ?_)
            refine lv_iinc (v := nI (i + 1)) (lv' := [(7, .int (nI (i + 1))), (6, .int (bcF (wayF (goN u (up2 f 4 p (nI i))) p))), (5, .int (nI i)), (8, .int (bcF (wayF (goN u (up2 f 4 p (nI i))) p))), (0, .ref (b 0)), (1, .int (nI (34 + 12 * p))), (2, .int 6), (3, .int (nI p)), (4, .int (nI u))]) hx hb dX12_bestAt_68 hl (k := 3) rfl (nI_add i 1) (by decide) rfl (fun ls hl => ?_)
            refine lv_goto (tgt := 13) hx hb dX12_bestAt_71 (by decide) ?_
            exact ih13 (i + 1) n (nI i) (bcF (wayF (goN u (up2 f 4 p (nI i))) p)) (tcN u (up2 f 4 p (nI i)) t) (by omega) (by omega) (by rw [← hR]; simp [bmL, c16, c40, c56]) _ (lv_sub hl [0, 1, 2, 4, 5, 6, 7, 8] rfl) _ _ X
  exact lp13 (6 + 1) 0 6 0 (-1) tch (by omega) (by omega) (rfl) _ hl _ _ X
set_option maxRecDepth 100000 in
set_option maxHeartbeats 4000000 in
theorem c_X12_rule (l : Launch) (E : EE) (b : Nat → Nat) (hf : Nat → Int32) (wf : Nat → Int32) (ik : Int32) (fd : Nat → Int32) (tch : Int32) (tp : Nat → Int32) (tl : Int32) (tk : Int32) (tb : Int32) (ta : Int32) (tv : Int32) (bad : Int32) (bo : Nat → Int32) (so : Nat → Int32) (ce : Nat → Int64) (f : St) (T : Nat) (x : Int32) (y : Int32) (I : Inv T f) (hT : T < 999000) : Kn l yX12_rule cX12_rule 3 (some .int) 8 188 E (modW E b (flat f) hf wf ik fd tch tp tl tk tb ta tv bad bo so ce) [.ref (b 0), .int x, .int y] (S := (Nat → Int32) × Int32) (fun _ => True) (fun _ => (some (.int ((oRule f fd x y).1)))) (fun u => (modW E b (flat ((oRule f fd x y).2.1)) hf u.1 ik ((oRule f fd x y).2.2) u.2 tp tl tk tb ta tv bad bo so ce)) := by
  refine Kn.ofWi (by decide +kernel) (Nat.le_of_ble_eq_true rfl) (fun _ _ => rfl) ?_
  intro pg ev s0 mm below meth cd Q K X fin ls hl
  have hx := K.1
  have hb := K.2.1
  have hs10 := I.s10
  have hp6 := I.p6
  have hl : lv_has ls 3 [(0, .ref (b 0)), (1, .int x), (2, .int y)] := hl
  refine lv_aload_n hx hb dX12_rule_0 rfl (lv_at hl 0 rfl) ?_
  refine lv_iload_n hx hb dX12_rule_1 rfl (lv_at hl 1 rfl) ?_
  refine k_callV K X gv_X12_100 (As := [.int x]) (c_X12_isPerson l E b hf wf ik fd tch tp tl tk tb ta tv bad bo so ce f x) [0, 1, 2, 3, 4, 5, 6, 7, 8] modW_idC (by decide +kernel) (fun _ => modW_fst) 0 12 rfl rfl (by decide) rfl hl.1 (rest := []) rfl (Nat.le_of_ble_eq_true rfl) dX12_rule_2 (st1 := fun _ => [.int (b2i (inR x 0 (f 0 3 - 1)))]) (fun _ => rfl) (fun _ H locs _ X => ?_)
  have X : Wd E _ _ (modW E b (flat f) hf wf ik fd tch tp tl tk tb ta tv bad bo so ce) _ _ := X.eq modW_idP
  refine k_ifeqB (B := (inR x 0 (f 0 3 - 1))) hx hb 31 dX12_rule_5 (by decide) (fun c5 => ?_) (fun c5 => ?_)
  · have hx0 : isP f x = false := c5
    refine lv_aload_n hx hb dX12_rule_31 rfl (lv_at hl 0 rfl) ?_
    refine lv_ldc (v := (-1000000001)) hx hb K.2.2.2.1 (K.2.2.2.2.1 _ (Mw_at 905 (by decide +kernel) (by decide +kernel))) dX12_rule_32 ?_
    refine k_topi (show (-1000000001 : Int32) = fnd 0 by decide) ?_
    refine k_callV K X gv_X12_37 (As := [.int (fnd 0)]) (c_X12_finds l E b (flat f) hf wf ik fd tch tp tl tk tb ta tv bad bo so ce 0 (by decide)) [0, 1, 2, 3, 4, 5, 6, 7, 8] modW_idC (by decide +kernel) (fun _ => modW_fst) 0 12 rfl rfl (by decide) rfl hl.1 (rest := []) rfl (Nat.le_of_ble_eq_true rfl) dX12_rule_34 (st1 := fun _ => [.int (fnd 0)]) (fun _ => rfl) (fun _ H locs _ X => ?_)
    have X : Wd E _ _ (modW E b (flat f) hf wf ik (fdU fd 0) tch tp tl tk tb ta tv bad bo so ce) _ _ := X.eq modW_idP
    exact k_topi (x' := (oRule f fd x y).1) (by simp [oRule, bad3, hx0]) (fin (wf, tch) 37 _ _ _ trivial (X.eq (by simp [oRule, bad3, hx0])) dX12_rule_37)
  · have hx0 : isP f x = true := c5
    obtain ⟨k, hk, rfl⟩ := isP_nat I hx0
    have ek : (nI k).toNatClampNeg = k := nI_clamp (by omega)
    refine lv_iload_n hx hb dX12_rule_8 rfl (lv_at hl 2 rfl) ?_
    refine lv_i2l (v := y.toInt64) hx hb dX12_rule_9 rfl ?_
    refine lv_iconst (v := 1) hx hb dX12_rule_10 (by decide) ?_
    refine lv_bipush (v := 100) hx hb dX12_rule_11 (by decide) ?_
    refine k_callS K X gs_X12_41 (As := [.long y.toInt64, .int 1, .int 100]) (c_X12_in l E y 1 100) [] rfl (by decide +kernel) (fun _ => rfl) (by decide) rfl hl.1 (rest := []) rfl (Nat.le_of_ble_eq_true rfl) dX12_rule_13 (st1 := fun _ => [.int (b2i (inR y 1 100))]) (fun _ => rfl) (fun _ H locs _ X => ?_)
    have X : Wd E _ _ (modW E b (flat f) hf wf ik fd tch tp tl tk tb ta tv bad bo so ce) _ _ := X
    refine k_ifeqB (B := (inR y 1 100)) hx hb 31 dX12_rule_16 (by decide) (fun c16 => ?_) (fun c16 => ?_)
    · refine lv_aload_n hx hb dX12_rule_31 rfl (lv_at hl 0 rfl) ?_
      refine lv_ldc (v := (-1000000001)) hx hb K.2.2.2.1 (K.2.2.2.2.1 _ (Mw_at 905 (by decide +kernel) (by decide +kernel))) dX12_rule_32 ?_
      refine k_topi (show (-1000000001 : Int32) = fnd 0 by decide) ?_
      refine k_callV K X gv_X12_37 (As := [.int (fnd 0)]) (c_X12_finds l E b (flat f) hf wf ik fd tch tp tl tk tb ta tv bad bo so ce 0 (by decide)) [0, 1, 2, 3, 4, 5, 6, 7, 8] modW_idC (by decide +kernel) (fun _ => modW_fst) 0 12 rfl rfl (by decide) rfl hl.1 (rest := []) rfl (Nat.le_of_ble_eq_true rfl) dX12_rule_34 (st1 := fun _ => [.int (fnd 0)]) (fun _ => rfl) (fun _ H locs _ X => ?_)
      have X : Wd E _ _ (modW E b (flat f) hf wf ik (fdU fd 0) tch tp tl tk tb ta tv bad bo so ce) _ _ := X.eq modW_idP
      exact k_topi (x' := (oRule f fd (nI k) y).1) (by simp [oRule, bad3, hx0, ek, c16]) (fin (wf, tch) 37 _ _ _ trivial (X.eq (by simp [oRule, bad3, hx0, ek, c16])) dX12_rule_37)
    · obtain ⟨u, hu, rfl, hul, huh⟩ := inR_nat (n := 101) (by decide) (by decide) c16
      have hul : 1 ≤ u := by have h0 : ((1 : Int32).toInt) = 1 := (by decide); omega
      have eu : (nI u).toNatClampNeg = u := nI_clamp (by omega)
      refine lv_aload_n hx hb dX12_rule_19 rfl (lv_at hl 0 rfl) ?_
      refine lv_iconst (v := 1) hx hb dX12_rule_20 (by decide) ?_
      refine lv_bipush (v := 21) hx hb dX12_rule_21 (by decide) ?_
      refine lv_iload_n hx hb dX12_rule_23 rfl (lv_at hl 1 rfl) ?_
      refine lv_iload_n hx hb dX12_rule_24 rfl (lv_at hl 2 rfl) ?_
      refine k_callV K X gv_X12_155 (As := [.int 1, .int 21, .int (nI k), .int (nI u)]) (c_X12_bestAtM l E b hf wf ik fd tch tp tl tk tb ta tv bad bo so ce f T k u I (by omega) (by omega) (by omega)) [0, 1, 2, 3, 4, 5, 6, 7, 8] modW_idC (by decide +kernel) (fun _ => modW_fst) 0 12 rfl rfl (by decide) rfl hl.1 (rest := []) rfl (Nat.le_of_ble_eq_true rfl) dX12_rule_25 (st1 := fun _ => [.int ((bsL (fun _ => true) (fun v => bcF (wayF (goN u (up2 f 0 1 (nI v))) k)) (fun v => nI v) 21 0 (-1) 0).1)]) (fun _ => rfl) (fun u25 H locs _ X => ?_)
      have X : Wd E _ _ (modW E b (flat f) hf u25.1 ik fd u25.2 tp tl tk tb ta tv bad bo so ce) _ _ := X.eq modW_idP
      refine lv_goto (tgt := 37) hx hb dX12_rule_28 (by decide) ?_
      exact k_topi (x' := (oRule f fd (nI k) (nI u)).1) (by simp [oRule, bad3, hx0, ek, c16, eu]) (fin (u25.1, u25.2) 37 _ _ _ trivial (X.eq (by simp [oRule, bad3, hx0, ek, c16, eu])) dX12_rule_37)
set_option maxRecDepth 100000 in
set_option maxHeartbeats 4000000 in
theorem c_X12_kind (l : Launch) (E : EE) (b : Nat → Nat) (hf : Nat → Int32) (wf : Nat → Int32) (ik : Int32) (fd : Nat → Int32) (tch : Int32) (tp : Nat → Int32) (tl : Int32) (tk : Int32) (tb : Int32) (ta : Int32) (tv : Int32) (bad : Int32) (bo : Nat → Int32) (so : Nat → Int32) (ce : Nat → Int64) (f : St) (T : Nat) (x : Int32) (y : Int32) (I : Inv T f) (hT : T < 999000) : Kn l yX12_kind cX12_kind 3 (some .int) 8 188 E (modW E b (flat f) hf wf ik fd tch tp tl tk tb ta tv bad bo so ce) [.ref (b 0), .int x, .int y] (S := (Nat → Int32) × Int32) (fun _ => True) (fun _ => (some (.int ((oKind f fd x y).1)))) (fun u => (modW E b (flat ((oKind f fd x y).2.1)) hf u.1 ik ((oKind f fd x y).2.2) u.2 tp tl tk tb ta tv bad bo so ce)) := by
  refine Kn.ofWi (by decide +kernel) (Nat.le_of_ble_eq_true rfl) (fun _ _ => rfl) ?_
  intro pg ev s0 mm below meth cd Q K X fin ls hl
  have hx := K.1
  have hb := K.2.1
  have hs10 := I.s10
  have hp6 := I.p6
  have hl : lv_has ls 3 [(0, .ref (b 0)), (1, .int x), (2, .int y)] := hl
  refine lv_aload_n hx hb dX12_kind_0 rfl (lv_at hl 0 rfl) ?_
  refine lv_iload_n hx hb dX12_kind_1 rfl (lv_at hl 1 rfl) ?_
  refine k_callV K X gv_X12_100 (As := [.int x]) (c_X12_isPerson l E b hf wf ik fd tch tp tl tk tb ta tv bad bo so ce f x) [0, 1, 2, 3, 4, 5, 6, 7, 8] modW_idC (by decide +kernel) (fun _ => modW_fst) 0 12 rfl rfl (by decide) rfl hl.1 (rest := []) rfl (Nat.le_of_ble_eq_true rfl) dX12_kind_2 (st1 := fun _ => [.int (b2i (inR x 0 (f 0 3 - 1)))]) (fun _ => rfl) (fun _ H locs _ X => ?_)
  have X : Wd E _ _ (modW E b (flat f) hf wf ik fd tch tp tl tk tb ta tv bad bo so ce) _ _ := X.eq modW_idP
  refine k_ifeqB (B := (inR x 0 (f 0 3 - 1))) hx hb 37 dX12_kind_5 (by decide) (fun c5 => ?_) (fun c5 => ?_)
  · have hx0 : isP f x = false := c5
    refine lv_aload_n hx hb dX12_kind_37 rfl (lv_at hl 0 rfl) ?_
    refine lv_ldc (v := (-1000000001)) hx hb K.2.2.2.1 (K.2.2.2.2.1 _ (Mw_at 905 (by decide +kernel) (by decide +kernel))) dX12_kind_38 ?_
    refine k_topi (show (-1000000001 : Int32) = fnd 0 by decide) ?_
    refine k_callV K X gv_X12_37 (As := [.int (fnd 0)]) (c_X12_finds l E b (flat f) hf wf ik fd tch tp tl tk tb ta tv bad bo so ce 0 (by decide)) [0, 1, 2, 3, 4, 5, 6, 7, 8] modW_idC (by decide +kernel) (fun _ => modW_fst) 0 12 rfl rfl (by decide) rfl hl.1 (rest := []) rfl (Nat.le_of_ble_eq_true rfl) dX12_kind_40 (st1 := fun _ => [.int (fnd 0)]) (fun _ => rfl) (fun _ H locs _ X => ?_)
    have X : Wd E _ _ (modW E b (flat f) hf wf ik (fdU fd 0) tch tp tl tk tb ta tv bad bo so ce) _ _ := X.eq modW_idP
    exact k_topi (x' := (oKind f fd x y).1) (by simp [oKind, bad3, hx0]) (fin (wf, tch) 43 _ _ _ trivial (X.eq (by simp [oKind, bad3, hx0])) dX12_kind_43)
  · have hx0 : isP f x = true := c5
    obtain ⟨k, hk, rfl⟩ := isP_nat I hx0
    have ek : (nI k).toNatClampNeg = k := nI_clamp (by omega)
    refine lv_iload_n hx hb dX12_kind_8 rfl (lv_at hl 2 rfl) ?_
    refine lv_i2l (v := y.toInt64) hx hb dX12_kind_9 rfl ?_
    refine lv_iconst (v := 1) hx hb dX12_kind_10 (by decide) ?_
    refine lv_bipush (v := 100) hx hb dX12_kind_11 (by decide) ?_
    refine k_callS K X gs_X12_41 (As := [.long y.toInt64, .int 1, .int 100]) (c_X12_in l E y 1 100) [] rfl (by decide +kernel) (fun _ => rfl) (by decide) rfl hl.1 (rest := []) rfl (Nat.le_of_ble_eq_true rfl) dX12_kind_13 (st1 := fun _ => [.int (b2i (inR y 1 100))]) (fun _ => rfl) (fun _ H locs _ X => ?_)
    have X : Wd E _ _ (modW E b (flat f) hf wf ik fd tch tp tl tk tb ta tv bad bo so ce) _ _ := X
    refine k_ifeqB (B := (inR y 1 100)) hx hb 37 dX12_kind_16 (by decide) (fun c16 => ?_) (fun c16 => ?_)
    · refine lv_aload_n hx hb dX12_kind_37 rfl (lv_at hl 0 rfl) ?_
      refine lv_ldc (v := (-1000000001)) hx hb K.2.2.2.1 (K.2.2.2.2.1 _ (Mw_at 905 (by decide +kernel) (by decide +kernel))) dX12_kind_38 ?_
      refine k_topi (show (-1000000001 : Int32) = fnd 0 by decide) ?_
      refine k_callV K X gv_X12_37 (As := [.int (fnd 0)]) (c_X12_finds l E b (flat f) hf wf ik fd tch tp tl tk tb ta tv bad bo so ce 0 (by decide)) [0, 1, 2, 3, 4, 5, 6, 7, 8] modW_idC (by decide +kernel) (fun _ => modW_fst) 0 12 rfl rfl (by decide) rfl hl.1 (rest := []) rfl (Nat.le_of_ble_eq_true rfl) dX12_kind_40 (st1 := fun _ => [.int (fnd 0)]) (fun _ => rfl) (fun _ H locs _ X => ?_)
      have X : Wd E _ _ (modW E b (flat f) hf wf ik (fdU fd 0) tch tp tl tk tb ta tv bad bo so ce) _ _ := X.eq modW_idP
      exact k_topi (x' := (oKind f fd (nI k) y).1) (by simp [oKind, bad3, hx0, ek, c16]) (fin (wf, tch) 43 _ _ _ trivial (X.eq (by simp [oKind, bad3, hx0, ek, c16])) dX12_kind_43)
    · obtain ⟨u, hu, rfl, hul, huh⟩ := inR_nat (n := 101) (by decide) (by decide) c16
      have hul : 1 ≤ u := by have h0 : ((1 : Int32).toInt) = 1 := (by decide); omega
      have eu : (nI u).toNatClampNeg = u := nI_clamp (by omega)
      refine lv_aload_n hx hb dX12_kind_19 rfl (lv_at hl 0 rfl) ?_
      refine lv_bipush (v := 34) hx hb dX12_kind_20 (by decide) ?_
      refine lv_bipush (v := 12) hx hb dX12_kind_22 (by decide) ?_
      refine lv_iload_n hx hb dX12_kind_24 rfl (lv_at hl 1 rfl) ?_
      refine lv_imul hx hb dX12_kind_25 ?_
      refine k_topi (pk_mul 12 k) ?_
      refine lv_iadd hx hb dX12_kind_26 ?_
      refine k_topi (nI_add 34 (12 * k)) ?_
      refine lv_bipush (v := 6) hx hb dX12_kind_27 (by decide) ?_
      refine lv_iload_n hx hb dX12_kind_29 rfl (lv_at hl 1 rfl) ?_
      refine lv_iload_n hx hb dX12_kind_30 rfl (lv_at hl 2 rfl) ?_
      refine k_callV K X gv_X12_155 (As := [.int (nI (34 + 12 * k)), .int 6, .int (nI k), .int (nI u)]) (c_X12_bestAtK l E b hf wf ik fd tch tp tl tk tb ta tv bad bo so ce f T k u I (by omega) (by omega) (by omega)) [0, 1, 2, 3, 4, 5, 6, 7, 8] modW_idC (by decide +kernel) (fun _ => modW_fst) 0 12 rfl rfl (by decide) rfl hl.1 (rest := []) rfl (Nat.le_of_ble_eq_true rfl) dX12_kind_31 (st1 := fun _ => [.int ((bsL (fun _ => true) (fun v => bcF (wayF (goN u (up2 f 4 k (nI v))) k)) (fun v => nI v) 6 0 (-1) 0).1)]) (fun _ => rfl) (fun u31 H locs _ X => ?_)
      have X : Wd E _ _ (modW E b (flat f) hf u31.1 ik fd u31.2 tp tl tk tb ta tv bad bo so ce) _ _ := X.eq modW_idP
      refine lv_goto (tgt := 43) hx hb dX12_kind_34 (by decide) ?_
      exact k_topi (x' := (oKind f fd (nI k) (nI u)).1) (by simp [oKind, bad3, hx0, ek, c16, eu]) (fin (u31.1, u31.2) 43 _ _ _ trivial (X.eq (by simp [oKind, bad3, hx0, ek, c16, eu])) dX12_kind_43)
set_option maxRecDepth 100000 in
set_option maxHeartbeats 4000000 in
theorem c_X12_send (l : Launch) (E : EE) (b : Nat → Nat) (hf : Nat → Int32) (wf : Nat → Int32) (ik : Int32) (fd : Nat → Int32) (tch : Int32) (tp : Nat → Int32) (tl : Int32) (tk : Int32) (tb : Int32) (ta : Int32) (tv : Int32) (bad : Int32) (bo : Nat → Int32) (so : Nat → Int32) (ce : Nat → Int64) (f : St) (T : Nat) (x : Int32) (y : Int32) (I : Inv T f) (hT : T < 999000) : Kn l yX12_send cX12_send 7 (some .int) 7 160 E (modW E b (flat f) hf wf ik fd tch tp tl tk tb ta tv bad bo so ce) [.ref (b 0), .int x, .int y] (S := (Nat → Int32) × Int32) (fun _ => True) (fun _ => (some (.int ((oSend f fd x y).1)))) (fun u => (modW E b (flat ((oSend f fd x y).2.1)) hf u.1 ik ((oSend f fd x y).2.2) u.2 tp tl tk tb ta tv bad bo so ce)) := by
  refine Kn.ofWi (by decide +kernel) (Nat.le_of_ble_eq_true rfl) (fun _ _ => rfl) ?_
  intro pg ev s0 mm below meth cd Q K X fin ls hl
  have hx := K.1
  have hb := K.2.1
  have hs10 := I.s10
  have hp6 := I.p6
  have hl : lv_has ls 7 [(0, .ref (b 0)), (1, .int x), (2, .int y)] := hl
  refine lv_aload_n hx hb dX12_send_0 rfl (lv_at hl 0 rfl) ?_
  refine lv_iload_n hx hb dX12_send_1 rfl (lv_at hl 1 rfl) ?_
  refine k_callV K X gv_X12_100 (As := [.int x]) (c_X12_isPerson l E b hf wf ik fd tch tp tl tk tb ta tv bad bo so ce f x) [0, 1, 2, 3, 4, 5, 6, 7, 8] modW_idC (by decide +kernel) (fun _ => modW_fst) 0 12 rfl rfl (by decide) rfl hl.1 (rest := []) rfl (Nat.le_of_ble_eq_true rfl) dX12_send_2 (st1 := fun _ => [.int (b2i (inR x 0 (f 0 3 - 1)))]) (fun _ => rfl) (fun _ H locs _ X => ?_)
  have X : Wd E _ _ (modW E b (flat f) hf wf ik fd tch tp tl tk tb ta tv bad bo so ce) _ _ := X.eq modW_idP
  refine k_ifeqB (B := (inR x 0 (f 0 3 - 1))) hx hb 19 dX12_send_5 (by decide) (fun c5 => ?_) (fun c5 => ?_)
  · have hx0 : isP f x = false := c5
    refine lv_aload_n hx hb dX12_send_19 rfl (lv_at hl 0 rfl) ?_
    refine lv_ldc (v := (-1000000001)) hx hb K.2.2.2.1 (K.2.2.2.2.1 _ (Mw_at 905 (by decide +kernel) (by decide +kernel))) dX12_send_20 ?_
    refine k_topi (show (-1000000001 : Int32) = fnd 0 by decide) ?_
    refine k_callV K X gv_X12_37 (As := [.int (fnd 0)]) (c_X12_finds l E b (flat f) hf wf ik fd tch tp tl tk tb ta tv bad bo so ce 0 (by decide)) [0, 1, 2, 3, 4, 5, 6, 7, 8] modW_idC (by decide +kernel) (fun _ => modW_fst) 0 12 rfl rfl (by decide) rfl hl.1 (rest := []) rfl (Nat.le_of_ble_eq_true rfl) dX12_send_22 (st1 := fun _ => [.int (fnd 0)]) (fun _ => rfl) (fun _ H locs _ X => ?_)
    have X : Wd E _ _ (modW E b (flat f) hf wf ik (fdU fd 0) tch tp tl tk tb ta tv bad bo so ce) _ _ := X.eq modW_idP
    exact k_topi (x' := (oSend f fd x y).1) (by simp [oSend, bad3, hx0]) (fin (wf, tch) 25 _ _ _ trivial (X.eq (by simp [oSend, bad3, hx0])) dX12_send_25)
  · have hx0 : isP f x = true := c5
    obtain ⟨k, hk, rfl⟩ := isP_nat I hx0
    have ek : (nI k).toNatClampNeg = k := nI_clamp (by omega)
    refine lv_iload_n hx hb dX12_send_8 rfl (lv_at hl 2 rfl) ?_
    refine lv_i2l (v := y.toInt64) hx hb dX12_send_9 rfl ?_
    refine lv_iconst (v := 1) hx hb dX12_send_10 (by decide) ?_
    refine lv_bipush (v := 100) hx hb dX12_send_11 (by decide) ?_
    refine k_callS K X gs_X12_41 (As := [.long y.toInt64, .int 1, .int 100]) (c_X12_in l E y 1 100) [] rfl (by decide +kernel) (fun _ => rfl) (by decide) rfl hl.1 (rest := []) rfl (Nat.le_of_ble_eq_true rfl) dX12_send_13 (st1 := fun _ => [.int (b2i (inR y 1 100))]) (fun _ => rfl) (fun _ H locs _ X => ?_)
    have X : Wd E _ _ (modW E b (flat f) hf wf ik fd tch tp tl tk tb ta tv bad bo so ce) _ _ := X
    refine k_ifneB (B := (inR y 1 100)) hx hb 26 dX12_send_16 (by decide) (fun c16 => ?_) (fun c16 => ?_)
    · obtain ⟨u, hu, rfl, hul, huh⟩ := inR_nat (n := 101) (by decide) (by decide) c16
      have hul : 1 ≤ u := by have h0 : ((1 : Int32).toInt) = 1 := (by decide); omega
      have eu : (nI u).toNatClampNeg = u := nI_clamp (by omega)
      refine lv_aload_n hx hb dX12_send_26 rfl (lv_at hl 0 rfl) ?_
      refine k_callV K X gv_X12_146 (As := []) (c_X12_thinks l E b (flat f) hf wf ik fd tch tp tl tk tb ta tv bad bo so ce) [0, 1, 2, 3, 4, 5, 6, 7, 8] modW_idC (by decide +kernel) (fun _ => modW_fst) 0 12 rfl rfl (by decide) rfl hl.1 (rest := []) rfl (Nat.le_of_ble_eq_true rfl) dX12_send_27 (st1 := fun _ => []) (fun _ => rfl) (fun _ H locs _ X => ?_)
      have X : Wd E _ _ (modW E b (flat f) hf (flat f) ik fd tch tp tl tk tb ta tv bad bo so ce) _ _ := X.eq modW_idP
      refine lv_iconst (v := (-1)) hx hb dX12_send_30 (by decide) ?_
      refine lv_istore_n (lv' := [(3, .int (-1)), (0, .ref (b 0)), (1, .int (nI k)), (2, .int (nI u))]) hx hb dX12_send_31 rfl hl (by decide) rfl (fun ls hl => ?_)
      refine lv_iconst (v := (-1)) hx hb dX12_send_32 (by decide) ?_
      refine lv_istore (lv' := [(4, .int (-1)), (3, .int (-1)), (0, .ref (b 0)), (1, .int (nI k)), (2, .int (nI u))]) hx hb dX12_send_33 hl (by decide) rfl (fun ls hl => ?_)
      refine lv_iconst (v := 0) hx hb dX12_send_35 (by decide) ?_
      refine lv_istore (lv' := [(5, .int 0), (4, .int (-1)), (3, .int (-1)), (0, .ref (b 0)), (1, .int (nI k)), (2, .int (nI u))]) hx hb dX12_send_36 hl (by decide) rfl (fun ls hl => ?_)
      have lp38 : ∀ (fu : Nat) (i : Nat) (n : Nat) (b1 : Int32) (w1 : Int32) (t : Int32) (hfu : n < fu) (hin : i + n = pe f) (hR : bmL (fun v => !decide (v = k) && decide (f 5 v = 0)) (fun v => bcF (wayF (goN u (up2 f 5 v 1)) k)) (fun v => nI v) n i b1 w1 = bmL (fun v => !decide (v = k) && decide (f 5 v = 0)) (fun v => bcF (wayF (goN u (up2 f 5 v 1)) k)) (fun v => nI v) (pe f) 0 (-1) (-1)) (ls : Array Slot) (hl : lv_has ls 7 [(5, .int (nI i)), (4, .int w1), (3, .int b1), (0, .ref (b 0)), (1, .int (nI k)), (2, .int (nI u))]) (H : Heap) (locs : List Loc) (X : Wd E (inW (modW E b (flat f) hf wf ik fd tch tp tl tk tb ta tv bad bo so ce)) s0.heap (modW E b (flat f) hf (flat f) ik fd t tp tl tk tb ta tv bad bo so ce) H locs), W pg l ev (rmK 7 160) s0 mm ([.ref (b 0), .int (nI k), .int (nI u)] : List Value).toArray below meth cd H locs 0 0 Q (F0 mm 38 ls []) := by
        intro fu
        induction fu with
        | zero => intro i n b1 w1 t hfu; exact absurd hfu (Nat.not_lt_zero _)
        | succ fu ih38 =>
          intro i n b1 w1 t hfu hin hR ls hl H locs X
          refine lv_iload hx hb dX12_send_38 (lv_at hl 0 rfl) ?_
          refine lv_aload_n hx hb dX12_send_40 rfl (lv_at hl 3 rfl) ?_
          refine k_get K X 0 rfl fg_X12_9 (v := .ref (b 1)) rfl dX12_send_41 ?_
          refine lv_iconst (v := 3) hx hb dX12_send_44 (by decide) ?_
          refine k_ialdN K X 1 rfl (k := 3) (by omega) (by decide) dX12_send_45 (v := f 0 3) rfl ?_
          refine k_topi (I.hP) ?_
          refine kN_ge (x := i) (y := pe f) hx hb 125 dX12_send_46 (by decide) (by omega) (by omega) (fun c46 => ?_) (fun c46 => ?_)
          · obtain rfl : n = 0 := by omega
            refine lv_aload_n hx hb dX12_send_125 rfl (lv_at hl 3 rfl) ?_
            refine lv_iload_n hx hb dX12_send_126 rfl (lv_at hl 2 rfl) ?_
            refine k_callV K X gv_X12_159 (As := [.int b1]) (c_X12_orNone l E b (flat f) hf (flat f) ik fd t tp tl tk tb ta tv bad bo so ce b1) [0, 1, 2, 3, 4, 5, 6, 7, 8] modW_idC (by decide +kernel) (fun _ => modW_fst) 0 12 rfl rfl (by decide) rfl hl.1 (rest := []) rfl (Nat.le_of_ble_eq_true rfl) dX12_send_127 (st1 := fun _ => [.int (if b1 < 0 then fnd 3 else b1)]) (fun _ => rfl) (fun _ H locs _ X => ?_)
            have X : Wd E _ _ (modW E b (flat f) hf (flat f) ik (if b1 < 0 then fdU fd 3 else fd) t tp tl tk tb ta tv bad bo so ce) _ _ := X.eq modW_idP
            exact k_topi (x' := (oSend f fd (nI k) (nI u)).1) (by rw [oSend, hx0, c16, Bool.true_and, cond_true, ek, eu]; exact orN_a (b := b1) ((congrArg Prod.fst hR).trans (bm_bs _ _ _ _ _ (-1) 0 _ _ (fun j _ hj => ⟨nI_ne_m1 (by omega), bc_way ((I.up5 j 1).more u (by omega)) k⟩) (Or.inl ⟨rfl, rfl, rfl⟩))) (bsL_rng _ _ _ _ _ _ _ (fun j _ hj => ⟨j, by omega, rfl⟩) (Or.inl rfl))) (fin ((flat f), t) 130 _ _ _ trivial (X.eq (by rw [oSend, hx0, c16, Bool.true_and, cond_true, ek, eu]; exact orN_w (b := b1) ((congrArg Prod.fst hR).trans (bm_bs _ _ _ _ _ (-1) 0 _ _ (fun j _ hj => ⟨nI_ne_m1 (by omega), bc_way ((I.up5 j 1).more u (by omega)) k⟩) (Or.inl ⟨rfl, rfl, rfl⟩))) (bsL_rng _ _ _ _ _ _ _ (fun j _ hj => ⟨j, by omega, rfl⟩) (Or.inl rfl)))) dX12_send_130)
          · obtain ⟨n, rfl⟩ : ∃ z, n = z + 1 := ⟨n - 1, by omega⟩
            refine lv_iload hx hb dX12_send_49 (lv_at hl 0 rfl) ?_
            refine lv_iload_n hx hb dX12_send_51 rfl (lv_at hl 4 rfl) ?_
            refine kN_eq (x := i) (y := k) hx hb 119 dX12_send_52 (by decide) (by omega) (by omega) (fun c52 => ?_) (fun c52 => ?_)
            · refine lv_iinc (v := nI (i + 1)) (lv' := [(5, .int (nI (i + 1))), (4, .int w1), (3, .int b1), (0, .ref (b 0)), (1, .int (nI k)), (2, .int (nI u))]) hx hb dX12_send_119 hl (k := 0) rfl (nI_add i 1) (by decide) rfl (fun ls hl => ?_)
              refine lv_goto (tgt := 38) hx hb dX12_send_122 (by decide) ?_
              exact ih38 (i + 1) n b1 w1 t (by omega) (by omega) (by rw [← hR]; simp [bmL, hx0, ek, c16, eu, c46, c52]) _ hl _ _ X
            · refine lv_aload_n hx hb dX12_send_55 rfl (lv_at hl 3 rfl) ?_
              refine lv_iload hx hb dX12_send_56 (lv_at hl 0 rfl) ?_
              refine lv_iconst (v := 1) hx hb dX12_send_58 (by decide) ?_
              refine k_callV K X gv_X12_45 (As := [.int (nI i), .int 1]) (c_X12_who1 l E b hf (flat f) ik fd t tp tl tk tb ta tv bad bo so ce f i (by omega)) [0, 1, 2, 3, 4, 5, 6, 7, 8] modW_idC (by decide +kernel) (fun _ => modW_fst) 0 12 rfl rfl (by decide) rfl hl.1 (rest := []) rfl (Nat.le_of_ble_eq_true rfl) dX12_send_59 (st1 := fun _ => [.int (f 5 i)]) (fun _ => rfl) (fun _ H locs _ X => ?_)
              have X : Wd E _ _ (modW E b (flat f) hf (flat f) ik fd t tp tl tk tb ta tv bad bo so ce) _ _ := X.eq modW_idP
              refine k_if_ne (x := f 5 i) hx hb 119 dX12_send_62 (by decide) (fun c62 => ?_) (fun c62 => ?_)
              · refine lv_iinc (v := nI (i + 1)) (lv' := [(5, .int (nI (i + 1))), (4, .int w1), (3, .int b1), (0, .ref (b 0)), (1, .int (nI k)), (2, .int (nI u))]) hx hb dX12_send_119 hl (k := 0) rfl (nI_add i 1) (by decide) rfl (fun ls hl => ?_)
                refine lv_goto (tgt := 38) hx hb dX12_send_122 (by decide) ?_
                exact ih38 (i + 1) n b1 w1 t (by omega) (by omega) (by rw [← hR]; simp [bmL, hx0, ek, c16, eu, c46, c52, c62]) _ hl _ _ X
              · refine lv_aload_n hx hb dX12_send_65 rfl (lv_at hl 3 rfl) ?_
                refine k_get K X 0 rfl fg_X12_9 (v := .ref (b 1)) rfl dX12_send_66 ?_
                refine lv_bipush (v := 34) hx hb dX12_send_69 (by decide) ?_
                refine lv_bipush (v := 12) hx hb dX12_send_71 (by decide) ?_
                refine lv_iload hx hb dX12_send_73 (lv_at hl 0 rfl) ?_
                refine lv_imul hx hb dX12_send_75 ?_
                refine k_topi (pk_mul 12 i) ?_
                refine lv_iadd hx hb dX12_send_76 ?_
                refine k_topi (nI_add 34 (12 * i)) ?_
                refine lv_iconst (v := 1) hx hb dX12_send_77 (by decide) ?_
                refine lv_iadd hx hb dX12_send_78 ?_
                refine k_topi (nI_add (34 + 12 * i) 1) ?_
                refine lv_iconst (v := 1) hx hb dX12_send_79 (by decide) ?_
                refine k_iastN K X 1 rfl (k := 34 + 12 * i + 1) (x := 1) (by omega) (by decide) dX12_send_80 (fun H locs X => ?_)
                have X : Wd E _ _ (modW E b (upd (flat f) (34 + 12 * i + 1) 1) hf (flat f) ik fd t tp tl tk tb ta tv bad bo so ce) _ _ := X
                have X : Wd E _ _ (modW E b (flat (up2 f 5 i 1)) hf (flat f) ik fd t tp tl tk tb ta tv bad bo so ce) _ _ := X.eq (by rw [flat_out])
                refine lv_aload_n hx hb dX12_send_81 rfl (lv_at hl 3 rfl) ?_
                refine lv_iload_n hx hb dX12_send_82 rfl (lv_at hl 4 rfl) ?_
                refine lv_iload_n hx hb dX12_send_83 rfl (lv_at hl 5 rfl) ?_
                refine k_callV K X gv_X12_152 (As := [.int (nI k), .int (nI u)]) (c_X12_wayOn l E b hf ik fd t tp tl tk tb ta tv bad bo so ce (up2 f 5 i 1) T f k u (I.up5 i 1) (by omega) (by omega)) [0, 1, 2, 3, 4, 5, 6, 7, 8] modW_idC (by decide +kernel) (fun _ => modW_fst) 0 12 rfl rfl (by decide) rfl hl.1 (rest := []) rfl (Nat.le_of_ble_eq_true rfl) dX12_send_84 (st1 := fun _ => [.int (bcF (wayF (goN u (up2 f 5 i 1)) k))]) (fun _ => rfl) (fun _ H locs _ X => ?_)
                have X : Wd E _ _ (modW E b (flat f) hf (flat f) ik fd (tcN u (up2 f 5 i 1) t) tp tl tk tb ta tv bad bo so ce) _ _ := X.eq modW_idP
                refine lv_istore (lv' := [(6, .int (bcF (wayF (goN u (up2 f 5 i 1)) k))), (5, .int (nI i)), (4, .int w1), (3, .int b1), (0, .ref (b 0)), (1, .int (nI k)), (2, .int (nI u))]) hx hb dX12_send_87 hl (by decide) rfl (fun ls hl => ?_)
                refine lv_iload hx hb dX12_send_89 (lv_at hl 0 rfl) ?_
                refine lv_iload hx hb dX12_send_91 (lv_at hl 2 rfl) ?_
                refine k_icmp_le (x := bcF (wayF (goN u (up2 f 5 i 1)) k)) (y := w1) hx hb 101 dX12_send_93 (by decide) (fun c93 => ?_) (fun c93 => ?_)
                · refine lv_iload_n hx hb dX12_send_101 rfl (lv_at hl 3 rfl) ?_
                  refine lv_istore_n (lv' := [(3, .int b1), (6, .int (bcF (wayF (goN u (up2 f 5 i 1)) k))), (5, .int (nI i)), (4, .int w1), (0, .ref (b 0)), (1, .int (nI k)), (2, .int (nI u))]) hx hb dX12_send_102 rfl hl (by decide) rfl (fun ls hl => ?_)
                  refine lv_iload hx hb dX12_send_103 (lv_at hl 1 rfl) ?_
                  refine lv_iload hx hb dX12_send_105 (lv_at hl 3 rfl) ?_
                  refine k_icmp_le (x := bcF (wayF (goN u (up2 f 5 i 1)) k)) (y := w1) hx hb 115 dX12_send_107 (by decide) (fun c107 => ?_) (fun c107 => ?_)
                  · refine lv_iload hx hb dX12_send_115 (lv_at hl 3 rfl) ?_
                    refine lv_istore (lv' := [(4, .int w1), (3, .int b1), (6, .int (bcF (wayF (goN u (up2 f 5 i 1)) k))), (5, .int (nI i)), (0, .ref (b 0)), (1, .int (nI k)), (2, .int (nI u))]) hx hb dX12_send_117 hl (by decide) rfl (fun ls hl => ?_)
                    refine lv_iinc (v := nI (i + 1)) (lv' := [(5, .int (nI (i + 1))), (4, .int w1), (3, .int b1), (6, .int (bcF (wayF (goN u (up2 f 5 i 1)) k))), (0, .ref (b 0)), (1, .int (nI k)), (2, .int (nI u))]) hx hb dX12_send_119 hl (k := 3) rfl (nI_add i 1) (by decide) rfl (fun ls hl => ?_)
                    refine lv_goto (tgt := 38) hx hb dX12_send_122 (by decide) ?_
                    exact ih38 (i + 1) n b1 w1 (tcN u (up2 f 5 i 1) t) (by omega) (by omega) (by rw [← hR]; simp [bmL, hx0, ek, c16, eu, c46, c52, c62, c93, c107]) _ (lv_sub hl [0, 1, 2, 4, 5, 6] rfl) _ _ X
                  · exact absurd c107 c93
                · refine lv_iload hx hb dX12_send_96 (lv_at hl 1 rfl) ?_
                  refine lv_goto (tgt := 102) hx hb dX12_send_98 (by decide) ?_
                  refine lv_istore_n (lv' := [(3, .int (nI i)), (6, .int (bcF (wayF (goN u (up2 f 5 i 1)) k))), (5, .int (nI i)), (4, .int w1), (0, .ref (b 0)), (1, .int (nI k)), (2, .int (nI u))]) hx hb dX12_send_102 rfl hl (by decide) rfl (fun ls hl => ?_)
                  refine lv_iload hx hb dX12_send_103 (lv_at hl 1 rfl) ?_
                  refine lv_iload hx hb dX12_send_105 (lv_at hl 3 rfl) ?_
                  refine k_icmp_le (x := bcF (wayF (goN u (up2 f 5 i 1)) k)) (y := w1) hx hb 115 dX12_send_107 (by decide) (fun c107 => ?_) (fun c107 => ?_)
                  · exact absurd c93 c107
                  · refine lv_iload hx hb dX12_send_110 (lv_at hl 1 rfl) ?_
                    refine lv_goto (tgt := 117) hx hb dX12_send_112 (by decide) ?_
                    refine lv_istore (lv' := [(4, .int (bcF (wayF (goN u (up2 f 5 i 1)) k))), (3, .int (nI i)), (6, .int (bcF (wayF (goN u (up2 f 5 i 1)) k))), (5, .int (nI i)), (0, .ref (b 0)), (1, .int (nI k)), (2, .int (nI u))]) hx hb dX12_send_117 hl (by decide) rfl (fun ls hl => ?_)
                    refine lv_iinc (v := nI (i + 1)) (lv' := [(5, .int (nI (i + 1))), (4, .int (bcF (wayF (goN u (up2 f 5 i 1)) k))), (3, .int (nI i)), (6, .int (bcF (wayF (goN u (up2 f 5 i 1)) k))), (0, .ref (b 0)), (1, .int (nI k)), (2, .int (nI u))]) hx hb dX12_send_119 hl (k := 3) rfl (nI_add i 1) (by decide) rfl (fun ls hl => ?_)
                    refine lv_goto (tgt := 38) hx hb dX12_send_122 (by decide) ?_
                    exact ih38 (i + 1) n (nI i) (bcF (wayF (goN u (up2 f 5 i 1)) k)) (tcN u (up2 f 5 i 1) t) (by omega) (by omega) (by rw [← hR]; simp [bmL, hx0, ek, c16, eu, c46, c52, c62, c93, c107]) _ (lv_sub hl [0, 1, 2, 4, 5, 6] rfl) _ _ X
      exact lp38 ((pe f) + 1) 0 (pe f) (-1) (-1) tch (by omega) (by omega) (rfl) _ hl _ _ X
    · refine lv_aload_n hx hb dX12_send_19 rfl (lv_at hl 0 rfl) ?_
      refine lv_ldc (v := (-1000000001)) hx hb K.2.2.2.1 (K.2.2.2.2.1 _ (Mw_at 905 (by decide +kernel) (by decide +kernel))) dX12_send_20 ?_
      refine k_topi (show (-1000000001 : Int32) = fnd 0 by decide) ?_
      refine k_callV K X gv_X12_37 (As := [.int (fnd 0)]) (c_X12_finds l E b (flat f) hf wf ik fd tch tp tl tk tb ta tv bad bo so ce 0 (by decide)) [0, 1, 2, 3, 4, 5, 6, 7, 8] modW_idC (by decide +kernel) (fun _ => modW_fst) 0 12 rfl rfl (by decide) rfl hl.1 (rest := []) rfl (Nat.le_of_ble_eq_true rfl) dX12_send_22 (st1 := fun _ => [.int (fnd 0)]) (fun _ => rfl) (fun _ H locs _ X => ?_)
      have X : Wd E _ _ (modW E b (flat f) hf wf ik (fdU fd 0) tch tp tl tk tb ta tv bad bo so ce) _ _ := X.eq modW_idP
      exact k_topi (x' := (oSend f fd (nI k) y).1) (by simp [oSend, bad3, hx0, ek, c16]) (fin (wf, tch) 25 _ _ _ trivial (X.eq (by simp [oSend, bad3, hx0, ek, c16])) dX12_send_25)
set_option maxRecDepth 100000 in
set_option maxHeartbeats 4000000 in
theorem c_X12_pair (l : Launch) (E : EE) (b : Nat → Nat) (hf : Nat → Int32) (wf : Nat → Int32) (ik : Int32) (fd : Nat → Int32) (tch : Int32) (tp : Nat → Int32) (tl : Int32) (tk : Int32) (tb : Int32) (ta : Int32) (tv : Int32) (bad : Int32) (bo : Nat → Int32) (so : Nat → Int32) (ce : Nat → Int64) (f : St) (T : Nat) (I : Inv T f) : Kd l yX12_pair cX12_pair 6 (some .int) 3 68 E (modW E b (flat f) hf wf ik fd tch tp tl tk tb ta tv bad bo so ce) [.ref (b 0)] (some (.int ((oPair f fd).1))) (modW E b (flat ((oPair f fd).2.1)) hf wf ik ((oPair f fd).2.2) tch tp tl tk tb ta tv bad bo so ce) := by
  refine Kn.ofWi (by decide +kernel) (Nat.le_of_ble_eq_true rfl) (fun _ _ => rfl) ?_
  intro pg ev s0 mm below meth cd Q K X fin ls hl
  have hx := K.1
  have hb := K.2.1
  have hs10 := I.s10
  have hp6 := I.p6
  have hl : lv_has ls 6 [(0, .ref (b 0))] := hl
  refine lv_iconst (v := (-1)) hx hb dX12_pair_0 (by decide) ?_
  refine lv_istore_n (lv' := [(1, .int (-1)), (0, .ref (b 0))]) hx hb dX12_pair_1 rfl hl (by decide) rfl (fun ls hl => ?_)
  refine lv_iconst (v := (-1)) hx hb dX12_pair_2 (by decide) ?_
  refine lv_istore_n (lv' := [(2, .int (-1)), (1, .int (-1)), (0, .ref (b 0))]) hx hb dX12_pair_3 rfl hl (by decide) rfl (fun ls hl => ?_)
  refine lv_iconst (v := 0) hx hb dX12_pair_4 (by decide) ?_
  refine lv_istore_n (lv' := [(3, .int 0), (2, .int (-1)), (1, .int (-1)), (0, .ref (b 0))]) hx hb dX12_pair_5 rfl hl (by decide) rfl (fun ls hl => ?_)
  have lp6 : ∀ (fu : Nat) (i : Nat) (n : Nat) (b1 : Int32) (w1 : Int32) (hfu : n < fu) (hin : i + n = pe f) (hR : prM f n i b1 w1 = prM f (pe f) 0 (-1) (-1)) (ls : Array Slot) (hl : lv_has ls 6 [(3, .int (nI i)), (2, .int w1), (1, .int b1), (0, .ref (b 0))]) (H : Heap) (locs : List Loc) (X : Wd E (inW (modW E b (flat f) hf wf ik fd tch tp tl tk tb ta tv bad bo so ce)) s0.heap (modW E b (flat f) hf wf ik fd tch tp tl tk tb ta tv bad bo so ce) H locs), W pg l ev (rmK 3 68) s0 mm ([.ref (b 0)] : List Value).toArray below meth cd H locs 0 0 Q (F0 mm 6 ls []) := by
    intro fu
    induction fu with
    | zero => intro i n b1 w1 hfu; exact absurd hfu (Nat.not_lt_zero _)
    | succ fu ih6 =>
      intro i n b1 w1 hfu hin hR ls hl H locs X
      refine lv_iload_n hx hb dX12_pair_6 rfl (lv_at hl 0 rfl) ?_
      refine lv_aload_n hx hb dX12_pair_7 rfl (lv_at hl 3 rfl) ?_
      refine k_get K X 0 rfl fg_X12_9 (v := .ref (b 1)) rfl dX12_pair_8 ?_
      refine lv_iconst (v := 3) hx hb dX12_pair_11 (by decide) ?_
      refine k_ialdN K X 1 rfl (k := 3) (by omega) (by decide) dX12_pair_12 (v := f 0 3) rfl ?_
      refine k_topi (I.hP) ?_
      refine kN_ge (x := i) (y := pe f) hx hb 84 dX12_pair_13 (by decide) (by omega) (by omega) (fun c13 => ?_) (fun c13 => ?_)
      · obtain rfl : n = 0 := by omega
        refine lv_aload_n hx hb dX12_pair_84 rfl (lv_at hl 3 rfl) ?_
        refine lv_iload_n hx hb dX12_pair_85 rfl (lv_at hl 2 rfl) ?_
        refine k_callV K X gv_X12_159 (As := [.int b1]) (c_X12_orNone l E b (flat f) hf wf ik fd tch tp tl tk tb ta tv bad bo so ce b1) [0, 1, 2, 3, 4, 5, 6, 7, 8] modW_idC (by decide +kernel) (fun _ => modW_fst) 0 12 rfl rfl (by decide) rfl hl.1 (rest := []) rfl (Nat.le_of_ble_eq_true rfl) dX12_pair_86 (st1 := fun _ => [.int (if b1 < 0 then fnd 3 else b1)]) (fun _ => rfl) (fun _ H locs _ X => ?_)
        have X : Wd E _ _ (modW E b (flat f) hf wf ik (if b1 < 0 then fdU fd 3 else fd) tch tp tl tk tb ta tv bad bo so ce) _ _ := X.eq modW_idP
        exact k_topi (x' := (oPair f fd).1) (by rw [oPair]; exact orN_a (b := b1) ((congrArg Prod.fst hR).trans (prM_fst f I.p6 I.s10)) (prL_rng f I.p6 _ _ _ _ (by have := I.p6; omega) (Or.inl rfl))) (fin () 89 _ _ _ trivial (X.eq (by rw [oPair]; exact orN_w (b := b1) ((congrArg Prod.fst hR).trans (prM_fst f I.p6 I.s10)) (prL_rng f I.p6 _ _ _ _ (by have := I.p6; omega) (Or.inl rfl)))) dX12_pair_89)
      · obtain ⟨n, rfl⟩ : ∃ z, n = z + 1 := ⟨n - 1, by omega⟩
        refine lv_iload_n hx hb dX12_pair_16 rfl (lv_at hl 0 rfl) ?_
        refine lv_iconst (v := 1) hx hb dX12_pair_17 (by decide) ?_
        refine lv_iadd hx hb dX12_pair_18 ?_
        refine k_topi (nI_add i 1) ?_
        refine lv_istore (lv' := [(4, .int (nI (i + 1))), (3, .int (nI i)), (2, .int w1), (1, .int b1), (0, .ref (b 0))]) hx hb dX12_pair_19 hl (by decide) rfl (fun ls hl => ?_)
        have lp21 : ∀ (fu : Nat) (j : Nat) (n2 : Nat) (b2 : Int32) (w2 : Int32) (hfu : n2 < fu) (hin2 : j + n2 = pe f) (hV : bmL (fun _ => true) (fun b => nI (sameF f i b)) (fun b => nI (10 * i + b)) n2 j b2 w2 = bmL (fun _ => true) (fun b => nI (sameF f i b)) (fun b => nI (10 * i + b)) (pe f - (i + 1)) (i + 1) b1 w1) (ls : Array Slot) (hl : lv_has ls 6 [(4, .int (nI j)), (3, .int (nI i)), (2, .int w2), (1, .int b2), (0, .ref (b 0))]) (H : Heap) (locs : List Loc) (X : Wd E (inW (modW E b (flat f) hf wf ik fd tch tp tl tk tb ta tv bad bo so ce)) s0.heap (modW E b (flat f) hf wf ik fd tch tp tl tk tb ta tv bad bo so ce) H locs), W pg l ev (rmK 3 68) s0 mm ([.ref (b 0)] : List Value).toArray below meth cd H locs 0 0 Q (F0 mm 21 ls []) := by
          intro fu
          induction fu with
          | zero => intro j n2 b2 w2 hfu; exact absurd hfu (Nat.not_lt_zero _)
          | succ fu ih21 =>
            intro j n2 b2 w2 hfu hin2 hV ls hl H locs X
            refine lv_iload hx hb dX12_pair_21 (lv_at hl 0 rfl) ?_
            refine lv_aload_n hx hb dX12_pair_23 rfl (lv_at hl 4 rfl) ?_
            refine k_get K X 0 rfl fg_X12_9 (v := .ref (b 1)) rfl dX12_pair_24 ?_
            refine lv_iconst (v := 3) hx hb dX12_pair_27 (by decide) ?_
            refine k_ialdN K X 1 rfl (k := 3) (by omega) (by decide) dX12_pair_28 (v := f 0 3) rfl ?_
            refine k_topi (I.hP) ?_
            refine kN_ge (x := j) (y := pe f) hx hb 78 dX12_pair_29 (by decide) (by omega) (by omega) (fun c29 => ?_) (fun c29 => ?_)
            · obtain rfl : n2 = 0 := by omega
              refine lv_iinc (v := nI (i + 1)) (lv' := [(3, .int (nI (i + 1))), (4, .int (nI j)), (2, .int w2), (1, .int b2), (0, .ref (b 0))]) hx hb dX12_pair_78 hl (k := 1) rfl (nI_add i 1) (by decide) rfl (fun ls hl => ?_)
              refine lv_goto (tgt := 6) hx hb dX12_pair_81 (by decide) ?_
              exact ih6 (i + 1) n b2 w2 (by omega) (by omega) (by rw [← hR, prM, ← hV]; rfl) _ (lv_sub hl [0, 2, 3, 4] rfl) _ _ X
            · obtain ⟨n2, rfl⟩ : ∃ z, n2 = z + 1 := ⟨n2 - 1, by omega⟩
              refine lv_aload_n hx hb dX12_pair_32 rfl (lv_at hl 4 rfl) ?_
              refine lv_iload_n hx hb dX12_pair_33 rfl (lv_at hl 1 rfl) ?_
              refine lv_iload hx hb dX12_pair_34 (lv_at hl 0 rfl) ?_
              refine k_callV K X gv_X12_116 (As := [.int (nI i), .int (nI j)]) (c_X12_sameOf l E b hf wf ik fd tch tp tl tk tb ta tv bad bo so ce f T i j I (by omega) (by omega)) [0, 1, 2, 3, 4, 5, 6, 7, 8] modW_idC (by decide +kernel) (fun _ => modW_fst) 0 12 rfl rfl (by decide) rfl hl.1 (rest := []) rfl (Nat.le_of_ble_eq_true rfl) dX12_pair_36 (st1 := fun _ => [.int (nI (sameF f i j))]) (fun _ => rfl) (fun _ H locs _ X => ?_)
              have X : Wd E _ _ (modW E b (flat f) hf wf ik fd tch tp tl tk tb ta tv bad bo so ce) _ _ := X.eq modW_idP
              refine lv_istore (lv' := [(5, .int (nI (sameF f i j))), (4, .int (nI j)), (3, .int (nI i)), (2, .int w2), (1, .int b2), (0, .ref (b 0))]) hx hb dX12_pair_39 hl (by decide) rfl (fun ls hl => ?_)
              refine lv_iload hx hb dX12_pair_41 (lv_at hl 0 rfl) ?_
              refine lv_iload_n hx hb dX12_pair_43 rfl (lv_at hl 3 rfl) ?_
              refine k_icmp_le (x := nI (sameF f i j)) (y := w2) hx hb 57 dX12_pair_44 (by decide) (fun c44 => ?_) (fun c44 => ?_)
              · refine lv_iload_n hx hb dX12_pair_57 rfl (lv_at hl 4 rfl) ?_
                refine lv_istore_n (lv' := [(1, .int b2), (5, .int (nI (sameF f i j))), (4, .int (nI j)), (3, .int (nI i)), (2, .int w2), (0, .ref (b 0))]) hx hb dX12_pair_58 rfl hl (by decide) rfl (fun ls hl => ?_)
                refine lv_iload hx hb dX12_pair_59 (lv_at hl 1 rfl) ?_
                refine lv_iload_n hx hb dX12_pair_61 rfl (lv_at hl 4 rfl) ?_
                refine k_icmp_le (x := nI (sameF f i j)) (y := w2) hx hb 70 dX12_pair_62 (by decide) (fun c62 => ?_) (fun c62 => ?_)
                · refine lv_iload_n hx hb dX12_pair_70 rfl (lv_at hl 4 rfl) ?_
                  refine lv_istore_n (lv' := [(2, .int w2), (1, .int b2), (5, .int (nI (sameF f i j))), (4, .int (nI j)), (3, .int (nI i)), (0, .ref (b 0))]) hx hb dX12_pair_71 rfl hl (by decide) rfl (fun ls hl => ?_)
                  refine lv_iinc (v := nI (j + 1)) (lv' := [(4, .int (nI (j + 1))), (2, .int w2), (1, .int b2), (5, .int (nI (sameF f i j))), (3, .int (nI i)), (0, .ref (b 0))]) hx hb dX12_pair_72 hl (k := 3) rfl (nI_add j 1) (by decide) rfl (fun ls hl => ?_)
                  refine lv_goto (tgt := 21) hx hb dX12_pair_75 (by decide) ?_
                  exact ih21 (j + 1) n2 b2 w2 (by omega) (by omega) (by rw [← hV]; simp [bmL, c13, c29, c44, c62]) _ (lv_sub hl [0, 4, 1, 2, 5] rfl) _ _ X
                · exact absurd c62 c44
              · refine lv_bipush (v := 10) hx hb dX12_pair_47 (by decide) ?_
                refine lv_iload_n hx hb dX12_pair_49 rfl (lv_at hl 2 rfl) ?_
                refine lv_imul hx hb dX12_pair_50 ?_
                refine k_topi (pk_mul 10 i) ?_
                refine lv_iload hx hb dX12_pair_51 (lv_at hl 1 rfl) ?_
                refine lv_iadd hx hb dX12_pair_53 ?_
                refine k_topi (nI_add (10 * i) j) ?_
                refine lv_goto (tgt := 58) hx hb dX12_pair_54 (by decide) ?_
                refine lv_istore_n (lv' := [(1, .int (nI (10 * i + j))), (5, .int (nI (sameF f i j))), (4, .int (nI j)), (3, .int (nI i)), (2, .int w2), (0, .ref (b 0))]) hx hb dX12_pair_58 rfl hl (by decide) rfl (fun ls hl => ?_)
                refine lv_iload hx hb dX12_pair_59 (lv_at hl 1 rfl) ?_
                refine lv_iload_n hx hb dX12_pair_61 rfl (lv_at hl 4 rfl) ?_
                refine k_icmp_le (x := nI (sameF f i j)) (y := w2) hx hb 70 dX12_pair_62 (by decide) (fun c62 => ?_) (fun c62 => ?_)
                · exact absurd c44 c62
                · refine lv_iload hx hb dX12_pair_65 (lv_at hl 1 rfl) ?_
                  refine lv_goto (tgt := 71) hx hb dX12_pair_67 (by decide) ?_
                  refine lv_istore_n (lv' := [(2, .int (nI (sameF f i j))), (1, .int (nI (10 * i + j))), (5, .int (nI (sameF f i j))), (4, .int (nI j)), (3, .int (nI i)), (0, .ref (b 0))]) hx hb dX12_pair_71 rfl hl (by decide) rfl (fun ls hl => ?_)
                  refine lv_iinc (v := nI (j + 1)) (lv' := [(4, .int (nI (j + 1))), (2, .int (nI (sameF f i j))), (1, .int (nI (10 * i + j))), (5, .int (nI (sameF f i j))), (3, .int (nI i)), (0, .ref (b 0))]) hx hb dX12_pair_72 hl (k := 3) rfl (nI_add j 1) (by decide) rfl (fun ls hl => ?_)
                  refine lv_goto (tgt := 21) hx hb dX12_pair_75 (by decide) ?_
                  exact ih21 (j + 1) n2 (nI (10 * i + j)) (nI (sameF f i j)) (by omega) (by omega) (by rw [← hV]; simp [bmL, c13, c29, c44, c62]) _ (lv_sub hl [0, 4, 1, 2, 5] rfl) _ _ X
        exact lp21 ((pe f - (i + 1)) + 1) (i + 1) (pe f - (i + 1)) b1 w1 (by omega) (by omega) (rfl) _ hl _ _ X
  exact lp6 ((pe f) + 1) 0 (pe f) (-1) (-1) (by omega) (by omega) (rfl) _ hl _ _ X
set_option maxRecDepth 100000 in
set_option maxHeartbeats 4000000 in
theorem c_X12_winner (l : Launch) (E : EE) (b : Nat → Nat) (hf : Nat → Int32) (wf : Nat → Int32) (ik : Int32) (fd : Nat → Int32) (tch : Int32) (tp : Nat → Int32) (tl : Int32) (tk : Int32) (tb : Int32) (ta : Int32) (tv : Int32) (bad : Int32) (bo : Nat → Int32) (so : Nat → Int32) (ce : Nat → Int64) (f : St) (T : Nat) (x : Int32) (I : Inv T f) (hT : T < 999000) : Kn l yX12_winner cX12_winner 4 (some .int) 6 137 E (modW E b (flat f) hf wf ik fd tch tp tl tk tb ta tv bad bo so ce) [.ref (b 0), .int x] (S := (Nat → Int32) × Int32) (fun _ => True) (fun _ => (some (.int ((oWinner f fd x).1)))) (fun u => (modW E b (flat ((oWinner f fd x).2.1)) hf u.1 ik ((oWinner f fd x).2.2) u.2 tp tl tk tb ta tv bad bo so ce)) := by
  refine Kn.ofWi (by decide +kernel) (Nat.le_of_ble_eq_true rfl) (fun _ _ => rfl) ?_
  intro pg ev s0 mm below meth cd Q K X fin ls hl
  have hx := K.1
  have hb := K.2.1
  have hs10 := I.s10
  have hp6 := I.p6
  have hl : lv_has ls 4 [(0, .ref (b 0)), (1, .int x)] := hl
  refine lv_iload_n hx hb dX12_winner_0 rfl (lv_at hl 1 rfl) ?_
  refine lv_i2l (v := x.toInt64) hx hb dX12_winner_1 rfl ?_
  refine lv_iconst (v := 0) hx hb dX12_winner_2 (by decide) ?_
  refine lv_sipush (v := 200) hx hb dX12_winner_3 (by decide) ?_
  refine k_callS K X gs_X12_41 (As := [.long x.toInt64, .int 0, .int 200]) (c_X12_in l E x 0 200) [] rfl (by decide +kernel) (fun _ => rfl) (by decide) rfl hl.1 (rest := []) rfl (Nat.le_of_ble_eq_true rfl) dX12_winner_6 (st1 := fun _ => [.int (b2i (inR x 0 200))]) (fun _ => rfl) (fun _ H locs _ X => ?_)
  have X : Wd E _ _ (modW E b (flat f) hf wf ik fd tch tp tl tk tb ta tv bad bo so ce) _ _ := X
  refine k_ifneB (B := (inR x 0 200)) hx hb 19 dX12_winner_9 (by decide) (fun c9 => ?_) (fun c9 => ?_)
  · obtain ⟨u, hu, rfl, hul, huh⟩ := inR_nat (n := 201) (by decide) (by decide) c9
    have hul : 0 ≤ u := by have h0 : ((0 : Int32).toInt) = 0 := (by decide); omega
    have eu : (nI u).toNatClampNeg = u := nI_clamp (by omega)
    have Ig := I.more u (by omega)
    have hgp := Ig.p6
    refine lv_aload_n hx hb dX12_winner_19 rfl (lv_at hl 0 rfl) ?_
    refine k_callV K X gv_X12_146 (As := []) (c_X12_thinks l E b (flat f) hf wf ik fd tch tp tl tk tb ta tv bad bo so ce) [0, 1, 2, 3, 4, 5, 6, 7, 8] modW_idC (by decide +kernel) (fun _ => modW_fst) 0 12 rfl rfl (by decide) rfl hl.1 (rest := []) rfl (Nat.le_of_ble_eq_true rfl) dX12_winner_20 (st1 := fun _ => []) (fun _ => rfl) (fun _ H locs _ X => ?_)
    have X : Wd E _ _ (modW E b (flat f) hf (flat f) ik fd tch tp tl tk tb ta tv bad bo so ce) _ _ := X.eq modW_idP
    refine lv_aload_n hx hb dX12_winner_23 rfl (lv_at hl 0 rfl) ?_
    refine lv_iload_n hx hb dX12_winner_24 rfl (lv_at hl 1 rfl) ?_
    refine k_callV K X gv_X12_139 (As := [.int (nI u)]) (c_X12_goesFor l E b hf (flat f) ik fd tch tp tl tk tb ta tv bad bo so ce f T u I (by omega)) [0, 1, 2, 3, 4, 5, 6, 7, 8] modW_idC (by decide +kernel) (fun _ => modW_fst) 0 12 rfl rfl (by decide) rfl hl.1 (rest := []) rfl (Nat.le_of_ble_eq_true rfl) dX12_winner_25 (st1 := fun _ => []) (fun _ => rfl) (fun _ H locs _ X => ?_)
    have X : Wd E _ _ (modW E b (flat (goN u f)) hf (flat f) ik fd (tcN u f tch) tp tl tk tb ta tv bad bo so ce) _ _ := X.eq modW_idP
    refine lv_iconst (v := (-1)) hx hb dX12_winner_28 (by decide) ?_
    refine lv_istore_n (lv' := [(2, .int (-1)), (0, .ref (b 0)), (1, .int (nI u))]) hx hb dX12_winner_29 rfl hl (by decide) rfl (fun ls hl => ?_)
    refine lv_iconst (v := 0) hx hb dX12_winner_30 (by decide) ?_
    refine lv_istore_n (lv' := [(3, .int 0), (2, .int (-1)), (0, .ref (b 0)), (1, .int (nI u))]) hx hb dX12_winner_31 rfl hl (by decide) rfl (fun ls hl => ?_)
    have lp32 : ∀ (fu : Nat) (i : Nat) (n : Nat) (b1 : Int32) (w1 : Int32) (hfu : n < fu) (hin : i + n = pe (goN u f)) (hR : bsL (fun _ => true) (fun v => bcF (wayF (goN u f) v)) (fun v => nI v) n i b1 w1 = bsL (fun _ => true) (fun v => bcF (wayF (goN u f) v)) (fun v => nI v) (pe (goN u f)) 0 (-1) 0) (hw : b1 = -1 ∨ ∃ j, j < 6 ∧ b1 = nI j ∧ w1 = (fun v => bcF (wayF (goN u f) v)) j) (ls : Array Slot) (hl : lv_has ls 4 [(3, .int (nI i)), (2, .int b1), (0, .ref (b 0)), (1, .int (nI u))]) (H : Heap) (locs : List Loc) (X : Wd E (inW (modW E b (flat f) hf wf ik fd tch tp tl tk tb ta tv bad bo so ce)) s0.heap (modW E b (flat (goN u f)) hf (flat f) ik fd (tcN u f tch) tp tl tk tb ta tv bad bo so ce) H locs), W pg l ev (rmK 6 137) s0 mm ([.ref (b 0), .int (nI u)] : List Value).toArray below meth cd H locs 0 0 Q (F0 mm 32 ls []) := by
      intro fu
      induction fu with
      | zero => intro i n b1 w1 hfu; exact absurd hfu (Nat.not_lt_zero _)
      | succ fu ih32 =>
        intro i n b1 w1 hfu hin hR hw ls hl H locs X
        refine lv_iload_n hx hb dX12_winner_32 rfl (lv_at hl 0 rfl) ?_
        refine lv_aload_n hx hb dX12_winner_33 rfl (lv_at hl 2 rfl) ?_
        refine k_get K X 0 rfl fg_X12_9 (v := .ref (b 1)) rfl dX12_winner_34 ?_
        refine lv_iconst (v := 3) hx hb dX12_winner_37 (by decide) ?_
        refine k_ialdN K X 1 rfl (k := 3) (by omega) (by decide) dX12_winner_38 (v := (goN u f) 0 3) rfl ?_
        refine k_topi (Ig.hP) ?_
        refine kN_ge (x := i) (y := pe (goN u f)) hx hb 77 dX12_winner_39 (by decide) (by omega) (by omega) (fun c39 => ?_) (fun c39 => ?_)
        · obtain rfl : n = 0 := by omega
          refine lv_aload_n hx hb dX12_winner_77 rfl (lv_at hl 2 rfl) ?_
          refine k_callV K X gv_X12_149 (As := []) (c_X12_putsBack l E b (flat (goN u f)) hf (flat f) ik fd (tcN u f tch) tp tl tk tb ta tv bad bo so ce) [0, 1, 2, 3, 4, 5, 6, 7, 8] modW_idC (by decide +kernel) (fun _ => modW_fst) 0 12 rfl rfl (by decide) rfl hl.1 (rest := []) rfl (Nat.le_of_ble_eq_true rfl) dX12_winner_78 (st1 := fun _ => []) (fun _ => rfl) (fun _ H locs _ X => ?_)
          have X : Wd E _ _ (modW E b (flat f) hf (flat f) ik fd (tcN u f tch) tp tl tk tb ta tv bad bo so ce) _ _ := X.eq modW_idP
          refine lv_aload_n hx hb dX12_winner_81 rfl (lv_at hl 2 rfl) ?_
          refine lv_iload_n hx hb dX12_winner_82 rfl (lv_at hl 1 rfl) ?_
          refine k_callV K X gv_X12_159 (As := [.int b1]) (c_X12_orNone l E b (flat f) hf (flat f) ik fd (tcN u f tch) tp tl tk tb ta tv bad bo so ce b1) [0, 1, 2, 3, 4, 5, 6, 7, 8] modW_idC (by decide +kernel) (fun _ => modW_fst) 0 12 rfl rfl (by decide) rfl hl.1 (rest := []) rfl (Nat.le_of_ble_eq_true rfl) dX12_winner_83 (st1 := fun _ => [.int (if b1 < 0 then fnd 3 else b1)]) (fun _ => rfl) (fun _ H locs _ X => ?_)
          have X : Wd E _ _ (modW E b (flat f) hf (flat f) ik (if b1 < 0 then fdU fd 3 else fd) (tcN u f tch) tp tl tk tb ta tv bad bo so ce) _ _ := X.eq modW_idP
          exact k_topi (x' := (oWinner f fd (nI u)).1) (by rw [oWinner, c9, cond_true, eu]; exact orN_a (b := b1) (congrArg Prod.fst hR) (bsL_rng _ _ _ _ _ _ _ (fun j _ hj => ⟨j, by omega, rfl⟩) (Or.inl rfl))) (fin ((flat f), (tcN u f tch)) 86 _ _ _ trivial (X.eq (by rw [oWinner, c9, cond_true, eu]; exact orN_w (b := b1) (congrArg Prod.fst hR) (bsL_rng _ _ _ _ _ _ _ (fun j _ hj => ⟨j, by omega, rfl⟩) (Or.inl rfl)))) dX12_winner_86)
        · obtain ⟨n, rfl⟩ : ∃ z, n = z + 1 := ⟨n - 1, by omega⟩
          refine lv_iload_n hx hb dX12_winner_42 rfl (lv_at hl 1 rfl) ?_
          refine k_if_lt (x := b1) hx hb 65 dX12_winner_43 (by decide) (fun c43 => ?_) (fun c43 => ?_)
          · have hw0 : b1 = -1 := hw.resolve_right (fun ⟨j, hj, e, _⟩ => by rw [e] at c43; exact nI_pos (by omega) c43)
            refine lv_iload_n hx hb dX12_winner_65 rfl (lv_at hl 0 rfl) ?_
            refine lv_goto (tgt := 70) hx hb dX12_winner_66 (by decide) ?_
            refine lv_istore_n (lv' := [(2, .int (nI i)), (3, .int (nI i)), (0, .ref (b 0)), (1, .int (nI u))]) hx hb dX12_winner_70 rfl hl (by decide) rfl (fun ls hl => ?_)
            refine lv_iinc (v := nI (i + 1)) (lv' := [(3, .int (nI (i + 1))), (2, .int (nI i)), (0, .ref (b 0)), (1, .int (nI u))]) hx hb dX12_winner_71 hl (k := 1) rfl (nI_add i 1) (by decide) rfl (fun ls hl => ?_)
            refine lv_goto (tgt := 32) hx hb dX12_winner_74 (by decide) ?_
            exact ih32 (i + 1) n (nI i) ((fun v => bcF (wayF (goN u f) v)) i) (by omega) (by omega) (by rw [← hR, bsL]; simp [bestO, c9, eu, c39, hw0]) (Or.inr ⟨i, by omega, rfl, rfl⟩) _ hl _ _ X
          · obtain ⟨j, hj, ej, ew⟩ := hw.resolve_left (fun e => c43 (by rw [e]; decide))
            have cj : ¬ nI j = -1 := nI_ne_m1 (by omega)
            refine lv_aload_n hx hb dX12_winner_46 rfl (lv_at hl 2 rfl) ?_
            refine lv_iload_n hx hb dX12_winner_47 rfl (lv_at hl 0 rfl) ?_
            refine k_callV K X gv_X12_103 (As := [.int (nI i)]) (c_X12_wayOf l E b hf (flat f) ik fd (tcN u f tch) tp tl tk tb ta tv bad bo so ce (goN u f) (T + u) i Ig (by omega)) [0, 1, 2, 3, 4, 5, 6, 7, 8] modW_idC (by decide +kernel) (fun _ => modW_fst) 0 12 rfl rfl (by decide) rfl hl.1 (rest := []) rfl (Nat.le_of_ble_eq_true rfl) dX12_winner_48 (st1 := fun _ => [.int (wayF (goN u f) i)]) (fun _ => rfl) (fun _ H locs _ X => ?_)
            have X : Wd E _ _ (modW E b (flat (goN u f)) hf (flat f) ik fd (tcN u f tch) tp tl tk tb ta tv bad bo so ce) _ _ := X.eq modW_idP
            refine k_callS K X gs_X12_112 (As := [.int (wayF (goN u f) i)]) (c_X12_bits l E (wayF (goN u f) i) (wayF_nat Ig _)) [] rfl (by decide +kernel) (fun _ => rfl) (by decide) rfl hl.1 (rest := []) rfl (Nat.le_of_ble_eq_true rfl) dX12_winner_51 (st1 := fun _ => [.int (bcF (wayF (goN u f) i))]) (fun _ => rfl) (fun _ H locs _ X => ?_)
            have X : Wd E _ _ (modW E b (flat (goN u f)) hf (flat f) ik fd (tcN u f tch) tp tl tk tb ta tv bad bo so ce) _ _ := X
            refine lv_aload_n hx hb dX12_winner_54 rfl (lv_at hl 2 rfl) ?_
            refine lv_iload_n hx hb dX12_winner_55 rfl (lv_at hl 1 rfl) ?_
            refine k_topi (ej) ?_
            refine k_callV K X gv_X12_103 (As := [.int (nI j)]) (c_X12_wayOf l E b hf (flat f) ik fd (tcN u f tch) tp tl tk tb ta tv bad bo so ce (goN u f) (T + u) j Ig (by omega)) [0, 1, 2, 3, 4, 5, 6, 7, 8] modW_idC (by decide +kernel) (fun _ => modW_fst) 0 12 rfl rfl (by decide) rfl hl.1 (rest := [.int (bcF (wayF (goN u f) i))]) rfl (Nat.le_of_ble_eq_true rfl) dX12_winner_56 (st1 := fun _ => [.int (wayF (goN u f) j), .int (bcF (wayF (goN u f) i))]) (fun _ => rfl) (fun _ H locs _ X => ?_)
            have X : Wd E _ _ (modW E b (flat (goN u f)) hf (flat f) ik fd (tcN u f tch) tp tl tk tb ta tv bad bo so ce) _ _ := X.eq modW_idP
            refine k_callS K X gs_X12_112 (As := [.int (wayF (goN u f) j)]) (c_X12_bits l E (wayF (goN u f) j) (wayF_nat Ig _)) [] rfl (by decide +kernel) (fun _ => rfl) (by decide) rfl hl.1 (rest := [.int (bcF (wayF (goN u f) i))]) rfl (Nat.le_of_ble_eq_true rfl) dX12_winner_59 (st1 := fun _ => [.int (bcF (wayF (goN u f) j)), .int (bcF (wayF (goN u f) i))]) (fun _ => rfl) (fun _ H locs _ X => ?_)
            have X : Wd E _ _ (modW E b (flat (goN u f)) hf (flat f) ik fd (tcN u f tch) tp tl tk tb ta tv bad bo so ce) _ _ := X
            refine k_icmp_le (x := bcF (wayF (goN u f) i)) (y := bcF (wayF (goN u f) j)) hx hb 69 dX12_winner_62 (by decide) (fun c62 => ?_) (fun c62 => ?_)
            · refine lv_iload_n hx hb dX12_winner_69 rfl (lv_at hl 1 rfl) ?_
              refine k_topi (ej) ?_
              refine lv_istore_n (lv' := [(2, .int (nI j)), (3, .int (nI i)), (0, .ref (b 0)), (1, .int (nI u))]) hx hb dX12_winner_70 rfl hl (by decide) rfl (fun ls hl => ?_)
              refine lv_iinc (v := nI (i + 1)) (lv' := [(3, .int (nI (i + 1))), (2, .int (nI j)), (0, .ref (b 0)), (1, .int (nI u))]) hx hb dX12_winner_71 hl (k := 1) rfl (nI_add i 1) (by decide) rfl (fun ls hl => ?_)
              refine lv_goto (tgt := 32) hx hb dX12_winner_74 (by decide) ?_
              exact ih32 (i + 1) n (nI j) w1 (by omega) (by omega) (by rw [← hR, bsL]; simp [bestO, c9, eu, c39, ej, cj, ew, c62]) (Or.inr ⟨j, by omega, rfl, ew⟩) _ hl _ _ X
            · refine lv_iload_n hx hb dX12_winner_65 rfl (lv_at hl 0 rfl) ?_
              refine lv_goto (tgt := 70) hx hb dX12_winner_66 (by decide) ?_
              refine lv_istore_n (lv' := [(2, .int (nI i)), (3, .int (nI i)), (0, .ref (b 0)), (1, .int (nI u))]) hx hb dX12_winner_70 rfl hl (by decide) rfl (fun ls hl => ?_)
              refine lv_iinc (v := nI (i + 1)) (lv' := [(3, .int (nI (i + 1))), (2, .int (nI i)), (0, .ref (b 0)), (1, .int (nI u))]) hx hb dX12_winner_71 hl (k := 1) rfl (nI_add i 1) (by decide) rfl (fun ls hl => ?_)
              refine lv_goto (tgt := 32) hx hb dX12_winner_74 (by decide) ?_
              exact ih32 (i + 1) n (nI i) ((fun v => bcF (wayF (goN u f) v)) i) (by omega) (by omega) (by rw [← hR, bsL]; simp [bestO, c9, eu, c39, ej, cj, ew, c62]) (Or.inr ⟨i, by omega, rfl, rfl⟩) _ hl _ _ X
    exact lp32 ((pe (goN u f)) + 1) 0 (pe (goN u f)) (-1) 0 (by omega) (by omega) (rfl) (Or.inl rfl) _ hl _ _ X
  · refine lv_aload_n hx hb dX12_winner_12 rfl (lv_at hl 0 rfl) ?_
    refine lv_ldc (v := (-1000000001)) hx hb K.2.2.2.1 (K.2.2.2.2.1 _ (Mw_at 905 (by decide +kernel) (by decide +kernel))) dX12_winner_13 ?_
    refine k_topi (show (-1000000001 : Int32) = fnd 0 by decide) ?_
    refine k_callV K X gv_X12_37 (As := [.int (fnd 0)]) (c_X12_finds l E b (flat f) hf wf ik fd tch tp tl tk tb ta tv bad bo so ce 0 (by decide)) [0, 1, 2, 3, 4, 5, 6, 7, 8] modW_idC (by decide +kernel) (fun _ => modW_fst) 0 12 rfl rfl (by decide) rfl hl.1 (rest := []) rfl (Nat.le_of_ble_eq_true rfl) dX12_winner_15 (st1 := fun _ => [.int (fnd 0)]) (fun _ => rfl) (fun _ H locs _ X => ?_)
    have X : Wd E _ _ (modW E b (flat f) hf wf ik (fdU fd 0) tch tp tl tk tb ta tv bad bo so ce) _ _ := X.eq modW_idP
    exact k_topi (x' := (oWinner f fd x).1) (by simp [oWinner, bad3, c9]) (fin (wf, tch) 18 _ _ _ trivial (X.eq (by simp [oWinner, bad3, c9])) dX12_winner_18)
set_option maxRecDepth 100000 in
set_option maxHeartbeats 4000000 in
theorem c_X12_largest (l : Launch) (E : EE) (b : Nat → Nat) (hf : Nat → Int32) (wf : Nat → Int32) (ik : Int32) (fd : Nat → Int32) (tch : Int32) (tp : Nat → Int32) (tl : Int32) (tk : Int32) (tb : Int32) (ta : Int32) (tv : Int32) (bad : Int32) (bo : Nat → Int32) (so : Nat → Int32) (ce : Nat → Int64) (f : St) (T : Nat) (x : Int32) (I : Inv T f) (hT : T < 999000) : Kn l yX12_largest cX12_largest 4 (some .int) 6 137 E (modW E b (flat f) hf wf ik fd tch tp tl tk tb ta tv bad bo so ce) [.ref (b 0), .int x] (S := (Nat → Int32) × Int32) (fun _ => True) (fun _ => (some (.int ((oLargest f fd x).1)))) (fun u => (modW E b (flat ((oLargest f fd x).2.1)) hf u.1 ik ((oLargest f fd x).2.2) u.2 tp tl tk tb ta tv bad bo so ce)) := by
  refine Kn.ofWi (by decide +kernel) (Nat.le_of_ble_eq_true rfl) (fun _ _ => rfl) ?_
  intro pg ev s0 mm below meth cd Q K X fin ls hl
  have hx := K.1
  have hb := K.2.1
  have hs10 := I.s10
  have hp6 := I.p6
  have hl : lv_has ls 4 [(0, .ref (b 0)), (1, .int x)] := hl
  refine lv_iload_n hx hb dX12_largest_0 rfl (lv_at hl 1 rfl) ?_
  refine lv_i2l (v := x.toInt64) hx hb dX12_largest_1 rfl ?_
  refine lv_iconst (v := 0) hx hb dX12_largest_2 (by decide) ?_
  refine lv_sipush (v := 200) hx hb dX12_largest_3 (by decide) ?_
  refine k_callS K X gs_X12_41 (As := [.long x.toInt64, .int 0, .int 200]) (c_X12_in l E x 0 200) [] rfl (by decide +kernel) (fun _ => rfl) (by decide) rfl hl.1 (rest := []) rfl (Nat.le_of_ble_eq_true rfl) dX12_largest_6 (st1 := fun _ => [.int (b2i (inR x 0 200))]) (fun _ => rfl) (fun _ H locs _ X => ?_)
  have X : Wd E _ _ (modW E b (flat f) hf wf ik fd tch tp tl tk tb ta tv bad bo so ce) _ _ := X
  refine k_ifneB (B := (inR x 0 200)) hx hb 19 dX12_largest_9 (by decide) (fun c9 => ?_) (fun c9 => ?_)
  · obtain ⟨u, hu, rfl, hul, huh⟩ := inR_nat (n := 201) (by decide) (by decide) c9
    have hul : 0 ≤ u := by have h0 : ((0 : Int32).toInt) = 0 := (by decide); omega
    have eu : (nI u).toNatClampNeg = u := nI_clamp (by omega)
    have Ig := I.more u (by omega)
    refine lv_aload_n hx hb dX12_largest_19 rfl (lv_at hl 0 rfl) ?_
    refine k_callV K X gv_X12_146 (As := []) (c_X12_thinks l E b (flat f) hf wf ik fd tch tp tl tk tb ta tv bad bo so ce) [0, 1, 2, 3, 4, 5, 6, 7, 8] modW_idC (by decide +kernel) (fun _ => modW_fst) 0 12 rfl rfl (by decide) rfl hl.1 (rest := []) rfl (Nat.le_of_ble_eq_true rfl) dX12_largest_20 (st1 := fun _ => []) (fun _ => rfl) (fun _ H locs _ X => ?_)
    have X : Wd E _ _ (modW E b (flat f) hf (flat f) ik fd tch tp tl tk tb ta tv bad bo so ce) _ _ := X.eq modW_idP
    refine lv_aload_n hx hb dX12_largest_23 rfl (lv_at hl 0 rfl) ?_
    refine lv_iload_n hx hb dX12_largest_24 rfl (lv_at hl 1 rfl) ?_
    refine k_callV K X gv_X12_139 (As := [.int (nI u)]) (c_X12_goesFor l E b hf (flat f) ik fd tch tp tl tk tb ta tv bad bo so ce f T u I (by omega)) [0, 1, 2, 3, 4, 5, 6, 7, 8] modW_idC (by decide +kernel) (fun _ => modW_fst) 0 12 rfl rfl (by decide) rfl hl.1 (rest := []) rfl (Nat.le_of_ble_eq_true rfl) dX12_largest_25 (st1 := fun _ => []) (fun _ => rfl) (fun _ H locs _ X => ?_)
    have X : Wd E _ _ (modW E b (flat (goN u f)) hf (flat f) ik fd (tcN u f tch) tp tl tk tb ta tv bad bo so ce) _ _ := X.eq modW_idP
    refine lv_iconst (v := 0) hx hb dX12_largest_28 (by decide) ?_
    refine lv_istore_n (lv' := [(2, .int 0), (0, .ref (b 0)), (1, .int (nI u))]) hx hb dX12_largest_29 rfl hl (by decide) rfl (fun ls hl => ?_)
    refine lv_iconst (v := 1) hx hb dX12_largest_30 (by decide) ?_
    refine lv_istore_n (lv' := [(3, .int 1), (2, .int 0), (0, .ref (b 0)), (1, .int (nI u))]) hx hb dX12_largest_31 rfl hl (by decide) rfl (fun ls hl => ?_)
    have lp32 : ∀ (fu : Nat) (i : Nat) (n : Nat) (j : Nat) (hfu : n < fu) (hin : i + n = 6) (hj : j < 6) (hR : bsL (fun _ => true) (fun v => bcF (inF (goN u f) (nI v))) (fun v => nI v) n i (nI j) ((fun v => bcF (inF (goN u f) (nI v))) j) = bsL (fun _ => true) (fun v => bcF (inF (goN u f) (nI v))) (fun v => nI v) 6 0 (-1) 0) (ls : Array Slot) (hl : lv_has ls 4 [(3, .int (nI i)), (2, .int (nI j)), (0, .ref (b 0)), (1, .int (nI u))]) (H : Heap) (locs : List Loc) (X : Wd E (inW (modW E b (flat f) hf wf ik fd tch tp tl tk tb ta tv bad bo so ce)) s0.heap (modW E b (flat (goN u f)) hf (flat f) ik fd (tcN u f tch) tp tl tk tb ta tv bad bo so ce) H locs), W pg l ev (rmK 6 137) s0 mm ([.ref (b 0), .int (nI u)] : List Value).toArray below meth cd H locs 0 0 Q (F0 mm 32 ls []) := by
      intro fu
      induction fu with
      | zero => intro i n j hfu; exact absurd hfu (Nat.not_lt_zero _)
      | succ fu ih32 =>
        intro i n j hfu hin hj hR ls hl H locs X
        refine lv_iload_n hx hb dX12_largest_32 rfl (lv_at hl 0 rfl) ?_
        refine lv_bipush (v := 6) hx hb dX12_largest_33 (by decide) ?_
        refine kN_ge (x := i) (y := 6) hx hb 69 dX12_largest_35 (by decide) (by omega) (by omega) (fun c35 => ?_) (fun c35 => ?_)
        · obtain rfl : n = 0 := by omega
          refine lv_aload_n hx hb dX12_largest_69 rfl (lv_at hl 2 rfl) ?_
          refine k_callV K X gv_X12_149 (As := []) (c_X12_putsBack l E b (flat (goN u f)) hf (flat f) ik fd (tcN u f tch) tp tl tk tb ta tv bad bo so ce) [0, 1, 2, 3, 4, 5, 6, 7, 8] modW_idC (by decide +kernel) (fun _ => modW_fst) 0 12 rfl rfl (by decide) rfl hl.1 (rest := []) rfl (Nat.le_of_ble_eq_true rfl) dX12_largest_70 (st1 := fun _ => []) (fun _ => rfl) (fun _ H locs _ X => ?_)
          have X : Wd E _ _ (modW E b (flat f) hf (flat f) ik fd (tcN u f tch) tp tl tk tb ta tv bad bo so ce) _ _ := X.eq modW_idP
          refine lv_iload_n hx hb dX12_largest_73 rfl (lv_at hl 1 rfl) ?_
          exact k_topi (x' := (oLargest f fd (nI u)).1) (by rw [oLargest, c9, cond_true, eu, ← hR]; rfl) (fin ((flat f), (tcN u f tch)) 74 _ _ _ trivial (X.eq (by rw [oLargest, c9, cond_true])) dX12_largest_74)
        · obtain ⟨n, rfl⟩ : ∃ z, n = z + 1 := ⟨n - 1, by omega⟩
          refine lv_aload_n hx hb dX12_largest_38 rfl (lv_at hl 2 rfl) ?_
          refine lv_iload_n hx hb dX12_largest_39 rfl (lv_at hl 0 rfl) ?_
          refine k_callV K X gv_X12_84 (As := [.int (nI i)]) (c_X12_slipsIn l E b hf (flat f) ik fd (tcN u f tch) tp tl tk tb ta tv bad bo so ce (goN u f) (T + u) (nI i) Ig) [0, 1, 2, 3, 4, 5, 6, 7, 8] modW_idC (by decide +kernel) (fun _ => modW_fst) 0 12 rfl rfl (by decide) rfl hl.1 (rest := []) rfl (Nat.le_of_ble_eq_true rfl) dX12_largest_40 (st1 := fun _ => [.int (inF (goN u f) (nI i))]) (fun _ => rfl) (fun _ H locs _ X => ?_)
          have X : Wd E _ _ (modW E b (flat (goN u f)) hf (flat f) ik fd (tcN u f tch) tp tl tk tb ta tv bad bo so ce) _ _ := X.eq modW_idP
          refine k_callS K X gs_X12_112 (As := [.int (inF (goN u f) (nI i))]) (c_X12_bits l E (inF (goN u f) (nI i)) (inF_nat Ig _)) [] rfl (by decide +kernel) (fun _ => rfl) (by decide) rfl hl.1 (rest := []) rfl (Nat.le_of_ble_eq_true rfl) dX12_largest_43 (st1 := fun _ => [.int (bcF (inF (goN u f) (nI i)))]) (fun _ => rfl) (fun _ H locs _ X => ?_)
          have X : Wd E _ _ (modW E b (flat (goN u f)) hf (flat f) ik fd (tcN u f tch) tp tl tk tb ta tv bad bo so ce) _ _ := X
          refine lv_aload_n hx hb dX12_largest_46 rfl (lv_at hl 2 rfl) ?_
          refine lv_iload_n hx hb dX12_largest_47 rfl (lv_at hl 1 rfl) ?_
          refine k_callV K X gv_X12_84 (As := [.int (nI j)]) (c_X12_slipsIn l E b hf (flat f) ik fd (tcN u f tch) tp tl tk tb ta tv bad bo so ce (goN u f) (T + u) (nI j) Ig) [0, 1, 2, 3, 4, 5, 6, 7, 8] modW_idC (by decide +kernel) (fun _ => modW_fst) 0 12 rfl rfl (by decide) rfl hl.1 (rest := [.int (bcF (inF (goN u f) (nI i)))]) rfl (Nat.le_of_ble_eq_true rfl) dX12_largest_48 (st1 := fun _ => [.int (inF (goN u f) (nI j)), .int (bcF (inF (goN u f) (nI i)))]) (fun _ => rfl) (fun _ H locs _ X => ?_)
          have X : Wd E _ _ (modW E b (flat (goN u f)) hf (flat f) ik fd (tcN u f tch) tp tl tk tb ta tv bad bo so ce) _ _ := X.eq modW_idP
          refine k_callS K X gs_X12_112 (As := [.int (inF (goN u f) (nI j))]) (c_X12_bits l E (inF (goN u f) (nI j)) (inF_nat Ig _)) [] rfl (by decide +kernel) (fun _ => rfl) (by decide) rfl hl.1 (rest := [.int (bcF (inF (goN u f) (nI i)))]) rfl (Nat.le_of_ble_eq_true rfl) dX12_largest_51 (st1 := fun _ => [.int (bcF (inF (goN u f) (nI j))), .int (bcF (inF (goN u f) (nI i)))]) (fun _ => rfl) (fun _ H locs _ X => ?_)
          have X : Wd E _ _ (modW E b (flat (goN u f)) hf (flat f) ik fd (tcN u f tch) tp tl tk tb ta tv bad bo so ce) _ _ := X
          refine k_icmp_le (x := bcF (inF (goN u f) (nI i))) (y := bcF (inF (goN u f) (nI j))) hx hb 61 dX12_largest_54 (by decide) (fun c54 => ?_) (fun c54 => ?_)
          · refine lv_iload_n hx hb dX12_largest_61 rfl (lv_at hl 1 rfl) ?_
            refine lv_istore_n (lv' := [(2, .int (nI j)), (3, .int (nI i)), (0, .ref (b 0)), (1, .int (nI u))]) hx hb dX12_largest_62 rfl hl (by decide) rfl (fun ls hl => ?_)
            refine lv_iinc (v := nI (i + 1)) (lv' := [(3, .int (nI (i + 1))), (2, .int (nI j)), (0, .ref (b 0)), (1, .int (nI u))]) hx hb dX12_largest_63 hl (k := 1) rfl (nI_add i 1) (by decide) rfl (fun ls hl => ?_)
            refine lv_goto (tgt := 32) hx hb dX12_largest_66 (by decide) ?_
            exact ih32 (i + 1) n j (by omega) (by omega) (by omega) (by rw [← hR, bsL]; simp [bestO, nI_ne_m1 (show j < 2147483648 by omega), c9, eu, c35, c54]) _ hl _ _ X
          · refine lv_iload_n hx hb dX12_largest_57 rfl (lv_at hl 0 rfl) ?_
            refine lv_goto (tgt := 62) hx hb dX12_largest_58 (by decide) ?_
            refine lv_istore_n (lv' := [(2, .int (nI i)), (3, .int (nI i)), (0, .ref (b 0)), (1, .int (nI u))]) hx hb dX12_largest_62 rfl hl (by decide) rfl (fun ls hl => ?_)
            refine lv_iinc (v := nI (i + 1)) (lv' := [(3, .int (nI (i + 1))), (2, .int (nI i)), (0, .ref (b 0)), (1, .int (nI u))]) hx hb dX12_largest_63 hl (k := 1) rfl (nI_add i 1) (by decide) rfl (fun ls hl => ?_)
            refine lv_goto (tgt := 32) hx hb dX12_largest_66 (by decide) ?_
            exact ih32 (i + 1) n i (by omega) (by omega) (by omega) (by rw [← hR, bsL]; simp [bestO, nI_ne_m1 (show j < 2147483648 by omega), c9, eu, c35, c54]) _ hl _ _ X
    exact lp32 (5 + 1) 1 5 0 (by omega) (by omega) (by omega) (bsL_first (c := (fun v => bcF (inF (goN u f) (nI v)))) (v := fun v => nI v) rfl) _ hl _ _ X
  · refine lv_aload_n hx hb dX12_largest_12 rfl (lv_at hl 0 rfl) ?_
    refine lv_ldc (v := (-1000000001)) hx hb K.2.2.2.1 (K.2.2.2.2.1 _ (Mw_at 905 (by decide +kernel) (by decide +kernel))) dX12_largest_13 ?_
    refine k_topi (show (-1000000001 : Int32) = fnd 0 by decide) ?_
    refine k_callV K X gv_X12_37 (As := [.int (fnd 0)]) (c_X12_finds l E b (flat f) hf wf ik fd tch tp tl tk tb ta tv bad bo so ce 0 (by decide)) [0, 1, 2, 3, 4, 5, 6, 7, 8] modW_idC (by decide +kernel) (fun _ => modW_fst) 0 12 rfl rfl (by decide) rfl hl.1 (rest := []) rfl (Nat.le_of_ble_eq_true rfl) dX12_largest_15 (st1 := fun _ => [.int (fnd 0)]) (fun _ => rfl) (fun _ H locs _ X => ?_)
    have X : Wd E _ _ (modW E b (flat f) hf wf ik (fdU fd 0) tch tp tl tk tb ta tv bad bo so ce) _ _ := X.eq modW_idP
    exact k_topi (x' := (oLargest f fd x).1) (by simp [oLargest, bad3, c9]) (fin (wf, tch) 18 _ _ _ trivial (X.eq (by simp [oLargest, bad3, c9])) dX12_largest_18)
set_option maxRecDepth 100000 in
set_option maxHeartbeats 4000000 in
theorem c_X12_fix (l : Launch) (E : EE) (b : Nat → Nat) (hf : Nat → Int32) (wf : Nat → Int32) (ik : Int32) (fd : Nat → Int32) (tch : Int32) (tp : Nat → Int32) (tl : Int32) (tk : Int32) (tb : Int32) (ta : Int32) (tv : Int32) (bad : Int32) (bo : Nat → Int32) (so : Nat → Int32) (ce : Nat → Int64) (f : St) (T : Nat) (x : Int32) (I : Inv T f) (hT : T < 999000) : Kn l yX12_fix cX12_fix 7 (some .int) 6 137 E (modW E b (flat f) hf wf ik fd tch tp tl tk tb ta tv bad bo so ce) [.ref (b 0), .int x] (S := (Nat → Int32) × Int32) (fun _ => True) (fun _ => (some (.int ((oFix f fd x).1)))) (fun u => (modW E b (flat ((oFix f fd x).2.1)) hf u.1 ik ((oFix f fd x).2.2) u.2 tp tl tk tb ta tv bad bo so ce)) := by
  refine Kn.ofWi (by decide +kernel) (Nat.le_of_ble_eq_true rfl) (fun _ _ => rfl) ?_
  intro pg ev s0 mm below meth cd Q K X fin ls hl
  have hx := K.1
  have hb := K.2.1
  have hs10 := I.s10
  have hp6 := I.p6
  have hl : lv_has ls 7 [(0, .ref (b 0)), (1, .int x)] := hl
  refine lv_iload_n hx hb dX12_fix_0 rfl (lv_at hl 1 rfl) ?_
  refine lv_i2l (v := x.toInt64) hx hb dX12_fix_1 rfl ?_
  refine lv_iconst (v := 1) hx hb dX12_fix_2 (by decide) ?_
  refine lv_bipush (v := 60) hx hb dX12_fix_3 (by decide) ?_
  refine k_callS K X gs_X12_41 (As := [.long x.toInt64, .int 1, .int 60]) (c_X12_in l E x 1 60) [] rfl (by decide +kernel) (fun _ => rfl) (by decide) rfl hl.1 (rest := []) rfl (Nat.le_of_ble_eq_true rfl) dX12_fix_5 (st1 := fun _ => [.int (b2i (inR x 1 60))]) (fun _ => rfl) (fun _ H locs _ X => ?_)
  have X : Wd E _ _ (modW E b (flat f) hf wf ik fd tch tp tl tk tb ta tv bad bo so ce) _ _ := X
  refine k_ifneB (B := (inR x 1 60)) hx hb 18 dX12_fix_8 (by decide) (fun c8 => ?_) (fun c8 => ?_)
  · obtain ⟨u, hu, rfl, hul, huh⟩ := inR_nat (n := 61) (by decide) (by decide) c8
    have hul : 1 ≤ u := by have h0 : ((1 : Int32).toInt) = 1 := (by decide); omega
    have eu : (nI u).toNatClampNeg = u := nI_clamp (by omega)
    refine lv_aload_n hx hb dX12_fix_18 rfl (lv_at hl 0 rfl) ?_
    refine k_callV K X gv_X12_146 (As := []) (c_X12_thinks l E b (flat f) hf wf ik fd tch tp tl tk tb ta tv bad bo so ce) [0, 1, 2, 3, 4, 5, 6, 7, 8] modW_idC (by decide +kernel) (fun _ => modW_fst) 0 12 rfl rfl (by decide) rfl hl.1 (rest := []) rfl (Nat.le_of_ble_eq_true rfl) dX12_fix_19 (st1 := fun _ => []) (fun _ => rfl) (fun _ H locs _ X => ?_)
    have X : Wd E _ _ (modW E b (flat f) hf (flat f) ik fd tch tp tl tk tb ta tv bad bo so ce) _ _ := X.eq modW_idP
    refine lv_iconst (v := (-1)) hx hb dX12_fix_22 (by decide) ?_
    refine lv_istore_n (lv' := [(2, .int (-1)), (0, .ref (b 0)), (1, .int (nI u))]) hx hb dX12_fix_23 rfl hl (by decide) rfl (fun ls hl => ?_)
    refine lv_iconst (v := 0) hx hb dX12_fix_24 (by decide) ?_
    refine lv_istore_n (lv' := [(3, .int 0), (2, .int (-1)), (0, .ref (b 0)), (1, .int (nI u))]) hx hb dX12_fix_25 rfl hl (by decide) rfl (fun ls hl => ?_)
    refine lv_iconst (v := 0) hx hb dX12_fix_26 (by decide) ?_
    refine lv_istore (lv' := [(4, .int 0), (3, .int 0), (2, .int (-1)), (0, .ref (b 0)), (1, .int (nI u))]) hx hb dX12_fix_27 hl (by decide) rfl (fun ls hl => ?_)
    have lp29 : ∀ (fu : Nat) (i : Nat) (n : Nat) (b1 : Int32) (w1 : Int32) (t : Int32) (hfu : n < fu) (hin : i + n = sl f) (hR : bsL (fun v => decide (f 3 v = 0)) (fun v => 0 - allF (goN u (up2 f 3 v 1))) (fun v => nI v) n i b1 (0 - w1) = bsL (fun v => decide (f 3 v = 0)) (fun v => 0 - allF (goN u (up2 f 3 v 1))) (fun v => nI v) (sl f) 0 (-1) 0) (hw : b1 = -1 ∨ ∃ j, j < 10 ∧ b1 = nI j) (hv : ∃ v, v < 10000 ∧ w1 = nI v) (ls : Array Slot) (hl : lv_has ls 7 [(4, .int (nI i)), (3, .int w1), (2, .int b1), (0, .ref (b 0)), (1, .int (nI u))]) (H : Heap) (locs : List Loc) (X : Wd E (inW (modW E b (flat f) hf wf ik fd tch tp tl tk tb ta tv bad bo so ce)) s0.heap (modW E b (flat f) hf (flat f) ik fd t tp tl tk tb ta tv bad bo so ce) H locs), W pg l ev (rmK 6 137) s0 mm ([.ref (b 0), .int (nI u)] : List Value).toArray below meth cd H locs 0 0 Q (F0 mm 29 ls []) := by
      intro fu
      induction fu with
      | zero => intro i n b1 w1 t hfu; exact absurd hfu (Nat.not_lt_zero _)
      | succ fu ih29 =>
        intro i n b1 w1 t hfu hin hR hw hv ls hl H locs X
        refine lv_iload hx hb dX12_fix_29 (lv_at hl 0 rfl) ?_
        refine lv_aload_n hx hb dX12_fix_31 rfl (lv_at hl 3 rfl) ?_
        refine k_get K X 0 rfl fg_X12_9 (v := .ref (b 1)) rfl dX12_fix_32 ?_
        refine lv_iconst (v := 2) hx hb dX12_fix_35 (by decide) ?_
        refine k_ialdN K X 1 rfl (k := 2) (by omega) (by decide) dX12_fix_36 (v := f 0 2) rfl ?_
        refine k_topi (I.hS) ?_
        refine kN_ge (x := i) (y := sl f) hx hb 120 dX12_fix_37 (by decide) (by omega) (by omega) (fun c37 => ?_) (fun c37 => ?_)
        · obtain rfl : n = 0 := by omega
          refine lv_aload_n hx hb dX12_fix_120 rfl (lv_at hl 3 rfl) ?_
          refine lv_iload_n hx hb dX12_fix_121 rfl (lv_at hl 2 rfl) ?_
          refine k_callV K X gv_X12_159 (As := [.int b1]) (c_X12_orNone l E b (flat f) hf (flat f) ik fd t tp tl tk tb ta tv bad bo so ce b1) [0, 1, 2, 3, 4, 5, 6, 7, 8] modW_idC (by decide +kernel) (fun _ => modW_fst) 0 12 rfl rfl (by decide) rfl hl.1 (rest := []) rfl (Nat.le_of_ble_eq_true rfl) dX12_fix_122 (st1 := fun _ => [.int (if b1 < 0 then fnd 3 else b1)]) (fun _ => rfl) (fun _ H locs _ X => ?_)
          have X : Wd E _ _ (modW E b (flat f) hf (flat f) ik (if b1 < 0 then fdU fd 3 else fd) t tp tl tk tb ta tv bad bo so ce) _ _ := X.eq modW_idP
          exact k_topi (x' := (oFix f fd (nI u)).1) (by rw [oFix, c8, cond_true, eu]; exact orN_a (b := b1) (congrArg Prod.fst hR) (bsL_rng _ _ _ _ _ _ _ (fun j _ hj => ⟨j, by omega, rfl⟩) (Or.inl rfl))) (fin ((flat f), t) 125 _ _ _ trivial (X.eq (by rw [oFix, c8, cond_true, eu]; exact orN_w (b := b1) (congrArg Prod.fst hR) (bsL_rng _ _ _ _ _ _ _ (fun j _ hj => ⟨j, by omega, rfl⟩) (Or.inl rfl)))) dX12_fix_125)
        · obtain ⟨n, rfl⟩ : ∃ z, n = z + 1 := ⟨n - 1, by omega⟩
          refine lv_aload_n hx hb dX12_fix_40 rfl (lv_at hl 3 rfl) ?_
          refine lv_iload hx hb dX12_fix_41 (lv_at hl 0 rfl) ?_
          refine lv_iconst (v := 2) hx hb dX12_fix_43 (by decide) ?_
          refine k_callV K X gv_X12_49 (As := [.int (nI i), .int 2]) (c_X12_it2 l E b hf (flat f) ik fd t tp tl tk tb ta tv bad bo so ce f i (by omega)) [0, 1, 2, 3, 4, 5, 6, 7, 8] modW_idC (by decide +kernel) (fun _ => modW_fst) 0 12 rfl rfl (by decide) rfl hl.1 (rest := []) rfl (Nat.le_of_ble_eq_true rfl) dX12_fix_44 (st1 := fun _ => [.int (f 3 i)]) (fun _ => rfl) (fun _ H locs _ X => ?_)
          have X : Wd E _ _ (modW E b (flat f) hf (flat f) ik fd t tp tl tk tb ta tv bad bo so ce) _ _ := X.eq modW_idP
          refine k_if_ne (x := f 3 i) hx hb 114 dX12_fix_47 (by decide) (fun c47 => ?_) (fun c47 => ?_)
          · refine lv_iinc (v := nI (i + 1)) (lv' := [(4, .int (nI (i + 1))), (3, .int w1), (2, .int b1), (0, .ref (b 0)), (1, .int (nI u))]) hx hb dX12_fix_114 hl (k := 0) rfl (nI_add i 1) (by decide) rfl (fun ls hl => ?_)
            refine lv_goto (tgt := 29) hx hb dX12_fix_117 (by decide) ?_
            exact ih29 (i + 1) n b1 w1 t (by omega) (by omega) (by rw [← hR, bsL]; simp [c47]) (by omega) (by omega) _ hl _ _ X
          · obtain ⟨v, hv, ev⟩ := hv
            obtain ⟨va, hva, eva⟩ := allF_nat ((I.up31 i).more u (by omega))
            refine lv_aload_n hx hb dX12_fix_50 rfl (lv_at hl 3 rfl) ?_
            refine lv_iload hx hb dX12_fix_51 (lv_at hl 0 rfl) ?_
            refine lv_iconst (v := 2) hx hb dX12_fix_53 (by decide) ?_
            refine lv_iconst (v := 1) hx hb dX12_fix_54 (by decide) ?_
            refine k_callV K X gv_X12_66 (As := [.int (nI i), .int 2, .int 1]) (c_X12_put2 l E b hf (flat f) ik fd t tp tl tk tb ta tv bad bo so ce f i 1 (by omega)) [0, 1, 2, 3, 4, 5, 6, 7, 8] modW_idC (by decide +kernel) (fun _ => modW_fst) 0 12 rfl rfl (by decide) rfl hl.1 (rest := []) rfl (Nat.le_of_ble_eq_true rfl) dX12_fix_55 (st1 := fun _ => []) (fun _ => rfl) (fun _ H locs _ X => ?_)
            have X : Wd E _ _ (modW E b (flat (up2 f 3 i 1)) hf (flat f) ik fd t tp tl tk tb ta tv bad bo so ce) _ _ := X.eq modW_idP
            refine lv_aload_n hx hb dX12_fix_58 rfl (lv_at hl 3 rfl) ?_
            refine lv_iload_n hx hb dX12_fix_59 rfl (lv_at hl 4 rfl) ?_
            refine k_callV K X gv_X12_139 (As := [.int (nI u)]) (c_X12_goesFor l E b hf (flat f) ik fd t tp tl tk tb ta tv bad bo so ce (up2 f 3 i 1) T u (I.up31 i) (by omega)) [0, 1, 2, 3, 4, 5, 6, 7, 8] modW_idC (by decide +kernel) (fun _ => modW_fst) 0 12 rfl rfl (by decide) rfl hl.1 (rest := []) rfl (Nat.le_of_ble_eq_true rfl) dX12_fix_60 (st1 := fun _ => []) (fun _ => rfl) (fun _ H locs _ X => ?_)
            have X : Wd E _ _ (modW E b (flat (goN u (up2 f 3 i 1))) hf (flat f) ik fd (tcN u (up2 f 3 i 1) t) tp tl tk tb ta tv bad bo so ce) _ _ := X.eq modW_idP
            refine lv_aload_n hx hb dX12_fix_63 rfl (lv_at hl 3 rfl) ?_
            refine k_callV K X gv_X12_94 (As := []) (c_X12_allMoved l E b hf (flat f) ik fd (tcN u (up2 f 3 i 1) t) tp tl tk tb ta tv bad bo so ce (goN u (up2 f 3 i 1)) (T + u) ((I.up31 i).more u (by omega))) [0, 1, 2, 3, 4, 5, 6, 7, 8] modW_idC (by decide +kernel) (fun _ => modW_fst) 0 12 rfl rfl (by decide) rfl hl.1 (rest := []) rfl (Nat.le_of_ble_eq_true rfl) dX12_fix_64 (st1 := fun _ => [.int (allF (goN u (up2 f 3 i 1)))]) (fun _ => rfl) (fun _ H locs _ X => ?_)
            have X : Wd E _ _ (modW E b (flat (goN u (up2 f 3 i 1))) hf (flat f) ik fd (tcN u (up2 f 3 i 1) t) tp tl tk tb ta tv bad bo so ce) _ _ := X.eq modW_idP
            refine lv_istore (lv' := [(5, .int (allF (goN u (up2 f 3 i 1)))), (4, .int (nI i)), (3, .int w1), (2, .int b1), (0, .ref (b 0)), (1, .int (nI u))]) hx hb dX12_fix_67 hl (by decide) rfl (fun ls hl => ?_)
            refine lv_aload_n hx hb dX12_fix_69 rfl (lv_at hl 4 rfl) ?_
            refine k_callV K X gv_X12_149 (As := []) (c_X12_putsBack l E b (flat (goN u (up2 f 3 i 1))) hf (flat f) ik fd (tcN u (up2 f 3 i 1) t) tp tl tk tb ta tv bad bo so ce) [0, 1, 2, 3, 4, 5, 6, 7, 8] modW_idC (by decide +kernel) (fun _ => modW_fst) 0 12 rfl rfl (by decide) rfl hl.1 (rest := []) rfl (Nat.le_of_ble_eq_true rfl) dX12_fix_70 (st1 := fun _ => []) (fun _ => rfl) (fun _ H locs _ X => ?_)
            have X : Wd E _ _ (modW E b (flat f) hf (flat f) ik fd (tcN u (up2 f 3 i 1) t) tp tl tk tb ta tv bad bo so ce) _ _ := X.eq modW_idP
            refine lv_iload_n hx hb dX12_fix_73 rfl (lv_at hl 3 rfl) ?_
            refine k_if_lt (x := b1) hx hb 83 dX12_fix_74 (by decide) (fun c74 => ?_) (fun c74 => ?_)
            · have hw0 : b1 = -1 := hw.resolve_right (fun ⟨j, hj, e⟩ => by rw [e] at c74; exact nI_pos (by omega) c74)
              refine lv_iconst (v := 1) hx hb dX12_fix_83 (by decide) ?_
              refine lv_goto (tgt := 88) hx hb dX12_fix_84 (by decide) ?_
              refine lv_istore (lv' := [(6, .int 1), (5, .int (allF (goN u (up2 f 3 i 1)))), (4, .int (nI i)), (3, .int w1), (2, .int b1), (0, .ref (b 0)), (1, .int (nI u))]) hx hb dX12_fix_88 hl (by decide) rfl (fun ls hl => ?_)
              refine lv_iload hx hb dX12_fix_90 (lv_at hl 0 rfl) ?_
              refine k_if1eq hx hb dX12_fix_92 ⟨100, by decide⟩ ?_
              refine lv_iload hx hb dX12_fix_95 (lv_at hl 2 rfl) ?_
              refine lv_goto (tgt := 101) hx hb dX12_fix_97 (by decide) ?_
              refine lv_istore_n (lv' := [(2, .int (nI i)), (6, .int 1), (5, .int (allF (goN u (up2 f 3 i 1)))), (4, .int (nI i)), (3, .int w1), (0, .ref (b 0)), (1, .int (nI u))]) hx hb dX12_fix_101 rfl hl (by decide) rfl (fun ls hl => ?_)
              refine lv_iload hx hb dX12_fix_102 (lv_at hl 1 rfl) ?_
              refine k_if1eq hx hb dX12_fix_104 ⟨112, by decide⟩ ?_
              refine lv_iload hx hb dX12_fix_107 (lv_at hl 2 rfl) ?_
              refine lv_goto (tgt := 113) hx hb dX12_fix_109 (by decide) ?_
              refine lv_istore_n (lv' := [(3, .int (allF (goN u (up2 f 3 i 1)))), (2, .int (nI i)), (6, .int 1), (5, .int (allF (goN u (up2 f 3 i 1)))), (4, .int (nI i)), (0, .ref (b 0)), (1, .int (nI u))]) hx hb dX12_fix_113 rfl hl (by decide) rfl (fun ls hl => ?_)
              refine lv_iinc (v := nI (i + 1)) (lv' := [(4, .int (nI (i + 1))), (3, .int (allF (goN u (up2 f 3 i 1)))), (2, .int (nI i)), (6, .int 1), (5, .int (allF (goN u (up2 f 3 i 1)))), (0, .ref (b 0)), (1, .int (nI u))]) hx hb dX12_fix_114 hl (k := 4) rfl (nI_add i 1) (by decide) rfl (fun ls hl => ?_)
              refine lv_goto (tgt := 29) hx hb dX12_fix_117 (by decide) ?_
              exact ih29 (i + 1) n (nI i) (allF (goN u (up2 f 3 i 1))) (tcN u (up2 f 3 i 1) t) (by omega) (by omega) (by rw [← hR, bsL, decide_eq_true c47, cond_true, bestO, if_pos (Or.inl hw0)]) (Or.inr ⟨i, by omega, rfl⟩) (⟨va, hva, eva⟩) _ (lv_sub hl [0, 1, 2, 5, 6] rfl) _ _ X
            · have cj : ¬ b1 = -1 := fun e => c74 (by rw [e]; decide)
              refine lv_iload hx hb dX12_fix_77 (lv_at hl 0 rfl) ?_
              refine lv_iload_n hx hb dX12_fix_79 rfl (lv_at hl 2 rfl) ?_
              refine k_icmp_ge (x := allF (goN u (up2 f 3 i 1))) (y := w1) hx hb 87 dX12_fix_80 (by decide) (fun c80 => ?_) (fun c80 => ?_)
              · have hcm : ¬ 0 - w1 < 0 - allF (goN u (up2 f 3 i 1)) := by rw [ev, eva] at c80; rw [ev, eva]; exact fun z => c80 ((neg_lt hv hva).mp z)
                refine lv_iconst (v := 0) hx hb dX12_fix_87 (by decide) ?_
                refine lv_istore (lv' := [(6, .int 0), (5, .int (allF (goN u (up2 f 3 i 1)))), (4, .int (nI i)), (3, .int w1), (2, .int b1), (0, .ref (b 0)), (1, .int (nI u))]) hx hb dX12_fix_88 hl (by decide) rfl (fun ls hl => ?_)
                refine lv_iload hx hb dX12_fix_90 (lv_at hl 0 rfl) ?_
                refine k_if0eq hx hb 100 dX12_fix_92 (by decide) ?_
                refine lv_iload_n hx hb dX12_fix_100 rfl (lv_at hl 4 rfl) ?_
                refine lv_istore_n (lv' := [(2, .int b1), (6, .int 0), (5, .int (allF (goN u (up2 f 3 i 1)))), (4, .int (nI i)), (3, .int w1), (0, .ref (b 0)), (1, .int (nI u))]) hx hb dX12_fix_101 rfl hl (by decide) rfl (fun ls hl => ?_)
                refine lv_iload hx hb dX12_fix_102 (lv_at hl 1 rfl) ?_
                refine k_if0eq hx hb 112 dX12_fix_104 (by decide) ?_
                refine lv_iload_n hx hb dX12_fix_112 rfl (lv_at hl 4 rfl) ?_
                refine lv_istore_n (lv' := [(3, .int w1), (2, .int b1), (6, .int 0), (5, .int (allF (goN u (up2 f 3 i 1)))), (4, .int (nI i)), (0, .ref (b 0)), (1, .int (nI u))]) hx hb dX12_fix_113 rfl hl (by decide) rfl (fun ls hl => ?_)
                refine lv_iinc (v := nI (i + 1)) (lv' := [(4, .int (nI (i + 1))), (3, .int w1), (2, .int b1), (6, .int 0), (5, .int (allF (goN u (up2 f 3 i 1)))), (0, .ref (b 0)), (1, .int (nI u))]) hx hb dX12_fix_114 hl (k := 4) rfl (nI_add i 1) (by decide) rfl (fun ls hl => ?_)
                refine lv_goto (tgt := 29) hx hb dX12_fix_117 (by decide) ?_
                exact ih29 (i + 1) n b1 w1 (tcN u (up2 f 3 i 1) t) (by omega) (by omega) (by rw [← hR, bsL, decide_eq_true c47, cond_true, bestO, if_neg (fun z => z.elim cj hcm)]) (hw) (⟨v, hv, ev⟩) _ (lv_sub hl [0, 1, 2, 5, 6] rfl) _ _ X
              · have hcm : 0 - w1 < 0 - allF (goN u (up2 f 3 i 1)) := by rw [ev, eva] at c80; rw [ev, eva]; exact (neg_lt hv hva).mpr c80
                refine lv_iconst (v := 1) hx hb dX12_fix_83 (by decide) ?_
                refine lv_goto (tgt := 88) hx hb dX12_fix_84 (by decide) ?_
                refine lv_istore (lv' := [(6, .int 1), (5, .int (allF (goN u (up2 f 3 i 1)))), (4, .int (nI i)), (3, .int w1), (2, .int b1), (0, .ref (b 0)), (1, .int (nI u))]) hx hb dX12_fix_88 hl (by decide) rfl (fun ls hl => ?_)
                refine lv_iload hx hb dX12_fix_90 (lv_at hl 0 rfl) ?_
                refine k_if1eq hx hb dX12_fix_92 ⟨100, by decide⟩ ?_
                refine lv_iload hx hb dX12_fix_95 (lv_at hl 2 rfl) ?_
                refine lv_goto (tgt := 101) hx hb dX12_fix_97 (by decide) ?_
                refine lv_istore_n (lv' := [(2, .int (nI i)), (6, .int 1), (5, .int (allF (goN u (up2 f 3 i 1)))), (4, .int (nI i)), (3, .int w1), (0, .ref (b 0)), (1, .int (nI u))]) hx hb dX12_fix_101 rfl hl (by decide) rfl (fun ls hl => ?_)
                refine lv_iload hx hb dX12_fix_102 (lv_at hl 1 rfl) ?_
                refine k_if1eq hx hb dX12_fix_104 ⟨112, by decide⟩ ?_
                refine lv_iload hx hb dX12_fix_107 (lv_at hl 2 rfl) ?_
                refine lv_goto (tgt := 113) hx hb dX12_fix_109 (by decide) ?_
                refine lv_istore_n (lv' := [(3, .int (allF (goN u (up2 f 3 i 1)))), (2, .int (nI i)), (6, .int 1), (5, .int (allF (goN u (up2 f 3 i 1)))), (4, .int (nI i)), (0, .ref (b 0)), (1, .int (nI u))]) hx hb dX12_fix_113 rfl hl (by decide) rfl (fun ls hl => ?_)
                refine lv_iinc (v := nI (i + 1)) (lv' := [(4, .int (nI (i + 1))), (3, .int (allF (goN u (up2 f 3 i 1)))), (2, .int (nI i)), (6, .int 1), (5, .int (allF (goN u (up2 f 3 i 1)))), (0, .ref (b 0)), (1, .int (nI u))]) hx hb dX12_fix_114 hl (k := 4) rfl (nI_add i 1) (by decide) rfl (fun ls hl => ?_)
                refine lv_goto (tgt := 29) hx hb dX12_fix_117 (by decide) ?_
                exact ih29 (i + 1) n (nI i) (allF (goN u (up2 f 3 i 1))) (tcN u (up2 f 3 i 1) t) (by omega) (by omega) (by rw [← hR, bsL, decide_eq_true c47, cond_true, bestO, if_pos (Or.inr hcm)]) (Or.inr ⟨i, by omega, rfl⟩) (⟨va, hva, eva⟩) _ (lv_sub hl [0, 1, 2, 5, 6] rfl) _ _ X
    exact lp29 ((sl f) + 1) 0 (sl f) (-1) 0 tch (by omega) (by omega) (rfl) (Or.inl rfl) (⟨0, by decide, rfl⟩) _ hl _ _ X
  · refine lv_aload_n hx hb dX12_fix_11 rfl (lv_at hl 0 rfl) ?_
    refine lv_ldc (v := (-1000000001)) hx hb K.2.2.2.1 (K.2.2.2.2.1 _ (Mw_at 905 (by decide +kernel) (by decide +kernel))) dX12_fix_12 ?_
    refine k_topi (show (-1000000001 : Int32) = fnd 0 by decide) ?_
    refine k_callV K X gv_X12_37 (As := [.int (fnd 0)]) (c_X12_finds l E b (flat f) hf wf ik fd tch tp tl tk tb ta tv bad bo so ce 0 (by decide)) [0, 1, 2, 3, 4, 5, 6, 7, 8] modW_idC (by decide +kernel) (fun _ => modW_fst) 0 12 rfl rfl (by decide) rfl hl.1 (rest := []) rfl (Nat.le_of_ble_eq_true rfl) dX12_fix_14 (st1 := fun _ => [.int (fnd 0)]) (fun _ => rfl) (fun _ H locs _ X => ?_)
    have X : Wd E _ _ (modW E b (flat f) hf wf ik (fdU fd 0) tch tp tl tk tb ta tv bad bo so ce) _ _ := X.eq modW_idP
    exact k_topi (x' := (oFix f fd x).1) (by simp [oFix, bad3, c8]) (fin (wf, tch) 17 _ _ _ trivial (X.eq (by simp [oFix, bad3, c8])) dX12_fix_17)
