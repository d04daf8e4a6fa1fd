set_option maxRecDepth 100000 in
set_option maxHeartbeats 4000000 in
theorem c_X12_isSheet (l : Launch) (E : EE) (x : Int32) : Kd l yX12_isSheet cX12_isSheet 1 (some .boolean) 1 23 E (noW E  ) [.int x] (some (.int (b2i (inR x 0 3)))) (noW E  ) := by
  refine Kn.ofWi (by decide +kernel) (Nat.le_of_ble_eq_true rfl) (fun _ _ => b2i_nar _) ?_
  intro pg ev s0 mm below meth cd Q K X fin ls hl
  have hx := K.1
  have hb := K.2.1
  have hl : lv_has ls 1 [(0, .int x)] := hl
  refine lv_iload_n hx hb dX12_isSheet_0 rfl (lv_at hl 0 rfl) ?_
  refine lv_i2l (v := x.toInt64) hx hb dX12_isSheet_1 rfl ?_
  refine lv_iconst (v := 0) hx hb dX12_isSheet_2 (by decide) ?_
  refine lv_iconst (v := 3) hx hb dX12_isSheet_3 (by decide) ?_
  refine k_callS K X gs_X12_41 (As := [.long x.toInt64, .int 0, .int 3]) (c_X12_in l E x 0 3) [] rfl (by decide +kernel) (fun _ => rfl) (by decide) rfl hl.1 (rest := []) rfl (Nat.le_of_ble_eq_true rfl) dX12_isSheet_4 (st1 := fun _ => [.int (b2i (inR x 0 3))]) (fun _ => rfl) (fun _ H locs _ X => ?_)
  have X : Wd E _ _ (noW E  ) _ _ := X
  exact fin () 7 _ _ _ trivial X dX12_isSheet_7
set_option maxRecDepth 100000 in
set_option maxHeartbeats 4000000 in
theorem c_X12_notThere (l : Launch) (E : EE) (b : Nat → Nat) (mf : Nat → Int32) (hf : Nat → Int32) (wf : Nat → Int32) (ik : Int32) (fd : Nat → Int32) (tch : Int32) (tp : Nat → Int32) (tl : Int32) (tk : Int32) (tb : Int32) (ta : Int32) (tv : Int32) (bad : Int32) (bo : Nat → Int32) (so : Nat → Int32) (ce : Nat → Int64) (x : Int32) : Kd l yX12_notThere cX12_notThere 2 (some .int) 2 43 E (modW E b mf hf wf ik fd tch tp tl tk tb ta tv bad bo so ce) [.ref (b 0), .int x] (some (.int (notT bo x))) (modW E b mf hf wf ik fd tch tp tl tk tb ta tv bad bo so ce) := by
  refine Kn.ofWi (by decide +kernel) (Nat.le_of_ble_eq_true rfl) (fun _ _ => rfl) ?_
  intro pg ev s0 mm below meth cd Q K X fin ls hl
  have hx := K.1
  have hb := K.2.1
  have hl : lv_has ls 2 [(0, .ref (b 0)), (1, .int x)] := hl
  refine lv_iload_n hx hb dX12_notThere_0 rfl (lv_at hl 1 rfl) ?_
  refine k_callS K X gs_X12_211 (As := [.int x]) (c_X12_isSheet l E x) [] rfl (by decide +kernel) (fun _ => rfl) (by decide) rfl hl.1 (rest := []) rfl (Nat.le_of_ble_eq_true rfl) dX12_notThere_1 (st1 := fun _ => [.int (b2i (inR x 0 3))]) (fun _ => rfl) (fun _ H locs _ X => ?_)
  have X : Wd E _ _ (modW E b mf hf wf ik fd tch tp tl tk tb ta tv bad bo so ce) _ _ := X
  refine k_ifneB (B := (inR x 0 3)) hx hb 12 dX12_notThere_4 (by decide) (fun c4 => ?_) (fun c4 => ?_)
  · obtain ⟨k, hk, rfl, -⟩ := inR_nat (n := 4) (by decide) (by decide) c4
    have ek : (nI k).toNatClampNeg = k := nI_clamp (by omega)
    refine lv_aload_n hx hb dX12_notThere_12 rfl (lv_at hl 0 rfl) ?_
    refine k_get K X 0 rfl fg_X12_25 (v := .ref (b 6)) rfl dX12_notThere_13 ?_
    refine lv_iload_n hx hb dX12_notThere_16 rfl (lv_at hl 1 rfl) ?_
    refine k_ialdN K X 6 rfl (k := k) (by omega) (by decide) dX12_notThere_17 (v := bo k) rfl ?_
    refine k_if_ne (x := bo k) hx hb 26 dX12_notThere_18 (by decide) (fun c18 => ?_) (fun c18 => ?_)
    · refine lv_iconst (v := 0) hx hb dX12_notThere_26 (by decide) ?_
      exact k_topi (x' := notT bo (nI k)) (by simp [notT, c4, ek, c18]) (fin () 27 _ _ _ trivial X dX12_notThere_27)
    · refine lv_ldc (v := (-1000000006)) hx hb K.2.2.2.1 (K.2.2.2.2.1 _ (Mw_at 1202 (by decide +kernel) (by decide +kernel))) dX12_notThere_21 ?_
      refine lv_goto (tgt := 27) hx hb dX12_notThere_23 (by decide) ?_
      exact k_topi (x' := notT bo (nI k)) (by simp [notT, c4, ek, c18]) (fin () 27 _ _ _ trivial X dX12_notThere_27)
  · refine lv_ldc (v := (-1000000001)) hx hb K.2.2.2.1 (K.2.2.2.2.1 _ (Mw_at 905 (by decide +kernel) (by decide +kernel))) dX12_notThere_7 ?_
    refine lv_goto (tgt := 27) hx hb dX12_notThere_9 (by decide) ?_
    exact k_topi (x' := notT bo x) (by simp [notT, c4]) (fin () 27 _ _ _ trivial X dX12_notThere_27)
set_option maxRecDepth 100000 in
set_option maxHeartbeats 4000000 in
theorem c_X12_cutTo (l : Launch) (E : EE) (x : Int32) (v : Int64) : Kd l yX12_cutTo cX12_cutTo 3 (some .long) 0 0 E (noW E  ) [.int x, .long v] (some (.long (cutL x v))) (noW E  ) := by
  refine Kn.ofWl (by decide +kernel) (Nat.le_of_ble_eq_true rfl) ?_
  intro pg ev s0 mm below meth cd Q K X fin ls hl
  have hx := K.1
  have hb := K.2.1
  have hl : lv_has ls 3 [(0, .int x), (1, .long v)] := hl
  refine lv_iload_n hx hb dX12_cutTo_0 rfl (lv_at hl 0 rfl) ?_
  refine lv_bipush (v := 8) hx hb dX12_cutTo_1 (by decide) ?_
  refine k_icmp_ne (x := x) (y := 8) hx hb 13 dX12_cutTo_3 (by decide) (fun c3 => ?_) (fun c3 => ?_)
  · refine lv_iload_n hx hb dX12_cutTo_13 rfl (lv_at hl 0 rfl) ?_
    refine lv_bipush (v := 16) hx hb dX12_cutTo_14 (by decide) ?_
    refine k_icmp_ne (x := x) (y := 16) hx hb 26 dX12_cutTo_16 (by decide) (fun c16 => ?_) (fun c16 => ?_)
    · refine lv_lload_n hx hb dX12_cutTo_26 rfl (lv_at hl 1 rfl) ?_
      exact k_topl (x' := cutL x v) (by rw [cutL, if_neg c3, if_neg c16]) (fin () 27 _ _ _ trivial X dX12_cutTo_27)
    · refine lv_lload_n hx hb dX12_cutTo_19 rfl (lv_at hl 1 rfl) ?_
      refine lv_l2i (v := v.toInt32) hx hb dX12_cutTo_20 rfl ?_
      refine lv_i2s (v := v.toInt32.toInt16.toInt32) hx hb dX12_cutTo_21 rfl ?_
      refine lv_i2l (v := v.toInt32.toInt16.toInt32.toInt64) hx hb dX12_cutTo_22 rfl ?_
      refine lv_goto (tgt := 27) hx hb dX12_cutTo_23 (by decide) ?_
      exact k_topl (x' := cutL x v) (by rw [cutL, if_neg c3, if_pos c16]) (fin () 27 _ _ _ trivial X dX12_cutTo_27)
  · refine lv_lload_n hx hb dX12_cutTo_6 rfl (lv_at hl 1 rfl) ?_
    refine lv_l2i (v := v.toInt32) hx hb dX12_cutTo_7 rfl ?_
    refine lv_i2b (v := v.toInt32.toInt8.toInt32) hx hb dX12_cutTo_8 rfl ?_
    refine lv_i2l (v := v.toInt32.toInt8.toInt32.toInt64) hx hb dX12_cutTo_9 rfl ?_
    refine lv_goto (tgt := 27) hx hb dX12_cutTo_10 (by decide) ?_
    exact k_topl (x' := cutL x v) (by rw [cutL, if_pos c3]) (fin () 27 _ _ _ trivial X dX12_cutTo_27)
set_option maxRecDepth 100000 in
set_option maxHeartbeats 4000000 in
theorem c_X12_notCopied (l : Launch) (E : EE) (b : Nat → Nat) (mf : Nat → Int32) (hf : Nat → Int32) (wf : Nat → Int32) (ik : Int32) (fd : Nat → Int32) (tch : Int32) (tp : Nat → Int32) (tl : Int32) (tk : Int32) (tb : Int32) (ta : Int32) (tv : Int32) (bad : Int32) (bo : Nat → Int32) (so : Nat → Int32) (ce : Nat → Int64) (x : Int32) (y : Int32) (z : Int32) (v : Int32) (w : Int32) : Kd l yX12_notCopied cX12_notCopied 7 (some .int) 2 43 E (modW E b mf hf wf ik fd tch tp tl tk tb ta tv bad bo so ce) [.ref (b 0), .int x, .int y, .int z, .int v, .int w] (some (.int (notC bo so x y z v w))) (modW E b mf hf wf ik fd tch tp tl tk tb ta tv bad bo so ce) := by
  refine Kn.ofWi (by decide +kernel) (Nat.le_of_ble_eq_true rfl) (fun _ _ => rfl) ?_
  intro pg ev s0 mm below meth cd Q K X fin ls hl
  have hx := K.1
  have hb := K.2.1
  have hl : lv_has ls 7 [(0, .ref (b 0)), (1, .int x), (2, .int y), (3, .int z), (4, .int v), (5, .int w)] := hl
  refine lv_iload_n hx hb dX12_notCopied_0 rfl (lv_at hl 1 rfl) ?_
  refine k_callS K X gs_X12_211 (As := [.int x]) (c_X12_isSheet l E x) [] rfl (by decide +kernel) (fun _ => rfl) (by decide) rfl hl.1 (rest := []) rfl (Nat.le_of_ble_eq_true rfl) dX12_notCopied_1 (st1 := fun _ => [.int (b2i (inR x 0 3))]) (fun _ => rfl) (fun _ H locs _ X => ?_)
  have X : Wd E _ _ (modW E b mf hf wf ik fd tch tp tl tk tb ta tv bad bo so ce) _ _ := X
  refine k_ifeqB (B := (inR x 0 3)) hx hb 14 dX12_notCopied_4 (by decide) (fun c4 => ?_) (fun c4 => ?_)
  · refine lv_ldc (v := (-1000000001)) hx hb K.2.2.2.1 (K.2.2.2.2.1 _ (Mw_at 905 (by decide +kernel) (by decide +kernel))) dX12_notCopied_14 ?_
    exact k_topi (x' := notC bo so x y z v w) (by simp [notC, hasR, c4]) (fin () 16 _ _ _ trivial X dX12_notCopied_16)
  · obtain ⟨k, hk, rfl, -⟩ := inR_nat (n := 4) (by decide) (by decide) c4
    have ek : (nI k).toNatClampNeg = k := nI_clamp (by omega)
    refine lv_iload_n hx hb dX12_notCopied_7 rfl (lv_at hl 3 rfl) ?_
    refine k_callS K X gs_X12_211 (As := [.int z]) (c_X12_isSheet l E z) [] rfl (by decide +kernel) (fun _ => rfl) (by decide) rfl hl.1 (rest := []) rfl (Nat.le_of_ble_eq_true rfl) dX12_notCopied_8 (st1 := fun _ => [.int (b2i (inR z 0 3))]) (fun _ => rfl) (fun _ H locs _ X => ?_)
    have X : Wd E _ _ (modW E b mf hf wf ik fd tch tp tl tk tb ta tv bad bo so ce) _ _ := X
    refine k_ifneB (B := (inR z 0 3)) hx hb 17 dX12_notCopied_11 (by decide) (fun c11 => ?_) (fun c11 => ?_)
    · obtain ⟨j, hj, rfl, -⟩ := inR_nat (n := 4) (by decide) (by decide) c11
      have ej : (nI j).toNatClampNeg = j := nI_clamp (by omega)
      refine lv_aload_n hx hb dX12_notCopied_17 rfl (lv_at hl 0 rfl) ?_
      refine k_get K X 0 rfl fg_X12_25 (v := .ref (b 6)) rfl dX12_notCopied_18 ?_
      refine lv_iload_n hx hb dX12_notCopied_21 rfl (lv_at hl 1 rfl) ?_
      refine k_ialdN K X 6 rfl (k := k) (by omega) (by decide) dX12_notCopied_22 (v := bo k) rfl ?_
      refine k_if_eq (x := bo k) hx hb 35 dX12_notCopied_23 (by decide) (fun c23 => ?_) (fun c23 => ?_)
      · refine lv_ldc (v := (-1000000006)) hx hb K.2.2.2.1 (K.2.2.2.2.1 _ (Mw_at 1202 (by decide +kernel) (by decide +kernel))) dX12_notCopied_35 ?_
        exact k_topi (x' := notC bo so (nI k) y (nI j) v w) (by simp [notC, hasR, c4, ek, c11, ej, c23]) (fin () 37 _ _ _ trivial X dX12_notCopied_37)
      · refine lv_aload_n hx hb dX12_notCopied_26 rfl (lv_at hl 0 rfl) ?_
        refine k_get K X 0 rfl fg_X12_25 (v := .ref (b 6)) rfl dX12_notCopied_27 ?_
        refine lv_iload_n hx hb dX12_notCopied_30 rfl (lv_at hl 3 rfl) ?_
        refine k_ialdN K X 6 rfl (k := j) (by omega) (by decide) dX12_notCopied_31 (v := bo j) rfl ?_
        refine k_if_ne (x := bo j) hx hb 38 dX12_notCopied_32 (by decide) (fun c32 => ?_) (fun c32 => ?_)
        · refine lv_aload_n hx hb dX12_notCopied_38 rfl (lv_at hl 0 rfl) ?_
          refine k_get K X 0 rfl fg_X12_25 (v := .ref (b 6)) rfl dX12_notCopied_39 ?_
          refine lv_iload_n hx hb dX12_notCopied_42 rfl (lv_at hl 1 rfl) ?_
          refine k_ialdN K X 6 rfl (k := k) (by omega) (by decide) dX12_notCopied_43 (v := bo k) rfl ?_
          refine lv_aload_n hx hb dX12_notCopied_44 rfl (lv_at hl 0 rfl) ?_
          refine k_get K X 0 rfl fg_X12_25 (v := .ref (b 6)) rfl dX12_notCopied_45 ?_
          refine lv_iload_n hx hb dX12_notCopied_48 rfl (lv_at hl 3 rfl) ?_
          refine k_ialdN K X 6 rfl (k := j) (by omega) (by decide) dX12_notCopied_49 (v := bo j) rfl ?_
          refine k_icmp_eq (x := bo k) (y := bo j) hx hb 56 dX12_notCopied_50 (by decide) (fun c50 => ?_) (fun c50 => ?_)
          · refine lv_iload hx hb dX12_notCopied_56 (lv_at hl 5 rfl) ?_
            refine k_if_lt (x := w) hx hb 101 dX12_notCopied_58 (by decide) (fun c58 => ?_) (fun c58 => ?_)
            · refine lv_iconst (v := 0) hx hb dX12_notCopied_101 (by decide) ?_
              refine lv_istore (lv' := [(6, .int 0), (0, .ref (b 0)), (1, .int (nI k)), (2, .int y), (3, .int (nI j)), (4, .int v), (5, .int w)]) hx hb dX12_notCopied_102 hl (by decide) rfl (fun ls hl => ?_)
              refine lv_iload hx hb dX12_notCopied_104 (lv_at hl 0 rfl) ?_
              refine k_if0eq hx hb 113 dX12_notCopied_106 (by decide) ?_
              refine lv_ldc (v := (-1000000001)) hx hb K.2.2.2.1 (K.2.2.2.2.1 _ (Mw_at 905 (by decide +kernel) (by decide +kernel))) dX12_notCopied_113 ?_
              exact k_topi (x' := notC bo so (nI k) y (nI j) v w) (by simp [notC, hasR, c4, ek, c11, ej, c23, c32, c50, c58]) (fin () 115 _ _ _ trivial X dX12_notCopied_115)
            · refine lv_iload_n hx hb dX12_notCopied_61 rfl (lv_at hl 2 rfl) ?_
              refine k_if_lt (x := y) hx hb 101 dX12_notCopied_62 (by decide) (fun c62 => ?_) (fun c62 => ?_)
              · refine lv_iconst (v := 0) hx hb dX12_notCopied_101 (by decide) ?_
                refine lv_istore (lv' := [(6, .int 0), (0, .ref (b 0)), (1, .int (nI k)), (2, .int y), (3, .int (nI j)), (4, .int v), (5, .int w)]) hx hb dX12_notCopied_102 hl (by decide) rfl (fun ls hl => ?_)
                refine lv_iload hx hb dX12_notCopied_104 (lv_at hl 0 rfl) ?_
                refine k_if0eq hx hb 113 dX12_notCopied_106 (by decide) ?_
                refine lv_ldc (v := (-1000000001)) hx hb K.2.2.2.1 (K.2.2.2.2.1 _ (Mw_at 905 (by decide +kernel) (by decide +kernel))) dX12_notCopied_113 ?_
                exact k_topi (x' := notC bo so (nI k) y (nI j) v w) (by simp [notC, hasR, c4, ek, c11, ej, c23, c32, c50, c58, c62]) (fin () 115 _ _ _ trivial X dX12_notCopied_115)
              · refine lv_iload hx hb dX12_notCopied_65 (lv_at hl 4 rfl) ?_
                refine k_if_lt (x := v) hx hb 101 dX12_notCopied_67 (by decide) (fun c67 => ?_) (fun c67 => ?_)
                · refine lv_iconst (v := 0) hx hb dX12_notCopied_101 (by decide) ?_
                  refine lv_istore (lv' := [(6, .int 0), (0, .ref (b 0)), (1, .int (nI k)), (2, .int y), (3, .int (nI j)), (4, .int v), (5, .int w)]) hx hb dX12_notCopied_102 hl (by decide) rfl (fun ls hl => ?_)
                  refine lv_iload hx hb dX12_notCopied_104 (lv_at hl 0 rfl) ?_
                  refine k_if0eq hx hb 113 dX12_notCopied_106 (by decide) ?_
                  refine lv_ldc (v := (-1000000001)) hx hb K.2.2.2.1 (K.2.2.2.2.1 _ (Mw_at 905 (by decide +kernel) (by decide +kernel))) dX12_notCopied_113 ?_
                  exact k_topi (x' := notC bo so (nI k) y (nI j) v w) (by simp [notC, hasR, c4, ek, c11, ej, c23, c32, c50, c58, c62, c67]) (fin () 115 _ _ _ trivial X dX12_notCopied_115)
                · refine lv_iload hx hb dX12_notCopied_70 (lv_at hl 5 rfl) ?_
                  refine lv_aload_n hx hb dX12_notCopied_72 rfl (lv_at hl 0 rfl) ?_
                  refine k_get K X 0 rfl fg_X12_28 (v := .ref (b 7)) rfl dX12_notCopied_73 ?_
                  refine lv_iload_n hx hb dX12_notCopied_76 rfl (lv_at hl 1 rfl) ?_
                  refine k_ialdN K X 7 rfl (k := k) (by omega) (by decide) dX12_notCopied_77 (v := so k) rfl ?_
                  refine lv_iload_n hx hb dX12_notCopied_78 rfl (lv_at hl 2 rfl) ?_
                  refine lv_isub hx hb dX12_notCopied_79 ?_
                  refine k_icmp_gt (x := w) (y := (so k) - y) hx hb 101 dX12_notCopied_80 (by decide) (fun c80 => ?_) (fun c80 => ?_)
                  · refine lv_iconst (v := 0) hx hb dX12_notCopied_101 (by decide) ?_
                    refine lv_istore (lv' := [(6, .int 0), (0, .ref (b 0)), (1, .int (nI k)), (2, .int y), (3, .int (nI j)), (4, .int v), (5, .int w)]) hx hb dX12_notCopied_102 hl (by decide) rfl (fun ls hl => ?_)
                    refine lv_iload hx hb dX12_notCopied_104 (lv_at hl 0 rfl) ?_
                    refine k_if0eq hx hb 113 dX12_notCopied_106 (by decide) ?_
                    refine lv_ldc (v := (-1000000001)) hx hb K.2.2.2.1 (K.2.2.2.2.1 _ (Mw_at 905 (by decide +kernel) (by decide +kernel))) dX12_notCopied_113 ?_
                    exact k_topi (x' := notC bo so (nI k) y (nI j) v w) (by simp [notC, hasR, c4, ek, c11, ej, c23, c32, c50, c58, c62, c67, c80]) (fin () 115 _ _ _ trivial X dX12_notCopied_115)
                  · refine lv_iload hx hb dX12_notCopied_83 (lv_at hl 5 rfl) ?_
                    refine lv_aload_n hx hb dX12_notCopied_85 rfl (lv_at hl 0 rfl) ?_
                    refine k_get K X 0 rfl fg_X12_28 (v := .ref (b 7)) rfl dX12_notCopied_86 ?_
                    refine lv_iload_n hx hb dX12_notCopied_89 rfl (lv_at hl 3 rfl) ?_
                    refine k_ialdN K X 7 rfl (k := j) (by omega) (by decide) dX12_notCopied_90 (v := so j) rfl ?_
                    refine lv_iload hx hb dX12_notCopied_91 (lv_at hl 4 rfl) ?_
                    refine lv_isub hx hb dX12_notCopied_93 ?_
                    refine k_icmp_gt (x := w) (y := (so j) - v) hx hb 101 dX12_notCopied_94 (by decide) (fun c94 => ?_) (fun c94 => ?_)
                    · refine lv_iconst (v := 0) hx hb dX12_notCopied_101 (by decide) ?_
                      refine lv_istore (lv' := [(6, .int 0), (0, .ref (b 0)), (1, .int (nI k)), (2, .int y), (3, .int (nI j)), (4, .int v), (5, .int w)]) hx hb dX12_notCopied_102 hl (by decide) rfl (fun ls hl => ?_)
                      refine lv_iload hx hb dX12_notCopied_104 (lv_at hl 0 rfl) ?_
                      refine k_if0eq hx hb 113 dX12_notCopied_106 (by decide) ?_
                      refine lv_ldc (v := (-1000000001)) hx hb K.2.2.2.1 (K.2.2.2.2.1 _ (Mw_at 905 (by decide +kernel) (by decide +kernel))) dX12_notCopied_113 ?_
                      exact k_topi (x' := notC bo so (nI k) y (nI j) v w) (by simp [notC, hasR, c4, ek, c11, ej, c23, c32, c50, c58, c62, c67, c80, c94]) (fin () 115 _ _ _ trivial X dX12_notCopied_115)
                    · refine lv_iconst (v := 1) hx hb dX12_notCopied_97 (by decide) ?_
                      refine lv_goto (tgt := 102) hx hb dX12_notCopied_98 (by decide) ?_
                      refine lv_istore (lv' := [(6, .int 1), (0, .ref (b 0)), (1, .int (nI k)), (2, .int y), (3, .int (nI j)), (4, .int v), (5, .int w)]) hx hb dX12_notCopied_102 hl (by decide) rfl (fun ls hl => ?_)
                      refine lv_iload hx hb dX12_notCopied_104 (lv_at hl 0 rfl) ?_
                      refine k_if1eq hx hb dX12_notCopied_106 ⟨113, by decide⟩ ?_
                      refine lv_iconst (v := 0) hx hb dX12_notCopied_109 (by decide) ?_
                      refine lv_goto (tgt := 115) hx hb dX12_notCopied_110 (by decide) ?_
                      exact k_topi (x' := notC bo so (nI k) y (nI j) v w) (by simp [notC, hasR, c4, ek, c11, ej, c23, c32, c50, c58, c62, c67, c80, c94]) (fin () 115 _ _ _ trivial X dX12_notCopied_115)
          · refine lv_ldc (v := (-1000000003)) hx hb K.2.2.2.1 (K.2.2.2.2.1 _ (Mw_at 1034 (by decide +kernel) (by decide +kernel))) dX12_notCopied_53 ?_
            exact k_topi (x' := notC bo so (nI k) y (nI j) v w) (by simp [notC, hasR, c4, ek, c11, ej, c23, c32, c50]) (fin () 55 _ _ _ trivial X dX12_notCopied_55)
        · refine lv_ldc (v := (-1000000006)) hx hb K.2.2.2.1 (K.2.2.2.2.1 _ (Mw_at 1202 (by decide +kernel) (by decide +kernel))) dX12_notCopied_35 ?_
          exact k_topi (x' := notC bo so (nI k) y (nI j) v w) (by simp [notC, hasR, c4, ek, c11, ej, c23, c32]) (fin () 37 _ _ _ trivial X dX12_notCopied_37)
    · refine lv_ldc (v := (-1000000001)) hx hb K.2.2.2.1 (K.2.2.2.2.1 _ (Mw_at 905 (by decide +kernel) (by decide +kernel))) dX12_notCopied_14 ?_
      exact k_topi (x' := notC bo so (nI k) y z v w) (by simp [notC, hasR, c4, ek, c11]) (fin () 16 _ _ _ trivial X dX12_notCopied_16)
set_option maxRecDepth 100000 in
set_option maxHeartbeats 4000000 in
theorem c_X12_sheet (l : Launch) (E : EE) (b : Nat → Nat) (mf : Nat → Int32) (hf : Nat → Int32) (wf : Nat → Int32) (ik : Int32) (fd : Nat → Int32) (tch : Int32) (tp : Nat → Int32) (tl : Int32) (tk : Int32) (tb : Int32) (ta : Int32) (tv : Int32) (bad : Int32) (bo : Nat → Int32) (so : Nat → Int32) (rn : Nat → Nat → Int64) (x : Int32) (y : Int32) (z : Int32) : Kd l yX12_sheet cX12_sheet 5 (some .int) 2 43 E (modW E b mf hf wf ik fd tch tp tl tk tb ta tv bad bo so (flR rn)) [.ref (b 0), .int x, .int y, .int z] (some (.int ((oSheet bo so rn fd x y z).1))) (modW E b mf hf wf ik ((oSheet bo so rn fd x y z).2.2.2.2) tch tp tl tk tb ta tv bad ((oSheet bo so rn fd x y z).2.1) ((oSheet bo so rn fd x y z).2.2.1) (flR ((oSheet bo so rn fd x y z).2.2.2.1))) := by
  refine Kn.ofWi (by decide +kernel) (Nat.le_of_ble_eq_true rfl) (fun _ _ => rfl) ?_
  intro pg ev s0 mm below meth cd Q K X fin ls hl
  have hx := K.1
  have hb := K.2.1
  have hl : lv_has ls 5 [(0, .ref (b 0)), (1, .int x), (2, .int y), (3, .int z)] := hl
  refine lv_iload_n hx hb dX12_sheet_0 rfl (lv_at hl 1 rfl) ?_
  refine k_callS K X gs_X12_211 (As := [.int x]) (c_X12_isSheet l E x) [] rfl (by decide +kernel) (fun _ => rfl) (by decide) rfl hl.1 (rest := []) rfl (Nat.le_of_ble_eq_true rfl) dX12_sheet_1 (st1 := fun _ => [.int (b2i (inR x 0 3))]) (fun _ => rfl) (fun _ H locs _ X => ?_)
  have X : Wd E _ _ (modW E b mf hf wf ik fd tch tp tl tk tb ta tv bad bo so (flR rn)) _ _ := X
  refine k_ifeqB (B := (inR x 0 3)) hx hb 29 dX12_sheet_4 (by decide) (fun c4 => ?_) (fun c4 => ?_)
  · refine lv_aload_n hx hb dX12_sheet_29 rfl (lv_at hl 0 rfl) ?_
    refine lv_ldc (v := (-1000000001)) hx hb K.2.2.2.1 (K.2.2.2.2.1 _ (Mw_at 905 (by decide +kernel) (by decide +kernel))) dX12_sheet_30 ?_
    refine k_topi (show (-1000000001 : Int32) = fnd 0 by decide) ?_
    refine k_callV K X gv_X12_37 (As := [.int (fnd 0)]) (c_X12_finds l E b mf hf wf ik fd tch tp tl tk tb ta tv bad bo so (flR rn) 0 (by decide)) [0, 1, 2, 3, 4, 5, 6, 7, 8] modW_idC (by decide +kernel) (fun _ => modW_fst) 0 12 rfl rfl (by decide) rfl hl.1 (rest := []) rfl (Nat.le_of_ble_eq_true rfl) dX12_sheet_32 (st1 := fun _ => [.int (fnd 0)]) (fun _ => rfl) (fun _ H locs _ X => ?_)
    have X : Wd E _ _ (modW E b mf hf wf ik (fdU fd 0) tch tp tl tk tb ta tv bad bo so (flR rn)) _ _ := X.eq modW_idP
    exact k_topi (x' := (oSheet bo so rn fd x y z).1) (by simp [oSheet, szN, c4]) (fin () 35 _ _ _ trivial (X.eq (by simp [oSheet, szN, c4])) dX12_sheet_35)
  · obtain ⟨k, hk, rfl, -⟩ := inR_nat (n := 4) (by decide) (by decide) c4
    have ek : (nI k).toNatClampNeg = k := nI_clamp (by omega)
    refine lv_iload_n hx hb dX12_sheet_7 rfl (lv_at hl 2 rfl) ?_
    refine k_if_eq (x := y) hx hb 36 dX12_sheet_8 (by decide) (fun c8 => ?_) (fun c8 => ?_)
    · refine lv_iload_n hx hb dX12_sheet_36 rfl (lv_at hl 3 rfl) ?_
      refine k_if_ge (x := z) hx hb 47 dX12_sheet_37 (by decide) (fun c37 => ?_) (fun c37 => ?_)
      · refine lv_iload_n hx hb dX12_sheet_47 rfl (lv_at hl 3 rfl) ?_
        refine lv_bipush (v := 40) hx hb dX12_sheet_48 (by decide) ?_
        refine k_icmp_le (x := z) (y := 40) hx hb 60 dX12_sheet_50 (by decide) (fun c50 => ?_) (fun c50 => ?_)
        · refine lv_aload_n hx hb dX12_sheet_60 rfl (lv_at hl 0 rfl) ?_
          refine k_get K X 0 rfl fg_X12_25 (v := .ref (b 6)) rfl dX12_sheet_61 ?_
          refine lv_iload_n hx hb dX12_sheet_64 rfl (lv_at hl 1 rfl) ?_
          refine lv_iload_n hx hb dX12_sheet_65 rfl (lv_at hl 2 rfl) ?_
          refine k_iastN K X 6 rfl (k := k) (x := y) (by omega) (by decide) dX12_sheet_66 (fun H locs X => ?_)
          have X : Wd E _ _ (modW E b mf hf wf ik fd tch tp tl tk tb ta tv bad (upd bo k y) so (flR rn)) _ _ := X
          refine lv_aload_n hx hb dX12_sheet_67 rfl (lv_at hl 0 rfl) ?_
          refine k_get K X 0 rfl fg_X12_28 (v := .ref (b 7)) rfl dX12_sheet_68 ?_
          refine lv_iload_n hx hb dX12_sheet_71 rfl (lv_at hl 1 rfl) ?_
          refine lv_iload_n hx hb dX12_sheet_72 rfl (lv_at hl 2 rfl) ?_
          refine k_if_ne (x := y) hx hb 80 dX12_sheet_73 (by decide) (fun c73 => ?_) (fun c73 => ?_)
          · exact absurd c8 c73
          · refine lv_iconst (v := 0) hx hb dX12_sheet_76 (by decide) ?_
            refine lv_goto (tgt := 81) hx hb dX12_sheet_77 (by decide) ?_
            refine k_iastN K X 7 rfl (k := k) (x := 0) (by omega) (by decide) dX12_sheet_81 (fun H locs X => ?_)
            have X : Wd E _ _ (modW E b mf hf wf ik fd tch tp tl tk tb ta tv bad (upd bo k y) (upd so k 0) (flR rn)) _ _ := X
            refine lv_iconst (v := 0) hx hb dX12_sheet_82 (by decide) ?_
            refine lv_istore (lv' := [(4, .int 0), (0, .ref (b 0)), (1, .int (nI k)), (2, .int y), (3, .int z)]) hx hb dX12_sheet_83 hl (by decide) rfl (fun ls hl => ?_)
            have lp85 : ∀ (fu : Nat) (i : Nat) (n : Nat) (w : Nat → Int64) (hfu : n < fu) (hin : i + n = 40) (hw : ∀ j, w j = if 40 * k ≤ j ∧ j < 40 * k + i then 0 else flR rn j) (ls : Array Slot) (hl : lv_has ls 5 [(4, .int (nI i)), (0, .ref (b 0)), (1, .int (nI k)), (2, .int y), (3, .int z)]) (H : Heap) (locs : List Loc) (X : Wd E (inW (modW E b mf hf wf ik fd tch tp tl tk tb ta tv bad bo so (flR rn))) s0.heap (modW E b mf hf wf ik fd tch tp tl tk tb ta tv bad (upd bo k y) (upd so k 0) w) H locs), W pg l ev (rmK 2 43) s0 mm ([.ref (b 0), .int (nI k), .int y, .int z] : List Value).toArray below meth cd H locs 0 0 Q (F0 mm 85 ls []) := by
              intro fu
              induction fu with
              | zero => intro i n w hfu; exact absurd hfu (Nat.not_lt_zero _)
              | succ fu ih85 =>
                intro i n w hfu hin hw ls hl H locs X
                refine lv_iload hx hb dX12_sheet_85 (lv_at hl 0 rfl) ?_
                refine lv_bipush (v := 40) hx hb dX12_sheet_87 (by decide) ?_
                refine kN_ge (x := i) (y := 40) hx hb 111 dX12_sheet_89 (by decide) (by omega) (by omega) (fun c89 => ?_) (fun c89 => ?_)
                · obtain rfl : n = 0 := by omega
                  have X := X.arrL 8 (g := flR (setRL rn k (fun _ => 0))) rfl (fun j hj => (hw j).trans (zero_at j (by omega)))
                  have X : Wd E _ _ (modW E b mf hf wf ik fd tch tp tl tk tb ta tv bad (upd bo k y) (upd so k 0) (flR (setRL rn k (fun _ => 0)))) _ _ := X
                  refine lv_aload_n hx hb dX12_sheet_111 rfl (lv_at hl 1 rfl) ?_
                  refine k_get K X 0 rfl fg_X12_28 (v := .ref (b 7)) rfl dX12_sheet_112 ?_
                  refine lv_iload_n hx hb dX12_sheet_115 rfl (lv_at hl 2 rfl) ?_
                  refine k_ialdN K X 7 rfl (k := k) (by omega) (by decide) dX12_sheet_116 (v := 0) pk_us ?_
                  exact k_topi (x' := (oSheet bo so rn fd (nI k) y z).1) (by simp [oSheet, szN, c4, ek, c8, c37, c50, c73, c89]) (fin () 117 _ _ _ trivial (X.eq (by simp [oSheet, szN, c4, ek, c8, c37, c50, c73, c89])) dX12_sheet_117)
                · obtain ⟨n, rfl⟩ : ∃ z, n = z + 1 := ⟨n - 1, by omega⟩
                  refine lv_aload_n hx hb dX12_sheet_92 rfl (lv_at hl 1 rfl) ?_
                  refine k_get K X 0 rfl fg_X12_31 (v := .ref (b 8)) rfl dX12_sheet_93 ?_
                  refine lv_bipush (v := 40) hx hb dX12_sheet_96 (by decide) ?_
                  refine lv_iload_n hx hb dX12_sheet_98 rfl (lv_at hl 2 rfl) ?_
                  refine lv_imul hx hb dX12_sheet_99 ?_
                  refine k_topi (pk_mul 40 k) ?_
                  refine lv_iload hx hb dX12_sheet_100 (lv_at hl 0 rfl) ?_
                  refine lv_iadd hx hb dX12_sheet_102 ?_
                  refine k_topi (nI_add (40 * k) i) ?_
                  refine lv_lconst (v := 0) hx hb dX12_sheet_103 (by decide) ?_
                  refine k_lastN K X 8 rfl (k := 40 * k + i) (x := 0) (by omega) (by decide) dX12_sheet_104 (fun H locs X => ?_)
                  have X : Wd E _ _ (modW E b mf hf wf ik fd tch tp tl tk tb ta tv bad (upd bo k y) (upd so k 0) (vp_updL w (40 * k + i) 0)) _ _ := X
                  refine lv_iinc (v := nI (i + 1)) (lv' := [(4, .int (nI (i + 1))), (0, .ref (b 0)), (1, .int (nI k)), (2, .int y), (3, .int z)]) hx hb dX12_sheet_105 hl (k := 0) rfl (nI_add i 1) (by decide) rfl (fun ls hl => ?_)
                  refine lv_goto (tgt := 85) hx hb dX12_sheet_108 (by decide) ?_
                  exact ih85 (i + 1) n (vp_updL w (40 * k + i) 0) (by omega) (by omega) (fun j => zero_st (hw j)) _ hl _ _ X
            exact lp85 (40 + 1) 0 40 (flR rn) (by omega) (by omega) (fun j => by rw [if_neg (by omega)]) _ hl _ _ X
        · refine lv_aload_n hx hb dX12_sheet_53 rfl (lv_at hl 0 rfl) ?_
          refine lv_ldc (v := (-1000000001)) hx hb K.2.2.2.1 (K.2.2.2.2.1 _ (Mw_at 905 (by decide +kernel) (by decide +kernel))) dX12_sheet_54 ?_
          refine k_topi (show (-1000000001 : Int32) = fnd 0 by decide) ?_
          refine k_callV K X gv_X12_37 (As := [.int (fnd 0)]) (c_X12_finds l E b mf hf wf ik fd tch tp tl tk tb ta tv bad bo so (flR rn) 0 (by decide)) [0, 1, 2, 3, 4, 5, 6, 7, 8] modW_idC (by decide +kernel) (fun _ => modW_fst) 0 12 rfl rfl (by decide) rfl hl.1 (rest := []) rfl (Nat.le_of_ble_eq_true rfl) dX12_sheet_56 (st1 := fun _ => [.int (fnd 0)]) (fun _ => rfl) (fun _ H locs _ X => ?_)
          have X : Wd E _ _ (modW E b mf hf wf ik (fdU fd 0) tch tp tl tk tb ta tv bad bo so (flR rn)) _ _ := X.eq modW_idP
          exact k_topi (x' := (oSheet bo so rn fd (nI k) y z).1) (by simp [oSheet, szN, c4, ek, c8, c37, c50]) (fin () 59 _ _ _ trivial (X.eq (by simp [oSheet, szN, c4, ek, c8, c37, c50])) dX12_sheet_59)
      · refine lv_aload_n hx hb dX12_sheet_40 rfl (lv_at hl 0 rfl) ?_
        refine lv_ldc (v := (-1000000007)) hx hb K.2.2.2.1 (K.2.2.2.2.1 _ (Mw_at 1193 (by decide +kernel) (by decide +kernel))) dX12_sheet_41 ?_
        refine k_topi (show (-1000000007 : Int32) = fnd 6 by decide) ?_
        refine k_callV K X gv_X12_37 (As := [.int (fnd 6)]) (c_X12_finds l E b mf hf wf ik fd tch tp tl tk tb ta tv bad bo so (flR rn) 6 (by decide)) [0, 1, 2, 3, 4, 5, 6, 7, 8] modW_idC (by decide +kernel) (fun _ => modW_fst) 0 12 rfl rfl (by decide) rfl hl.1 (rest := []) rfl (Nat.le_of_ble_eq_true rfl) dX12_sheet_43 (st1 := fun _ => [.int (fnd 6)]) (fun _ => rfl) (fun _ H locs _ X => ?_)
        have X : Wd E _ _ (modW E b mf hf wf ik (fdU fd 6) tch tp tl tk tb ta tv bad bo so (flR rn)) _ _ := X.eq modW_idP
        exact k_topi (x' := (oSheet bo so rn fd (nI k) y z).1) (by simp [oSheet, szN, c4, ek, c8, c37]) (fin () 46 _ _ _ trivial (X.eq (by simp [oSheet, szN, c4, ek, c8, c37])) dX12_sheet_46)
    · refine lv_iload_n hx hb dX12_sheet_11 rfl (lv_at hl 2 rfl) ?_
      refine lv_bipush (v := 8) hx hb dX12_sheet_12 (by decide) ?_
      refine k_icmp_eq (x := y) (y := 8) hx hb 36 dX12_sheet_14 (by decide) (fun c14 => ?_) (fun c14 => ?_)
      · refine lv_iload_n hx hb dX12_sheet_36 rfl (lv_at hl 3 rfl) ?_
        refine k_if_ge (x := z) hx hb 47 dX12_sheet_37 (by decide) (fun c37 => ?_) (fun c37 => ?_)
        · refine lv_iload_n hx hb dX12_sheet_47 rfl (lv_at hl 3 rfl) ?_
          refine lv_bipush (v := 40) hx hb dX12_sheet_48 (by decide) ?_
          refine k_icmp_le (x := z) (y := 40) hx hb 60 dX12_sheet_50 (by decide) (fun c50 => ?_) (fun c50 => ?_)
          · refine lv_aload_n hx hb dX12_sheet_60 rfl (lv_at hl 0 rfl) ?_
            refine k_get K X 0 rfl fg_X12_25 (v := .ref (b 6)) rfl dX12_sheet_61 ?_
            refine lv_iload_n hx hb dX12_sheet_64 rfl (lv_at hl 1 rfl) ?_
            refine lv_iload_n hx hb dX12_sheet_65 rfl (lv_at hl 2 rfl) ?_
            refine k_iastN K X 6 rfl (k := k) (x := y) (by omega) (by decide) dX12_sheet_66 (fun H locs X => ?_)
            have X : Wd E _ _ (modW E b mf hf wf ik fd tch tp tl tk tb ta tv bad (upd bo k y) so (flR rn)) _ _ := X
            refine lv_aload_n hx hb dX12_sheet_67 rfl (lv_at hl 0 rfl) ?_
            refine k_get K X 0 rfl fg_X12_28 (v := .ref (b 7)) rfl dX12_sheet_68 ?_
            refine lv_iload_n hx hb dX12_sheet_71 rfl (lv_at hl 1 rfl) ?_
            refine lv_iload_n hx hb dX12_sheet_72 rfl (lv_at hl 2 rfl) ?_
            refine k_if_ne (x := y) hx hb 80 dX12_sheet_73 (by decide) (fun c73 => ?_) (fun c73 => ?_)
            · refine lv_iload_n hx hb dX12_sheet_80 rfl (lv_at hl 3 rfl) ?_
              refine k_iastN K X 7 rfl (k := k) (x := z) (by omega) (by decide) dX12_sheet_81 (fun H locs X => ?_)
              have X : Wd E _ _ (modW E b mf hf wf ik fd tch tp tl tk tb ta tv bad (upd bo k y) (upd so k z) (flR rn)) _ _ := X
              refine lv_iconst (v := 0) hx hb dX12_sheet_82 (by decide) ?_
              refine lv_istore (lv' := [(4, .int 0), (0, .ref (b 0)), (1, .int (nI k)), (2, .int y), (3, .int z)]) hx hb dX12_sheet_83 hl (by decide) rfl (fun ls hl => ?_)
              have lp85 : ∀ (fu : Nat) (i : Nat) (n : Nat) (w : Nat → Int64) (hfu : n < fu) (hin : i + n = 40) (hw : ∀ j, w j = if 40 * k ≤ j ∧ j < 40 * k + i then 0 else flR rn j) (ls : Array Slot) (hl : lv_has ls 5 [(4, .int (nI i)), (0, .ref (b 0)), (1, .int (nI k)), (2, .int y), (3, .int z)]) (H : Heap) (locs : List Loc) (X : Wd E (inW (modW E b mf hf wf ik fd tch tp tl tk tb ta tv bad bo so (flR rn))) s0.heap (modW E b mf hf wf ik fd tch tp tl tk tb ta tv bad (upd bo k y) (upd so k z) w) H locs), W pg l ev (rmK 2 43) s0 mm ([.ref (b 0), .int (nI k), .int y, .int z] : List Value).toArray below meth cd H locs 0 0 Q (F0 mm 85 ls []) := by
                intro fu
                induction fu with
                | zero => intro i n w hfu; exact absurd hfu (Nat.not_lt_zero _)
                | succ fu ih85 =>
                  intro i n w hfu hin hw ls hl H locs X
                  refine lv_iload hx hb dX12_sheet_85 (lv_at hl 0 rfl) ?_
                  refine lv_bipush (v := 40) hx hb dX12_sheet_87 (by decide) ?_
                  refine kN_ge (x := i) (y := 40) hx hb 111 dX12_sheet_89 (by decide) (by omega) (by omega) (fun c89 => ?_) (fun c89 => ?_)
                  · obtain rfl : n = 0 := by omega
                    have X := X.arrL 8 (g := flR (setRL rn k (fun _ => 0))) rfl (fun j hj => (hw j).trans (zero_at j (by omega)))
                    have X : Wd E _ _ (modW E b mf hf wf ik fd tch tp tl tk tb ta tv bad (upd bo k y) (upd so k z) (flR (setRL rn k (fun _ => 0)))) _ _ := X
                    refine lv_aload_n hx hb dX12_sheet_111 rfl (lv_at hl 1 rfl) ?_
                    refine k_get K X 0 rfl fg_X12_28 (v := .ref (b 7)) rfl dX12_sheet_112 ?_
                    refine lv_iload_n hx hb dX12_sheet_115 rfl (lv_at hl 2 rfl) ?_
                    refine k_ialdN K X 7 rfl (k := k) (by omega) (by decide) dX12_sheet_116 (v := z) pk_us ?_
                    exact k_topi (x' := (oSheet bo so rn fd (nI k) y z).1) (by simp [oSheet, szN, c4, ek, c8, c14, c37, c50, c73, c89]) (fin () 117 _ _ _ trivial (X.eq (by simp [oSheet, szN, c4, ek, c8, c14, c37, c50, c73, c89])) dX12_sheet_117)
                  · obtain ⟨n, rfl⟩ : ∃ z, n = z + 1 := ⟨n - 1, by omega⟩
                    refine lv_aload_n hx hb dX12_sheet_92 rfl (lv_at hl 1 rfl) ?_
                    refine k_get K X 0 rfl fg_X12_31 (v := .ref (b 8)) rfl dX12_sheet_93 ?_
                    refine lv_bipush (v := 40) hx hb dX12_sheet_96 (by decide) ?_
                    refine lv_iload_n hx hb dX12_sheet_98 rfl (lv_at hl 2 rfl) ?_
                    refine lv_imul hx hb dX12_sheet_99 ?_
                    refine k_topi (pk_mul 40 k) ?_
                    refine lv_iload hx hb dX12_sheet_100 (lv_at hl 0 rfl) ?_
                    refine lv_iadd hx hb dX12_sheet_102 ?_
                    refine k_topi (nI_add (40 * k) i) ?_
                    refine lv_lconst (v := 0) hx hb dX12_sheet_103 (by decide) ?_
                    refine k_lastN K X 8 rfl (k := 40 * k + i) (x := 0) (by omega) (by decide) dX12_sheet_104 (fun H locs X => ?_)
                    have X : Wd E _ _ (modW E b mf hf wf ik fd tch tp tl tk tb ta tv bad (upd bo k y) (upd so k z) (vp_updL w (40 * k + i) 0)) _ _ := X
                    refine lv_iinc (v := nI (i + 1)) (lv' := [(4, .int (nI (i + 1))), (0, .ref (b 0)), (1, .int (nI k)), (2, .int y), (3, .int z)]) hx hb dX12_sheet_105 hl (k := 0) rfl (nI_add i 1) (by decide) rfl (fun ls hl => ?_)
                    refine lv_goto (tgt := 85) hx hb dX12_sheet_108 (by decide) ?_
                    exact ih85 (i + 1) n (vp_updL w (40 * k + i) 0) (by omega) (by omega) (fun j => zero_st (hw j)) _ hl _ _ X
              exact lp85 (40 + 1) 0 40 (flR rn) (by omega) (by omega) (fun j => by rw [if_neg (by omega)]) _ hl _ _ X
            · exact absurd c73 c8
          · refine lv_aload_n hx hb dX12_sheet_53 rfl (lv_at hl 0 rfl) ?_
            refine lv_ldc (v := (-1000000001)) hx hb K.2.2.2.1 (K.2.2.2.2.1 _ (Mw_at 905 (by decide +kernel) (by decide +kernel))) dX12_sheet_54 ?_
            refine k_topi (show (-1000000001 : Int32) = fnd 0 by decide) ?_
            refine k_callV K X gv_X12_37 (As := [.int (fnd 0)]) (c_X12_finds l E b mf hf wf ik fd tch tp tl tk tb ta tv bad bo so (flR rn) 0 (by decide)) [0, 1, 2, 3, 4, 5, 6, 7, 8] modW_idC (by decide +kernel) (fun _ => modW_fst) 0 12 rfl rfl (by decide) rfl hl.1 (rest := []) rfl (Nat.le_of_ble_eq_true rfl) dX12_sheet_56 (st1 := fun _ => [.int (fnd 0)]) (fun _ => rfl) (fun _ H locs _ X => ?_)
            have X : Wd E _ _ (modW E b mf hf wf ik (fdU fd 0) tch tp tl tk tb ta tv bad bo so (flR rn)) _ _ := X.eq modW_idP
            exact k_topi (x' := (oSheet bo so rn fd (nI k) y z).1) (by simp [oSheet, szN, c4, ek, c8, c14, c37, c50]) (fin () 59 _ _ _ trivial (X.eq (by simp [oSheet, szN, c4, ek, c8, c14, c37, c50])) dX12_sheet_59)
        · refine lv_aload_n hx hb dX12_sheet_40 rfl (lv_at hl 0 rfl) ?_
          refine lv_ldc (v := (-1000000007)) hx hb K.2.2.2.1 (K.2.2.2.2.1 _ (Mw_at 1193 (by decide +kernel) (by decide +kernel))) dX12_sheet_41 ?_
          refine k_topi (show (-1000000007 : Int32) = fnd 6 by decide) ?_
          refine k_callV K X gv_X12_37 (As := [.int (fnd 6)]) (c_X12_finds l E b mf hf wf ik fd tch tp tl tk tb ta tv bad bo so (flR rn) 6 (by decide)) [0, 1, 2, 3, 4, 5, 6, 7, 8] modW_idC (by decide +kernel) (fun _ => modW_fst) 0 12 rfl rfl (by decide) rfl hl.1 (rest := []) rfl (Nat.le_of_ble_eq_true rfl) dX12_sheet_43 (st1 := fun _ => [.int (fnd 6)]) (fun _ => rfl) (fun _ H locs _ X => ?_)
          have X : Wd E _ _ (modW E b mf hf wf ik (fdU fd 6) tch tp tl tk tb ta tv bad bo so (flR rn)) _ _ := X.eq modW_idP
          exact k_topi (x' := (oSheet bo so rn fd (nI k) y z).1) (by simp [oSheet, szN, c4, ek, c8, c14, c37]) (fin () 46 _ _ _ trivial (X.eq (by simp [oSheet, szN, c4, ek, c8, c14, c37])) dX12_sheet_46)
      · refine lv_iload_n hx hb dX12_sheet_17 rfl (lv_at hl 2 rfl) ?_
        refine lv_bipush (v := 16) hx hb dX12_sheet_18 (by decide) ?_
        refine k_icmp_eq (x := y) (y := 16) hx hb 36 dX12_sheet_20 (by decide) (fun c20 => ?_) (fun c20 => ?_)
        · refine lv_iload_n hx hb dX12_sheet_36 rfl (lv_at hl 3 rfl) ?_
          refine k_if_ge (x := z) hx hb 47 dX12_sheet_37 (by decide) (fun c37 => ?_) (fun c37 => ?_)
          · refine lv_iload_n hx hb dX12_sheet_47 rfl (lv_at hl 3 rfl) ?_
            refine lv_bipush (v := 40) hx hb dX12_sheet_48 (by decide) ?_
            refine k_icmp_le (x := z) (y := 40) hx hb 60 dX12_sheet_50 (by decide) (fun c50 => ?_) (fun c50 => ?_)
            · refine lv_aload_n hx hb dX12_sheet_60 rfl (lv_at hl 0 rfl) ?_
              refine k_get K X 0 rfl fg_X12_25 (v := .ref (b 6)) rfl dX12_sheet_61 ?_
              refine lv_iload_n hx hb dX12_sheet_64 rfl (lv_at hl 1 rfl) ?_
              refine lv_iload_n hx hb dX12_sheet_65 rfl (lv_at hl 2 rfl) ?_
              refine k_iastN K X 6 rfl (k := k) (x := y) (by omega) (by decide) dX12_sheet_66 (fun H locs X => ?_)
              have X : Wd E _ _ (modW E b mf hf wf ik fd tch tp tl tk tb ta tv bad (upd bo k y) so (flR rn)) _ _ := X
              refine lv_aload_n hx hb dX12_sheet_67 rfl (lv_at hl 0 rfl) ?_
              refine k_get K X 0 rfl fg_X12_28 (v := .ref (b 7)) rfl dX12_sheet_68 ?_
              refine lv_iload_n hx hb dX12_sheet_71 rfl (lv_at hl 1 rfl) ?_
              refine lv_iload_n hx hb dX12_sheet_72 rfl (lv_at hl 2 rfl) ?_
              refine k_if_ne (x := y) hx hb 80 dX12_sheet_73 (by decide) (fun c73 => ?_) (fun c73 => ?_)
              · refine lv_iload_n hx hb dX12_sheet_80 rfl (lv_at hl 3 rfl) ?_
                refine k_iastN K X 7 rfl (k := k) (x := z) (by omega) (by decide) dX12_sheet_81 (fun H locs X => ?_)
                have X : Wd E _ _ (modW E b mf hf wf ik fd tch tp tl tk tb ta tv bad (upd bo k y) (upd so k z) (flR rn)) _ _ := X
                refine lv_iconst (v := 0) hx hb dX12_sheet_82 (by decide) ?_
                refine lv_istore (lv' := [(4, .int 0), (0, .ref (b 0)), (1, .int (nI k)), (2, .int y), (3, .int z)]) hx hb dX12_sheet_83 hl (by decide) rfl (fun ls hl => ?_)
                have lp85 : ∀ (fu : Nat) (i : Nat) (n : Nat) (w : Nat → Int64) (hfu : n < fu) (hin : i + n = 40) (hw : ∀ j, w j = if 40 * k ≤ j ∧ j < 40 * k + i then 0 else flR rn j) (ls : Array Slot) (hl : lv_has ls 5 [(4, .int (nI i)), (0, .ref (b 0)), (1, .int (nI k)), (2, .int y), (3, .int z)]) (H : Heap) (locs : List Loc) (X : Wd E (inW (modW E b mf hf wf ik fd tch tp tl tk tb ta tv bad bo so (flR rn))) s0.heap (modW E b mf hf wf ik fd tch tp tl tk tb ta tv bad (upd bo k y) (upd so k z) w) H locs), W pg l ev (rmK 2 43) s0 mm ([.ref (b 0), .int (nI k), .int y, .int z] : List Value).toArray below meth cd H locs 0 0 Q (F0 mm 85 ls []) := by
                  intro fu
                  induction fu with
                  | zero => intro i n w hfu; exact absurd hfu (Nat.not_lt_zero _)
                  | succ fu ih85 =>
                    intro i n w hfu hin hw ls hl H locs X
                    refine lv_iload hx hb dX12_sheet_85 (lv_at hl 0 rfl) ?_
                    refine lv_bipush (v := 40) hx hb dX12_sheet_87 (by decide) ?_
                    refine kN_ge (x := i) (y := 40) hx hb 111 dX12_sheet_89 (by decide) (by omega) (by omega) (fun c89 => ?_) (fun c89 => ?_)
                    · obtain rfl : n = 0 := by omega
                      have X := X.arrL 8 (g := flR (setRL rn k (fun _ => 0))) rfl (fun j hj => (hw j).trans (zero_at j (by omega)))
                      have X : Wd E _ _ (modW E b mf hf wf ik fd tch tp tl tk tb ta tv bad (upd bo k y) (upd so k z) (flR (setRL rn k (fun _ => 0)))) _ _ := X
                      refine lv_aload_n hx hb dX12_sheet_111 rfl (lv_at hl 1 rfl) ?_
                      refine k_get K X 0 rfl fg_X12_28 (v := .ref (b 7)) rfl dX12_sheet_112 ?_
                      refine lv_iload_n hx hb dX12_sheet_115 rfl (lv_at hl 2 rfl) ?_
                      refine k_ialdN K X 7 rfl (k := k) (by omega) (by decide) dX12_sheet_116 (v := z) pk_us ?_
                      exact k_topi (x' := (oSheet bo so rn fd (nI k) y z).1) (by simp [oSheet, szN, c4, ek, c8, c14, c20, c37, c50, c73, c89]) (fin () 117 _ _ _ trivial (X.eq (by simp [oSheet, szN, c4, ek, c8, c14, c20, c37, c50, c73, c89])) dX12_sheet_117)
                    · obtain ⟨n, rfl⟩ : ∃ z, n = z + 1 := ⟨n - 1, by omega⟩
                      refine lv_aload_n hx hb dX12_sheet_92 rfl (lv_at hl 1 rfl) ?_
                      refine k_get K X 0 rfl fg_X12_31 (v := .ref (b 8)) rfl dX12_sheet_93 ?_
                      refine lv_bipush (v := 40) hx hb dX12_sheet_96 (by decide) ?_
                      refine lv_iload_n hx hb dX12_sheet_98 rfl (lv_at hl 2 rfl) ?_
                      refine lv_imul hx hb dX12_sheet_99 ?_
                      refine k_topi (pk_mul 40 k) ?_
                      refine lv_iload hx hb dX12_sheet_100 (lv_at hl 0 rfl) ?_
                      refine lv_iadd hx hb dX12_sheet_102 ?_
                      refine k_topi (nI_add (40 * k) i) ?_
                      refine lv_lconst (v := 0) hx hb dX12_sheet_103 (by decide) ?_
                      refine k_lastN K X 8 rfl (k := 40 * k + i) (x := 0) (by omega) (by decide) dX12_sheet_104 (fun H locs X => ?_)
                      have X : Wd E _ _ (modW E b mf hf wf ik fd tch tp tl tk tb ta tv bad (upd bo k y) (upd so k z) (vp_updL w (40 * k + i) 0)) _ _ := X
                      refine lv_iinc (v := nI (i + 1)) (lv' := [(4, .int (nI (i + 1))), (0, .ref (b 0)), (1, .int (nI k)), (2, .int y), (3, .int z)]) hx hb dX12_sheet_105 hl (k := 0) rfl (nI_add i 1) (by decide) rfl (fun ls hl => ?_)
                      refine lv_goto (tgt := 85) hx hb dX12_sheet_108 (by decide) ?_
                      exact ih85 (i + 1) n (vp_updL w (40 * k + i) 0) (by omega) (by omega) (fun j => zero_st (hw j)) _ hl _ _ X
                exact lp85 (40 + 1) 0 40 (flR rn) (by omega) (by omega) (fun j => by rw [if_neg (by omega)]) _ hl _ _ X
              · exact absurd c73 c8
            · refine lv_aload_n hx hb dX12_sheet_53 rfl (lv_at hl 0 rfl) ?_
              refine lv_ldc (v := (-1000000001)) hx hb K.2.2.2.1 (K.2.2.2.2.1 _ (Mw_at 905 (by decide +kernel) (by decide +kernel))) dX12_sheet_54 ?_
              refine k_topi (show (-1000000001 : Int32) = fnd 0 by decide) ?_
              refine k_callV K X gv_X12_37 (As := [.int (fnd 0)]) (c_X12_finds l E b mf hf wf ik fd tch tp tl tk tb ta tv bad bo so (flR rn) 0 (by decide)) [0, 1, 2, 3, 4, 5, 6, 7, 8] modW_idC (by decide +kernel) (fun _ => modW_fst) 0 12 rfl rfl (by decide) rfl hl.1 (rest := []) rfl (Nat.le_of_ble_eq_true rfl) dX12_sheet_56 (st1 := fun _ => [.int (fnd 0)]) (fun _ => rfl) (fun _ H locs _ X => ?_)
              have X : Wd E _ _ (modW E b mf hf wf ik (fdU fd 0) tch tp tl tk tb ta tv bad bo so (flR rn)) _ _ := X.eq modW_idP
              exact k_topi (x' := (oSheet bo so rn fd (nI k) y z).1) (by simp [oSheet, szN, c4, ek, c8, c14, c20, c37, c50]) (fin () 59 _ _ _ trivial (X.eq (by simp [oSheet, szN, c4, ek, c8, c14, c20, c37, c50])) dX12_sheet_59)
          · refine lv_aload_n hx hb dX12_sheet_40 rfl (lv_at hl 0 rfl) ?_
            refine lv_ldc (v := (-1000000007)) hx hb K.2.2.2.1 (K.2.2.2.2.1 _ (Mw_at 1193 (by decide +kernel) (by decide +kernel))) dX12_sheet_41 ?_
            refine k_topi (show (-1000000007 : Int32) = fnd 6 by decide) ?_
            refine k_callV K X gv_X12_37 (As := [.int (fnd 6)]) (c_X12_finds l E b mf hf wf ik fd tch tp tl tk tb ta tv bad bo so (flR rn) 6 (by decide)) [0, 1, 2, 3, 4, 5, 6, 7, 8] modW_idC (by decide +kernel) (fun _ => modW_fst) 0 12 rfl rfl (by decide) rfl hl.1 (rest := []) rfl (Nat.le_of_ble_eq_true rfl) dX12_sheet_43 (st1 := fun _ => [.int (fnd 6)]) (fun _ => rfl) (fun _ H locs _ X => ?_)
            have X : Wd E _ _ (modW E b mf hf wf ik (fdU fd 6) tch tp tl tk tb ta tv bad bo so (flR rn)) _ _ := X.eq modW_idP
            exact k_topi (x' := (oSheet bo so rn fd (nI k) y z).1) (by simp [oSheet, szN, c4, ek, c8, c14, c20, c37]) (fin () 46 _ _ _ trivial (X.eq (by simp [oSheet, szN, c4, ek, c8, c14, c20, c37])) dX12_sheet_46)
        · refine lv_iload_n hx hb dX12_sheet_23 rfl (lv_at hl 2 rfl) ?_
          refine lv_bipush (v := 64) hx hb dX12_sheet_24 (by decide) ?_
          refine k_icmp_eq (x := y) (y := 64) hx hb 36 dX12_sheet_26 (by decide) (fun c26 => ?_) (fun c26 => ?_)
          · refine lv_iload_n hx hb dX12_sheet_36 rfl (lv_at hl 3 rfl) ?_
            refine k_if_ge (x := z) hx hb 47 dX12_sheet_37 (by decide) (fun c37 => ?_) (fun c37 => ?_)
            · refine lv_iload_n hx hb dX12_sheet_47 rfl (lv_at hl 3 rfl) ?_
              refine lv_bipush (v := 40) hx hb dX12_sheet_48 (by decide) ?_
              refine k_icmp_le (x := z) (y := 40) hx hb 60 dX12_sheet_50 (by decide) (fun c50 => ?_) (fun c50 => ?_)
              · refine lv_aload_n hx hb dX12_sheet_60 rfl (lv_at hl 0 rfl) ?_
                refine k_get K X 0 rfl fg_X12_25 (v := .ref (b 6)) rfl dX12_sheet_61 ?_
                refine lv_iload_n hx hb dX12_sheet_64 rfl (lv_at hl 1 rfl) ?_
                refine lv_iload_n hx hb dX12_sheet_65 rfl (lv_at hl 2 rfl) ?_
                refine k_iastN K X 6 rfl (k := k) (x := y) (by omega) (by decide) dX12_sheet_66 (fun H locs X => ?_)
                have X : Wd E _ _ (modW E b mf hf wf ik fd tch tp tl tk tb ta tv bad (upd bo k y) so (flR rn)) _ _ := X
                refine lv_aload_n hx hb dX12_sheet_67 rfl (lv_at hl 0 rfl) ?_
                refine k_get K X 0 rfl fg_X12_28 (v := .ref (b 7)) rfl dX12_sheet_68 ?_
                refine lv_iload_n hx hb dX12_sheet_71 rfl (lv_at hl 1 rfl) ?_
                refine lv_iload_n hx hb dX12_sheet_72 rfl (lv_at hl 2 rfl) ?_
                refine k_if_ne (x := y) hx hb 80 dX12_sheet_73 (by decide) (fun c73 => ?_) (fun c73 => ?_)
                · refine lv_iload_n hx hb dX12_sheet_80 rfl (lv_at hl 3 rfl) ?_
                  refine k_iastN K X 7 rfl (k := k) (x := z) (by omega) (by decide) dX12_sheet_81 (fun H locs X => ?_)
                  have X : Wd E _ _ (modW E b mf hf wf ik fd tch tp tl tk tb ta tv bad (upd bo k y) (upd so k z) (flR rn)) _ _ := X
                  refine lv_iconst (v := 0) hx hb dX12_sheet_82 (by decide) ?_
                  refine lv_istore (lv' := [(4, .int 0), (0, .ref (b 0)), (1, .int (nI k)), (2, .int y), (3, .int z)]) hx hb dX12_sheet_83 hl (by decide) rfl (fun ls hl => ?_)
                  have lp85 : ∀ (fu : Nat) (i : Nat) (n : Nat) (w : Nat → Int64) (hfu : n < fu) (hin : i + n = 40) (hw : ∀ j, w j = if 40 * k ≤ j ∧ j < 40 * k + i then 0 else flR rn j) (ls : Array Slot) (hl : lv_has ls 5 [(4, .int (nI i)), (0, .ref (b 0)), (1, .int (nI k)), (2, .int y), (3, .int z)]) (H : Heap) (locs : List Loc) (X : Wd E (inW (modW E b mf hf wf ik fd tch tp tl tk tb ta tv bad bo so (flR rn))) s0.heap (modW E b mf hf wf ik fd tch tp tl tk tb ta tv bad (upd bo k y) (upd so k z) w) H locs), W pg l ev (rmK 2 43) s0 mm ([.ref (b 0), .int (nI k), .int y, .int z] : List Value).toArray below meth cd H locs 0 0 Q (F0 mm 85 ls []) := by
                    intro fu
                    induction fu with
                    | zero => intro i n w hfu; exact absurd hfu (Nat.not_lt_zero _)
                    | succ fu ih85 =>
                      intro i n w hfu hin hw ls hl H locs X
                      refine lv_iload hx hb dX12_sheet_85 (lv_at hl 0 rfl) ?_
                      refine lv_bipush (v := 40) hx hb dX12_sheet_87 (by decide) ?_
                      refine kN_ge (x := i) (y := 40) hx hb 111 dX12_sheet_89 (by decide) (by omega) (by omega) (fun c89 => ?_) (fun c89 => ?_)
                      · obtain rfl : n = 0 := by omega
                        have X := X.arrL 8 (g := flR (setRL rn k (fun _ => 0))) rfl (fun j hj => (hw j).trans (zero_at j (by omega)))
                        have X : Wd E _ _ (modW E b mf hf wf ik fd tch tp tl tk tb ta tv bad (upd bo k y) (upd so k z) (flR (setRL rn k (fun _ => 0)))) _ _ := X
                        refine lv_aload_n hx hb dX12_sheet_111 rfl (lv_at hl 1 rfl) ?_
                        refine k_get K X 0 rfl fg_X12_28 (v := .ref (b 7)) rfl dX12_sheet_112 ?_
                        refine lv_iload_n hx hb dX12_sheet_115 rfl (lv_at hl 2 rfl) ?_
                        refine k_ialdN K X 7 rfl (k := k) (by omega) (by decide) dX12_sheet_116 (v := z) pk_us ?_
                        exact k_topi (x' := (oSheet bo so rn fd (nI k) y z).1) (by simp [oSheet, szN, c4, ek, c8, c14, c20, c26, c37, c50, c73, c89]) (fin () 117 _ _ _ trivial (X.eq (by simp [oSheet, szN, c4, ek, c8, c14, c20, c26, c37, c50, c73, c89])) dX12_sheet_117)
                      · obtain ⟨n, rfl⟩ : ∃ z, n = z + 1 := ⟨n - 1, by omega⟩
                        refine lv_aload_n hx hb dX12_sheet_92 rfl (lv_at hl 1 rfl) ?_
                        refine k_get K X 0 rfl fg_X12_31 (v := .ref (b 8)) rfl dX12_sheet_93 ?_
                        refine lv_bipush (v := 40) hx hb dX12_sheet_96 (by decide) ?_
                        refine lv_iload_n hx hb dX12_sheet_98 rfl (lv_at hl 2 rfl) ?_
                        refine lv_imul hx hb dX12_sheet_99 ?_
                        refine k_topi (pk_mul 40 k) ?_
                        refine lv_iload hx hb dX12_sheet_100 (lv_at hl 0 rfl) ?_
                        refine lv_iadd hx hb dX12_sheet_102 ?_
                        refine k_topi (nI_add (40 * k) i) ?_
                        refine lv_lconst (v := 0) hx hb dX12_sheet_103 (by decide) ?_
                        refine k_lastN K X 8 rfl (k := 40 * k + i) (x := 0) (by omega) (by decide) dX12_sheet_104 (fun H locs X => ?_)
                        have X : Wd E _ _ (modW E b mf hf wf ik fd tch tp tl tk tb ta tv bad (upd bo k y) (upd so k z) (vp_updL w (40 * k + i) 0)) _ _ := X
                        refine lv_iinc (v := nI (i + 1)) (lv' := [(4, .int (nI (i + 1))), (0, .ref (b 0)), (1, .int (nI k)), (2, .int y), (3, .int z)]) hx hb dX12_sheet_105 hl (k := 0) rfl (nI_add i 1) (by decide) rfl (fun ls hl => ?_)
                        refine lv_goto (tgt := 85) hx hb dX12_sheet_108 (by decide) ?_
                        exact ih85 (i + 1) n (vp_updL w (40 * k + i) 0) (by omega) (by omega) (fun j => zero_st (hw j)) _ hl _ _ X
                  exact lp85 (40 + 1) 0 40 (flR rn) (by omega) (by omega) (fun j => by rw [if_neg (by omega)]) _ hl _ _ X
                · exact absurd c73 c8
              · refine lv_aload_n hx hb dX12_sheet_53 rfl (lv_at hl 0 rfl) ?_
                refine lv_ldc (v := (-1000000001)) hx hb K.2.2.2.1 (K.2.2.2.2.1 _ (Mw_at 905 (by decide +kernel) (by decide +kernel))) dX12_sheet_54 ?_
                refine k_topi (show (-1000000001 : Int32) = fnd 0 by decide) ?_
                refine k_callV K X gv_X12_37 (As := [.int (fnd 0)]) (c_X12_finds l E b mf hf wf ik fd tch tp tl tk tb ta tv bad bo so (flR rn) 0 (by decide)) [0, 1, 2, 3, 4, 5, 6, 7, 8] modW_idC (by decide +kernel) (fun _ => modW_fst) 0 12 rfl rfl (by decide) rfl hl.1 (rest := []) rfl (Nat.le_of_ble_eq_true rfl) dX12_sheet_56 (st1 := fun _ => [.int (fnd 0)]) (fun _ => rfl) (fun _ H locs _ X => ?_)
                have X : Wd E _ _ (modW E b mf hf wf ik (fdU fd 0) tch tp tl tk tb ta tv bad bo so (flR rn)) _ _ := X.eq modW_idP
                exact k_topi (x' := (oSheet bo so rn fd (nI k) y z).1) (by simp [oSheet, szN, c4, ek, c8, c14, c20, c26, c37, c50]) (fin () 59 _ _ _ trivial (X.eq (by simp [oSheet, szN, c4, ek, c8, c14, c20, c26, c37, c50])) dX12_sheet_59)
            · refine lv_aload_n hx hb dX12_sheet_40 rfl (lv_at hl 0 rfl) ?_
              refine lv_ldc (v := (-1000000007)) hx hb K.2.2.2.1 (K.2.2.2.2.1 _ (Mw_at 1193 (by decide +kernel) (by decide +kernel))) dX12_sheet_41 ?_
              refine k_topi (show (-1000000007 : Int32) = fnd 6 by decide) ?_
              refine k_callV K X gv_X12_37 (As := [.int (fnd 6)]) (c_X12_finds l E b mf hf wf ik fd tch tp tl tk tb ta tv bad bo so (flR rn) 6 (by decide)) [0, 1, 2, 3, 4, 5, 6, 7, 8] modW_idC (by decide +kernel) (fun _ => modW_fst) 0 12 rfl rfl (by decide) rfl hl.1 (rest := []) rfl (Nat.le_of_ble_eq_true rfl) dX12_sheet_43 (st1 := fun _ => [.int (fnd 6)]) (fun _ => rfl) (fun _ H locs _ X => ?_)
              have X : Wd E _ _ (modW E b mf hf wf ik (fdU fd 6) tch tp tl tk tb ta tv bad bo so (flR rn)) _ _ := X.eq modW_idP
              exact k_topi (x' := (oSheet bo so rn fd (nI k) y z).1) (by simp [oSheet, szN, c4, ek, c8, c14, c20, c26, c37]) (fin () 46 _ _ _ trivial (X.eq (by simp [oSheet, szN, c4, ek, c8, c14, c20, c26, c37])) dX12_sheet_46)
          · refine lv_aload_n hx hb dX12_sheet_29 rfl (lv_at hl 0 rfl) ?_
            refine lv_ldc (v := (-1000000001)) hx hb K.2.2.2.1 (K.2.2.2.2.1 _ (Mw_at 905 (by decide +kernel) (by decide +kernel))) dX12_sheet_30 ?_
            refine k_topi (show (-1000000001 : Int32) = fnd 0 by decide) ?_
            refine k_callV K X gv_X12_37 (As := [.int (fnd 0)]) (c_X12_finds l E b mf hf wf ik fd tch tp tl tk tb ta tv bad bo so (flR rn) 0 (by decide)) [0, 1, 2, 3, 4, 5, 6, 7, 8] modW_idC (by decide +kernel) (fun _ => modW_fst) 0 12 rfl rfl (by decide) rfl hl.1 (rest := []) rfl (Nat.le_of_ble_eq_true rfl) dX12_sheet_32 (st1 := fun _ => [.int (fnd 0)]) (fun _ => rfl) (fun _ H locs _ X => ?_)
            have X : Wd E _ _ (modW E b mf hf wf ik (fdU fd 0) tch tp tl tk tb ta tv bad bo so (flR rn)) _ _ := X.eq modW_idP
            exact k_topi (x' := (oSheet bo so rn fd (nI k) y z).1) (by simp [oSheet, szN, c4, ek, c8, c14, c20, c26]) (fin () 35 _ _ _ trivial (X.eq (by simp [oSheet, szN, c4, ek, c8, c14, c20, c26])) dX12_sheet_35)
set_option maxRecDepth 100000 in
set_option maxHeartbeats 4000000 in
theorem c_X12_write (l : Launch) (E : EE) (b : Nat → Nat) (mf : Nat → Int32) (hf : Nat → Int32) (wf : Nat → Int32) (ik : Int32) (fd : Nat → Int32) (tch : Int32) (tp : Nat → Int32) (tl : Int32) (tk : Int32) (tb : Int32) (ta : Int32) (tv : Int32) (bad : Int32) (bo : Nat → Int32) (so : Nat → Int32) (rn : Nat → Nat → Int64) (x : Int32) (y : Int32) (v : Int64) (J : InvS so) : Kd l yX12_write cX12_write 8 (some .long) 3 64 E (modW E b mf hf wf ik fd tch tp tl tk tb ta tv bad bo so (flR rn)) [.ref (b 0), .int x, .int y, .long v] (some (.long ((oWrite bo so rn fd x y v).1))) (modW E b mf hf wf ik ((oWrite bo so rn fd x y v).2.2) tch tp tl tk tb ta tv bad bo so (flR ((oWrite bo so rn fd x y v).2.1))) := by
  refine Kn.ofWl (by decide +kernel) (Nat.le_of_ble_eq_true rfl) ?_
  intro pg ev s0 mm below meth cd Q K X fin ls hl
  have hx := K.1
  have hb := K.2.1
  have hl : lv_has ls 8 [(0, .ref (b 0)), (1, .int x), (2, .int y), (3, .long v)] := hl
  refine lv_aload_n hx hb dX12_write_0 rfl (lv_at hl 0 rfl) ?_
  refine lv_iload_n hx hb dX12_write_1 rfl (lv_at hl 1 rfl) ?_
  refine k_callV K X gv_X12_216 (As := [.int x]) (c_X12_notThere l E b mf hf wf ik fd tch tp tl tk tb ta tv bad bo so (flR rn) x) [0, 1, 2, 3, 4, 5, 6, 7, 8] modW_idC (by decide +kernel) (fun _ => modW_fst) 0 12 rfl rfl (by decide) rfl hl.1 (rest := []) rfl (Nat.le_of_ble_eq_true rfl) dX12_write_2 (st1 := fun _ => [.int (notT bo x)]) (fun _ => rfl) (fun _ H locs _ X => ?_)
  have X : Wd E _ _ (modW E b mf hf wf ik fd tch tp tl tk tb ta tv bad bo so (flR rn)) _ _ := X.eq modW_idP
  rcases notT_cases bo x with ⟨hx0, ht⟩ | ⟨k, hk, rfl, hx0, ek, hb0, ht⟩ | ⟨k, hk, rfl, hx0, ek, hb0, ht⟩
  · refine k_topi (x' := -1000000001) ht ?_
    refine lv_istore (lv' := [(5, .int (-1000000001)), (0, .ref (b 0)), (1, .int x), (2, .int y), (3, .long v)]) hx hb dX12_write_5 hl (by decide) rfl (fun ls hl => ?_)
    refine lv_iload hx hb dX12_write_7 (lv_at hl 0 rfl) ?_
    refine k_if_ne hx hb 33 dX12_write_9 (by decide) (fun _ => ?_) (fun h => absurd h (by decide))
    refine lv_iload hx hb dX12_write_33 (lv_at hl 0 rfl) ?_
    refine k_if_eq hx hb 46 dX12_write_35 (by decide) (fun h => absurd h (by decide)) (fun _ => ?_)
    refine lv_aload_n hx hb dX12_write_38 rfl (lv_at hl 1 rfl) ?_
    refine lv_iload hx hb dX12_write_39 (lv_at hl 0 rfl) ?_
    refine k_topi (show (-1000000001 : Int32) = fnd 0 by decide) ?_
    refine k_callV K X gv_X12_37 (As := [.int (fnd 0)]) (c_X12_finds l E b mf hf wf ik fd tch tp tl tk tb ta tv bad bo so (flR rn) 0 (by decide)) [0, 1, 2, 3, 4, 5, 6, 7, 8] modW_idC (by decide +kernel) (fun _ => modW_fst) 0 12 rfl rfl (by decide) rfl hl.1 (rest := []) rfl (Nat.le_of_ble_eq_true rfl) dX12_write_41 (st1 := fun _ => [.int (fnd 0)]) (fun _ => rfl) (fun _ H locs _ X => ?_)
    have X : Wd E _ _ (modW E b mf hf wf ik (fdU fd 0) tch tp tl tk tb ta tv bad bo so (flR rn)) _ _ := X.eq modW_idP
    refine lv_i2l (v := (fnd 0).toInt64) hx hb dX12_write_44 rfl ?_
    exact k_topl (x' := (oWrite bo so rn fd x y v).1) (by simp [oWrite, hx0]) (fin () 45 _ _ _ trivial (X.eq (by simp [oWrite, hx0])) dX12_write_45)
  · refine k_topi (x' := -1000000006) ht ?_
    refine lv_istore (lv' := [(5, .int (-1000000006)), (0, .ref (b 0)), (1, .int (nI k)), (2, .int y), (3, .long v)]) hx hb dX12_write_5 hl (by decide) rfl (fun ls hl => ?_)
    refine lv_iload hx hb dX12_write_7 (lv_at hl 0 rfl) ?_
    refine k_if_ne hx hb 33 dX12_write_9 (by decide) (fun _ => ?_) (fun h => absurd h (by decide))
    refine lv_iload hx hb dX12_write_33 (lv_at hl 0 rfl) ?_
    refine k_if_eq hx hb 46 dX12_write_35 (by decide) (fun h => absurd h (by decide)) (fun _ => ?_)
    refine lv_aload_n hx hb dX12_write_38 rfl (lv_at hl 1 rfl) ?_
    refine lv_iload hx hb dX12_write_39 (lv_at hl 0 rfl) ?_
    refine k_topi (show (-1000000006 : Int32) = fnd 5 by decide) ?_
    refine k_callV K X gv_X12_37 (As := [.int (fnd 5)]) (c_X12_finds l E b mf hf wf ik fd tch tp tl tk tb ta tv bad bo so (flR rn) 5 (by decide)) [0, 1, 2, 3, 4, 5, 6, 7, 8] modW_idC (by decide +kernel) (fun _ => modW_fst) 0 12 rfl rfl (by decide) rfl hl.1 (rest := []) rfl (Nat.le_of_ble_eq_true rfl) dX12_write_41 (st1 := fun _ => [.int (fnd 5)]) (fun _ => rfl) (fun _ H locs _ X => ?_)
    have X : Wd E _ _ (modW E b mf hf wf ik (fdU fd 5) tch tp tl tk tb ta tv bad bo so (flR rn)) _ _ := X.eq modW_idP
    refine lv_i2l (v := (fnd 5).toInt64) hx hb dX12_write_44 rfl ?_
    exact k_topl (x' := (oWrite bo so rn fd (nI k) y v).1) (by simp [oWrite, hx0, ek, hb0]) (fin () 45 _ _ _ trivial (X.eq (by simp [oWrite, hx0, ek, hb0])) dX12_write_45)
  · refine k_topi (x' := 0) ht ?_
    have hz := (J k hk).2
    refine lv_istore (lv' := [(5, .int 0), (0, .ref (b 0)), (1, .int (nI k)), (2, .int y), (3, .long v)]) hx hb dX12_write_5 hl (by decide) rfl (fun ls hl => ?_)
    refine lv_iload hx hb dX12_write_7 (lv_at hl 0 rfl) ?_
    refine k_if0ne hx hb dX12_write_9 ⟨33, by decide⟩ ?_
    refine lv_iload_n hx hb dX12_write_12 rfl (lv_at hl 3 rfl) ?_
    refine lv_i2l (v := y.toInt64) hx hb dX12_write_13 rfl ?_
    refine lv_iconst (v := 0) hx hb dX12_write_14 (by decide) ?_
    refine lv_aload_n hx hb dX12_write_15 rfl (lv_at hl 1 rfl) ?_
    refine k_get K X 0 rfl fg_X12_28 (v := .ref (b 7)) rfl dX12_write_16 ?_
    refine lv_iload_n hx hb dX12_write_19 rfl (lv_at hl 2 rfl) ?_
    refine k_ialdN K X 7 rfl (k := k) (by omega) (by decide) dX12_write_20 (v := so k) rfl ?_
    refine k_topi ((J k hk).1) ?_
    refine lv_iconst (v := 1) hx hb dX12_write_21 (by decide) ?_
    refine lv_isub hx hb dX12_write_22 ?_
    refine k_callS K X gs_X12_41 (As := [.long y.toInt64, .int 0, .int ((nI (zR so k)) - 1)]) (c_X12_in l E y 0 ((nI (zR so k)) - 1)) [] rfl (by decide +kernel) (fun _ => rfl) (by decide) rfl hl.1 (rest := []) rfl (Nat.le_of_ble_eq_true rfl) dX12_write_23 (st1 := fun _ => [.int (b2i (inR y 0 ((nI (zR so k)) - 1)))]) (fun _ => rfl) (fun _ H locs _ X => ?_)
    have X : Wd E _ _ (modW E b mf hf wf ik fd tch tp tl tk tb ta tv bad bo so (flR rn)) _ _ := X
    refine k_ifneB (B := (inR y 0 ((nI (zR so k)) - 1))) hx hb 33 dX12_write_26 (by decide) (fun c26 => ?_) (fun c26 => ?_)
    · obtain ⟨j, hj, rfl⟩ := in_row hz c26
      have ej : (nI j).toNatClampNeg = j := nI_clamp (by omega)
      refine lv_iload hx hb dX12_write_33 (lv_at hl 0 rfl) ?_
      refine k_if0eq hx hb 46 dX12_write_35 (by decide) ?_
      refine lv_aload_n hx hb dX12_write_46 rfl (lv_at hl 1 rfl) ?_
      refine k_get K X 0 rfl fg_X12_31 (v := .ref (b 8)) rfl dX12_write_47 ?_
      refine lv_bipush (v := 40) hx hb dX12_write_50 (by decide) ?_
      refine lv_iload_n hx hb dX12_write_52 rfl (lv_at hl 2 rfl) ?_
      refine lv_imul hx hb dX12_write_53 ?_
      refine k_topi (pk_mul 40 k) ?_
      refine lv_iload_n hx hb dX12_write_54 rfl (lv_at hl 3 rfl) ?_
      refine lv_iadd hx hb dX12_write_55 ?_
      refine k_topi (nI_add (40 * k) j) ?_
      refine k_laldN K X 8 rfl (k := 40 * k + j) (by omega) (by decide) dX12_write_56 (v := (flR rn) (40 * k + j)) rfl ?_
      refine k_topl (flR_at2 (s := k) (i := j) (by omega) (by omega)) ?_
      refine lv_lstore (lv' := [(6, .long (rn k j)), (5, .int 0), (0, .ref (b 0)), (1, .int (nI k)), (2, .int (nI j)), (3, .long v)]) hx hb dX12_write_57 hl (by decide) rfl (fun ls hl => ?_)
      refine lv_aload_n hx hb dX12_write_59 rfl (lv_at hl 2 rfl) ?_
      refine k_get K X 0 rfl fg_X12_31 (v := .ref (b 8)) rfl dX12_write_60 ?_
      refine lv_bipush (v := 40) hx hb dX12_write_63 (by decide) ?_
      refine lv_iload_n hx hb dX12_write_65 rfl (lv_at hl 3 rfl) ?_
      refine lv_imul hx hb dX12_write_66 ?_
      refine k_topi (pk_mul 40 k) ?_
      refine lv_iload_n hx hb dX12_write_67 rfl (lv_at hl 4 rfl) ?_
      refine lv_iadd hx hb dX12_write_68 ?_
      refine k_topi (nI_add (40 * k) j) ?_
      refine lv_aload_n hx hb dX12_write_69 rfl (lv_at hl 2 rfl) ?_
      refine k_get K X 0 rfl fg_X12_25 (v := .ref (b 6)) rfl dX12_write_70 ?_
      refine lv_iload_n hx hb dX12_write_73 rfl (lv_at hl 3 rfl) ?_
      refine k_ialdN K X 6 rfl (k := k) (by omega) (by decide) dX12_write_74 (v := bo k) rfl ?_
      refine lv_lload_n hx hb dX12_write_75 rfl (lv_at hl 5 rfl) ?_
      refine k_callS K X gs_X12_219 (As := [.int (bo k), .long v]) (c_X12_cutTo l E (bo k) v) [] rfl (by decide +kernel) (fun _ => rfl) (by decide) rfl hl.1 (rest := [.int (nI (40 * k + j)), .ref (b 8)]) rfl (Nat.le_of_ble_eq_true rfl) dX12_write_76 (st1 := fun _ => [.long (cutL (bo k) v), .int (nI (40 * k + j)), .ref (b 8)]) (fun _ => rfl) (fun _ H locs _ X => ?_)
      have X : Wd E _ _ (modW E b mf hf wf ik fd tch tp tl tk tb ta tv bad bo so (flR rn)) _ _ := X
      refine k_lastN K X 8 rfl (k := 40 * k + j) (x := cutL (bo k) v) (by omega) (by decide) dX12_write_79 (fun H locs X => ?_)
      have X : Wd E _ _ (modW E b mf hf wf ik fd tch tp tl tk tb ta tv bad bo so (vp_updL (flR rn) (40 * k + j) (cutL (bo k) v))) _ _ := X
      have X : Wd E _ _ (modW E b mf hf wf ik fd tch tp tl tk tb ta tv bad bo so (flR (setRL rn k (vp_updL (rn k) j (cutL (bo k) v))))) _ _ := X.eq (by rw [flR_up2 (s := k) (i := j) (by omega) (by omega)])
      refine lv_lload hx hb dX12_write_80 (lv_at hl 0 rfl) ?_
      exact k_topl (x' := (oWrite bo so rn fd (nI k) (nI j) v).1) (by simp [oWrite, hx0, ek, hb0, c26, ej]) (fin () 82 _ _ _ trivial (X.eq (by simp [oWrite, hx0, ek, hb0, c26, ej])) dX12_write_82)
    · refine lv_ldc (v := (-1000000001)) hx hb K.2.2.2.1 (K.2.2.2.2.1 _ (Mw_at 905 (by decide +kernel) (by decide +kernel))) dX12_write_29 ?_
      refine lv_istore (lv' := [(5, .int (-1000000001)), (0, .ref (b 0)), (1, .int (nI k)), (2, .int y), (3, .long v)]) hx hb dX12_write_31 hl (by decide) rfl (fun ls hl => ?_)
      refine lv_iload hx hb dX12_write_33 (lv_at hl 0 rfl) ?_
      refine k_if_eq hx hb 46 dX12_write_35 (by decide) (fun h => absurd h (by decide)) (fun _ => ?_)
      refine lv_aload_n hx hb dX12_write_38 rfl (lv_at hl 1 rfl) ?_
      refine lv_iload hx hb dX12_write_39 (lv_at hl 0 rfl) ?_
      refine k_topi (show (-1000000001 : Int32) = fnd 0 by decide) ?_
      refine k_callV K X gv_X12_37 (As := [.int (fnd 0)]) (c_X12_finds l E b mf hf wf ik fd tch tp tl tk tb ta tv bad bo so (flR rn) 0 (by decide)) [0, 1, 2, 3, 4, 5, 6, 7, 8] modW_idC (by decide +kernel) (fun _ => modW_fst) 0 12 rfl rfl (by decide) rfl hl.1 (rest := []) rfl (Nat.le_of_ble_eq_true rfl) dX12_write_41 (st1 := fun _ => [.int (fnd 0)]) (fun _ => rfl) (fun _ H locs _ X => ?_)
      have X : Wd E _ _ (modW E b mf hf wf ik (fdU fd 0) tch tp tl tk tb ta tv bad bo so (flR rn)) _ _ := X.eq modW_idP
      refine lv_i2l (v := (fnd 0).toInt64) hx hb dX12_write_44 rfl ?_
      exact k_topl (x' := (oWrite bo so rn fd (nI k) y v).1) (by simp [oWrite, hx0, ek, hb0, c26]) (fin () 45 _ _ _ trivial (X.eq (by simp [oWrite, hx0, ek, hb0, c26])) dX12_write_45)
set_option maxRecDepth 100000 in
set_option maxHeartbeats 4000000 in
theorem c_X12_copy (l : Launch) (E : EE) (b : Nat → Nat) (mf : Nat → Int32) (hf : Nat → Int32) (wf : Nat → Int32) (ik : Int32) (fd : Nat → Int32) (tch : Int32) (tp : Nat → Int32) (tl : Int32) (tk : Int32) (tb : Int32) (ta : Int32) (tv : Int32) (bad : Int32) (bo : Nat → Int32) (so : Nat → Int32) (rn : Nat → Nat → Int64) (x : Int32) (y : Int32) (z : Int32) (v : Int32) (w : Int32) (J : InvS so) : Kd l yX12_copy cX12_copy 9 (some .int) 3 69 E (modW E b mf hf wf ik fd tch tp tl tk tb ta tv bad bo so (flR rn)) [.ref (b 0), .int x, .int y, .int z, .int v, .int w] (some (.int ((oCopy bo so rn fd x y z v w).1))) (modW E b mf hf wf ik ((oCopy bo so rn fd x y z v w).2.2) tch tp tl tk tb ta tv bad bo so (flR ((oCopy bo so rn fd x y z v w).2.1))) := by
  refine Kn.ofWi (by decide +kernel) (Nat.le_of_ble_eq_true rfl) (fun _ _ => rfl) ?_
  intro pg ev s0 mm below meth cd Q K X fin ls hl
  have hx := K.1
  have hb := K.2.1
  have hl : lv_has ls 9 [(0, .ref (b 0)), (1, .int x), (2, .int y), (3, .int z), (4, .int v), (5, .int w)] := hl
  refine lv_aload_n hx hb dX12_copy_0 rfl (lv_at hl 0 rfl) ?_
  refine lv_iload_n hx hb dX12_copy_1 rfl (lv_at hl 1 rfl) ?_
  refine lv_iload_n hx hb dX12_copy_2 rfl (lv_at hl 2 rfl) ?_
  refine lv_iload_n hx hb dX12_copy_3 rfl (lv_at hl 3 rfl) ?_
  refine lv_iload hx hb dX12_copy_4 (lv_at hl 4 rfl) ?_
  refine lv_iload hx hb dX12_copy_6 (lv_at hl 5 rfl) ?_
  refine k_callV K X gv_X12_223 (As := [.int x, .int y, .int z, .int v, .int w]) (c_X12_notCopied l E b mf hf wf ik fd tch tp tl tk tb ta tv bad bo so (flR rn) x y z v w) [0, 1, 2, 3, 4, 5, 6, 7, 8] modW_idC (by decide +kernel) (fun _ => modW_fst) 0 12 rfl rfl (by decide) rfl hl.1 (rest := []) rfl (Nat.le_of_ble_eq_true rfl) dX12_copy_8 (st1 := fun _ => [.int (notC bo so x y z v w)]) (fun _ => rfl) (fun _ H locs _ X => ?_)
  have X : Wd E _ _ (modW E b mf hf wf ik fd tch tp tl tk tb ta tv bad bo so (flR rn)) _ _ := X.eq modW_idP
  rcases notC_cases J (x := x) (y := y) (z := z) (v := v) (w := w) bo with ⟨ht, ho⟩ | ⟨ht, ho⟩ | ⟨ht, ho⟩ | ⟨k, j, a, b1, c, hk, hj, rfl, rfl, rfl, rfl, rfl, ha, hb1, ht, ho⟩
  · refine k_topi (x' := -1000000001) ht ?_
    refine lv_istore (lv' := [(6, .int (-1000000001)), (0, .ref (b 0)), (1, .int x), (2, .int y), (3, .int z), (4, .int v), (5, .int w)]) hx hb dX12_copy_11 hl (by decide) rfl (fun ls hl => ?_)
    refine lv_iload hx hb dX12_copy_13 (lv_at hl 0 rfl) ?_
    refine k_if_eq hx hb 25 dX12_copy_15 (by decide) (fun h => absurd h (by decide)) (fun _ => ?_)
    refine lv_aload_n hx hb dX12_copy_18 rfl (lv_at hl 1 rfl) ?_
    refine lv_iload hx hb dX12_copy_19 (lv_at hl 0 rfl) ?_
    refine k_topi (show (-1000000001 : Int32) = fnd 0 by decide) ?_
    refine k_callV K X gv_X12_37 (As := [.int (fnd 0)]) (c_X12_finds l E b mf hf wf ik fd tch tp tl tk tb ta tv bad bo so (flR rn) 0 (by decide)) [0, 1, 2, 3, 4, 5, 6, 7, 8] modW_idC (by decide +kernel) (fun _ => modW_fst) 0 12 rfl rfl (by decide) rfl hl.1 (rest := []) rfl (Nat.le_of_ble_eq_true rfl) dX12_copy_21 (st1 := fun _ => [.int (fnd 0)]) (fun _ => rfl) (fun _ H locs _ X => ?_)
    have X : Wd E _ _ (modW E b mf hf wf ik (fdU fd 0) tch tp tl tk tb ta tv bad bo so (flR rn)) _ _ := X.eq modW_idP
    exact k_topi (x' := (oCopy bo so rn fd x y z v w).1) (by rw [ho]) (fin () 24 _ _ _ trivial (X.eq (by rw [ho])) dX12_copy_24)
  · refine k_topi (x' := -1000000006) ht ?_
    refine lv_istore (lv' := [(6, .int (-1000000006)), (0, .ref (b 0)), (1, .int x), (2, .int y), (3, .int z), (4, .int v), (5, .int w)]) hx hb dX12_copy_11 hl (by decide) rfl (fun ls hl => ?_)
    refine lv_iload hx hb dX12_copy_13 (lv_at hl 0 rfl) ?_
    refine k_if_eq hx hb 25 dX12_copy_15 (by decide) (fun h => absurd h (by decide)) (fun _ => ?_)
    refine lv_aload_n hx hb dX12_copy_18 rfl (lv_at hl 1 rfl) ?_
    refine lv_iload hx hb dX12_copy_19 (lv_at hl 0 rfl) ?_
    refine k_topi (show (-1000000006 : Int32) = fnd 5 by decide) ?_
    refine k_callV K X gv_X12_37 (As := [.int (fnd 5)]) (c_X12_finds l E b mf hf wf ik fd tch tp tl tk tb ta tv bad bo so (flR rn) 5 (by decide)) [0, 1, 2, 3, 4, 5, 6, 7, 8] modW_idC (by decide +kernel) (fun _ => modW_fst) 0 12 rfl rfl (by decide) rfl hl.1 (rest := []) rfl (Nat.le_of_ble_eq_true rfl) dX12_copy_21 (st1 := fun _ => [.int (fnd 5)]) (fun _ => rfl) (fun _ H locs _ X => ?_)
    have X : Wd E _ _ (modW E b mf hf wf ik (fdU fd 5) tch tp tl tk tb ta tv bad bo so (flR rn)) _ _ := X.eq modW_idP
    exact k_topi (x' := (oCopy bo so rn fd x y z v w).1) (by rw [ho]) (fin () 24 _ _ _ trivial (X.eq (by rw [ho])) dX12_copy_24)
  · refine k_topi (x' := -1000000003) ht ?_
    refine lv_istore (lv' := [(6, .int (-1000000003)), (0, .ref (b 0)), (1, .int x), (2, .int y), (3, .int z), (4, .int v), (5, .int w)]) hx hb dX12_copy_11 hl (by decide) rfl (fun ls hl => ?_)
    refine lv_iload hx hb dX12_copy_13 (lv_at hl 0 rfl) ?_
    refine k_if_eq hx hb 25 dX12_copy_15 (by decide) (fun h => absurd h (by decide)) (fun _ => ?_)
    refine lv_aload_n hx hb dX12_copy_18 rfl (lv_at hl 1 rfl) ?_
    refine lv_iload hx hb dX12_copy_19 (lv_at hl 0 rfl) ?_
    refine k_topi (show (-1000000003 : Int32) = fnd 2 by decide) ?_
    refine k_callV K X gv_X12_37 (As := [.int (fnd 2)]) (c_X12_finds l E b mf hf wf ik fd tch tp tl tk tb ta tv bad bo so (flR rn) 2 (by decide)) [0, 1, 2, 3, 4, 5, 6, 7, 8] modW_idC (by decide +kernel) (fun _ => modW_fst) 0 12 rfl rfl (by decide) rfl hl.1 (rest := []) rfl (Nat.le_of_ble_eq_true rfl) dX12_copy_21 (st1 := fun _ => [.int (fnd 2)]) (fun _ => rfl) (fun _ H locs _ X => ?_)
    have X : Wd E _ _ (modW E b mf hf wf ik (fdU fd 2) tch tp tl tk tb ta tv bad bo so (flR rn)) _ _ := X.eq modW_idP
    exact k_topi (x' := (oCopy bo so rn fd x y z v w).1) (by rw [ho]) (fin () 24 _ _ _ trivial (X.eq (by rw [ho])) dX12_copy_24)
  · refine k_topi (x' := 0) ht ?_
    have hzk := (J k hk).2
    have hzj := (J j hj).2
    refine lv_istore (lv' := [(6, .int 0), (0, .ref (b 0)), (1, .int (nI k)), (2, .int (nI a)), (3, .int (nI j)), (4, .int (nI b1)), (5, .int (nI c))]) hx hb dX12_copy_11 hl (by decide) rfl (fun ls hl => ?_)
    refine lv_iload hx hb dX12_copy_13 (lv_at hl 0 rfl) ?_
    refine k_if0eq hx hb 25 dX12_copy_15 (by decide) ?_
    have X : Wd E _ _ (modW E b mf hf wf ik fd tch tp tl tk tb ta tv bad bo so (flR (cpN rn k j a b1 c 0))) _ _ := X.eq (by rw [cp_zero])
    refine lv_iconst (v := 0) hx hb dX12_copy_25 (by decide) ?_
    refine lv_istore (lv' := [(7, .int 0), (6, .int 0), (0, .ref (b 0)), (1, .int (nI k)), (2, .int (nI a)), (3, .int (nI j)), (4, .int (nI b1)), (5, .int (nI c))]) hx hb dX12_copy_26 hl (by decide) rfl (fun ls hl => ?_)
    have lp28 : ∀ (fu : Nat) (i : Nat) (hfu : c - i < fu) (hic : i ≤ c) (ls : Array Slot) (hl : lv_has ls 9 [(7, .int (nI i)), (6, .int 0), (0, .ref (b 0)), (1, .int (nI k)), (2, .int (nI a)), (3, .int (nI j)), (4, .int (nI b1)), (5, .int (nI c))]) (H : Heap) (locs : List Loc) (X : Wd E (inW (modW E b mf hf wf ik fd tch tp tl tk tb ta tv bad bo so (flR rn))) s0.heap (modW E b mf hf wf ik fd tch tp tl tk tb ta tv bad bo so (flR (cpN rn k j a b1 c i))) H locs), W pg l ev (rmK 3 69) s0 mm ([.ref (b 0), .int (nI k), .int (nI a), .int (nI j), .int (nI b1), .int (nI c)] : List Value).toArray below meth cd H locs 0 0 Q (F0 mm 28 ls []) := by
      intro fu
      induction fu with
      | zero => intro i hfu; exact absurd hfu (Nat.not_lt_zero _)
      | succ fu ih28 =>
        intro i hfu hic ls hl H locs X
        refine lv_iload hx hb dX12_copy_28 (lv_at hl 0 rfl) ?_
        refine lv_iload hx hb dX12_copy_30 (lv_at hl 7 rfl) ?_
        refine kN_ge (x := i) (y := c) hx hb 90 dX12_copy_32 (by decide) (by omega) (by omega) (fun c32 => ?_) (fun c32 => ?_)
        · obtain hic : i = c := by omega
          refine lv_iload hx hb dX12_copy_90 (lv_at hl 7 rfl) ?_
          exact k_topi (x' := (oCopy bo so rn fd (nI k) (nI a) (nI j) (nI b1) (nI c)).1) (by rw [ho]) (fin () 92 _ _ _ trivial (X.eq (by rw [ho, ← cp_end, hic])) dX12_copy_92)
        · refine lv_iload_n hx hb dX12_copy_35 rfl (lv_at hl 4 rfl) ?_
          refine lv_iload hx hb dX12_copy_36 (lv_at hl 6 rfl) ?_
          refine kN_ge (x := a) (y := b1) hx hb 51 dX12_copy_38 (by decide) (by omega) (by omega) (fun c38 => ?_) (fun c38 => ?_)
          · refine lv_iload hx hb dX12_copy_51 (lv_at hl 0 rfl) ?_
            refine lv_istore (lv' := [(8, .int (nI i)), (7, .int (nI i)), (6, .int 0), (0, .ref (b 0)), (1, .int (nI k)), (2, .int (nI a)), (3, .int (nI j)), (4, .int (nI b1)), (5, .int (nI c))]) hx hb dX12_copy_53 hl (by decide) rfl (fun ls hl => ?_)
            refine lv_aload_n hx hb dX12_copy_55 rfl (lv_at hl 3 rfl) ?_
            refine k_get K X 0 rfl fg_X12_31 (v := .ref (b 8)) rfl dX12_copy_56 ?_
            refine lv_bipush (v := 40) hx hb dX12_copy_59 (by decide) ?_
            refine lv_iload_n hx hb dX12_copy_61 rfl (lv_at hl 6 rfl) ?_
            refine lv_imul hx hb dX12_copy_62 ?_
            refine k_topi (pk_mul 40 j) ?_
            refine lv_iload hx hb dX12_copy_63 (lv_at hl 7 rfl) ?_
            refine lv_iadd hx hb dX12_copy_65 ?_
            refine k_topi (nI_add (40 * j) b1) ?_
            refine lv_iload hx hb dX12_copy_66 (lv_at hl 0 rfl) ?_
            refine lv_iadd hx hb dX12_copy_68 ?_
            refine k_topi (nI_add (40 * j + b1) i) ?_
            refine lv_aload_n hx hb dX12_copy_69 rfl (lv_at hl 3 rfl) ?_
            refine k_get K X 0 rfl fg_X12_31 (v := .ref (b 8)) rfl dX12_copy_70 ?_
            refine lv_bipush (v := 40) hx hb dX12_copy_73 (by decide) ?_
            refine lv_iload_n hx hb dX12_copy_75 rfl (lv_at hl 4 rfl) ?_
            refine lv_imul hx hb dX12_copy_76 ?_
            refine k_topi (pk_mul 40 k) ?_
            refine lv_iload_n hx hb dX12_copy_77 rfl (lv_at hl 5 rfl) ?_
            refine lv_iadd hx hb dX12_copy_78 ?_
            refine k_topi (nI_add (40 * k) a) ?_
            refine lv_iload hx hb dX12_copy_79 (lv_at hl 0 rfl) ?_
            refine lv_iadd hx hb dX12_copy_81 ?_
            refine k_topi (nI_add (40 * k + a) i) ?_
            refine k_laldN K X 8 rfl (k := 40 * k + a + i) (by omega) (by decide) dX12_copy_82 (v := (flR (cpN rn k j a b1 c i)) (40 * k + a + i)) rfl ?_
            refine k_topl (flR_at2 (s := k) (i := a + i) (by omega) (by omega)) ?_
            refine k_lastN K X 8 rfl (k := 40 * j + b1 + i) (x := (cpN rn k j a b1 c i) k (a + i)) (by omega) (by decide) dX12_copy_83 (fun H locs X => ?_)
            have X : Wd E _ _ (modW E b mf hf wf ik fd tch tp tl tk tb ta tv bad bo so (vp_updL (flR (cpN rn k j a b1 c i)) (40 * j + b1 + i) ((cpN rn k j a b1 c i) k (a + i)))) _ _ := X
            have X : Wd E _ _ (modW E b mf hf wf ik fd tch tp tl tk tb ta tv bad bo so (flR (setRL (cpN rn k j a b1 c i) j (vp_updL ((cpN rn k j a b1 c i) j) (b1 + i) ((cpN rn k j a b1 c i) k (a + i)))))) _ _ := X.eq (by rw [flR_up2 (s := j) (i := b1 + i) (by omega) (by omega)])
            refine lv_iinc (v := nI (i + 1)) (lv' := [(7, .int (nI (i + 1))), (8, .int (nI i)), (6, .int 0), (0, .ref (b 0)), (1, .int (nI k)), (2, .int (nI a)), (3, .int (nI j)), (4, .int (nI b1)), (5, .int (nI c))]) hx hb dX12_copy_84 hl (k := 1) rfl (nI_add i 1) (by decide) rfl (fun ls hl => ?_)
            refine lv_goto (tgt := 28) hx hb dX12_copy_87 (by decide) ?_
            have X : Wd E _ _ (modW E b mf hf wf ik fd tch tp tl tk tb ta tv bad bo so (flR (cpN rn k j a b1 c (i + 1)))) _ _ := X.eq (by rw [cp_asc (by omega) (by omega)])
            exact ih28 (i + 1) (by omega) (by omega) _ (lv_sub hl [0, 2, 3, 4, 5, 6, 7, 8] rfl) _ _ X
          · refine lv_iload hx hb dX12_copy_41 (lv_at hl 7 rfl) ?_
            refine lv_iconst (v := 1) hx hb dX12_copy_43 (by decide) ?_
            refine lv_isub hx hb dX12_copy_44 ?_
            refine k_topi (x' := nI (c - 1)) (pk_sub (a := c) (b := 1) (by omega)) ?_
            refine lv_iload hx hb dX12_copy_45 (lv_at hl 0 rfl) ?_
            refine lv_isub hx hb dX12_copy_47 ?_
            refine k_topi (x' := nI (c - 1 - i)) (pk_sub (a := c - 1) (b := i) (by omega)) ?_
            refine lv_goto (tgt := 53) hx hb dX12_copy_48 (by decide) ?_
            refine lv_istore (lv' := [(8, .int (nI (c - 1 - i))), (7, .int (nI i)), (6, .int 0), (0, .ref (b 0)), (1, .int (nI k)), (2, .int (nI a)), (3, .int (nI j)), (4, .int (nI b1)), (5, .int (nI c))]) hx hb dX12_copy_53 hl (by decide) rfl (fun ls hl => ?_)
            refine lv_aload_n hx hb dX12_copy_55 rfl (lv_at hl 3 rfl) ?_
            refine k_get K X 0 rfl fg_X12_31 (v := .ref (b 8)) rfl dX12_copy_56 ?_
            refine lv_bipush (v := 40) hx hb dX12_copy_59 (by decide) ?_
            refine lv_iload_n hx hb dX12_copy_61 rfl (lv_at hl 6 rfl) ?_
            refine lv_imul hx hb dX12_copy_62 ?_
            refine k_topi (pk_mul 40 j) ?_
            refine lv_iload hx hb dX12_copy_63 (lv_at hl 7 rfl) ?_
            refine lv_iadd hx hb dX12_copy_65 ?_
            refine k_topi (nI_add (40 * j) b1) ?_
            refine lv_iload hx hb dX12_copy_66 (lv_at hl 0 rfl) ?_
            refine lv_iadd hx hb dX12_copy_68 ?_
            refine k_topi (nI_add (40 * j + b1) (c - 1 - i)) ?_
            refine lv_aload_n hx hb dX12_copy_69 rfl (lv_at hl 3 rfl) ?_
            refine k_get K X 0 rfl fg_X12_31 (v := .ref (b 8)) rfl dX12_copy_70 ?_
            refine lv_bipush (v := 40) hx hb dX12_copy_73 (by decide) ?_
            refine lv_iload_n hx hb dX12_copy_75 rfl (lv_at hl 4 rfl) ?_
            refine lv_imul hx hb dX12_copy_76 ?_
            refine k_topi (pk_mul 40 k) ?_
            refine lv_iload_n hx hb dX12_copy_77 rfl (lv_at hl 5 rfl) ?_
            refine lv_iadd hx hb dX12_copy_78 ?_
            refine k_topi (nI_add (40 * k) a) ?_
            refine lv_iload hx hb dX12_copy_79 (lv_at hl 0 rfl) ?_
            refine lv_iadd hx hb dX12_copy_81 ?_
            refine k_topi (nI_add (40 * k + a) (c - 1 - i)) ?_
            refine k_laldN K X 8 rfl (k := 40 * k + a + (c - 1 - i)) (by omega) (by decide) dX12_copy_82 (v := (flR (cpN rn k j a b1 c i)) (40 * k + a + (c - 1 - i))) rfl ?_
            refine k_topl (flR_at2 (s := k) (i := a + (c - 1 - i)) (by omega) (by omega)) ?_
            refine k_lastN K X 8 rfl (k := 40 * j + b1 + (c - 1 - i)) (x := (cpN rn k j a b1 c i) k (a + (c - 1 - i))) (by omega) (by decide) dX12_copy_83 (fun H locs X => ?_)
            have X : Wd E _ _ (modW E b mf hf wf ik fd tch tp tl tk tb ta tv bad bo so (vp_updL (flR (cpN rn k j a b1 c i)) (40 * j + b1 + (c - 1 - i)) ((cpN rn k j a b1 c i) k (a + (c - 1 - i))))) _ _ := X
            have X : Wd E _ _ (modW E b mf hf wf ik fd tch tp tl tk tb ta tv bad bo so (flR (setRL (cpN rn k j a b1 c i) j (vp_updL ((cpN rn k j a b1 c i) j) (b1 + (c - 1 - i)) ((cpN rn k j a b1 c i) k (a + (c - 1 - i))))))) _ _ := X.eq (by rw [flR_up2 (s := j) (i := b1 + (c - 1 - i)) (by omega) (by omega)])
            refine lv_iinc (v := nI (i + 1)) (lv' := [(7, .int (nI (i + 1))), (8, .int (nI (c - 1 - i))), (6, .int 0), (0, .ref (b 0)), (1, .int (nI k)), (2, .int (nI a)), (3, .int (nI j)), (4, .int (nI b1)), (5, .int (nI c))]) hx hb dX12_copy_84 hl (k := 1) rfl (nI_add i 1) (by decide) rfl (fun ls hl => ?_)
            refine lv_goto (tgt := 28) hx hb dX12_copy_87 (by decide) ?_
            have X : Wd E _ _ (modW E b mf hf wf ik fd tch tp tl tk tb ta tv bad bo so (flR (cpN rn k j a b1 c (i + 1)))) _ _ := X.eq (by rw [cp_desc (by omega) (by omega)])
            exact ih28 (i + 1) (by omega) (by omega) _ (lv_sub hl [0, 2, 3, 4, 5, 6, 7, 8] rfl) _ _ X
    exact lp28 ((c - 0) + 1) 0 (by omega) (by omega) _ hl _ _ X
set_option maxRecDepth 100000 in
set_option maxHeartbeats 4000000 in
theorem c_X12_lays (l : Launch) (E : EE) (b : Nat → Nat) (hf : Nat → Int32) (wf : Nat → Int32) (ik : Int32) (fd : Nat → Int32) (tch : Int32) (tp : Nat → Int32) (tl : Int32) (tk : Int32) (tb : Int32) (ta : Int32) (tv : Int32) (bad : Int32) (bo : Nat → Int32) (so : Nat → Int32) (f : St) (T : Nat) (rn : Nat → Nat → Int64) (x : Int32) (y : Int32) (I : Inv T f) (J : InvS so) : Kd l yX12_lays cX12_lays 6 (some .int) 3 64 E (modW E b (flat f) hf wf ik fd tch tp tl tk tb ta tv bad bo so (flR rn)) [.ref (b 0), .int x, .int y] (some (.int ((oLays bo so rn f fd x y).1))) (modW E b (flat ((oLays bo so rn f fd x y).2.1)) hf wf ik ((oLays bo so rn f fd x y).2.2) tch tp tl tk tb ta tv bad bo so (flR rn)) := by
  refine Kn.ofWi (by decide +kernel) (Nat.le_of_ble_eq_true rfl) (fun _ _ => rfl) ?_
  intro pg ev s0 mm below meth cd Q K X fin ls hl
  have hx := K.1
  have hb := K.2.1
  have hs10 := I.s10
  have hp6 := I.p6
  have hl : lv_has ls 6 [(0, .ref (b 0)), (1, .int x), (2, .int y)] := hl
  refine lv_aload_n hx hb dX12_lays_0 rfl (lv_at hl 0 rfl) ?_
  refine lv_iload_n hx hb dX12_lays_1 rfl (lv_at hl 1 rfl) ?_
  refine k_callV K X gv_X12_216 (As := [.int x]) (c_X12_notThere l E b (flat f) hf wf ik fd tch tp tl tk tb ta tv bad bo so (flR rn) x) [0, 1, 2, 3, 4, 5, 6, 7, 8] modW_idC (by decide +kernel) (fun _ => modW_fst) 0 12 rfl rfl (by decide) rfl hl.1 (rest := []) rfl (Nat.le_of_ble_eq_true rfl) dX12_lays_2 (st1 := fun _ => [.int (notT bo x)]) (fun _ => rfl) (fun _ H locs _ X => ?_)
  have X : Wd E _ _ (modW E b (flat f) hf wf ik fd tch tp tl tk tb ta tv bad bo so (flR rn)) _ _ := X.eq modW_idP
  rcases notT_cases bo x with ⟨hx0, ht⟩ | ⟨k, hk, rfl, hx0, ek, hb0, ht⟩ | ⟨k, hk, rfl, hx0, ek, hb0, ht⟩
  · refine k_topi (x' := -1000000001) ht ?_
    refine lv_istore_n (lv' := [(3, .int (-1000000001)), (0, .ref (b 0)), (1, .int x), (2, .int y)]) hx hb dX12_lays_5 rfl hl (by decide) rfl (fun ls hl => ?_)
    refine lv_iload_n hx hb dX12_lays_6 rfl (lv_at hl 0 rfl) ?_
    refine k_if_ne hx hb 23 dX12_lays_7 (by decide) (fun _ => ?_) (fun h => absurd h (by decide))
    refine lv_iload_n hx hb dX12_lays_23 rfl (lv_at hl 0 rfl) ?_
    refine lv_istore_n (lv' := [(3, .int (-1000000001)), (0, .ref (b 0)), (1, .int x), (2, .int y)]) hx hb dX12_lays_24 rfl hl (by decide) rfl (fun ls hl => ?_)
    refine lv_iload_n hx hb dX12_lays_25 rfl (lv_at hl 0 rfl) ?_
    refine k_if_eq hx hb 35 dX12_lays_26 (by decide) (fun h => absurd h (by decide)) (fun _ => ?_)
    refine lv_aload_n hx hb dX12_lays_29 rfl (lv_at hl 1 rfl) ?_
    refine lv_iload_n hx hb dX12_lays_30 rfl (lv_at hl 0 rfl) ?_
    refine k_topi (show (-1000000001 : Int32) = fnd 0 by decide) ?_
    refine k_callV K X gv_X12_37 (As := [.int (fnd 0)]) (c_X12_finds l E b (flat f) hf wf ik fd tch tp tl tk tb ta tv bad bo so (flR rn) 0 (by decide)) [0, 1, 2, 3, 4, 5, 6, 7, 8] modW_idC (by decide +kernel) (fun _ => modW_fst) 0 12 rfl rfl (by decide) rfl hl.1 (rest := []) rfl (Nat.le_of_ble_eq_true rfl) dX12_lays_31 (st1 := fun _ => [.int (fnd 0)]) (fun _ => rfl) (fun _ H locs _ X => ?_)
    have X : Wd E _ _ (modW E b (flat f) hf wf ik (fdU fd 0) tch tp tl tk tb ta tv bad bo so (flR rn)) _ _ := X.eq modW_idP
    exact k_topi (x' := (oLays bo so rn f fd x y).1) (by simp [oLays, bad3, hx0]) (fin () 34 _ _ _ trivial (X.eq (by simp [oLays, bad3, hx0])) dX12_lays_34)
  · refine k_topi (x' := -1000000006) ht ?_
    refine lv_istore_n (lv' := [(3, .int (-1000000006)), (0, .ref (b 0)), (1, .int (nI k)), (2, .int y)]) hx hb dX12_lays_5 rfl hl (by decide) rfl (fun ls hl => ?_)
    refine lv_iload_n hx hb dX12_lays_6 rfl (lv_at hl 0 rfl) ?_
    refine k_if_ne hx hb 23 dX12_lays_7 (by decide) (fun _ => ?_) (fun h => absurd h (by decide))
    refine lv_iload_n hx hb dX12_lays_23 rfl (lv_at hl 0 rfl) ?_
    refine lv_istore_n (lv' := [(3, .int (-1000000006)), (0, .ref (b 0)), (1, .int (nI k)), (2, .int y)]) hx hb dX12_lays_24 rfl hl (by decide) rfl (fun ls hl => ?_)
    refine lv_iload_n hx hb dX12_lays_25 rfl (lv_at hl 0 rfl) ?_
    refine k_if_eq hx hb 35 dX12_lays_26 (by decide) (fun h => absurd h (by decide)) (fun _ => ?_)
    refine lv_aload_n hx hb dX12_lays_29 rfl (lv_at hl 1 rfl) ?_
    refine lv_iload_n hx hb dX12_lays_30 rfl (lv_at hl 0 rfl) ?_
    refine k_topi (show (-1000000006 : Int32) = fnd 5 by decide) ?_
    refine k_callV K X gv_X12_37 (As := [.int (fnd 5)]) (c_X12_finds l E b (flat f) hf wf ik fd tch tp tl tk tb ta tv bad bo so (flR rn) 5 (by decide)) [0, 1, 2, 3, 4, 5, 6, 7, 8] modW_idC (by decide +kernel) (fun _ => modW_fst) 0 12 rfl rfl (by decide) rfl hl.1 (rest := []) rfl (Nat.le_of_ble_eq_true rfl) dX12_lays_31 (st1 := fun _ => [.int (fnd 5)]) (fun _ => rfl) (fun _ H locs _ X => ?_)
    have X : Wd E _ _ (modW E b (flat f) hf wf ik (fdU fd 5) tch tp tl tk tb ta tv bad bo so (flR rn)) _ _ := X.eq modW_idP
    exact k_topi (x' := (oLays bo so rn f fd (nI k) y).1) (by simp [oLays, bad3, hx0, ek, hb0]) (fin () 34 _ _ _ trivial (X.eq (by simp [oLays, bad3, hx0, ek, hb0])) dX12_lays_34)
  · refine k_topi (x' := 0) ht ?_
    have hz := (J k hk).2
    refine lv_istore_n (lv' := [(3, .int 0), (0, .ref (b 0)), (1, .int (nI k)), (2, .int y)]) hx hb dX12_lays_5 rfl hl (by decide) rfl (fun ls hl => ?_)
    refine lv_iload_n hx hb dX12_lays_6 rfl (lv_at hl 0 rfl) ?_
    refine k_if0ne hx hb dX12_lays_7 ⟨23, by decide⟩ ?_
    refine lv_aload_n hx hb dX12_lays_10 rfl (lv_at hl 1 rfl) ?_
    refine lv_iload_n hx hb dX12_lays_11 rfl (lv_at hl 3 rfl) ?_
    refine k_callV K X gv_X12_100 (As := [.int y]) (c_X12_isPerson l E b hf wf ik fd tch tp tl tk tb ta tv bad bo so (flR rn) f y) [0, 1, 2, 3, 4, 5, 6, 7, 8] modW_idC (by decide +kernel) (fun _ => modW_fst) 0 12 rfl rfl (by decide) rfl hl.1 (rest := []) rfl (Nat.le_of_ble_eq_true rfl) dX12_lays_12 (st1 := fun _ => [.int (b2i (inR y 0 (f 0 3 - 1)))]) (fun _ => rfl) (fun _ H locs _ X => ?_)
    have X : Wd E _ _ (modW E b (flat f) hf wf ik fd tch tp tl tk tb ta tv bad bo so (flR rn)) _ _ := X.eq modW_idP
    refine k_ifneB (B := (inR y 0 (f 0 3 - 1))) hx hb 23 dX12_lays_15 (by decide) (fun c15 => ?_) (fun c15 => ?_)
    · have hy0 : isP f y = true := c15
      obtain ⟨p, hp, rfl⟩ := isP_nat I hy0
      have ep : (nI p).toNatClampNeg = p := nI_clamp (by omega)
      refine lv_iload_n hx hb dX12_lays_23 rfl (lv_at hl 0 rfl) ?_
      refine lv_istore_n (lv' := [(3, .int 0), (0, .ref (b 0)), (1, .int (nI k)), (2, .int (nI p))]) hx hb dX12_lays_24 rfl hl (by decide) rfl (fun ls hl => ?_)
      refine lv_iload_n hx hb dX12_lays_25 rfl (lv_at hl 0 rfl) ?_
      refine k_if0eq hx hb 35 dX12_lays_26 (by decide) ?_
      refine lv_iconst (v := 0) hx hb dX12_lays_35 (by decide) ?_
      refine lv_istore (lv' := [(4, .int 0), (3, .int 0), (0, .ref (b 0)), (1, .int (nI k)), (2, .int (nI p))]) hx hb dX12_lays_36 hl (by decide) rfl (fun ls hl => ?_)
      refine lv_iconst (v := 0) hx hb dX12_lays_38 (by decide) ?_
      refine lv_istore (lv' := [(5, .int 0), (4, .int 0), (3, .int 0), (0, .ref (b 0)), (1, .int (nI k)), (2, .int (nI p))]) hx hb dX12_lays_39 hl (by decide) rfl (fun ls hl => ?_)
      have lp41 : ∀ (fu : Nat) (i : Nat) (m : Nat) (w : Nat) (f3 : St) (hfu : m < fu) (hin : i + m = min (zR so k) 10) (hR : laL (rn k) p m i w f3 = laL (rn k) p (min (zR so k) 10) 0 0 f) (ls : Array Slot) (hl : lv_has ls 6 [(5, .int (nI i)), (4, .int (nI w)), (3, .int 0), (0, .ref (b 0)), (1, .int (nI k)), (2, .int (nI p))]) (H : Heap) (locs : List Loc) (X : Wd E (inW (modW E b (flat f) hf wf ik fd tch tp tl tk tb ta tv bad bo so (flR rn))) s0.heap (modW E b (flat f3) hf wf ik fd tch tp tl tk tb ta tv bad bo so (flR rn)) H locs), W pg l ev (rmK 3 64) s0 mm ([.ref (b 0), .int (nI k), .int (nI p)] : List Value).toArray below meth cd H locs 0 0 Q (F0 mm 41 ls []) := by
        intro fu
        induction fu with
        | zero => intro i m w f3 hfu; exact absurd hfu (Nat.not_lt_zero _)
        | succ fu ih41 =>
          intro i m w f3 hfu hin hR ls hl H locs X
          refine lv_iload hx hb dX12_lays_41 (lv_at hl 0 rfl) ?_
          refine lv_aload_n hx hb dX12_lays_43 rfl (lv_at hl 3 rfl) ?_
          refine k_get K X 0 rfl fg_X12_28 (v := .ref (b 7)) rfl dX12_lays_44 ?_
          refine lv_iload_n hx hb dX12_lays_47 rfl (lv_at hl 4 rfl) ?_
          refine k_ialdN K X 7 rfl (k := k) (by omega) (by decide) dX12_lays_48 (v := so k) rfl ?_
          refine k_topi ((J k hk).1) ?_
          refine kN_ge (x := i) (y := zR so k) hx hb 118 dX12_lays_49 (by decide) (by omega) (by omega) (fun c49 => ?_) (fun c49 => ?_)
          · obtain rfl : m = 0 := by omega
            refine lv_iload hx hb dX12_lays_118 (lv_at hl 1 rfl) ?_
            exact k_topi (x' := (oLays bo so rn f fd (nI k) (nI p)).1) (by rw [oLays, hx0, cond_true, ek, hb0, cond_false, hy0, cond_true, ep, ← hR]; rfl) (fin () 120 _ _ _ trivial (X.eq (by rw [oLays, hx0, cond_true, ek, hb0, cond_false, hy0, cond_true, ep, ← hR]; rfl)) dX12_lays_120)
          · refine lv_iload hx hb dX12_lays_52 (lv_at hl 0 rfl) ?_
            refine lv_bipush (v := 10) hx hb dX12_lays_54 (by decide) ?_
            refine kN_ge (x := i) (y := 10) hx hb 118 dX12_lays_56 (by decide) (by omega) (by omega) (fun c56 => ?_) (fun c56 => ?_)
            · obtain rfl : m = 0 := by omega
              refine lv_iload hx hb dX12_lays_118 (lv_at hl 1 rfl) ?_
              exact k_topi (x' := (oLays bo so rn f fd (nI k) (nI p)).1) (by rw [oLays, hx0, cond_true, ek, hb0, cond_false, hy0, cond_true, ep, ← hR]; rfl) (fin () 120 _ _ _ trivial (X.eq (by rw [oLays, hx0, cond_true, ek, hb0, cond_false, hy0, cond_true, ep, ← hR]; rfl)) dX12_lays_120)
            · obtain ⟨m, rfl⟩ : ∃ z, m = z + 1 := ⟨m - 1, by omega⟩
              refine lv_aload_n hx hb dX12_lays_59 rfl (lv_at hl 3 rfl) ?_
              refine k_get K X 0 rfl fg_X12_31 (v := .ref (b 8)) rfl dX12_lays_60 ?_
              refine lv_bipush (v := 40) hx hb dX12_lays_63 (by decide) ?_
              refine lv_iload_n hx hb dX12_lays_65 rfl (lv_at hl 4 rfl) ?_
              refine lv_imul hx hb dX12_lays_66 ?_
              refine k_topi (pk_mul 40 k) ?_
              refine lv_iload hx hb dX12_lays_67 (lv_at hl 0 rfl) ?_
              refine lv_iadd hx hb dX12_lays_69 ?_
              refine k_topi (nI_add (40 * k) i) ?_
              refine k_laldN K X 8 rfl (k := 40 * k + i) (by omega) (by decide) dX12_lays_70 (v := (flR rn) (40 * k + i)) rfl ?_
              refine k_topl (flR_at2 (s := k) (i := i) (by omega) (by omega)) ?_
              refine lv_iconst (v := 0) hx hb dX12_lays_71 (by decide) ?_
              refine lv_iconst (v := 5) hx hb dX12_lays_72 (by decide) ?_
              refine k_callS K X gs_X12_41 (As := [.long (rn k i), .int 0, .int 5]) (c_X12_inL l E (rn k i) 0 5) [] rfl (by decide +kernel) (fun _ => rfl) (by decide) rfl hl.1 (rest := []) rfl (Nat.le_of_ble_eq_true rfl) dX12_lays_73 (st1 := fun _ => [.int (b2i (inRL (rn k i) 0 5))]) (fun _ => rfl) (fun _ H locs _ X => ?_)
              have X : Wd E _ _ (modW E b (flat f3) hf wf ik fd tch tp tl tk tb ta tv bad bo so (flR rn)) _ _ := X
              refine k_ifeqB (B := (inRL (rn k i) 0 5)) hx hb 112 dX12_lays_76 (by decide) (fun c76 => ?_) (fun c76 => ?_)
              · refine lv_iinc (v := nI (i + 1)) (lv' := [(5, .int (nI (i + 1))), (4, .int (nI w)), (3, .int 0), (0, .ref (b 0)), (1, .int (nI k)), (2, .int (nI p))]) hx hb dX12_lays_112 hl (k := 0) rfl (nI_add i 1) (by decide) rfl (fun ls hl => ?_)
                refine lv_goto (tgt := 41) hx hb dX12_lays_115 (by decide) ?_
                exact ih41 (i + 1) m w f3 (by omega) (by omega) (by rw [← hR, laL, ← inRL_G, c76]; rfl) _ hl _ _ X
              · refine lv_aload_n hx hb dX12_lays_79 rfl (lv_at hl 3 rfl) ?_
                refine k_get K X 0 rfl fg_X12_9 (v := .ref (b 1)) rfl dX12_lays_80 ?_
                refine lv_bipush (v := 34) hx hb dX12_lays_83 (by decide) ?_
                refine lv_bipush (v := 12) hx hb dX12_lays_85 (by decide) ?_
                refine lv_iload_n hx hb dX12_lays_87 rfl (lv_at hl 5 rfl) ?_
                refine lv_imul hx hb dX12_lays_88 ?_
                refine k_topi (pk_mul 12 p) ?_
                refine lv_iadd hx hb dX12_lays_89 ?_
                refine k_topi (nI_add 34 (12 * p)) ?_
                refine lv_iconst (v := 2) hx hb dX12_lays_90 (by decide) ?_
                refine lv_iadd hx hb dX12_lays_91 ?_
                refine k_topi (nI_add (34 + 12 * p) 2) ?_
                refine lv_iload hx hb dX12_lays_92 (lv_at hl 0 rfl) ?_
                refine lv_iadd hx hb dX12_lays_94 ?_
                refine k_topi (nI_add (34 + 12 * p + 2) i) ?_
                refine lv_aload_n hx hb dX12_lays_95 rfl (lv_at hl 3 rfl) ?_
                refine k_get K X 0 rfl fg_X12_31 (v := .ref (b 8)) rfl dX12_lays_96 ?_
                refine lv_bipush (v := 40) hx hb dX12_lays_99 (by decide) ?_
                refine lv_iload_n hx hb dX12_lays_101 rfl (lv_at hl 4 rfl) ?_
                refine lv_imul hx hb dX12_lays_102 ?_
                refine k_topi (pk_mul 40 k) ?_
                refine lv_iload hx hb dX12_lays_103 (lv_at hl 0 rfl) ?_
                refine lv_iadd hx hb dX12_lays_105 ?_
                refine k_topi (nI_add (40 * k) i) ?_
                refine k_laldN K X 8 rfl (k := 40 * k + i) (by omega) (by decide) dX12_lays_106 (v := (flR rn) (40 * k + i)) rfl ?_
                refine k_topl (flR_at2 (s := k) (i := i) (by omega) (by omega)) ?_
                refine lv_l2i (v := (rn k i).toInt32) hx hb dX12_lays_107 rfl ?_
                refine k_iastN K X 1 rfl (k := 34 + 12 * p + 2 + i) (x := (rn k i).toInt32) (by omega) (by decide) dX12_lays_108 (fun H locs X => ?_)
                have X : Wd E _ _ (modW E b (upd (flat f3) (34 + 12 * p + 2 + i) ((rn k i).toInt32)) hf wf ik fd tch tp tl tk tb ta tv bad bo so (flR rn)) _ _ := X
                have X : Wd E _ _ (modW E b (flat (up2 f3 6 (10 * p + i) ((rn k i).toInt32))) hf wf ik fd tch tp tl tk tb ta tv bad bo so (flR rn)) _ _ := X.eq (by rw [flat_wish _ _ (by omega)])
                refine lv_iinc (v := nI (w + 1)) (lv' := [(4, .int (nI (w + 1))), (5, .int (nI i)), (3, .int 0), (0, .ref (b 0)), (1, .int (nI k)), (2, .int (nI p))]) hx hb dX12_lays_109 hl (k := 1) rfl (nI_add w 1) (by decide) rfl (fun ls hl => ?_)
                refine lv_iinc (v := nI (i + 1)) (lv' := [(5, .int (nI (i + 1))), (4, .int (nI (w + 1))), (3, .int 0), (0, .ref (b 0)), (1, .int (nI k)), (2, .int (nI p))]) hx hb dX12_lays_112 hl (k := 1) rfl (nI_add i 1) (by decide) rfl (fun ls hl => ?_)
                refine lv_goto (tgt := 41) hx hb dX12_lays_115 (by decide) ?_
                exact ih41 (i + 1) m (w + 1) (up2 f3 6 (10 * p + i) ((rn k i).toInt32)) (by omega) (by omega) (by rw [← hR, laL, ← inRL_G, c76]; rfl) _ hl _ _ X
      exact lp41 ((min (zR so k) 10) + 1) 0 (min (zR so k) 10) 0 f (by omega) (by omega) (rfl) _ hl _ _ X
    · have hy0 : isP f y = false := c15
      refine lv_ldc (v := (-1000000001)) hx hb K.2.2.2.1 (K.2.2.2.2.1 _ (Mw_at 905 (by decide +kernel) (by decide +kernel))) dX12_lays_18 ?_
      refine lv_goto (tgt := 24) hx hb dX12_lays_20 (by decide) ?_
      refine lv_istore_n (lv' := [(3, .int (-1000000001)), (0, .ref (b 0)), (1, .int (nI k)), (2, .int y)]) hx hb dX12_lays_24 rfl hl (by decide) rfl (fun ls hl => ?_)
      refine lv_iload_n hx hb dX12_lays_25 rfl (lv_at hl 0 rfl) ?_
      refine k_if_eq hx hb 35 dX12_lays_26 (by decide) (fun h => absurd h (by decide)) (fun _ => ?_)
      refine lv_aload_n hx hb dX12_lays_29 rfl (lv_at hl 1 rfl) ?_
      refine lv_iload_n hx hb dX12_lays_30 rfl (lv_at hl 0 rfl) ?_
      refine k_topi (show (-1000000001 : Int32) = fnd 0 by decide) ?_
      refine k_callV K X gv_X12_37 (As := [.int (fnd 0)]) (c_X12_finds l E b (flat f) hf wf ik fd tch tp tl tk tb ta tv bad bo so (flR rn) 0 (by decide)) [0, 1, 2, 3, 4, 5, 6, 7, 8] modW_idC (by decide +kernel) (fun _ => modW_fst) 0 12 rfl rfl (by decide) rfl hl.1 (rest := []) rfl (Nat.le_of_ble_eq_true rfl) dX12_lays_31 (st1 := fun _ => [.int (fnd 0)]) (fun _ => rfl) (fun _ H locs _ X => ?_)
      have X : Wd E _ _ (modW E b (flat f) hf wf ik (fdU fd 0) tch tp tl tk tb ta tv bad bo so (flR rn)) _ _ := X.eq modW_idP
      exact k_topi (x' := (oLays bo so rn f fd (nI k) y).1) (by simp [oLays, bad3, hx0, ek, hb0, hy0]) (fin () 34 _ _ _ trivial (X.eq (by simp [oLays, bad3, hx0, ek, hb0, hy0])) dX12_lays_34)
set_option maxRecDepth 100000 in
set_option maxHeartbeats 4000000 in
theorem c_X12_book (l : Launch) (E : EE) (b : Nat → Nat) (hf : Nat → Int32) (wf : Nat → Int32) (ik : Int32) (fd : Nat → Int32) (tch : Int32) (tp : Nat → Int32) (tl : Int32) (tk : Int32) (tb : Int32) (ta : Int32) (tv : Int32) (bad : Int32) (bo : Nat → Int32) (so : Nat → Int32) (f : St) (T : Nat) (rn : Nat → Nat → Int64) (x : Int32) (y : Int32) (I : Inv T f) (J : InvS so) (hT : T < 999000) : Kn l yX12_book cX12_book 5 (some .int) 5 115 E (modW E b (flat f) hf wf ik fd tch tp tl tk tb ta tv bad bo so (flR rn)) [.ref (b 0), .int x, .int y] (S := (Nat → Int32) × Int32) (fun _ => True) (fun _ => (some (.int ((oBook bo so rn f fd x y).1)))) (fun u => (modW E b (flat f) hf u.1 ik ((oBook bo so rn f fd x y).2.2) u.2 tp tl tk tb ta tv bad bo so (flR ((oBook bo so rn f fd x y).2.1)))) := by
  refine Kn.ofWi (by decide +kernel) (Nat.le_of_ble_eq_true rfl) (fun _ _ => rfl) ?_
  intro pg ev s0 mm below meth cd Q K X fin ls hl
  have hx := K.1
  have hb := K.2.1
  have hs10 := I.s10
  have hp6 := I.p6
  have hl : lv_has ls 5 [(0, .ref (b 0)), (1, .int x), (2, .int y)] := hl
  refine lv_aload_n hx hb dX12_book_0 rfl (lv_at hl 0 rfl) ?_
  refine lv_iload_n hx hb dX12_book_1 rfl (lv_at hl 1 rfl) ?_
  refine k_callV K X gv_X12_216 (As := [.int x]) (c_X12_notThere l E b (flat f) hf wf ik fd tch tp tl tk tb ta tv bad bo so (flR rn) x) [0, 1, 2, 3, 4, 5, 6, 7, 8] modW_idC (by decide +kernel) (fun _ => modW_fst) 0 12 rfl rfl (by decide) rfl hl.1 (rest := []) rfl (Nat.le_of_ble_eq_true rfl) dX12_book_2 (st1 := fun _ => [.int (notT bo x)]) (fun _ => rfl) (fun _ H locs _ X => ?_)
  have X : Wd E _ _ (modW E b (flat f) hf wf ik fd tch tp tl tk tb ta tv bad bo so (flR rn)) _ _ := X.eq modW_idP
  rcases notT_cases bo x with ⟨hx0, ht⟩ | ⟨k, hk, rfl, hx0, ek, hb0, ht⟩ | ⟨k, hk, rfl, hx0, ek, hb0, ht⟩
  · refine k_topi (x' := -1000000001) ht ?_
    refine lv_istore_n (lv' := [(3, .int (-1000000001)), (0, .ref (b 0)), (1, .int x), (2, .int y)]) hx hb dX12_book_5 rfl hl (by decide) rfl (fun ls hl => ?_)
    refine lv_iload_n hx hb dX12_book_6 rfl (lv_at hl 0 rfl) ?_
    refine k_if_ne hx hb 23 dX12_book_7 (by decide) (fun _ => ?_) (fun h => absurd h (by decide))
    refine lv_iload_n hx hb dX12_book_23 rfl (lv_at hl 0 rfl) ?_
    refine lv_istore_n (lv' := [(3, .int (-1000000001)), (0, .ref (b 0)), (1, .int x), (2, .int y)]) hx hb dX12_book_24 rfl hl (by decide) rfl (fun ls hl => ?_)
    refine lv_iload_n hx hb dX12_book_25 rfl (lv_at hl 0 rfl) ?_
    refine k_if_eq hx hb 35 dX12_book_26 (by decide) (fun h => absurd h (by decide)) (fun _ => ?_)
    refine lv_aload_n hx hb dX12_book_29 rfl (lv_at hl 1 rfl) ?_
    refine lv_iload_n hx hb dX12_book_30 rfl (lv_at hl 0 rfl) ?_
    refine k_topi (show (-1000000001 : Int32) = fnd 0 by decide) ?_
    refine k_callV K X gv_X12_37 (As := [.int (fnd 0)]) (c_X12_finds l E b (flat f) hf wf ik fd tch tp tl tk tb ta tv bad bo so (flR rn) 0 (by decide)) [0, 1, 2, 3, 4, 5, 6, 7, 8] modW_idC (by decide +kernel) (fun _ => modW_fst) 0 12 rfl rfl (by decide) rfl hl.1 (rest := []) rfl (Nat.le_of_ble_eq_true rfl) dX12_book_31 (st1 := fun _ => [.int (fnd 0)]) (fun _ => rfl) (fun _ H locs _ X => ?_)
    have X : Wd E _ _ (modW E b (flat f) hf wf ik (fdU fd 0) tch tp tl tk tb ta tv bad bo so (flR rn)) _ _ := X.eq modW_idP
    exact k_topi (x' := (oBook bo so rn f fd x y).1) (by simp [oBook, hx0]) (fin (wf, tch) 34 _ _ _ trivial (X.eq (by simp [oBook, hx0])) dX12_book_34)
  · refine k_topi (x' := -1000000006) ht ?_
    refine lv_istore_n (lv' := [(3, .int (-1000000006)), (0, .ref (b 0)), (1, .int (nI k)), (2, .int y)]) hx hb dX12_book_5 rfl hl (by decide) rfl (fun ls hl => ?_)
    refine lv_iload_n hx hb dX12_book_6 rfl (lv_at hl 0 rfl) ?_
    refine k_if_ne hx hb 23 dX12_book_7 (by decide) (fun _ => ?_) (fun h => absurd h (by decide))
    refine lv_iload_n hx hb dX12_book_23 rfl (lv_at hl 0 rfl) ?_
    refine lv_istore_n (lv' := [(3, .int (-1000000006)), (0, .ref (b 0)), (1, .int (nI k)), (2, .int y)]) hx hb dX12_book_24 rfl hl (by decide) rfl (fun ls hl => ?_)
    refine lv_iload_n hx hb dX12_book_25 rfl (lv_at hl 0 rfl) ?_
    refine k_if_eq hx hb 35 dX12_book_26 (by decide) (fun h => absurd h (by decide)) (fun _ => ?_)
    refine lv_aload_n hx hb dX12_book_29 rfl (lv_at hl 1 rfl) ?_
    refine lv_iload_n hx hb dX12_book_30 rfl (lv_at hl 0 rfl) ?_
    refine k_topi (show (-1000000006 : Int32) = fnd 5 by decide) ?_
    refine k_callV K X gv_X12_37 (As := [.int (fnd 5)]) (c_X12_finds l E b (flat f) hf wf ik fd tch tp tl tk tb ta tv bad bo so (flR rn) 5 (by decide)) [0, 1, 2, 3, 4, 5, 6, 7, 8] modW_idC (by decide +kernel) (fun _ => modW_fst) 0 12 rfl rfl (by decide) rfl hl.1 (rest := []) rfl (Nat.le_of_ble_eq_true rfl) dX12_book_31 (st1 := fun _ => [.int (fnd 5)]) (fun _ => rfl) (fun _ H locs _ X => ?_)
    have X : Wd E _ _ (modW E b (flat f) hf wf ik (fdU fd 5) tch tp tl tk tb ta tv bad bo so (flR rn)) _ _ := X.eq modW_idP
    exact k_topi (x' := (oBook bo so rn f fd (nI k) y).1) (by simp [oBook, hx0, ek, hb0]) (fin (wf, tch) 34 _ _ _ trivial (X.eq (by simp [oBook, hx0, ek, hb0])) dX12_book_34)
  · refine k_topi (x' := 0) ht ?_
    have hz := (J k hk).2
    refine lv_istore_n (lv' := [(3, .int 0), (0, .ref (b 0)), (1, .int (nI k)), (2, .int y)]) hx hb dX12_book_5 rfl hl (by decide) rfl (fun ls hl => ?_)
    refine lv_iload_n hx hb dX12_book_6 rfl (lv_at hl 0 rfl) ?_
    refine k_if0ne hx hb dX12_book_7 ⟨23, by decide⟩ ?_
    refine lv_aload_n hx hb dX12_book_10 rfl (lv_at hl 1 rfl) ?_
    refine lv_iload_n hx hb dX12_book_11 rfl (lv_at hl 3 rfl) ?_
    refine k_callV K X gv_X12_74 (As := [.int y]) (c_X12_isSlip l E b hf wf ik fd tch tp tl tk tb ta tv bad bo so (flR rn) f y) [0, 1, 2, 3, 4, 5, 6, 7, 8] modW_idC (by decide +kernel) (fun _ => modW_fst) 0 12 rfl rfl (by decide) rfl hl.1 (rest := []) rfl (Nat.le_of_ble_eq_true rfl) dX12_book_12 (st1 := fun _ => [.int (b2i (inR y 0 (f 0 2 - 1)))]) (fun _ => rfl) (fun _ H locs _ X => ?_)
    have X : Wd E _ _ (modW E b (flat f) hf wf ik fd tch tp tl tk tb ta tv bad bo so (flR rn)) _ _ := X.eq modW_idP
    refine k_ifneB (B := (inR y 0 (f 0 2 - 1))) hx hb 23 dX12_book_15 (by decide) (fun c15 => ?_) (fun c15 => ?_)
    · have hy0 : isS f y = true := c15
      obtain ⟨q, hq, rfl⟩ := isS_nat I hy0
      have eq : (nI q).toNatClampNeg = q := nI_clamp (by omega)
      refine lv_iload_n hx hb dX12_book_23 rfl (lv_at hl 0 rfl) ?_
      refine lv_istore_n (lv' := [(3, .int 0), (0, .ref (b 0)), (1, .int (nI k)), (2, .int (nI q))]) hx hb dX12_book_24 rfl hl (by decide) rfl (fun ls hl => ?_)
      refine lv_iload_n hx hb dX12_book_25 rfl (lv_at hl 0 rfl) ?_
      refine k_if0eq hx hb 35 dX12_book_26 (by decide) ?_
      refine lv_aload_n hx hb dX12_book_35 rfl (lv_at hl 1 rfl) ?_
      refine k_callV K X gv_X12_146 (As := []) (c_X12_thinks l E b (flat f) hf wf ik fd tch tp tl tk tb ta tv bad bo so (flR rn)) [0, 1, 2, 3, 4, 5, 6, 7, 8] modW_idC (by decide +kernel) (fun _ => modW_fst) 0 12 rfl rfl (by decide) rfl hl.1 (rest := []) rfl (Nat.le_of_ble_eq_true rfl) dX12_book_36 (st1 := fun _ => []) (fun _ => rfl) (fun _ H locs _ X => ?_)
      have X : Wd E _ _ (modW E b (flat f) hf (flat f) ik fd tch tp tl tk tb ta tv bad bo so (flR rn)) _ _ := X.eq modW_idP
      refine lv_iconst (v := 0) hx hb dX12_book_39 (by decide) ?_
      refine lv_istore (lv' := [(4, .int 0), (3, .int 0), (0, .ref (b 0)), (1, .int (nI k)), (2, .int (nI q))]) hx hb dX12_book_40 hl (by decide) rfl (fun ls hl => ?_)
      have lp42 : ∀ (fu : Nat) (i : Nat) (m : Nat) (g : St) (rn2 : Nat → Nat → Int64) (t : Int32) (hfu : m < fu) (hin : i + m = zR so k) (hR : boL (bo k) k q m i g rn2 = boL (bo k) k q (zR so k) 0 f rn) (Ig : Inv (T + i) g) (ls : Array Slot) (hl : lv_has ls 5 [(4, .int (nI i)), (3, .int 0), (0, .ref (b 0)), (1, .int (nI k)), (2, .int (nI q))]) (H : Heap) (locs : List Loc) (X : Wd E (inW (modW E b (flat f) hf wf ik fd tch tp tl tk tb ta tv bad bo so (flR rn))) s0.heap (modW E b (flat g) hf (flat f) ik fd t tp tl tk tb ta tv bad bo so (flR rn2)) H locs), W pg l ev (rmK 5 115) s0 mm ([.ref (b 0), .int (nI k), .int (nI q)] : List Value).toArray below meth cd H locs 0 0 Q (F0 mm 42 ls []) := by
        intro fu
        induction fu with
        | zero => intro i m g rn2 t hfu; exact absurd hfu (Nat.not_lt_zero _)
        | succ fu ih42 =>
          intro i m g rn2 t hfu hin hR Ig ls hl H locs X
          refine lv_iload hx hb dX12_book_42 (lv_at hl 0 rfl) ?_
          refine lv_aload_n hx hb dX12_book_44 rfl (lv_at hl 2 rfl) ?_
          refine k_get K X 0 rfl fg_X12_28 (v := .ref (b 7)) rfl dX12_book_45 ?_
          refine lv_iload_n hx hb dX12_book_48 rfl (lv_at hl 3 rfl) ?_
          refine k_ialdN K X 7 rfl (k := k) (by omega) (by decide) dX12_book_49 (v := so k) rfl ?_
          refine k_topi ((J k hk).1) ?_
          refine kN_ge (x := i) (y := zR so k) hx hb 91 dX12_book_50 (by decide) (by omega) (by omega) (fun c50 => ?_) (fun c50 => ?_)
          · obtain rfl : m = 0 := by omega
            refine lv_aload_n hx hb dX12_book_91 rfl (lv_at hl 2 rfl) ?_
            refine k_callV K X gv_X12_149 (As := []) (c_X12_putsBack l E b (flat g) hf (flat f) ik fd t tp tl tk tb ta tv bad bo so (flR rn2)) [0, 1, 2, 3, 4, 5, 6, 7, 8] modW_idC (by decide +kernel) (fun _ => modW_fst) 0 12 rfl rfl (by decide) rfl hl.1 (rest := []) rfl (Nat.le_of_ble_eq_true rfl) dX12_book_92 (st1 := fun _ => []) (fun _ => rfl) (fun _ H locs _ X => ?_)
            have X : Wd E _ _ (modW E b (flat f) hf (flat f) ik fd t tp tl tk tb ta tv bad bo so (flR rn2)) _ _ := X.eq modW_idP
            refine lv_aload_n hx hb dX12_book_95 rfl (lv_at hl 2 rfl) ?_
            refine k_get K X 0 rfl fg_X12_28 (v := .ref (b 7)) rfl dX12_book_96 ?_
            refine lv_iload_n hx hb dX12_book_99 rfl (lv_at hl 3 rfl) ?_
            refine k_ialdN K X 7 rfl (k := k) (by omega) (by decide) dX12_book_100 (v := so k) rfl ?_
            refine k_topi ((J k hk).1) ?_
            exact k_topi (x' := (oBook bo so rn f fd (nI k) (nI q)).1) (by rw [oBook, hx0, cond_true, ek, hb0, cond_false, hy0, cond_true]) (fin ((flat f), t) 101 _ _ _ trivial (X.eq (by rw [oBook, hx0, cond_true, ek, hb0, cond_false, hy0, cond_true, eq, ← hR] <;> rfl)) dX12_book_101)
          · obtain ⟨m, rfl⟩ : ∃ z, m = z + 1 := ⟨m - 1, by omega⟩
            refine lv_aload_n hx hb dX12_book_53 rfl (lv_at hl 2 rfl) ?_
            refine k_get K X 0 rfl fg_X12_31 (v := .ref (b 8)) rfl dX12_book_54 ?_
            refine lv_bipush (v := 40) hx hb dX12_book_57 (by decide) ?_
            refine lv_iload_n hx hb dX12_book_59 rfl (lv_at hl 3 rfl) ?_
            refine lv_imul hx hb dX12_book_60 ?_
            refine k_topi (pk_mul 40 k) ?_
            refine lv_iload hx hb dX12_book_61 (lv_at hl 0 rfl) ?_
            refine lv_iadd hx hb dX12_book_63 ?_
            refine k_topi (nI_add (40 * k) i) ?_
            refine lv_aload_n hx hb dX12_book_64 rfl (lv_at hl 2 rfl) ?_
            refine k_get K X 0 rfl fg_X12_25 (v := .ref (b 6)) rfl dX12_book_65 ?_
            refine lv_iload_n hx hb dX12_book_68 rfl (lv_at hl 3 rfl) ?_
            refine k_ialdN K X 6 rfl (k := k) (by omega) (by decide) dX12_book_69 (v := bo k) rfl ?_
            refine lv_aload_n hx hb dX12_book_70 rfl (lv_at hl 2 rfl) ?_
            refine lv_iload_n hx hb dX12_book_71 rfl (lv_at hl 4 rfl) ?_
            refine lv_iconst (v := 0) hx hb dX12_book_72 (by decide) ?_
            refine k_callV K X gv_X12_49 (As := [.int (nI q), .int 0]) (c_X12_it0 l E b hf (flat f) ik fd t tp tl tk tb ta tv bad bo so (flR rn2) g q (by omega)) [0, 1, 2, 3, 4, 5, 6, 7, 8] modW_idC (by decide +kernel) (fun _ => modW_fst) 0 12 rfl rfl (by decide) rfl hl.1 (rest := [.int (bo k), .int (nI (40 * k + i)), .ref (b 8)]) rfl (Nat.le_of_ble_eq_true rfl) dX12_book_73 (st1 := fun _ => [.int (g 1 q), .int (bo k), .int (nI (40 * k + i)), .ref (b 8)]) (fun _ => rfl) (fun _ H locs _ X => ?_)
            have X : Wd E _ _ (modW E b (flat g) hf (flat f) ik fd t tp tl tk tb ta tv bad bo so (flR rn2)) _ _ := X.eq modW_idP
            refine lv_i2l (v := (g 1 q).toInt64) hx hb dX12_book_76 rfl ?_
            refine k_callS K X gs_X12_219 (As := [.int (bo k), .long ((g 1 q).toInt64)]) (c_X12_cutTo l E (bo k) ((g 1 q).toInt64)) [] rfl (by decide +kernel) (fun _ => rfl) (by decide) rfl hl.1 (rest := [.int (nI (40 * k + i)), .ref (b 8)]) rfl (Nat.le_of_ble_eq_true rfl) dX12_book_77 (st1 := fun _ => [.long (cutL (bo k) ((g 1 q).toInt64)), .int (nI (40 * k + i)), .ref (b 8)]) (fun _ => rfl) (fun _ H locs _ X => ?_)
            have X : Wd E _ _ (modW E b (flat g) hf (flat f) ik fd t tp tl tk tb ta tv bad bo so (flR rn2)) _ _ := X
            refine k_lastN K X 8 rfl (k := 40 * k + i) (x := cutL (bo k) ((g 1 q).toInt64)) (by omega) (by decide) dX12_book_80 (fun H locs X => ?_)
            have X : Wd E _ _ (modW E b (flat g) hf (flat f) ik fd t tp tl tk tb ta tv bad bo so (vp_updL (flR rn2) (40 * k + i) (cutL (bo k) ((g 1 q).toInt64)))) _ _ := X
            have X : Wd E _ _ (modW E b (flat g) hf (flat f) ik fd t tp tl tk tb ta tv bad bo so (flR (setRL rn2 k (vp_updL (rn2 k) i (cutL (bo k) ((g 1 q).toInt64)))))) _ _ := X.eq (by rw [flR_up2 (s := k) (i := i) (by omega) (by omega)])
            refine lv_aload_n hx hb dX12_book_81 rfl (lv_at hl 2 rfl) ?_
            refine k_callV K X gv_X12_134 (As := []) (c_X12_goes l E b hf (flat f) ik fd t tp tl tk tb ta tv bad bo so (flR (setRL rn2 k (vp_updL (rn2 k) i (cutL (bo k) ((g 1 q).toInt64))))) g (T + i) Ig (by omega)) [0, 1, 2, 3, 4, 5, 6, 7, 8] modW_idC (by decide +kernel) (fun _ => modW_fst) 0 12 rfl rfl (by decide) rfl hl.1 (rest := []) rfl (Nat.le_of_ble_eq_true rfl) dX12_book_82 (st1 := fun _ => []) (fun _ => rfl) (fun _ H locs _ X => ?_)
            have X : Wd E _ _ (modW E b (flat (goF g)) hf (flat f) ik fd (tcF g) tp tl tk tb ta tv bad bo so (flR (setRL rn2 k (vp_updL (rn2 k) i (cutL (bo k) ((g 1 q).toInt64)))))) _ _ := X.eq modW_idP
            refine lv_iinc (v := nI (i + 1)) (lv' := [(4, .int (nI (i + 1))), (3, .int 0), (0, .ref (b 0)), (1, .int (nI k)), (2, .int (nI q))]) hx hb dX12_book_85 hl (k := 0) rfl (nI_add i 1) (by decide) rfl (fun ls hl => ?_)
            refine lv_goto (tgt := 42) hx hb dX12_book_88 (by decide) ?_
            exact ih42 (i + 1) m (goF g) (setRL rn2 k (vp_updL (rn2 k) i (cutL (bo k) ((g 1 q).toInt64)))) (tcF g) (by omega) (by omega) (by rw [← hR, boL]) (Ig.go (by omega)) _ hl _ _ X
      exact lp42 ((zR so k) + 1) 0 (zR so k) f rn tch (by omega) (by omega) (rfl) (I) _ hl _ _ X
    · have hy0 : isS f y = false := c15
      refine lv_ldc (v := (-1000000001)) hx hb K.2.2.2.1 (K.2.2.2.2.1 _ (Mw_at 905 (by decide +kernel) (by decide +kernel))) dX12_book_18 ?_
      refine lv_goto (tgt := 24) hx hb dX12_book_20 (by decide) ?_
      refine lv_istore_n (lv' := [(3, .int (-1000000001)), (0, .ref (b 0)), (1, .int (nI k)), (2, .int y)]) hx hb dX12_book_24 rfl hl (by decide) rfl (fun ls hl => ?_)
      refine lv_iload_n hx hb dX12_book_25 rfl (lv_at hl 0 rfl) ?_
      refine k_if_eq hx hb 35 dX12_book_26 (by decide) (fun h => absurd h (by decide)) (fun _ => ?_)
      refine lv_aload_n hx hb dX12_book_29 rfl (lv_at hl 1 rfl) ?_
      refine lv_iload_n hx hb dX12_book_30 rfl (lv_at hl 0 rfl) ?_
      refine k_topi (show (-1000000001 : Int32) = fnd 0 by decide) ?_
      refine k_callV K X gv_X12_37 (As := [.int (fnd 0)]) (c_X12_finds l E b (flat f) hf wf ik fd tch tp tl tk tb ta tv bad bo so (flR rn) 0 (by decide)) [0, 1, 2, 3, 4, 5, 6, 7, 8] modW_idC (by decide +kernel) (fun _ => modW_fst) 0 12 rfl rfl (by decide) rfl hl.1 (rest := []) rfl (Nat.le_of_ble_eq_true rfl) dX12_book_31 (st1 := fun _ => [.int (fnd 0)]) (fun _ => rfl) (fun _ H locs _ X => ?_)
      have X : Wd E _ _ (modW E b (flat f) hf wf ik (fdU fd 0) tch tp tl tk tb ta tv bad bo so (flR rn)) _ _ := X.eq modW_idP
      exact k_topi (x' := (oBook bo so rn f fd (nI k) y).1) (by simp [oBook, hx0, ek, hb0, hy0]) (fin (wf, tch) 34 _ _ _ trivial (X.eq (by simp [oBook, hx0, ek, hb0, hy0])) dX12_book_34)
set_option maxRecDepth 100000 in
set_option maxHeartbeats 4000000 in
theorem c_X12_isBook (l : Launch) (E : EE) (b : Nat → Nat) (hf : Nat → Int32) (wf : Nat → Int32) (ik : Int32) (fd : Nat → Int32) (tch : Int32) (tp : Nat → Int32) (tl : Int32) (tk : Int32) (tb : Int32) (ta : Int32) (tv : Int32) (bad : Int32) (bo : Nat → Int32) (so : Nat → Int32) (f : St) (T : Nat) (rn : Nat → Nat → Int64) (k : Nat) (q : Nat) (I : Inv T f) (J : InvS so) (hk : k < 4) (hq : q < 10) (hT : T < 999000) : Kn l yX12_isBook cX12_isBook 5 (some .boolean) 5 115 E (modW E b (flat f) hf wf ik fd tch tp tl tk tb ta tv bad bo so (flR rn)) [.ref (b 0), .int (nI k), .int (nI q)] (S := Int32) (fun _ => True) (fun _ => (some (.int (b2i (goL (rn k) q (zR so k) 0 f))))) (fun u => (modW E b wf hf wf ik fd u tp tl tk tb ta tv bad bo so (flR rn))) := by
  refine Kn.ofWi (by decide +kernel) (Nat.le_of_ble_eq_true rfl) (fun _ _ => b2i_nar _) ?_
  intro pg ev s0 mm below meth cd Q K X fin ls hl
  have hx := K.1
  have hb := K.2.1
  have hs10 := I.s10
  have hp6 := I.p6
  have hz := (J k hk).2
  have hl : lv_has ls 5 [(0, .ref (b 0)), (1, .int (nI k)), (2, .int (nI q))] := hl
  refine lv_iconst (v := 1) hx hb dX12_isBook_0 (by decide) ?_
  refine lv_istore_n (lv' := [(3, .int 1), (0, .ref (b 0)), (1, .int (nI k)), (2, .int (nI q))]) hx hb dX12_isBook_1 rfl hl (by decide) rfl (fun ls hl => ?_)
  refine lv_iconst (v := 0) hx hb dX12_isBook_2 (by decide) ?_
  refine lv_istore (lv' := [(4, .int 0), (3, .int 1), (0, .ref (b 0)), (1, .int (nI k)), (2, .int (nI q))]) hx hb dX12_isBook_3 hl (by decide) rfl (fun ls hl => ?_)
  have lp5 : ∀ (fu : Nat) (i : Nat) (m : Nat) (okb : Bool) (g : St) (t : Int32) (hfu : m < fu) (hin : i + m = zR so k) (hR : (okb && goL (rn k) q m i g) = goL (rn k) q (zR so k) 0 f) (Ig : Inv (T + i) g) (ls : Array Slot) (hl : lv_has ls 5 [(4, .int (nI i)), (3, .int (b2i (okb))), (0, .ref (b 0)), (1, .int (nI k)), (2, .int (nI q))]) (H : Heap) (locs : List Loc) (X : Wd E (inW (modW E b (flat f) hf wf ik fd tch tp tl tk tb ta tv bad bo so (flR rn))) s0.heap (modW E b (flat g) hf wf ik fd t tp tl tk tb ta tv bad bo so (flR rn)) H locs), W pg l ev (rmK 5 115) s0 mm ([.ref (b 0), .int (nI k), .int (nI q)] : List Value).toArray below meth cd H locs 0 0 Q (F0 mm 5 ls []) := by
    intro fu
    induction fu with
    | zero => intro i m okb g t hfu; exact absurd hfu (Nat.not_lt_zero _)
    | succ fu ih5 =>
      intro i m okb g t hfu hin hR Ig ls hl H locs X
      refine lv_iload hx hb dX12_isBook_5 (lv_at hl 0 rfl) ?_
      refine lv_aload_n hx hb dX12_isBook_7 rfl (lv_at hl 2 rfl) ?_
      refine k_get K X 0 rfl fg_X12_28 (v := .ref (b 7)) rfl dX12_isBook_8 ?_
      refine lv_iload_n hx hb dX12_isBook_11 rfl (lv_at hl 3 rfl) ?_
      refine k_ialdN K X 7 rfl (k := k) (by omega) (by decide) dX12_isBook_12 (v := so k) rfl ?_
      refine k_topi ((J k hk).1) ?_
      refine kN_ge (x := i) (y := zR so k) hx hb 59 dX12_isBook_13 (by decide) (by omega) (by omega) (fun c13 => ?_) (fun c13 => ?_)
      · obtain rfl : m = 0 := by omega
        refine lv_aload_n hx hb dX12_isBook_59 rfl (lv_at hl 2 rfl) ?_
        refine k_callV K X gv_X12_149 (As := []) (c_X12_putsBack l E b (flat g) hf wf ik fd t tp tl tk tb ta tv bad bo so (flR rn)) [0, 1, 2, 3, 4, 5, 6, 7, 8] modW_idC (by decide +kernel) (fun _ => modW_fst) 0 12 rfl rfl (by decide) rfl hl.1 (rest := []) rfl (Nat.le_of_ble_eq_true rfl) dX12_isBook_60 (st1 := fun _ => []) (fun _ => rfl) (fun _ H locs _ X => ?_)
        have X : Wd E _ _ (modW E b wf hf wf ik fd t tp tl tk tb ta tv bad bo so (flR rn)) _ _ := X.eq modW_idP
        refine lv_iload_n hx hb dX12_isBook_63 rfl (lv_at hl 1 rfl) ?_
        exact k_topi (x' := b2i (goL (rn k) q (zR so k) 0 f)) (by rw [← hR]; exact congrArg b2i (Bool.and_true okb).symm) (fin (t) 64 _ _ _ trivial X dX12_isBook_64)
      · obtain ⟨m, rfl⟩ : ∃ z, m = z + 1 := ⟨m - 1, by omega⟩
        refine lv_iload_n hx hb dX12_isBook_16 rfl (lv_at hl 1 rfl) ?_
        refine k_ifeqB (B := (okb)) hx hb 59 dX12_isBook_17 (by decide) (fun c17 => ?_) (fun c17 => ?_)
        · refine lv_aload_n hx hb dX12_isBook_59 rfl (lv_at hl 2 rfl) ?_
          refine k_callV K X gv_X12_149 (As := []) (c_X12_putsBack l E b (flat g) hf wf ik fd t tp tl tk tb ta tv bad bo so (flR rn)) [0, 1, 2, 3, 4, 5, 6, 7, 8] modW_idC (by decide +kernel) (fun _ => modW_fst) 0 12 rfl rfl (by decide) rfl hl.1 (rest := []) rfl (Nat.le_of_ble_eq_true rfl) dX12_isBook_60 (st1 := fun _ => []) (fun _ => rfl) (fun _ H locs _ X => ?_)
          have X : Wd E _ _ (modW E b wf hf wf ik fd t tp tl tk tb ta tv bad bo so (flR rn)) _ _ := X.eq modW_idP
          refine lv_iload_n hx hb dX12_isBook_63 rfl (lv_at hl 1 rfl) ?_
          exact k_topi (x' := b2i (goL (rn k) q (zR so k) 0 f)) (by rw [← hR, c17]; rfl) (fin (t) 64 _ _ _ trivial X dX12_isBook_64)
        · refine lv_aload_n hx hb dX12_isBook_20 rfl (lv_at hl 2 rfl) ?_
          refine k_get K X 0 rfl fg_X12_31 (v := .ref (b 8)) rfl dX12_isBook_21 ?_
          refine lv_bipush (v := 40) hx hb dX12_isBook_24 (by decide) ?_
          refine lv_iload_n hx hb dX12_isBook_26 rfl (lv_at hl 3 rfl) ?_
          refine lv_imul hx hb dX12_isBook_27 ?_
          refine k_topi (pk_mul 40 k) ?_
          refine lv_iload hx hb dX12_isBook_28 (lv_at hl 0 rfl) ?_
          refine lv_iadd hx hb dX12_isBook_30 ?_
          refine k_topi (nI_add (40 * k) i) ?_
          refine k_laldN K X 8 rfl (k := 40 * k + i) (by omega) (by decide) dX12_isBook_31 (v := (flR rn) (40 * k + i)) rfl ?_
          refine k_topl (flR_at2 (s := k) (i := i) (by omega) (by omega)) ?_
          refine lv_aload_n hx hb dX12_isBook_32 rfl (lv_at hl 2 rfl) ?_
          refine lv_iload_n hx hb dX12_isBook_33 rfl (lv_at hl 4 rfl) ?_
          refine lv_iconst (v := 0) hx hb dX12_isBook_34 (by decide) ?_
          refine k_callV K X gv_X12_49 (As := [.int (nI q), .int 0]) (c_X12_it0 l E b hf wf ik fd t tp tl tk tb ta tv bad bo so (flR rn) g q (by omega)) [0, 1, 2, 3, 4, 5, 6, 7, 8] modW_idC (by decide +kernel) (fun _ => modW_fst) 0 12 rfl rfl (by decide) rfl hl.1 (rest := [.long (rn k i)]) rfl (Nat.le_of_ble_eq_true rfl) dX12_isBook_35 (st1 := fun _ => [.int (g 1 q), .long (rn k i)]) (fun _ => rfl) (fun _ H locs _ X => ?_)
          have X : Wd E _ _ (modW E b (flat g) hf wf ik fd t tp tl tk tb ta tv bad bo so (flR rn)) _ _ := X.eq modW_idP
          refine lv_i2l (v := (g 1 q).toInt64) hx hb dX12_isBook_38 rfl ?_
          refine W.lcmp hx hb dX12_isBook_39 ?_
          refine k_lc_ne (x := rn k i) (y := (g 1 q).toInt64) hx hb 47 dX12_isBook_40 (by decide) (fun c40 => ?_) (fun c40 => ?_)
          · refine lv_iconst (v := 0) hx hb dX12_isBook_47 (by decide) ?_
            refine lv_istore_n (lv' := [(3, .int 0), (4, .int (nI i)), (0, .ref (b 0)), (1, .int (nI k)), (2, .int (nI q))]) hx hb dX12_isBook_48 rfl hl (by decide) rfl (fun ls hl => ?_)
            refine lv_aload_n hx hb dX12_isBook_49 rfl (lv_at hl 2 rfl) ?_
            refine k_callV K X gv_X12_134 (As := []) (c_X12_goes l E b hf wf ik fd t tp tl tk tb ta tv bad bo so (flR rn) g (T + i) Ig (by omega)) [0, 1, 2, 3, 4, 5, 6, 7, 8] modW_idC (by decide +kernel) (fun _ => modW_fst) 0 12 rfl rfl (by decide) rfl hl.1 (rest := []) rfl (Nat.le_of_ble_eq_true rfl) dX12_isBook_50 (st1 := fun _ => []) (fun _ => rfl) (fun _ H locs _ X => ?_)
            have X : Wd E _ _ (modW E b (flat (goF g)) hf wf ik fd (tcF g) tp tl tk tb ta tv bad bo so (flR rn)) _ _ := X.eq modW_idP
            refine lv_iinc (v := nI (i + 1)) (lv' := [(4, .int (nI (i + 1))), (3, .int 0), (0, .ref (b 0)), (1, .int (nI k)), (2, .int (nI q))]) hx hb dX12_isBook_53 hl (k := 1) rfl (nI_add i 1) (by decide) rfl (fun ls hl => ?_)
            refine lv_goto (tgt := 5) hx hb dX12_isBook_56 (by decide) ?_
            exact ih5 (i + 1) m false (goF g) (tcF g) (by omega) (by omega) (by rw [← hR, c17, goL, if_neg c40] <;> rfl) (Ig.go (by omega)) _ hl _ _ X
          · refine lv_iconst (v := 1) hx hb dX12_isBook_43 (by decide) ?_
            refine lv_goto (tgt := 48) hx hb dX12_isBook_44 (by decide) ?_
            refine lv_istore_n (lv' := [(3, .int 1), (4, .int (nI i)), (0, .ref (b 0)), (1, .int (nI k)), (2, .int (nI q))]) hx hb dX12_isBook_48 rfl hl (by decide) rfl (fun ls hl => ?_)
            refine lv_aload_n hx hb dX12_isBook_49 rfl (lv_at hl 2 rfl) ?_
            refine k_callV K X gv_X12_134 (As := []) (c_X12_goes l E b hf wf ik fd t tp tl tk tb ta tv bad bo so (flR rn) g (T + i) Ig (by omega)) [0, 1, 2, 3, 4, 5, 6, 7, 8] modW_idC (by decide +kernel) (fun _ => modW_fst) 0 12 rfl rfl (by decide) rfl hl.1 (rest := []) rfl (Nat.le_of_ble_eq_true rfl) dX12_isBook_50 (st1 := fun _ => []) (fun _ => rfl) (fun _ H locs _ X => ?_)
            have X : Wd E _ _ (modW E b (flat (goF g)) hf wf ik fd (tcF g) tp tl tk tb ta tv bad bo so (flR rn)) _ _ := X.eq modW_idP
            refine lv_iinc (v := nI (i + 1)) (lv' := [(4, .int (nI (i + 1))), (3, .int 1), (0, .ref (b 0)), (1, .int (nI k)), (2, .int (nI q))]) hx hb dX12_isBook_53 hl (k := 1) rfl (nI_add i 1) (by decide) rfl (fun ls hl => ?_)
            refine lv_goto (tgt := 5) hx hb dX12_isBook_56 (by decide) ?_
            exact ih5 (i + 1) m true (goF g) (tcF g) (by omega) (by omega) (by rw [← hR, c17, goL, if_pos c40] <;> rfl) (Ig.go (by omega)) _ hl _ _ X
  exact lp5 ((zR so k) + 1) 0 (zR so k) true f tch (by omega) (by omega) (rfl) (I) _ hl _ _ X
set_option maxRecDepth 100000 in
set_option maxHeartbeats 4000000 in
theorem c_X12_read (l : Launch) (E : EE) (b : Nat → Nat) (hf : Nat → Int32) (wf : Nat → Int32) (ik : Int32) (fd : Nat → Int32) (tch : Int32) (tp : Nat → Int32) (tl : Int32) (tk : Int32) (tb : Int32) (ta : Int32) (tv : Int32) (bad : Int32) (bo : Nat → Int32) (so : Nat → Int32) (f : St) (T : Nat) (rn : Nat → Nat → Int64) (x : Int32) (y : Int32) (z : Int32) (I : Inv T f) (J : InvS so) (hT : T < 999000) : Kn l yX12_read cX12_read 7 (some .int) 6 139 E (modW E b (flat f) hf wf ik fd tch tp tl tk tb ta tv bad bo so (flR rn)) [.ref (b 0), .int x, .int y, .int z] (S := (Nat → Int32) × Int32) (fun _ => True) (fun _ => (some (.int ((oRead bo so rn f fd x y z).1)))) (fun u => (modW E b (flat f) hf u.1 ik ((oRead bo so rn f fd x y z).2) u.2 tp tl tk tb ta tv bad bo so (flR rn))) := by
  refine Kn.ofWi (by decide +kernel) (Nat.le_of_ble_eq_true rfl) (fun _ _ => rfl) ?_
  intro pg ev s0 mm below meth cd Q K X fin ls hl
  have hx := K.1
  have hb := K.2.1
  have hs10 := I.s10
  have hp6 := I.p6
  have hl : lv_has ls 7 [(0, .ref (b 0)), (1, .int x), (2, .int y), (3, .int z)] := hl
  refine lv_aload_n hx hb dX12_read_0 rfl (lv_at hl 0 rfl) ?_
  refine lv_iload_n hx hb dX12_read_1 rfl (lv_at hl 1 rfl) ?_
  refine k_callV K X gv_X12_216 (As := [.int x]) (c_X12_notThere l E b (flat f) hf wf ik fd tch tp tl tk tb ta tv bad bo so (flR rn) x) [0, 1, 2, 3, 4, 5, 6, 7, 8] modW_idC (by decide +kernel) (fun _ => modW_fst) 0 12 rfl rfl (by decide) rfl hl.1 (rest := []) rfl (Nat.le_of_ble_eq_true rfl) dX12_read_2 (st1 := fun _ => [.int (notT bo x)]) (fun _ => rfl) (fun _ H locs _ X => ?_)
  have X : Wd E _ _ (modW E b (flat f) hf wf ik fd tch tp tl tk tb ta tv bad bo so (flR rn)) _ _ := X.eq modW_idP
  rcases notT_cases bo x with ⟨hx0, ht⟩ | ⟨k, hk, rfl, hx0, ek, hb0, ht⟩ | ⟨k, hk, rfl, hx0, ek, hb0, ht⟩
  · refine k_topi (x' := -1000000001) ht ?_
    refine lv_istore (lv' := [(4, .int (-1000000001)), (0, .ref (b 0)), (1, .int x), (2, .int y), (3, .int z)]) hx hb dX12_read_5 hl (by decide) rfl (fun ls hl => ?_)
    refine lv_iload hx hb dX12_read_7 (lv_at hl 0 rfl) ?_
    refine k_if_ne hx hb 33 dX12_read_9 (by decide) (fun _ => ?_) (fun h => absurd h (by decide))
    refine lv_iload hx hb dX12_read_33 (lv_at hl 0 rfl) ?_
    refine lv_istore (lv' := [(4, .int (-1000000001)), (0, .ref (b 0)), (1, .int x), (2, .int y), (3, .int z)]) hx hb dX12_read_35 hl (by decide) rfl (fun ls hl => ?_)
    refine lv_iload hx hb dX12_read_37 (lv_at hl 0 rfl) ?_
    refine k_if_eq hx hb 49 dX12_read_39 (by decide) (fun h => absurd h (by decide)) (fun _ => ?_)
    refine lv_aload_n hx hb dX12_read_42 rfl (lv_at hl 1 rfl) ?_
    refine lv_iload hx hb dX12_read_43 (lv_at hl 0 rfl) ?_
    refine k_topi (show (-1000000001 : Int32) = fnd 0 by decide) ?_
    refine k_callV K X gv_X12_37 (As := [.int (fnd 0)]) (c_X12_finds l E b (flat f) hf wf ik fd tch tp tl tk tb ta tv bad bo so (flR rn) 0 (by decide)) [0, 1, 2, 3, 4, 5, 6, 7, 8] modW_idC (by decide +kernel) (fun _ => modW_fst) 0 12 rfl rfl (by decide) rfl hl.1 (rest := []) rfl (Nat.le_of_ble_eq_true rfl) dX12_read_45 (st1 := fun _ => [.int (fnd 0)]) (fun _ => rfl) (fun _ H locs _ X => ?_)
    have X : Wd E _ _ (modW E b (flat f) hf wf ik (fdU fd 0) tch tp tl tk tb ta tv bad bo so (flR rn)) _ _ := X.eq modW_idP
    exact k_topi (x' := (oRead bo so rn f fd x y z).1) (by simp [oRead, hx0]) (fin (wf, tch) 48 _ _ _ trivial (X.eq (by simp [oRead, hx0])) dX12_read_48)
  · refine k_topi (x' := -1000000006) ht ?_
    refine lv_istore (lv' := [(4, .int (-1000000006)), (0, .ref (b 0)), (1, .int (nI k)), (2, .int y), (3, .int z)]) hx hb dX12_read_5 hl (by decide) rfl (fun ls hl => ?_)
    refine lv_iload hx hb dX12_read_7 (lv_at hl 0 rfl) ?_
    refine k_if_ne hx hb 33 dX12_read_9 (by decide) (fun _ => ?_) (fun h => absurd h (by decide))
    refine lv_iload hx hb dX12_read_33 (lv_at hl 0 rfl) ?_
    refine lv_istore (lv' := [(4, .int (-1000000006)), (0, .ref (b 0)), (1, .int (nI k)), (2, .int y), (3, .int z)]) hx hb dX12_read_35 hl (by decide) rfl (fun ls hl => ?_)
    refine lv_iload hx hb dX12_read_37 (lv_at hl 0 rfl) ?_
    refine k_if_eq hx hb 49 dX12_read_39 (by decide) (fun h => absurd h (by decide)) (fun _ => ?_)
    refine lv_aload_n hx hb dX12_read_42 rfl (lv_at hl 1 rfl) ?_
    refine lv_iload hx hb dX12_read_43 (lv_at hl 0 rfl) ?_
    refine k_topi (show (-1000000006 : Int32) = fnd 5 by decide) ?_
    refine k_callV K X gv_X12_37 (As := [.int (fnd 5)]) (c_X12_finds l E b (flat f) hf wf ik fd tch tp tl tk tb ta tv bad bo so (flR rn) 5 (by decide)) [0, 1, 2, 3, 4, 5, 6, 7, 8] modW_idC (by decide +kernel) (fun _ => modW_fst) 0 12 rfl rfl (by decide) rfl hl.1 (rest := []) rfl (Nat.le_of_ble_eq_true rfl) dX12_read_45 (st1 := fun _ => [.int (fnd 5)]) (fun _ => rfl) (fun _ H locs _ X => ?_)
    have X : Wd E _ _ (modW E b (flat f) hf wf ik (fdU fd 5) tch tp tl tk tb ta tv bad bo so (flR rn)) _ _ := X.eq modW_idP
    exact k_topi (x' := (oRead bo so rn f fd (nI k) y z).1) (by simp [oRead, hx0, ek, hb0]) (fin (wf, tch) 48 _ _ _ trivial (X.eq (by simp [oRead, hx0, ek, hb0])) dX12_read_48)
  · refine k_topi (x' := 0) ht ?_
    have hz := (J k hk).2
    refine lv_istore (lv' := [(4, .int 0), (0, .ref (b 0)), (1, .int (nI k)), (2, .int y), (3, .int z)]) hx hb dX12_read_5 hl (by decide) rfl (fun ls hl => ?_)
    refine lv_iload hx hb dX12_read_7 (lv_at hl 0 rfl) ?_
    refine k_if0ne hx hb dX12_read_9 ⟨33, by decide⟩ ?_
    refine lv_aload_n hx hb dX12_read_12 rfl (lv_at hl 1 rfl) ?_
    refine lv_iload_n hx hb dX12_read_13 rfl (lv_at hl 3 rfl) ?_
    refine k_callV K X gv_X12_74 (As := [.int y]) (c_X12_isSlip l E b hf wf ik fd tch tp tl tk tb ta tv bad bo so (flR rn) f y) [0, 1, 2, 3, 4, 5, 6, 7, 8] modW_idC (by decide +kernel) (fun _ => modW_fst) 0 12 rfl rfl (by decide) rfl hl.1 (rest := []) rfl (Nat.le_of_ble_eq_true rfl) dX12_read_14 (st1 := fun _ => [.int (b2i (inR y 0 (f 0 2 - 1)))]) (fun _ => rfl) (fun _ H locs _ X => ?_)
    have X : Wd E _ _ (modW E b (flat f) hf wf ik fd tch tp tl tk tb ta tv bad bo so (flR rn)) _ _ := X.eq modW_idP
    refine k_ifeqB (B := (inR y 0 (f 0 2 - 1))) hx hb 28 dX12_read_17 (by decide) (fun c17 => ?_) (fun c17 => ?_)
    · have hy0 : isS f y = false := c17
      refine lv_ldc (v := (-1000000001)) hx hb K.2.2.2.1 (K.2.2.2.2.1 _ (Mw_at 905 (by decide +kernel) (by decide +kernel))) dX12_read_28 ?_
      refine lv_goto (tgt := 35) hx hb dX12_read_30 (by decide) ?_
      refine lv_istore (lv' := [(4, .int (-1000000001)), (0, .ref (b 0)), (1, .int (nI k)), (2, .int y), (3, .int z)]) hx hb dX12_read_35 hl (by decide) rfl (fun ls hl => ?_)
      refine lv_iload hx hb dX12_read_37 (lv_at hl 0 rfl) ?_
      refine k_if_eq hx hb 49 dX12_read_39 (by decide) (fun h => absurd h (by decide)) (fun _ => ?_)
      refine lv_aload_n hx hb dX12_read_42 rfl (lv_at hl 1 rfl) ?_
      refine lv_iload hx hb dX12_read_43 (lv_at hl 0 rfl) ?_
      refine k_topi (show (-1000000001 : Int32) = fnd 0 by decide) ?_
      refine k_callV K X gv_X12_37 (As := [.int (fnd 0)]) (c_X12_finds l E b (flat f) hf wf ik fd tch tp tl tk tb ta tv bad bo so (flR rn) 0 (by decide)) [0, 1, 2, 3, 4, 5, 6, 7, 8] modW_idC (by decide +kernel) (fun _ => modW_fst) 0 12 rfl rfl (by decide) rfl hl.1 (rest := []) rfl (Nat.le_of_ble_eq_true rfl) dX12_read_45 (st1 := fun _ => [.int (fnd 0)]) (fun _ => rfl) (fun _ H locs _ X => ?_)
      have X : Wd E _ _ (modW E b (flat f) hf wf ik (fdU fd 0) tch tp tl tk tb ta tv bad bo so (flR rn)) _ _ := X.eq modW_idP
      exact k_topi (x' := (oRead bo so rn f fd (nI k) y z).1) (by simp [oRead, hx0, ek, hb0, hy0]) (fin (wf, tch) 48 _ _ _ trivial (X.eq (by simp [oRead, hx0, ek, hb0, hy0])) dX12_read_48)
    · have hy0 : isS f y = true := c17
      obtain ⟨q, hq, rfl⟩ := isS_nat I hy0
      have eq : (nI q).toNatClampNeg = q := nI_clamp (by omega)
      refine lv_aload_n hx hb dX12_read_20 rfl (lv_at hl 1 rfl) ?_
      refine lv_iload_n hx hb dX12_read_21 rfl (lv_at hl 4 rfl) ?_
      refine k_callV K X gv_X12_100 (As := [.int z]) (c_X12_isPerson l E b hf wf ik fd tch tp tl tk tb ta tv bad bo so (flR rn) f z) [0, 1, 2, 3, 4, 5, 6, 7, 8] modW_idC (by decide +kernel) (fun _ => modW_fst) 0 12 rfl rfl (by decide) rfl hl.1 (rest := []) rfl (Nat.le_of_ble_eq_true rfl) dX12_read_22 (st1 := fun _ => [.int (b2i (inR z 0 (f 0 3 - 1)))]) (fun _ => rfl) (fun _ H locs _ X => ?_)
      have X : Wd E _ _ (modW E b (flat f) hf wf ik fd tch tp tl tk tb ta tv bad bo so (flR rn)) _ _ := X.eq modW_idP
      refine k_ifneB (B := (inR z 0 (f 0 3 - 1))) hx hb 33 dX12_read_25 (by decide) (fun c25 => ?_) (fun c25 => ?_)
      · have hp0 : isP f z = true := c25
        obtain ⟨p, hp, rfl⟩ := isP_nat I hp0
        have ep : (nI p).toNatClampNeg = p := nI_clamp (by omega)
        refine lv_iload hx hb dX12_read_33 (lv_at hl 0 rfl) ?_
        refine lv_istore (lv' := [(4, .int 0), (0, .ref (b 0)), (1, .int (nI k)), (2, .int (nI q)), (3, .int (nI p))]) hx hb dX12_read_35 hl (by decide) rfl (fun ls hl => ?_)
        refine lv_iload hx hb dX12_read_37 (lv_at hl 0 rfl) ?_
        refine k_if0eq hx hb 49 dX12_read_39 (by decide) ?_
        refine lv_aload_n hx hb dX12_read_49 rfl (lv_at hl 1 rfl) ?_
        refine k_callV K X gv_X12_146 (As := []) (c_X12_thinks l E b (flat f) hf wf ik fd tch tp tl tk tb ta tv bad bo so (flR rn)) [0, 1, 2, 3, 4, 5, 6, 7, 8] modW_idC (by decide +kernel) (fun _ => modW_fst) 0 12 rfl rfl (by decide) rfl hl.1 (rest := []) rfl (Nat.le_of_ble_eq_true rfl) dX12_read_50 (st1 := fun _ => []) (fun _ => rfl) (fun _ H locs _ X => ?_)
        have X : Wd E _ _ (modW E b (flat f) hf (flat f) ik fd tch tp tl tk tb ta tv bad bo so (flR rn)) _ _ := X.eq modW_idP
        refine lv_iconst (v := 0) hx hb dX12_read_53 (by decide) ?_
        refine lv_istore (lv' := [(5, .int 0), (4, .int 0), (0, .ref (b 0)), (1, .int (nI k)), (2, .int (nI q)), (3, .int (nI p))]) hx hb dX12_read_54 hl (by decide) rfl (fun ls hl => ?_)
        refine lv_iconst (v := 0) hx hb dX12_read_56 (by decide) ?_
        refine lv_istore (lv' := [(6, .int 0), (5, .int 0), (4, .int 0), (0, .ref (b 0)), (1, .int (nI k)), (2, .int (nI q)), (3, .int (nI p))]) hx hb dX12_read_57 hl (by decide) rfl (fun ls hl => ?_)
        have lp59 : ∀ (fu : Nat) (i : Nat) (n : Nat) (w : Nat) (t : Int32) (hfu : n < fu) (hin : i + n = 36) (hR : cntL (rdB (rn k) (zR so k) f p q) n i w = cntL (rdB (rn k) (zR so k) f p q) 36 0 0) (ls : Array Slot) (hl : lv_has ls 7 [(6, .int (nI i)), (5, .int (nI w)), (4, .int 0), (0, .ref (b 0)), (1, .int (nI k)), (2, .int (nI q)), (3, .int (nI p))]) (H : Heap) (locs : List Loc) (X : Wd E (inW (modW E b (flat f) hf wf ik fd tch tp tl tk tb ta tv bad bo so (flR rn))) s0.heap (modW E b (flat f) hf (flat f) ik fd t tp tl tk tb ta tv bad bo so (flR rn)) H locs), W pg l ev (rmK 6 139) s0 mm ([.ref (b 0), .int (nI k), .int (nI q), .int (nI p)] : List Value).toArray below meth cd H locs 0 0 Q (F0 mm 59 ls []) := by
          intro fu
          induction fu with
          | zero => intro i n w t hfu; exact absurd hfu (Nat.not_lt_zero _)
          | succ fu ih59 =>
            intro i n w t hfu hin hR ls hl H locs X
            refine lv_iload hx hb dX12_read_59 (lv_at hl 0 rfl) ?_
            refine lv_bipush (v := 36) hx hb dX12_read_61 (by decide) ?_
            refine kN_ge (x := i) (y := 36) hx hb 129 dX12_read_63 (by decide) (by omega) (by omega) (fun c63 => ?_) (fun c63 => ?_)
            · obtain rfl : n = 0 := by omega
              refine lv_iload hx hb dX12_read_129 (lv_at hl 1 rfl) ?_
              exact k_topi (x' := (oRead bo so rn f fd (nI k) (nI q) (nI p)).1) (by rw [oRead, hx0, cond_true, ek, hb0, cond_false, hy0, hp0, Bool.true_and, cond_true, eq, ep, ← hR] <;> rfl) (fin ((flat f), t) 131 _ _ _ trivial (X.eq (by rw [oRead, hx0, cond_true, ek, hb0, cond_false, hy0, hp0, Bool.true_and, cond_true] <;> rfl)) dX12_read_131)
            · obtain ⟨n, rfl⟩ : ∃ z, n = z + 1 := ⟨n - 1, by omega⟩
              refine lv_aload_n hx hb dX12_read_66 rfl (lv_at hl 3 rfl) ?_
              refine k_get K X 0 rfl fg_X12_9 (v := .ref (b 1)) rfl dX12_read_67 ?_
              refine lv_bipush (v := 34) hx hb dX12_read_70 (by decide) ?_
              refine lv_bipush (v := 12) hx hb dX12_read_72 (by decide) ?_
              refine lv_iload_n hx hb dX12_read_74 rfl (lv_at hl 6 rfl) ?_
              refine lv_imul hx hb dX12_read_75 ?_
              refine k_topi (pk_mul 12 p) ?_
              refine lv_iadd hx hb dX12_read_76 ?_
              refine k_topi (nI_add 34 (12 * p)) ?_
              refine lv_iload hx hb dX12_read_77 (lv_at hl 0 rfl) ?_
              refine lv_bipush (v := 6) hx hb dX12_read_79 (by decide) ?_
              refine lv_idiv hx hb dX12_read_81 (by decide) ?_
              refine k_topi (pk_div (a := i) (d := 6) (by omega) (by omega) (by omega)) ?_
              refine k_iastN K X 1 rfl (k := 34 + 12 * p) (x := nI (i / 6)) (by omega) (by decide) dX12_read_82 (fun H locs X => ?_)
              have X : Wd E _ _ (modW E b (upd (flat f) (34 + 12 * p) (nI (i / 6))) hf (flat f) ik fd t tp tl tk tb ta tv bad bo so (flR rn)) _ _ := X
              have X : Wd E _ _ (modW E b (flat (up2 f 4 p (nI (i / 6)))) hf (flat f) ik fd t tp tl tk tb ta tv bad bo so (flR rn)) _ _ := X.eq (by rw [flat_kind])
              refine lv_aload_n hx hb dX12_read_83 rfl (lv_at hl 3 rfl) ?_
              refine k_get K X 0 rfl fg_X12_9 (v := .ref (b 1)) rfl dX12_read_84 ?_
              refine lv_bipush (v := 34) hx hb dX12_read_87 (by decide) ?_
              refine lv_bipush (v := 12) hx hb dX12_read_89 (by decide) ?_
              refine lv_iload_n hx hb dX12_read_91 rfl (lv_at hl 6 rfl) ?_
              refine lv_imul hx hb dX12_read_92 ?_
              refine k_topi (pk_mul 12 p) ?_
              refine lv_iadd hx hb dX12_read_93 ?_
              refine k_topi (nI_add 34 (12 * p)) ?_
              refine lv_iconst (v := 2) hx hb dX12_read_94 (by decide) ?_
              refine lv_iadd hx hb dX12_read_95 ?_
              refine k_topi (nI_add (34 + 12 * p) 2) ?_
              refine lv_iload_n hx hb dX12_read_96 rfl (lv_at hl 5 rfl) ?_
              refine lv_iadd hx hb dX12_read_97 ?_
              refine k_topi (nI_add (34 + 12 * p + 2) q) ?_
              refine lv_iload hx hb dX12_read_98 (lv_at hl 0 rfl) ?_
              refine lv_bipush (v := 6) hx hb dX12_read_100 (by decide) ?_
              refine lv_irem hx hb dX12_read_102 (by decide) ?_
              refine k_topi (pk_rem (a := i) (d := 6) (by omega) (by omega) (by omega)) ?_
              refine k_iastN K X 1 rfl (k := 34 + 12 * p + 2 + q) (x := nI (i % 6)) (by omega) (by decide) dX12_read_103 (fun H locs X => ?_)
              have X : Wd E _ _ (modW E b (upd (flat (up2 f 4 p (nI (i / 6)))) (34 + 12 * p + 2 + q) (nI (i % 6))) hf (flat f) ik fd t tp tl tk tb ta tv bad bo so (flR rn)) _ _ := X
              have X : Wd E _ _ (modW E b (flat (up2 (up2 f 4 p (nI (i / 6))) 6 (10 * p + q) (nI (i % 6)))) hf (flat f) ik fd t tp tl tk tb ta tv bad bo so (flR rn)) _ _ := X.eq (by rw [flat_wish _ _ (by omega)])
              refine lv_iload hx hb dX12_read_104 (lv_at hl 1 rfl) ?_
              refine lv_aload_n hx hb dX12_read_106 rfl (lv_at hl 3 rfl) ?_
              refine lv_iload_n hx hb dX12_read_107 rfl (lv_at hl 4 rfl) ?_
              refine lv_iload_n hx hb dX12_read_108 rfl (lv_at hl 5 rfl) ?_
              refine k_callV K X gv_X12_227 (As := [.int (nI k), .int (nI q)]) (c_X12_isBook l E b hf (flat f) ik fd t tp tl tk tb ta tv bad bo so (up2 (up2 f 4 p (nI (i / 6))) 6 (10 * p + q) (nI (i % 6))) T rn k q ((I.up4 p (by omega)).up6 _ (by omega)) (by omega) (by omega) (by omega) (by omega)) [0, 1, 2, 3, 4, 5, 6, 7, 8] modW_idC (by decide +kernel) (fun _ => modW_fst) 0 12 rfl rfl (by decide) rfl hl.1 (rest := [.int (nI w)]) rfl (Nat.le_of_ble_eq_true rfl) dX12_read_109 (st1 := fun _ => [.int (b2i (goL (rn k) q (zR so k) 0 (up2 (up2 f 4 p (nI (i / 6))) 6 (10 * p + q) (nI (i % 6))))), .int (nI w)]) (fun _ => rfl) (fun u109 H locs _ X => ?_)
              have X : Wd E _ _ (modW E b (flat f) hf (flat f) ik fd u109 tp tl tk tb ta tv bad bo so (flR rn)) _ _ := X.eq modW_idP
              refine k_ifeqB (B := (goL (rn k) q (zR so k) 0 (up2 (up2 f 4 p (nI (i / 6))) 6 (10 * p + q) (nI (i % 6))))) hx hb 119 dX12_read_112 (by decide) (fun c112 => ?_) (fun c112 => ?_)
              · refine lv_iconst (v := 0) hx hb dX12_read_119 (by decide) ?_
                refine lv_iadd hx hb dX12_read_120 ?_
                refine k_topi (nI_add w 0) ?_
                refine lv_istore (lv' := [(5, .int (nI (w + 0))), (6, .int (nI i)), (4, .int 0), (0, .ref (b 0)), (1, .int (nI k)), (2, .int (nI q)), (3, .int (nI p))]) hx hb dX12_read_121 hl (by decide) rfl (fun ls hl => ?_)
                refine lv_iinc (v := nI (i + 1)) (lv' := [(6, .int (nI (i + 1))), (5, .int (nI (w + 0))), (4, .int 0), (0, .ref (b 0)), (1, .int (nI k)), (2, .int (nI q)), (3, .int (nI p))]) hx hb dX12_read_123 hl (k := 1) rfl (nI_add i 1) (by decide) rfl (fun ls hl => ?_)
                refine lv_goto (tgt := 59) hx hb dX12_read_126 (by decide) ?_
                exact ih59 (i + 1) n (w + 0) u109 (by omega) (by omega) (by rw [← hR, cntL, show rdB (rn k) (zR so k) f p q i = _ from c112]; rfl) _ hl _ _ X
              · refine lv_iconst (v := 1) hx hb dX12_read_115 (by decide) ?_
                refine lv_goto (tgt := 120) hx hb dX12_read_116 (by decide) ?_
                refine lv_iadd hx hb dX12_read_120 ?_
                refine k_topi (nI_add w 1) ?_
                refine lv_istore (lv' := [(5, .int (nI (w + 1))), (6, .int (nI i)), (4, .int 0), (0, .ref (b 0)), (1, .int (nI k)), (2, .int (nI q)), (3, .int (nI p))]) hx hb dX12_read_121 hl (by decide) rfl (fun ls hl => ?_)
                refine lv_iinc (v := nI (i + 1)) (lv' := [(6, .int (nI (i + 1))), (5, .int (nI (w + 1))), (4, .int 0), (0, .ref (b 0)), (1, .int (nI k)), (2, .int (nI q)), (3, .int (nI p))]) hx hb dX12_read_123 hl (k := 1) rfl (nI_add i 1) (by decide) rfl (fun ls hl => ?_)
                refine lv_goto (tgt := 59) hx hb dX12_read_126 (by decide) ?_
                exact ih59 (i + 1) n (w + 1) u109 (by omega) (by omega) (by rw [← hR, cntL, show rdB (rn k) (zR so k) f p q i = _ from c112]; rfl) _ hl _ _ X
        exact lp59 (36 + 1) 0 36 0 tch (by omega) (by omega) (rfl) _ hl _ _ X
      · have hp0 : isP f z = false := c25
        refine lv_ldc (v := (-1000000001)) hx hb K.2.2.2.1 (K.2.2.2.2.1 _ (Mw_at 905 (by decide +kernel) (by decide +kernel))) dX12_read_28 ?_
        refine lv_goto (tgt := 35) hx hb dX12_read_30 (by decide) ?_
        refine lv_istore (lv' := [(4, .int (-1000000001)), (0, .ref (b 0)), (1, .int (nI k)), (2, .int (nI q)), (3, .int z)]) hx hb dX12_read_35 hl (by decide) rfl (fun ls hl => ?_)
        refine lv_iload hx hb dX12_read_37 (lv_at hl 0 rfl) ?_
        refine k_if_eq hx hb 49 dX12_read_39 (by decide) (fun h => absurd h (by decide)) (fun _ => ?_)
        refine lv_aload_n hx hb dX12_read_42 rfl (lv_at hl 1 rfl) ?_
        refine lv_iload hx hb dX12_read_43 (lv_at hl 0 rfl) ?_
        refine k_topi (show (-1000000001 : Int32) = fnd 0 by decide) ?_
        refine k_callV K X gv_X12_37 (As := [.int (fnd 0)]) (c_X12_finds l E b (flat f) hf wf ik fd tch tp tl tk tb ta tv bad bo so (flR rn) 0 (by decide)) [0, 1, 2, 3, 4, 5, 6, 7, 8] modW_idC (by decide +kernel) (fun _ => modW_fst) 0 12 rfl rfl (by decide) rfl hl.1 (rest := []) rfl (Nat.le_of_ble_eq_true rfl) dX12_read_45 (st1 := fun _ => [.int (fnd 0)]) (fun _ => rfl) (fun _ H locs _ X => ?_)
        have X : Wd E _ _ (modW E b (flat f) hf wf ik (fdU fd 0) tch tp tl tk tb ta tv bad bo so (flR rn)) _ _ := X.eq modW_idP
        exact k_topi (x' := (oRead bo so rn f fd (nI k) (nI q) z).1) (by simp [oRead, hx0, ek, hb0, hy0, eq, hp0]) (fin (wf, tch) 48 _ _ _ trivial (X.eq (by simp [oRead, hx0, ek, hb0, hy0, eq, hp0])) dX12_read_48)
