set_option maxRecDepth 100000 in
set_option maxHeartbeats 4000000 in
theorem c_X12_passes (l : Launch) (E : EE) (b : Nat → Nat) (mf : Nat → Int32) (hf : Nat → Int32) (wf : Nat → Int32) (ik : Int32) (fd : Nat → Int32) (tch : Int32) (tp : Nat → Int32) (bo : Nat → Int32) (so : Nat → Int32) (ce : Nat → Int64) (n : Nat) (s : Nat) (bd : Bool) (w : Nat) (hn : n ≤ 120) (hs : s ≤ n) (hw : w < 1000) : Kd l yX12_passes cX12_passes 2 (some .boolean) 3 66 E (modW E b mf hf wf ik fd tch tp (nI n) (nI (mkS tp n s)) (nI s) (nI (enS tp n s)) (tvS tp n s) (b2i bd) bo so ce) [.ref (b 0), .int (nI w)] (some (.int (b2i (psB tp n bd s w)))) (modW E b mf hf wf ik fd tch tp (nI n) (nI (mkS tp n (psS tp n bd s w))) (nI (psS tp n bd s w)) (nI (enS tp n (psS tp n bd s w))) (tvS tp n (psS tp n bd s w)) (b2i bd) bo so ce) := by
  refine Kn.ofWi (by decide +kernel) (Nat.le_of_ble_eq_true rfl) (fun _ _ => b2i_nar _) ?_
  intro pg ev s0 mm below meth cd Q K X fin ls hl
  have hx := K.1
  have hb := K.2.1
  have hen := enS_le tp hs
  have hmk := mkS_lt tp n s
  have hl : lv_has ls 2 [(0, .ref (b 0)), (1, .int (nI w))] := hl
  refine lv_aload_n hx hb dX12_passes_0 rfl (lv_at hl 0 rfl) ?_
  refine k_get K X 0 rfl fg_X12_189 (v := .int (b2i bd)) rfl dX12_passes_1 ?_
  refine k_ifneB (B := bd) hx hb 15 dX12_passes_4 (by decide) (fun c4 => ?_) (fun c4 => ?_)
  · refine lv_iconst (v := 0) hx hb dX12_passes_15 (by decide) ?_
    exact k_topi (x' := b2i (psB tp n bd s w)) (by rw [psB, c4]; rfl) (fin () 16 _ _ _ trivial (X.eq (by rw [psS, psB, c4]; rfl)) dX12_passes_16)
  · refine lv_aload_n hx hb dX12_passes_7 rfl (lv_at hl 0 rfl) ?_
    refine k_get K X 0 rfl fg_X12_183 (v := .int (nI (mkS tp n s))) rfl dX12_passes_8 ?_
    refine lv_iload_n hx hb dX12_passes_11 rfl (lv_at hl 1 rfl) ?_
    refine kN_eq (x := mkS tp n s) (y := w) hx hb 17 dX12_passes_12 (by decide) (by omega) (by omega) (fun c12 => ?_) (fun c12 => ?_)
    · refine lv_aload_n hx hb dX12_passes_17 rfl (lv_at hl 0 rfl) ?_
      refine k_callV K X gv_X12_193 (As := []) (c_X12_reads l E b mf hf wf ik fd tch tp (nI (mkS tp n s)) (nI s) (tvS tp n s) (b2i bd) bo so ce n (enS tp n s) (by omega) (by omega)) [0, 1, 2, 3, 4, 5, 6, 7, 8] modW_idC (by decide +kernel) (fun _ => modW_fst) 0 12 rfl rfl (by decide) rfl hl.1 (rest := []) rfl (Nat.le_of_ble_eq_true rfl) dX12_passes_18 (st1 := fun _ => []) (fun _ => rfl) (fun _ H locs _ X => ?_)
      have X : Wd E _ _ (modW E b mf hf wf ik fd tch tp (nI n) (nI (mkS tp n (skS tp n (enS tp n s)))) (nI (skS tp n (enS tp n s))) (nI (enS tp n (skS tp n (enS tp n s)))) (tvS tp n (skS tp n (enS tp n s))) (b2i bd) bo so ce) _ _ := X.eq modW_idP
      refine lv_iconst (v := 1) hx hb dX12_passes_21 (by decide) ?_
      exact k_topi (x' := b2i (psB tp n bd s w)) (by rw [psB, c4, decide_eq_true c12]; rfl) (fin () 22 _ _ _ trivial (X.eq (by rw [psS, psB, c4, decide_eq_true c12]; rfl)) dX12_passes_22)
    · refine lv_iconst (v := 0) hx hb dX12_passes_15 (by decide) ?_
      exact k_topi (x' := b2i (psB tp n bd s w)) (by rw [psB, c4, decide_eq_false c12]; rfl) (fin () 16 _ _ _ trivial (X.eq (by rw [psS, psB, c4, decide_eq_false c12]; rfl)) dX12_passes_16)
set_option maxRecDepth 100000 in
set_option maxHeartbeats 4000000 in
theorem c_X12_number (l : Launch) (E : EE) (b : Nat → Nat) (mf : Nat → Int32) (hf : Nat → Int32) (wf : Nat → Int32) (ik : Int32) (fd : Nat → Int32) (tch : Int32) (tp : Nat → Int32) (bo : Nat → Int32) (so : Nat → Int32) (ce : Nat → Int64) (n : Nat) (s : Nat) (bd : Bool) (m : Nat) (hn : n ≤ 120) (hs : s ≤ n) (hm : m < 1000) : Kd l yX12_number cX12_number 4 (some .int) 3 66 E (modW E b mf hf wf ik fd tch tp (nI n) (nI (mkS tp n s)) (nI s) (nI (enS tp n s)) (tvS tp n s) (b2i bd) bo so ce) [.ref (b 0), .int 0, .int (nI m)] (some (.int (tvS tp n s))) (modW E b mf hf wf ik fd tch tp (nI n) (nI (mkS tp n (nuS tp n bd s m))) (nI (nuS tp n bd s m)) (nI (enS tp n (nuS tp n bd s m))) (tvS tp n (nuS tp n bd s m)) (b2i (nuB tp n bd s m)) bo so ce) := by
  refine Kn.ofWi (by decide +kernel) (Nat.le_of_ble_eq_true rfl) (fun _ _ => rfl) ?_
  intro pg ev s0 mm below meth cd Q K X fin ls hl
  have hx := K.1
  have hb := K.2.1
  have hen := enS_le tp hs
  have hmk := mkS_lt tp n s
  have hl : lv_has ls 4 [(0, .ref (b 0)), (1, .int 0), (2, .int (nI m))] := hl
  refine lv_aload_n hx hb dX12_number_0 rfl (lv_at hl 0 rfl) ?_
  refine k_get K X 0 rfl fg_X12_180 (v := .int (tvS tp n s)) rfl dX12_number_1 ?_
  refine lv_istore_n (lv' := [(3, .int (tvS tp n s)), (0, .ref (b 0)), (1, .int 0), (2, .int (nI m))]) hx hb dX12_number_4 rfl hl (by decide) rfl (fun ls hl => ?_)
  refine lv_aload_n hx hb dX12_number_5 rfl (lv_at hl 1 rfl) ?_
  refine lv_aload_n hx hb dX12_number_6 rfl (lv_at hl 1 rfl) ?_
  refine k_get K X 0 rfl fg_X12_189 (v := .int (b2i bd)) rfl dX12_number_7 ?_
  refine k_ifneB (B := bd) hx hb 32 dX12_number_10 (by decide) (fun c10 => ?_) (fun c10 => ?_)
  · have hnb : nuB tp n bd s m = true := by rw [nuB, c10]; rfl
    have hq : nuS tp n bd s m = s := by rw [nuS, hnb]; rfl
    refine lv_iconst (v := 1) hx hb dX12_number_32 (by decide) ?_
    refine lv_goto (tgt := 37) hx hb dX12_number_33 (by decide) ?_
    refine k_put K X 0 rfl fp_X12_189 (v := .int 1) rfl rfl (Nat.le_of_ble_eq_true rfl) dX12_number_37 (fun H locs X => ?_)
    have X : Wd E _ _ (modW E b mf hf wf ik fd tch tp (nI n) (nI (mkS tp n s)) (nI s) (nI (enS tp n s)) (tvS tp n s) 1 bo so ce) _ _ := X
    refine lv_aload_n hx hb dX12_number_40 rfl (lv_at hl 1 rfl) ?_
    refine k_get K X 0 rfl fg_X12_189 (v := .int 1) rfl dX12_number_41 ?_
    refine k_if1ne hx hb 51 dX12_number_44 (by decide) ?_
    refine lv_iload_n hx hb dX12_number_51 rfl (lv_at hl 0 rfl) ?_
    exact k_topi (x' := tvS tp n s) (rfl) (fin () 52 _ _ _ trivial (X.eq (by rw [hq, hnb]; rfl)) dX12_number_52)
  · refine lv_aload_n hx hb dX12_number_13 rfl (lv_at hl 1 rfl) ?_
    refine k_get K X 0 rfl fg_X12_183 (v := .int (nI (mkS tp n s))) rfl dX12_number_14 ?_
    refine lv_bipush (v := 20) hx hb dX12_number_17 (by decide) ?_
    refine kN_ne (x := mkS tp n s) (y := 20) hx hb 32 dX12_number_19 (by decide) (by omega) (by omega) (fun c19 => ?_) (fun c19 => ?_)
    · have hnb : nuB tp n bd s m = true := by rw [nuB, c10, num_not c19]; rfl
      have hq : nuS tp n bd s m = s := by rw [nuS, hnb]; rfl
      refine lv_iconst (v := 1) hx hb dX12_number_32 (by decide) ?_
      refine lv_goto (tgt := 37) hx hb dX12_number_33 (by decide) ?_
      refine k_put K X 0 rfl fp_X12_189 (v := .int 1) rfl rfl (Nat.le_of_ble_eq_true rfl) dX12_number_37 (fun H locs X => ?_)
      have X : Wd E _ _ (modW E b mf hf wf ik fd tch tp (nI n) (nI (mkS tp n s)) (nI s) (nI (enS tp n s)) (tvS tp n s) 1 bo so ce) _ _ := X
      refine lv_aload_n hx hb dX12_number_40 rfl (lv_at hl 1 rfl) ?_
      refine k_get K X 0 rfl fg_X12_189 (v := .int 1) rfl dX12_number_41 ?_
      refine k_if1ne hx hb 51 dX12_number_44 (by decide) ?_
      refine lv_iload_n hx hb dX12_number_51 rfl (lv_at hl 0 rfl) ?_
      exact k_topi (x' := tvS tp n s) (rfl) (fin () 52 _ _ _ trivial (X.eq (by rw [hq, hnb]; rfl)) dX12_number_52)
    · refine lv_iload_n hx hb dX12_number_22 rfl (lv_at hl 0 rfl) ?_
      refine lv_i2l (v := (tvS tp n s).toInt64) hx hb dX12_number_23 rfl ?_
      refine lv_iload_n hx hb dX12_number_24 rfl (lv_at hl 2 rfl) ?_
      refine lv_iload_n hx hb dX12_number_25 rfl (lv_at hl 3 rfl) ?_
      refine k_callS K X gs_X12_41 (As := [.long ((tvS tp n s).toInt64), .int 0, .int (nI m)]) (c_X12_in l E (tvS tp n s) 0 (nI m)) [] rfl (by decide +kernel) (fun _ => rfl) (by decide) rfl hl.1 (rest := [.ref (b 0)]) rfl (Nat.le_of_ble_eq_true rfl) dX12_number_26 (st1 := fun _ => [.int (b2i (inR (tvS tp n s) 0 (nI m))), .ref (b 0)]) (fun _ => rfl) (fun _ H locs _ X => ?_)
      have X : Wd E _ _ (modW E b mf hf wf ik fd tch tp (nI n) (nI (mkS tp n s)) (nI s) (nI (enS tp n s)) (tvS tp n s) (b2i bd) bo so ce) _ _ := X
      refine k_ifneB (B := (inR (tvS tp n s) 0 (nI m))) hx hb 36 dX12_number_29 (by decide) (fun c29 => ?_) (fun c29 => ?_)
      · have hnb : nuB tp n bd s m = false := by rw [nuB, c10, ← num_val c19 hm, c29]; rfl
        have hq : nuS tp n bd s m = skS tp n (enS tp n s) := by rw [nuS, hnb]; rfl
        refine lv_iconst (v := 0) hx hb dX12_number_36 (by decide) ?_
        refine k_put K X 0 rfl fp_X12_189 (v := .int 0) rfl rfl (Nat.le_of_ble_eq_true rfl) dX12_number_37 (fun H locs X => ?_)
        have X : Wd E _ _ (modW E b mf hf wf ik fd tch tp (nI n) (nI (mkS tp n s)) (nI s) (nI (enS tp n s)) (tvS tp n s) 0 bo so ce) _ _ := X
        refine lv_aload_n hx hb dX12_number_40 rfl (lv_at hl 1 rfl) ?_
        refine k_get K X 0 rfl fg_X12_189 (v := .int 0) rfl dX12_number_41 ?_
        refine k_if0ne hx hb dX12_number_44 ⟨51, by decide⟩ ?_
        refine lv_aload_n hx hb dX12_number_47 rfl (lv_at hl 1 rfl) ?_
        refine k_callV K X gv_X12_193 (As := []) (c_X12_reads l E b mf hf wf ik fd tch tp (nI (mkS tp n s)) (nI s) (tvS tp n s) 0 bo so ce n (enS tp n s) (by omega) (by omega)) [0, 1, 2, 3, 4, 5, 6, 7, 8] modW_idC (by decide +kernel) (fun _ => modW_fst) 0 12 rfl rfl (by decide) rfl hl.1 (rest := []) rfl (Nat.le_of_ble_eq_true rfl) dX12_number_48 (st1 := fun _ => []) (fun _ => rfl) (fun _ H locs _ X => ?_)
        have X : Wd E _ _ (modW E b mf hf wf ik fd tch tp (nI n) (nI (mkS tp n (skS tp n (enS tp n s)))) (nI (skS tp n (enS tp n s))) (nI (enS tp n (skS tp n (enS tp n s)))) (tvS tp n (skS tp n (enS tp n s))) 0 bo so ce) _ _ := X.eq modW_idP
        refine lv_iload_n hx hb dX12_number_51 rfl (lv_at hl 0 rfl) ?_
        exact k_topi (x' := tvS tp n s) (rfl) (fin () 52 _ _ _ trivial (X.eq (by rw [hq, hnb]; rfl)) dX12_number_52)
      · have hnb : nuB tp n bd s m = true := by rw [nuB, c10, ← num_val c19 hm, c29]; rfl
        have hq : nuS tp n bd s m = s := by rw [nuS, hnb]; rfl
        refine lv_iconst (v := 1) hx hb dX12_number_32 (by decide) ?_
        refine lv_goto (tgt := 37) hx hb dX12_number_33 (by decide) ?_
        refine k_put K X 0 rfl fp_X12_189 (v := .int 1) rfl rfl (Nat.le_of_ble_eq_true rfl) dX12_number_37 (fun H locs X => ?_)
        have X : Wd E _ _ (modW E b mf hf wf ik fd tch tp (nI n) (nI (mkS tp n s)) (nI s) (nI (enS tp n s)) (tvS tp n s) 1 bo so ce) _ _ := X
        refine lv_aload_n hx hb dX12_number_40 rfl (lv_at hl 1 rfl) ?_
        refine k_get K X 0 rfl fg_X12_189 (v := .int 1) rfl dX12_number_41 ?_
        refine k_if1ne hx hb 51 dX12_number_44 (by decide) ?_
        refine lv_iload_n hx hb dX12_number_51 rfl (lv_at hl 0 rfl) ?_
        exact k_topi (x' := tvS tp n s) (rfl) (fin () 52 _ _ _ trivial (X.eq (by rw [hq, hnb]; rfl)) dX12_number_52)
set_option maxRecDepth 100000 in
set_option maxHeartbeats 4000000 in
theorem c_X12_slipItem (l : Launch) (E : EE) (b : Nat → Nat) (hf : Nat → Int32) (wf : Nat → Int32) (ik : Int32) (fd : Nat → Int32) (tch : Int32) (tp : Nat → Int32) (bad : Int32) (bo : Nat → Int32) (so : Nat → Int32) (ce : Nat → Int64) (f : St) (T : Nat) (n : Nat) (s : Nat) (I : Inv T f) (hn : n ≤ 120) (hs : s ≤ n) : Kd l yX12_slipItem cX12_slipItem 4 none 4 89 E (modW E b (flat f) hf wf ik fd tch tp (nI n) (nI (mkS tp n s)) (nI s) (nI (enS tp n s)) (tvS tp n s) bad bo so ce) [.ref (b 0)] none (modW E b (flat ((imSlip tp n f s).2.2)) hf wf ik fd tch tp (nI n) (nI (mkS tp n ((imSlip tp n f s).2.1))) (nI ((imSlip tp n f s).2.1)) (nI (enS tp n ((imSlip tp n f s).2.1))) (tvS tp n ((imSlip tp n f s).2.1)) (b2i (imSlip tp n f s).1) bo so ce) := by
  refine Kn.ofWv (by decide +kernel) (Nat.le_of_ble_eq_true rfl) ?_
  intro pg ev s0 mm below meth cd Q K X fin ls hl
  have hx := K.1
  have hb := K.2.1
  have hs10 := I.s10
  have hp6 := I.p6
  have hen := enS_le tp hs
  have hmk := mkS_lt tp n s
  have hl : lv_has ls 4 [(0, .ref (b 0))] := hl
  refine lv_aload_n hx hb dX12_slipItem_0 rfl (lv_at hl 0 rfl) ?_
  refine lv_aload_n hx hb dX12_slipItem_1 rfl (lv_at hl 0 rfl) ?_
  refine k_get K X 0 rfl fg_X12_9 (v := .ref (b 1)) rfl dX12_slipItem_2 ?_
  refine lv_iconst (v := 2) hx hb dX12_slipItem_5 (by decide) ?_
  refine k_ialdN K X 1 rfl (k := 2) (by omega) (by decide) dX12_slipItem_6 (v := f 0 2) rfl ?_
  refine k_topi (I.hS) ?_
  refine lv_bipush (v := 10) hx hb dX12_slipItem_7 (by decide) ?_
  refine kN_ne (x := sl f) (y := 10) hx hb 16 dX12_slipItem_9 (by decide) (by omega) (by omega) (fun c9 => ?_) (fun c9 => ?_)
  · refine lv_iconst (v := 0) hx hb dX12_slipItem_16 (by decide) ?_
    refine k_put K X 0 rfl fp_X12_189 (v := .int 0) rfl rfl (Nat.le_of_ble_eq_true rfl) dX12_slipItem_17 (fun H locs X => ?_)
    have X : Wd E _ _ (modW E b (flat f) hf wf ik fd tch tp (nI n) (nI (mkS tp n s)) (nI s) (nI (enS tp n s)) (tvS tp n s) 0 bo so ce) _ _ := X
    refine lv_aload_n hx hb dX12_slipItem_20 rfl (lv_at hl 0 rfl) ?_
    refine k_get K X 0 rfl fg_X12_189 (v := .int 0) rfl dX12_slipItem_21 ?_
    refine k_if0eq hx hb 28 dX12_slipItem_24 (by decide) ?_
    refine lv_aload_n hx hb dX12_slipItem_28 rfl (lv_at hl 0 rfl) ?_
    refine k_callV K X gv_X12_193 (As := []) (c_X12_reads l E b (flat f) hf wf ik fd tch tp (nI (mkS tp n s)) (nI s) (tvS tp n s) 0 bo so ce n (enS tp n s) (by omega) (by omega)) [0, 1, 2, 3, 4, 5, 6, 7, 8] modW_idC (by decide +kernel) (fun _ => modW_fst) 0 12 rfl rfl (by decide) rfl hl.1 (rest := []) rfl (Nat.le_of_ble_eq_true rfl) dX12_slipItem_29 (st1 := fun _ => []) (fun _ => rfl) (fun _ H locs _ X => ?_)
    have X : Wd E _ _ (modW E b (flat f) hf wf ik fd tch tp (nI n) (nI (mkS tp n (skS tp n (enS tp n s)))) (nI (skS tp n (enS tp n s))) (nI (enS tp n (skS tp n (enS tp n s)))) (tvS tp n (skS tp n (enS tp n s))) 0 bo so ce) _ _ := X.eq modW_idP
    have hal : skS tp n (enS tp n s) ≤ n := nx_le tp hs
    have hae := enS_le tp hal
    refine lv_aload_n hx hb dX12_slipItem_32 rfl (lv_at hl 0 rfl) ?_
    refine lv_bipush (v := 7) hx hb dX12_slipItem_33 (by decide) ?_
    refine k_callV K X gv_X12_196 (As := [.int 7]) (c_X12_passes l E b (flat f) hf wf ik fd tch tp bo so ce n (skS tp n (enS tp n s)) false 7 (by omega) (by omega) (by decide)) [0, 1, 2, 3, 4, 5, 6, 7, 8] modW_idC (by decide +kernel) (fun _ => modW_fst) 0 12 rfl rfl (by decide) rfl hl.1 (rest := []) rfl (Nat.le_of_ble_eq_true rfl) dX12_slipItem_35 (st1 := fun _ => [.int (b2i (psB tp n false (skS tp n (enS tp n s)) 7))]) (fun _ => rfl) (fun _ H locs _ X => ?_)
    have X : Wd E _ _ (modW E b (flat f) hf wf ik fd tch tp (nI n) (nI (mkS tp n (psS tp n false (skS tp n (enS tp n s)) 7))) (nI (psS tp n false (skS tp n (enS tp n s)) 7)) (nI (enS tp n (psS tp n false (skS tp n (enS tp n s)) 7))) (tvS tp n (psS tp n false (skS tp n (enS tp n s)) 7)) 0 bo so ce) _ _ := X.eq modW_idP
    have hpl : psS tp n false (skS tp n (enS tp n s)) 7 ≤ n := psS_le tp hal
    refine k_ifeqB (B := (psB tp n false (skS tp n (enS tp n s)) 7)) hx hb 45 dX12_slipItem_38 (by decide) (fun c38 => ?_) (fun c38 => ?_)
    · refine lv_aload_n hx hb dX12_slipItem_45 rfl (lv_at hl 0 rfl) ?_
      refine lv_iconst (v := 0) hx hb dX12_slipItem_46 (by decide) ?_
      refine lv_iconst (v := 5) hx hb dX12_slipItem_47 (by decide) ?_
      refine k_callV K X gv_X12_199 (As := [.int 0, .int 5]) (c_X12_number l E b (flat f) hf wf ik fd tch tp bo so ce n (psS tp n false (skS tp n (enS tp n s)) 7) false 5 (by omega) (by omega) (by decide)) [0, 1, 2, 3, 4, 5, 6, 7, 8] modW_idC (by decide +kernel) (fun _ => modW_fst) 0 12 rfl rfl (by decide) rfl hl.1 (rest := []) rfl (Nat.le_of_ble_eq_true rfl) dX12_slipItem_48 (st1 := fun _ => [.int (tvS tp n (psS tp n false (skS tp n (enS tp n s)) 7))]) (fun _ => rfl) (fun _ H locs _ X => ?_)
      have X : Wd E _ _ (modW E b (flat f) hf wf ik fd tch tp (nI n) (nI (mkS tp n (nuS tp n false (psS tp n false (skS tp n (enS tp n s)) 7) 5))) (nI (nuS tp n false (psS tp n false (skS tp n (enS tp n s)) 7) 5)) (nI (enS tp n (nuS tp n false (psS tp n false (skS tp n (enS tp n s)) 7) 5))) (tvS tp n (nuS tp n false (psS tp n false (skS tp n (enS tp n s)) 7) 5)) (b2i (nuB tp n false (psS tp n false (skS tp n (enS tp n s)) 7) 5)) bo so ce) _ _ := X.eq modW_idP
      refine lv_istore_n (lv' := [(1, .int (tvS tp n (psS tp n false (skS tp n (enS tp n s)) 7))), (0, .ref (b 0))]) hx hb dX12_slipItem_51 rfl hl (by decide) rfl (fun ls hl => ?_)
      have hn5 : nuS tp n false (psS tp n false (skS tp n (enS tp n s)) 7) 5 ≤ n := nuS_le tp hpl
      refine lv_aload_n hx hb dX12_slipItem_52 rfl (lv_at hl 1 rfl) ?_
      refine lv_bipush (v := 8) hx hb dX12_slipItem_53 (by decide) ?_
      refine k_callV K X gv_X12_196 (As := [.int 8]) (c_X12_passes l E b (flat f) hf wf ik fd tch tp bo so ce n (nuS tp n false (psS tp n false (skS tp n (enS tp n s)) 7) 5) (nuB tp n false (psS tp n false (skS tp n (enS tp n s)) 7) 5) 8 (by omega) (by omega) (by decide)) [0, 1, 2, 3, 4, 5, 6, 7, 8] modW_idC (by decide +kernel) (fun _ => modW_fst) 0 12 rfl rfl (by decide) rfl hl.1 (rest := []) rfl (Nat.le_of_ble_eq_true rfl) dX12_slipItem_55 (st1 := fun _ => [.int (b2i (psB tp n (nuB tp n false (psS tp n false (skS tp n (enS tp n s)) 7) 5) (nuS tp n false (psS tp n false (skS tp n (enS tp n s)) 7) 5) 8))]) (fun _ => rfl) (fun _ H locs _ X => ?_)
      have X : Wd E _ _ (modW E b (flat f) hf wf ik fd tch tp (nI n) (nI (mkS tp n (psS tp n (nuB tp n false (psS tp n false (skS tp n (enS tp n s)) 7) 5) (nuS tp n false (psS tp n false (skS tp n (enS tp n s)) 7) 5) 8))) (nI (psS tp n (nuB tp n false (psS tp n false (skS tp n (enS tp n s)) 7) 5) (nuS tp n false (psS tp n false (skS tp n (enS tp n s)) 7) 5) 8)) (nI (enS tp n (psS tp n (nuB tp n false (psS tp n false (skS tp n (enS tp n s)) 7) 5) (nuS tp n false (psS tp n false (skS tp n (enS tp n s)) 7) 5) 8))) (tvS tp n (psS tp n (nuB tp n false (psS tp n false (skS tp n (enS tp n s)) 7) 5) (nuS tp n false (psS tp n false (skS tp n (enS tp n s)) 7) 5) 8)) (b2i (nuB tp n false (psS tp n false (skS tp n (enS tp n s)) 7) 5)) bo so ce) _ _ := X.eq modW_idP
      refine k_ifeqB (B := (psB tp n (nuB tp n false (psS tp n false (skS tp n (enS tp n s)) 7) 5) (nuS tp n false (psS tp n false (skS tp n (enS tp n s)) 7) 5) 8)) hx hb 65 dX12_slipItem_58 (by decide) (fun c58 => ?_) (fun c58 => ?_)
      · refine lv_iconst (v := 0) hx hb dX12_slipItem_65 (by decide) ?_
        refine lv_istore_n (lv' := [(2, .int 0), (1, .int (tvS tp n (psS tp n false (skS tp n (enS tp n s)) 7))), (0, .ref (b 0))]) hx hb dX12_slipItem_66 rfl hl (by decide) rfl (fun ls hl => ?_)
        refine lv_aload_n hx hb dX12_slipItem_67 rfl (lv_at hl 2 rfl) ?_
        refine k_get K X 0 rfl fg_X12_189 (v := .int (b2i (nuB tp n false (psS tp n false (skS tp n (enS tp n s)) 7) 5))) rfl dX12_slipItem_68 ?_
        refine k_ifneB (B := (nuB tp n false (psS tp n false (skS tp n (enS tp n s)) 7) 5)) hx hb 81 dX12_slipItem_71 (by decide) (fun c71 => ?_) (fun c71 => ?_)
        · exact fin () 81 _ _ _ trivial (X.eq (by rw [imSlip, decide_eq_false c9, cond_false, c38, cond_false, imFix, c58, c71] <;> rfl)) dX12_slipItem_81
        · refine lv_aload_n hx hb dX12_slipItem_74 rfl (lv_at hl 2 rfl) ?_
          refine lv_iload_n hx hb dX12_slipItem_75 rfl (lv_at hl 1 rfl) ?_
          refine lv_iload_n hx hb dX12_slipItem_76 rfl (lv_at hl 0 rfl) ?_
          refine k_callV K X gv_X12_71 (As := [.int (tvS tp n (psS tp n false (skS tp n (enS tp n s)) 7)), .int 0]) (c_X12_comesTo l E b hf wf ik fd tch tp (nI n) (nI (mkS tp n (psS tp n (nuB tp n false (psS tp n false (skS tp n (enS tp n s)) 7) 5) (nuS tp n false (psS tp n false (skS tp n (enS tp n s)) 7) 5) 8))) (nI (psS tp n (nuB tp n false (psS tp n false (skS tp n (enS tp n s)) 7) 5) (nuS tp n false (psS tp n false (skS tp n (enS tp n s)) 7) 5) 8)) (nI (enS tp n (psS tp n (nuB tp n false (psS tp n false (skS tp n (enS tp n s)) 7) 5) (nuS tp n false (psS tp n false (skS tp n (enS tp n s)) 7) 5) 8))) (tvS tp n (psS tp n (nuB tp n false (psS tp n false (skS tp n (enS tp n s)) 7) 5) (nuS tp n false (psS tp n false (skS tp n (enS tp n s)) 7) 5) 8)) (b2i (nuB tp n false (psS tp n false (skS tp n (enS tp n s)) 7) 5)) bo so ce f T (tvS tp n (psS tp n false (skS tp n (enS tp n s)) 7)) 0 I (by omega)) [0, 1, 2, 3, 4, 5, 6, 7, 8] modW_idC (by decide +kernel) (fun _ => modW_fst) 0 12 rfl rfl (by decide) rfl hl.1 (rest := []) rfl (Nat.le_of_ble_eq_true rfl) dX12_slipItem_77 (st1 := fun _ => [.int (nI (sl f))]) (fun _ => rfl) (fun _ H locs _ X => ?_)
          have X : Wd E _ _ (modW E b (flat (addS f (tvS tp n (psS tp n false (skS tp n (enS tp n s)) 7)) 0)) hf wf ik fd tch tp (nI n) (nI (mkS tp n (psS tp n (nuB tp n false (psS tp n false (skS tp n (enS tp n s)) 7) 5) (nuS tp n false (psS tp n false (skS tp n (enS tp n s)) 7) 5) 8))) (nI (psS tp n (nuB tp n false (psS tp n false (skS tp n (enS tp n s)) 7) 5) (nuS tp n false (psS tp n false (skS tp n (enS tp n s)) 7) 5) 8)) (nI (enS tp n (psS tp n (nuB tp n false (psS tp n false (skS tp n (enS tp n s)) 7) 5) (nuS tp n false (psS tp n false (skS tp n (enS tp n s)) 7) 5) 8))) (tvS tp n (psS tp n (nuB tp n false (psS tp n false (skS tp n (enS tp n s)) 7) 5) (nuS tp n false (psS tp n false (skS tp n (enS tp n s)) 7) 5) 8)) (b2i (nuB tp n false (psS tp n false (skS tp n (enS tp n s)) 7) 5)) bo so ce) _ _ := X.eq modW_idP
          refine lv_istore_n (lv' := [(3, .int (nI (sl f))), (2, .int 0), (1, .int (tvS tp n (psS tp n false (skS tp n (enS tp n s)) 7))), (0, .ref (b 0))]) hx hb dX12_slipItem_80 rfl hl (by decide) rfl (fun ls hl => ?_)
          exact fin () 81 _ _ _ trivial (X.eq (by rw [imSlip, decide_eq_false c9, cond_false, c38, cond_false, imFix, c58, c71] <;> rfl)) dX12_slipItem_81
      · refine lv_iconst (v := 1) hx hb dX12_slipItem_61 (by decide) ?_
        refine lv_goto (tgt := 66) hx hb dX12_slipItem_62 (by decide) ?_
        refine lv_istore_n (lv' := [(2, .int 1), (1, .int (tvS tp n (psS tp n false (skS tp n (enS tp n s)) 7))), (0, .ref (b 0))]) hx hb dX12_slipItem_66 rfl hl (by decide) rfl (fun ls hl => ?_)
        refine lv_aload_n hx hb dX12_slipItem_67 rfl (lv_at hl 2 rfl) ?_
        refine k_get K X 0 rfl fg_X12_189 (v := .int (b2i (nuB tp n false (psS tp n false (skS tp n (enS tp n s)) 7) 5))) rfl dX12_slipItem_68 ?_
        refine k_ifneB (B := (nuB tp n false (psS tp n false (skS tp n (enS tp n s)) 7) 5)) hx hb 81 dX12_slipItem_71 (by decide) (fun c71 => ?_) (fun c71 => ?_)
        · exact fin () 81 _ _ _ trivial (X.eq (by rw [imSlip, decide_eq_false c9, cond_false, c38, cond_false, imFix, c58, c71] <;> rfl)) dX12_slipItem_81
        · refine lv_aload_n hx hb dX12_slipItem_74 rfl (lv_at hl 2 rfl) ?_
          refine lv_iload_n hx hb dX12_slipItem_75 rfl (lv_at hl 1 rfl) ?_
          refine lv_iload_n hx hb dX12_slipItem_76 rfl (lv_at hl 0 rfl) ?_
          refine k_callV K X gv_X12_71 (As := [.int (tvS tp n (psS tp n false (skS tp n (enS tp n s)) 7)), .int 1]) (c_X12_comesTo l E b hf wf ik fd tch tp (nI n) (nI (mkS tp n (psS tp n (nuB tp n false (psS tp n false (skS tp n (enS tp n s)) 7) 5) (nuS tp n false (psS tp n false (skS tp n (enS tp n s)) 7) 5) 8))) (nI (psS tp n (nuB tp n false (psS tp n false (skS tp n (enS tp n s)) 7) 5) (nuS tp n false (psS tp n false (skS tp n (enS tp n s)) 7) 5) 8)) (nI (enS tp n (psS tp n (nuB tp n false (psS tp n false (skS tp n (enS tp n s)) 7) 5) (nuS tp n false (psS tp n false (skS tp n (enS tp n s)) 7) 5) 8))) (tvS tp n (psS tp n (nuB tp n false (psS tp n false (skS tp n (enS tp n s)) 7) 5) (nuS tp n false (psS tp n false (skS tp n (enS tp n s)) 7) 5) 8)) (b2i (nuB tp n false (psS tp n false (skS tp n (enS tp n s)) 7) 5)) bo so ce f T (tvS tp n (psS tp n false (skS tp n (enS tp n s)) 7)) 1 I (by omega)) [0, 1, 2, 3, 4, 5, 6, 7, 8] modW_idC (by decide +kernel) (fun _ => modW_fst) 0 12 rfl rfl (by decide) rfl hl.1 (rest := []) rfl (Nat.le_of_ble_eq_true rfl) dX12_slipItem_77 (st1 := fun _ => [.int (nI (sl f))]) (fun _ => rfl) (fun _ H locs _ X => ?_)
          have X : Wd E _ _ (modW E b (flat (addS f (tvS tp n (psS tp n false (skS tp n (enS tp n s)) 7)) 1)) hf wf ik fd tch tp (nI n) (nI (mkS tp n (psS tp n (nuB tp n false (psS tp n false (skS tp n (enS tp n s)) 7) 5) (nuS tp n false (psS tp n false (skS tp n (enS tp n s)) 7) 5) 8))) (nI (psS tp n (nuB tp n false (psS tp n false (skS tp n (enS tp n s)) 7) 5) (nuS tp n false (psS tp n false (skS tp n (enS tp n s)) 7) 5) 8)) (nI (enS tp n (psS tp n (nuB tp n false (psS tp n false (skS tp n (enS tp n s)) 7) 5) (nuS tp n false (psS tp n false (skS tp n (enS tp n s)) 7) 5) 8))) (tvS tp n (psS tp n (nuB tp n false (psS tp n false (skS tp n (enS tp n s)) 7) 5) (nuS tp n false (psS tp n false (skS tp n (enS tp n s)) 7) 5) 8)) (b2i (nuB tp n false (psS tp n false (skS tp n (enS tp n s)) 7) 5)) bo so ce) _ _ := X.eq modW_idP
          refine lv_istore_n (lv' := [(3, .int (nI (sl f))), (2, .int 1), (1, .int (tvS tp n (psS tp n false (skS tp n (enS tp n s)) 7))), (0, .ref (b 0))]) hx hb dX12_slipItem_80 rfl hl (by decide) rfl (fun ls hl => ?_)
          exact fin () 81 _ _ _ trivial (X.eq (by rw [imSlip, decide_eq_false c9, cond_false, c38, cond_false, imFix, c58, c71] <;> rfl)) dX12_slipItem_81
    · refine lv_iconst (v := (-1)) hx hb dX12_slipItem_41 (by decide) ?_
      refine lv_goto (tgt := 51) hx hb dX12_slipItem_42 (by decide) ?_
      refine lv_istore_n (lv' := [(1, .int (-1)), (0, .ref (b 0))]) hx hb dX12_slipItem_51 rfl hl (by decide) rfl (fun ls hl => ?_)
      refine lv_aload_n hx hb dX12_slipItem_52 rfl (lv_at hl 1 rfl) ?_
      refine lv_bipush (v := 8) hx hb dX12_slipItem_53 (by decide) ?_
      refine k_callV K X gv_X12_196 (As := [.int 8]) (c_X12_passes l E b (flat f) hf wf ik fd tch tp bo so ce n (psS tp n false (skS tp n (enS tp n s)) 7) false 8 (by omega) (by omega) (by decide)) [0, 1, 2, 3, 4, 5, 6, 7, 8] modW_idC (by decide +kernel) (fun _ => modW_fst) 0 12 rfl rfl (by decide) rfl hl.1 (rest := []) rfl (Nat.le_of_ble_eq_true rfl) dX12_slipItem_55 (st1 := fun _ => [.int (b2i (psB tp n false (psS tp n false (skS tp n (enS tp n s)) 7) 8))]) (fun _ => rfl) (fun _ H locs _ X => ?_)
      have X : Wd E _ _ (modW E b (flat f) hf wf ik fd tch tp (nI n) (nI (mkS tp n (psS tp n false (psS tp n false (skS tp n (enS tp n s)) 7) 8))) (nI (psS tp n false (psS tp n false (skS tp n (enS tp n s)) 7) 8)) (nI (enS tp n (psS tp n false (psS tp n false (skS tp n (enS tp n s)) 7) 8))) (tvS tp n (psS tp n false (psS tp n false (skS tp n (enS tp n s)) 7) 8)) 0 bo so ce) _ _ := X.eq modW_idP
      refine k_ifeqB (B := (psB tp n false (psS tp n false (skS tp n (enS tp n s)) 7) 8)) hx hb 65 dX12_slipItem_58 (by decide) (fun c58 => ?_) (fun c58 => ?_)
      · refine lv_iconst (v := 0) hx hb dX12_slipItem_65 (by decide) ?_
        refine lv_istore_n (lv' := [(2, .int 0), (1, .int (-1)), (0, .ref (b 0))]) hx hb dX12_slipItem_66 rfl hl (by decide) rfl (fun ls hl => ?_)
        refine lv_aload_n hx hb dX12_slipItem_67 rfl (lv_at hl 2 rfl) ?_
        refine k_get K X 0 rfl fg_X12_189 (v := .int 0) rfl dX12_slipItem_68 ?_
        refine k_if0ne hx hb dX12_slipItem_71 ⟨81, by decide⟩ ?_
        refine lv_aload_n hx hb dX12_slipItem_74 rfl (lv_at hl 2 rfl) ?_
        refine lv_iload_n hx hb dX12_slipItem_75 rfl (lv_at hl 1 rfl) ?_
        refine lv_iload_n hx hb dX12_slipItem_76 rfl (lv_at hl 0 rfl) ?_
        refine k_callV K X gv_X12_71 (As := [.int (-1), .int 0]) (c_X12_comesTo l E b hf wf ik fd tch tp (nI n) (nI (mkS tp n (psS tp n false (psS tp n false (skS tp n (enS tp n s)) 7) 8))) (nI (psS tp n false (psS tp n false (skS tp n (enS tp n s)) 7) 8)) (nI (enS tp n (psS tp n false (psS tp n false (skS tp n (enS tp n s)) 7) 8))) (tvS tp n (psS tp n false (psS tp n false (skS tp n (enS tp n s)) 7) 8)) 0 bo so ce f T (-1) 0 I (by omega)) [0, 1, 2, 3, 4, 5, 6, 7, 8] modW_idC (by decide +kernel) (fun _ => modW_fst) 0 12 rfl rfl (by decide) rfl hl.1 (rest := []) rfl (Nat.le_of_ble_eq_true rfl) dX12_slipItem_77 (st1 := fun _ => [.int (nI (sl f))]) (fun _ => rfl) (fun _ H locs _ X => ?_)
        have X : Wd E _ _ (modW E b (flat (addS f (-1) 0)) hf wf ik fd tch tp (nI n) (nI (mkS tp n (psS tp n false (psS tp n false (skS tp n (enS tp n s)) 7) 8))) (nI (psS tp n false (psS tp n false (skS tp n (enS tp n s)) 7) 8)) (nI (enS tp n (psS tp n false (psS tp n false (skS tp n (enS tp n s)) 7) 8))) (tvS tp n (psS tp n false (psS tp n false (skS tp n (enS tp n s)) 7) 8)) 0 bo so ce) _ _ := X.eq modW_idP
        refine lv_istore_n (lv' := [(3, .int (nI (sl f))), (2, .int 0), (1, .int (-1)), (0, .ref (b 0))]) hx hb dX12_slipItem_80 rfl hl (by decide) rfl (fun ls hl => ?_)
        exact fin () 81 _ _ _ trivial (X.eq (by rw [imSlip, decide_eq_false c9, cond_false, c38, cond_true, imFix, cond_false, c58]; rfl)) dX12_slipItem_81
      · refine lv_iconst (v := 1) hx hb dX12_slipItem_61 (by decide) ?_
        refine lv_goto (tgt := 66) hx hb dX12_slipItem_62 (by decide) ?_
        refine lv_istore_n (lv' := [(2, .int 1), (1, .int (-1)), (0, .ref (b 0))]) hx hb dX12_slipItem_66 rfl hl (by decide) rfl (fun ls hl => ?_)
        refine lv_aload_n hx hb dX12_slipItem_67 rfl (lv_at hl 2 rfl) ?_
        refine k_get K X 0 rfl fg_X12_189 (v := .int 0) rfl dX12_slipItem_68 ?_
        refine k_if0ne hx hb dX12_slipItem_71 ⟨81, by decide⟩ ?_
        refine lv_aload_n hx hb dX12_slipItem_74 rfl (lv_at hl 2 rfl) ?_
        refine lv_iload_n hx hb dX12_slipItem_75 rfl (lv_at hl 1 rfl) ?_
        refine lv_iload_n hx hb dX12_slipItem_76 rfl (lv_at hl 0 rfl) ?_
        refine k_callV K X gv_X12_71 (As := [.int (-1), .int 1]) (c_X12_comesTo l E b hf wf ik fd tch tp (nI n) (nI (mkS tp n (psS tp n false (psS tp n false (skS tp n (enS tp n s)) 7) 8))) (nI (psS tp n false (psS tp n false (skS tp n (enS tp n s)) 7) 8)) (nI (enS tp n (psS tp n false (psS tp n false (skS tp n (enS tp n s)) 7) 8))) (tvS tp n (psS tp n false (psS tp n false (skS tp n (enS tp n s)) 7) 8)) 0 bo so ce f T (-1) 1 I (by omega)) [0, 1, 2, 3, 4, 5, 6, 7, 8] modW_idC (by decide +kernel) (fun _ => modW_fst) 0 12 rfl rfl (by decide) rfl hl.1 (rest := []) rfl (Nat.le_of_ble_eq_true rfl) dX12_slipItem_77 (st1 := fun _ => [.int (nI (sl f))]) (fun _ => rfl) (fun _ H locs _ X => ?_)
        have X : Wd E _ _ (modW E b (flat (addS f (-1) 1)) hf wf ik fd tch tp (nI n) (nI (mkS tp n (psS tp n false (psS tp n false (skS tp n (enS tp n s)) 7) 8))) (nI (psS tp n false (psS tp n false (skS tp n (enS tp n s)) 7) 8)) (nI (enS tp n (psS tp n false (psS tp n false (skS tp n (enS tp n s)) 7) 8))) (tvS tp n (psS tp n false (psS tp n false (skS tp n (enS tp n s)) 7) 8)) 0 bo so ce) _ _ := X.eq modW_idP
        refine lv_istore_n (lv' := [(3, .int (nI (sl f))), (2, .int 1), (1, .int (-1)), (0, .ref (b 0))]) hx hb dX12_slipItem_80 rfl hl (by decide) rfl (fun ls hl => ?_)
        exact fin () 81 _ _ _ trivial (X.eq (by rw [imSlip, decide_eq_false c9, cond_false, c38, cond_true, imFix, cond_false, c58]; rfl)) dX12_slipItem_81
  · refine lv_iconst (v := 1) hx hb dX12_slipItem_12 (by decide) ?_
    refine lv_goto (tgt := 17) hx hb dX12_slipItem_13 (by decide) ?_
    refine k_put K X 0 rfl fp_X12_189 (v := .int 1) rfl rfl (Nat.le_of_ble_eq_true rfl) dX12_slipItem_17 (fun H locs X => ?_)
    have X : Wd E _ _ (modW E b (flat f) hf wf ik fd tch tp (nI n) (nI (mkS tp n s)) (nI s) (nI (enS tp n s)) (tvS tp n s) 1 bo so ce) _ _ := X
    refine lv_aload_n hx hb dX12_slipItem_20 rfl (lv_at hl 0 rfl) ?_
    refine k_get K X 0 rfl fg_X12_189 (v := .int 1) rfl dX12_slipItem_21 ?_
    refine k_if1eq hx hb dX12_slipItem_24 ⟨28, by decide⟩ ?_
    exact fin () 27 _ _ _ trivial (X.eq (by rw [imSlip, decide_eq_true c9]; rfl)) dX12_slipItem_27
set_option maxRecDepth 100000 in
set_option maxHeartbeats 4000000 in
theorem c_X12_personItem (l : Launch) (E : EE) (b : Nat → Nat) (hf : Nat → Int32) (wf : Nat → Int32) (ik : Int32) (fd : Nat → Int32) (tch : Int32) (tp : Nat → Int32) (bad : Int32) (bo : Nat → Int32) (so : Nat → Int32) (ce : Nat → Int64) (f : St) (T : Nat) (n : Nat) (s : Nat) (I : Inv T f) (hn : n ≤ 120) (hs : s ≤ n) (hk6 : mkS tp n s < 6) : Kd l yX12_personItem cX12_personItem 5 none 4 89 E (modW E b (flat f) hf wf ik fd tch tp (nI n) (nI (mkS tp n s)) (nI s) (nI (enS tp n s)) (tvS tp n s) bad bo so ce) [.ref (b 0)] none (modW E b (flat ((imPerson tp n f s).2.2)) hf wf ik fd tch tp (nI n) (nI (mkS tp n ((imPerson tp n f s).2.1))) (nI ((imPerson tp n f s).2.1)) (nI (enS tp n ((imPerson tp n f s).2.1))) (tvS tp n ((imPerson tp n f s).2.1)) (b2i (imPerson tp n f s).1) bo so ce) := by
  refine Kn.ofWv (by decide +kernel) (Nat.le_of_ble_eq_true rfl) ?_
  intro pg ev s0 mm below meth cd Q K X fin ls hl
  have hx := K.1
  have hb := K.2.1
  have hs10 := I.s10
  have hp6 := I.p6
  have hen := enS_le tp hs
  have hmk := mkS_lt tp n s
  have hl : lv_has ls 5 [(0, .ref (b 0))] := hl
  refine lv_aload_n hx hb dX12_personItem_0 rfl (lv_at hl 0 rfl) ?_
  refine k_get K X 0 rfl fg_X12_183 (v := .int (nI (mkS tp n s))) rfl dX12_personItem_1 ?_
  refine lv_istore_n (lv' := [(1, .int (nI (mkS tp n s))), (0, .ref (b 0))]) hx hb dX12_personItem_4 rfl hl (by decide) rfl (fun ls hl => ?_)
  refine lv_aload_n hx hb dX12_personItem_5 rfl (lv_at hl 1 rfl) ?_
  refine lv_aload_n hx hb dX12_personItem_6 rfl (lv_at hl 1 rfl) ?_
  refine k_get K X 0 rfl fg_X12_9 (v := .ref (b 1)) rfl dX12_personItem_7 ?_
  refine lv_iconst (v := 3) hx hb dX12_personItem_10 (by decide) ?_
  refine k_ialdN K X 1 rfl (k := 3) (by omega) (by decide) dX12_personItem_11 (v := f 0 3) rfl ?_
  refine k_topi (I.hP) ?_
  refine lv_bipush (v := 6) hx hb dX12_personItem_12 (by decide) ?_
  refine kN_ne (x := pe f) (y := 6) hx hb 21 dX12_personItem_14 (by decide) (by omega) (by omega) (fun c14 => ?_) (fun c14 => ?_)
  · refine lv_iconst (v := 0) hx hb dX12_personItem_21 (by decide) ?_
    refine k_put K X 0 rfl fp_X12_189 (v := .int 0) rfl rfl (Nat.le_of_ble_eq_true rfl) dX12_personItem_22 (fun H locs X => ?_)
    have X : Wd E _ _ (modW E b (flat f) hf wf ik fd tch tp (nI n) (nI (mkS tp n s)) (nI s) (nI (enS tp n s)) (tvS tp n s) 0 bo so ce) _ _ := X
    refine lv_aload_n hx hb dX12_personItem_25 rfl (lv_at hl 1 rfl) ?_
    refine k_get K X 0 rfl fg_X12_189 (v := .int 0) rfl dX12_personItem_26 ?_
    refine k_if0eq hx hb 33 dX12_personItem_29 (by decide) ?_
    refine lv_aload_n hx hb dX12_personItem_33 rfl (lv_at hl 1 rfl) ?_
    refine k_callV K X gv_X12_193 (As := []) (c_X12_reads l E b (flat f) hf wf ik fd tch tp (nI (mkS tp n s)) (nI s) (tvS tp n s) 0 bo so ce n (enS tp n s) (by omega) (by omega)) [0, 1, 2, 3, 4, 5, 6, 7, 8] modW_idC (by decide +kernel) (fun _ => modW_fst) 0 12 rfl rfl (by decide) rfl hl.1 (rest := []) rfl (Nat.le_of_ble_eq_true rfl) dX12_personItem_34 (st1 := fun _ => []) (fun _ => rfl) (fun _ H locs _ X => ?_)
    have X : Wd E _ _ (modW E b (flat f) hf wf ik fd tch tp (nI n) (nI (mkS tp n (skS tp n (enS tp n s)))) (nI (skS tp n (enS tp n s))) (nI (enS tp n (skS tp n (enS tp n s)))) (tvS tp n (skS tp n (enS tp n s))) 0 bo so ce) _ _ := X.eq modW_idP
    refine lv_aload_n hx hb dX12_personItem_37 rfl (lv_at hl 1 rfl) ?_
    refine lv_iload_n hx hb dX12_personItem_38 rfl (lv_at hl 0 rfl) ?_
    refine k_callV K X gv_X12_97 (As := [.int (nI (mkS tp n s))]) (c_X12_comesAs l E b hf wf ik fd tch tp (nI n) (nI (mkS tp n (skS tp n (enS tp n s)))) (nI (skS tp n (enS tp n s))) (nI (enS tp n (skS tp n (enS tp n s)))) (tvS tp n (skS tp n (enS tp n s))) 0 bo so ce f T (nI (mkS tp n s)) I (by omega)) [0, 1, 2, 3, 4, 5, 6, 7, 8] modW_idC (by decide +kernel) (fun _ => modW_fst) 0 12 rfl rfl (by decide) rfl hl.1 (rest := []) rfl (Nat.le_of_ble_eq_true rfl) dX12_personItem_39 (st1 := fun _ => [.int (nI (pe f))]) (fun _ => rfl) (fun _ H locs _ X => ?_)
    have X : Wd E _ _ (modW E b (flat (addP f (nI (mkS tp n s)))) hf wf ik fd tch tp (nI n) (nI (mkS tp n (skS tp n (enS tp n s)))) (nI (skS tp n (enS tp n s))) (nI (enS tp n (skS tp n (enS tp n s)))) (tvS tp n (skS tp n (enS tp n s))) 0 bo so ce) _ _ := X.eq modW_idP
    refine lv_istore_n (lv' := [(2, .int (nI (pe f))), (1, .int (nI (mkS tp n s))), (0, .ref (b 0))]) hx hb dX12_personItem_42 rfl hl (by decide) rfl (fun ls hl => ?_)
    have hal : skS tp n (enS tp n s) ≤ n := nx_le tp hs
    have hae := enS_le tp hal
    refine lv_aload_n hx hb dX12_personItem_43 rfl (lv_at hl 2 rfl) ?_
    refine lv_bipush (v := 9) hx hb dX12_personItem_44 (by decide) ?_
    refine k_callV K X gv_X12_196 (As := [.int 9]) (c_X12_passes l E b (flat (addP f (nI (mkS tp n s)))) hf wf ik fd tch tp bo so ce n (skS tp n (enS tp n s)) false 9 (by omega) (by omega) (by decide)) [0, 1, 2, 3, 4, 5, 6, 7, 8] modW_idC (by decide +kernel) (fun _ => modW_fst) 0 12 rfl rfl (by decide) rfl hl.1 (rest := []) rfl (Nat.le_of_ble_eq_true rfl) dX12_personItem_46 (st1 := fun _ => [.int (b2i (psB tp n false (skS tp n (enS tp n s)) 9))]) (fun _ => rfl) (fun _ H locs _ X => ?_)
    have X : Wd E _ _ (modW E b (flat (addP f (nI (mkS tp n s)))) hf wf ik fd tch tp (nI n) (nI (mkS tp n (psS tp n false (skS tp n (enS tp n s)) 9))) (nI (psS tp n false (skS tp n (enS tp n s)) 9)) (nI (enS tp n (psS tp n false (skS tp n (enS tp n s)) 9))) (tvS tp n (psS tp n false (skS tp n (enS tp n s)) 9)) 0 bo so ce) _ _ := X.eq modW_idP
    refine lv_istore_n (lv' := [(3, .int (b2i (psB tp n false (skS tp n (enS tp n s)) 9))), (2, .int (nI (pe f))), (1, .int (nI (mkS tp n s))), (0, .ref (b 0))]) hx hb dX12_personItem_49 rfl hl (by decide) rfl (fun ls hl => ?_)
    refine lv_iconst (v := 0) hx hb dX12_personItem_50 (by decide) ?_
    refine lv_istore (lv' := [(4, .int 0), (3, .int (b2i (psB tp n false (skS tp n (enS tp n s)) 9))), (2, .int (nI (pe f))), (1, .int (nI (mkS tp n s))), (0, .ref (b 0))]) hx hb dX12_personItem_51 hl (by decide) rfl (fun ls hl => ?_)
    have lp53 : ∀ (fu : Nat) (i : Nat) (m : Nat) (bd : Bool) (s3 : Nat) (f3 : St) (hfu : m < fu) (hin : i + m = 5) (hs3 : s3 ≤ n) (hR : wiL tp n (pe f) (psB tp n false (skS tp n (enS tp n s)) 9) m i bd s3 f3 = wiL tp n (pe f) (psB tp n false (skS tp n (enS tp n s)) 9) 5 0 false (psS tp n false (skS tp n (enS tp n s)) 9) (addP f (nI (mkS tp n s)))) (ls : Array Slot) (hl : lv_has ls 5 [(4, .int (nI i)), (3, .int (b2i (psB tp n false (skS tp n (enS tp n s)) 9))), (2, .int (nI (pe f))), (1, .int (nI (mkS tp n s))), (0, .ref (b 0))]) (H : Heap) (locs : List Loc) (X : Wd E (inW (modW E b (flat f) hf wf ik fd tch tp (nI n) (nI (mkS tp n s)) (nI s) (nI (enS tp n s)) (tvS tp n s) bad bo so ce)) s0.heap (modW E b (flat f3) hf wf ik fd tch tp (nI n) (nI (mkS tp n s3)) (nI s3) (nI (enS tp n s3)) (tvS tp n s3) (b2i bd) bo so ce) H locs), W pg l ev (rmK 4 89) s0 mm ([.ref (b 0)] : List Value).toArray below meth cd H locs 0 0 Q (F0 mm 53 ls []) := by
      intro fu
      induction fu with
      | zero => intro i m bd s3 f3 hfu; exact absurd hfu (Nat.not_lt_zero _)
      | succ fu ih53 =>
        intro i m bd s3 f3 hfu hin hs3 hR ls hl H locs X
        have h3e := enS_le tp hs3
        have h3k := mkS_lt tp n s3
        refine lv_iload hx hb dX12_personItem_53 (lv_at hl 0 rfl) ?_
        refine lv_iconst (v := 5) hx hb dX12_personItem_55 (by decide) ?_
        refine kN_ge (x := i) (y := 5) hx hb 113 dX12_personItem_56 (by decide) (by omega) (by omega) (fun c56 => ?_) (fun c56 => ?_)
        · obtain rfl : m = 0 := by omega
          exact fin () 113 _ _ _ trivial (X.eq (by rw [imPerson, decide_eq_false c14, cond_false, ← hR]; rfl)) dX12_personItem_113
        · obtain ⟨m, rfl⟩ : ∃ z, m = z + 1 := ⟨m - 1, by omega⟩
          refine lv_iload_n hx hb dX12_personItem_59 rfl (lv_at hl 1 rfl) ?_
          refine k_ifeqB (B := (psB tp n false (skS tp n (enS tp n s)) 9)) hx hb 113 dX12_personItem_60 (by decide) (fun c60 => ?_) (fun c60 => ?_)
          · exact fin () 113 _ _ _ trivial (X.eq (by rw [imPerson, decide_eq_false c14, cond_false, ← hR, wiL, c60]; rfl)) dX12_personItem_113
          · refine lv_aload_n hx hb dX12_personItem_63 rfl (lv_at hl 4 rfl) ?_
            refine k_get K X 0 rfl fg_X12_189 (v := .int (b2i bd)) rfl dX12_personItem_64 ?_
            refine k_ifneB (B := bd) hx hb 113 dX12_personItem_67 (by decide) (fun c67 => ?_) (fun c67 => ?_)
            · exact fin () 113 _ _ _ trivial (X.eq (by rw [imPerson, decide_eq_false c14, cond_false, ← hR, wiL, c60, c67]; rfl)) dX12_personItem_113
            · refine lv_iload hx hb dX12_personItem_70 (lv_at hl 0 rfl) ?_
              refine kN0_eq (x := i) hx hb 84 dX12_personItem_72 (by decide) (by omega) (fun c72 => ?_) (fun c72 => ?_)
              · refine lv_aload_n hx hb dX12_personItem_84 rfl (lv_at hl 4 rfl) ?_
                refine k_get K X 0 rfl fg_X12_9 (v := .ref (b 1)) rfl dX12_personItem_85 ?_
                refine lv_bipush (v := 34) hx hb dX12_personItem_88 (by decide) ?_
                refine lv_bipush (v := 12) hx hb dX12_personItem_90 (by decide) ?_
                refine lv_iload_n hx hb dX12_personItem_92 rfl (lv_at hl 2 rfl) ?_
                refine lv_imul hx hb dX12_personItem_93 ?_
                refine k_topi (pk_mul 12 (pe f)) ?_
                refine lv_iadd hx hb dX12_personItem_94 ?_
                refine k_topi (nI_add 34 (12 * (pe f))) ?_
                refine lv_iconst (v := 2) hx hb dX12_personItem_95 (by decide) ?_
                refine lv_iadd hx hb dX12_personItem_96 ?_
                refine k_topi (nI_add (34 + 12 * (pe f)) 2) ?_
                refine lv_iload hx hb dX12_personItem_97 (lv_at hl 0 rfl) ?_
                refine lv_iadd hx hb dX12_personItem_99 ?_
                refine k_topi (nI_add (34 + 12 * (pe f) + 2) i) ?_
                refine lv_aload_n hx hb dX12_personItem_100 rfl (lv_at hl 4 rfl) ?_
                refine lv_iconst (v := 0) hx hb dX12_personItem_101 (by decide) ?_
                refine lv_iconst (v := 5) hx hb dX12_personItem_102 (by decide) ?_
                refine k_callV K X gv_X12_199 (As := [.int 0, .int 5]) (c_X12_number l E b (flat f3) hf wf ik fd tch tp bo so ce n s3 bd 5 (by omega) (by omega) (by decide)) [0, 1, 2, 3, 4, 5, 6, 7, 8] modW_idC (by decide +kernel) (fun _ => modW_fst) 0 12 rfl rfl (by decide) rfl hl.1 (rest := [.int (nI (34 + 12 * (pe f) + 2 + i)), .ref (b 1)]) rfl (Nat.le_of_ble_eq_true rfl) dX12_personItem_103 (st1 := fun _ => [.int (tvS tp n s3), .int (nI (34 + 12 * (pe f) + 2 + i)), .ref (b 1)]) (fun _ => rfl) (fun _ H locs _ X => ?_)
                have X : Wd E _ _ (modW E b (flat f3) hf wf ik fd tch tp (nI n) (nI (mkS tp n (nuS tp n bd s3 5))) (nI (nuS tp n bd s3 5)) (nI (enS tp n (nuS tp n bd s3 5))) (tvS tp n (nuS tp n bd s3 5)) (b2i (nuB tp n bd s3 5)) bo so ce) _ _ := X.eq modW_idP
                refine k_iastN K X 1 rfl (k := 34 + 12 * (pe f) + 2 + i) (x := tvS tp n s3) (by omega) (by decide) dX12_personItem_106 (fun H locs X => ?_)
                have X : Wd E _ _ (modW E b (upd (flat f3) (34 + 12 * (pe f) + 2 + i) (tvS tp n s3)) hf wf ik fd tch tp (nI n) (nI (mkS tp n (nuS tp n bd s3 5))) (nI (nuS tp n bd s3 5)) (nI (enS tp n (nuS tp n bd s3 5))) (tvS tp n (nuS tp n bd s3 5)) (b2i (nuB tp n bd s3 5)) bo so ce) _ _ := X
                have X : Wd E _ _ (modW E b (flat (up2 f3 6 (10 * (pe f) + i) (tvS tp n s3))) hf wf ik fd tch tp (nI n) (nI (mkS tp n (nuS tp n bd s3 5))) (nI (nuS tp n bd s3 5)) (nI (enS tp n (nuS tp n bd s3 5))) (tvS tp n (nuS tp n bd s3 5)) (b2i (nuB tp n bd s3 5)) bo so ce) _ _ := X.eq (by rw [flat_wish _ _ (by omega)])
                refine lv_iinc (v := nI (i + 1)) (lv' := [(4, .int (nI (i + 1))), (3, .int (b2i (psB tp n false (skS tp n (enS tp n s)) 9))), (2, .int (nI (pe f))), (1, .int (nI (mkS tp n s))), (0, .ref (b 0))]) hx hb dX12_personItem_107 hl (k := 0) rfl (nI_add i 1) (by decide) rfl (fun ls hl => ?_)
                refine lv_goto (tgt := 53) hx hb dX12_personItem_110 (by decide) ?_
                exact ih53 (i + 1) m (nuB tp n bd s3 5) (nuS tp n bd s3 5) (up2 f3 6 (10 * (pe f) + i) (tvS tp n s3)) (by omega) (by omega) (nuS_le tp hs3) (by rw [← hR, wiL, c60, c67, decide_eq_true c72, Bool.true_or]; rfl) _ hl _ _ X
              · refine lv_aload_n hx hb dX12_personItem_75 rfl (lv_at hl 4 rfl) ?_
                refine k_get K X 0 rfl fg_X12_183 (v := .int (nI (mkS tp n s3))) rfl dX12_personItem_76 ?_
                refine lv_bipush (v := 20) hx hb dX12_personItem_79 (by decide) ?_
                refine kN_ne (x := mkS tp n s3) (y := 20) hx hb 113 dX12_personItem_81 (by decide) (by omega) (by omega) (fun c81 => ?_) (fun c81 => ?_)
                · exact fin () 113 _ _ _ trivial (X.eq (by rw [imPerson, decide_eq_false c14, cond_false, ← hR, wiL, c60, c67, decide_eq_false c72, decide_eq_false c81]; rfl)) dX12_personItem_113
                · refine lv_aload_n hx hb dX12_personItem_84 rfl (lv_at hl 4 rfl) ?_
                  refine k_get K X 0 rfl fg_X12_9 (v := .ref (b 1)) rfl dX12_personItem_85 ?_
                  refine lv_bipush (v := 34) hx hb dX12_personItem_88 (by decide) ?_
                  refine lv_bipush (v := 12) hx hb dX12_personItem_90 (by decide) ?_
                  refine lv_iload_n hx hb dX12_personItem_92 rfl (lv_at hl 2 rfl) ?_
                  refine lv_imul hx hb dX12_personItem_93 ?_
                  refine k_topi (pk_mul 12 (pe f)) ?_
                  refine lv_iadd hx hb dX12_personItem_94 ?_
                  refine k_topi (nI_add 34 (12 * (pe f))) ?_
                  refine lv_iconst (v := 2) hx hb dX12_personItem_95 (by decide) ?_
                  refine lv_iadd hx hb dX12_personItem_96 ?_
                  refine k_topi (nI_add (34 + 12 * (pe f)) 2) ?_
                  refine lv_iload hx hb dX12_personItem_97 (lv_at hl 0 rfl) ?_
                  refine lv_iadd hx hb dX12_personItem_99 ?_
                  refine k_topi (nI_add (34 + 12 * (pe f) + 2) i) ?_
                  refine lv_aload_n hx hb dX12_personItem_100 rfl (lv_at hl 4 rfl) ?_
                  refine lv_iconst (v := 0) hx hb dX12_personItem_101 (by decide) ?_
                  refine lv_iconst (v := 5) hx hb dX12_personItem_102 (by decide) ?_
                  refine k_callV K X gv_X12_199 (As := [.int 0, .int 5]) (c_X12_number l E b (flat f3) hf wf ik fd tch tp bo so ce n s3 bd 5 (by omega) (by omega) (by decide)) [0, 1, 2, 3, 4, 5, 6, 7, 8] modW_idC (by decide +kernel) (fun _ => modW_fst) 0 12 rfl rfl (by decide) rfl hl.1 (rest := [.int (nI (34 + 12 * (pe f) + 2 + i)), .ref (b 1)]) rfl (Nat.le_of_ble_eq_true rfl) dX12_personItem_103 (st1 := fun _ => [.int (tvS tp n s3), .int (nI (34 + 12 * (pe f) + 2 + i)), .ref (b 1)]) (fun _ => rfl) (fun _ H locs _ X => ?_)
                  have X : Wd E _ _ (modW E b (flat f3) hf wf ik fd tch tp (nI n) (nI (mkS tp n (nuS tp n bd s3 5))) (nI (nuS tp n bd s3 5)) (nI (enS tp n (nuS tp n bd s3 5))) (tvS tp n (nuS tp n bd s3 5)) (b2i (nuB tp n bd s3 5)) bo so ce) _ _ := X.eq modW_idP
                  refine k_iastN K X 1 rfl (k := 34 + 12 * (pe f) + 2 + i) (x := tvS tp n s3) (by omega) (by decide) dX12_personItem_106 (fun H locs X => ?_)
                  have X : Wd E _ _ (modW E b (upd (flat f3) (34 + 12 * (pe f) + 2 + i) (tvS tp n s3)) hf wf ik fd tch tp (nI n) (nI (mkS tp n (nuS tp n bd s3 5))) (nI (nuS tp n bd s3 5)) (nI (enS tp n (nuS tp n bd s3 5))) (tvS tp n (nuS tp n bd s3 5)) (b2i (nuB tp n bd s3 5)) bo so ce) _ _ := X
                  have X : Wd E _ _ (modW E b (flat (up2 f3 6 (10 * (pe f) + i) (tvS tp n s3))) hf wf ik fd tch tp (nI n) (nI (mkS tp n (nuS tp n bd s3 5))) (nI (nuS tp n bd s3 5)) (nI (enS tp n (nuS tp n bd s3 5))) (tvS tp n (nuS tp n bd s3 5)) (b2i (nuB tp n bd s3 5)) bo so ce) _ _ := X.eq (by rw [flat_wish _ _ (by omega)])
                  refine lv_iinc (v := nI (i + 1)) (lv' := [(4, .int (nI (i + 1))), (3, .int (b2i (psB tp n false (skS tp n (enS tp n s)) 9))), (2, .int (nI (pe f))), (1, .int (nI (mkS tp n s))), (0, .ref (b 0))]) hx hb dX12_personItem_107 hl (k := 0) rfl (nI_add i 1) (by decide) rfl (fun ls hl => ?_)
                  refine lv_goto (tgt := 53) hx hb dX12_personItem_110 (by decide) ?_
                  exact ih53 (i + 1) m (nuB tp n bd s3 5) (nuS tp n bd s3 5) (up2 f3 6 (10 * (pe f) + i) (tvS tp n s3)) (by omega) (by omega) (nuS_le tp hs3) (by rw [← hR, wiL, c60, c67, decide_eq_true c81, Bool.or_true]; rfl) _ hl _ _ X
    exact lp53 (5 + 1) 0 5 false (psS tp n false (skS tp n (enS tp n s)) 9) (addP f (nI (mkS tp n s))) (by omega) (by omega) (psS_le tp hal) (rfl) _ hl _ _ X
  · refine lv_iconst (v := 1) hx hb dX12_personItem_17 (by decide) ?_
    refine lv_goto (tgt := 22) hx hb dX12_personItem_18 (by decide) ?_
    refine k_put K X 0 rfl fp_X12_189 (v := .int 1) rfl rfl (Nat.le_of_ble_eq_true rfl) dX12_personItem_22 (fun H locs X => ?_)
    have X : Wd E _ _ (modW E b (flat f) hf wf ik fd tch tp (nI n) (nI (mkS tp n s)) (nI s) (nI (enS tp n s)) (tvS tp n s) 1 bo so ce) _ _ := X
    refine lv_aload_n hx hb dX12_personItem_25 rfl (lv_at hl 1 rfl) ?_
    refine k_get K X 0 rfl fg_X12_189 (v := .int 1) rfl dX12_personItem_26 ?_
    refine k_if1eq hx hb dX12_personItem_29 ⟨33, by decide⟩ ?_
    exact fin () 32 _ _ _ trivial (X.eq (by rw [imPerson, decide_eq_true c14]; rfl)) dX12_personItem_32
set_option maxRecDepth 100000 in
set_option maxHeartbeats 4000000 in
theorem c_X12_item (l : Launch) (E : EE) (b : Nat → Nat) (hf : Nat → Int32) (wf : Nat → Int32) (ik : Int32) (fd : Nat → Int32) (tch : Int32) (tp : Nat → Int32) (bo : Nat → Int32) (so : Nat → Int32) (ce : Nat → Int64) (f : St) (T : Nat) (n : Nat) (s : Nat) (I : Inv T f) (hn : n ≤ 120) (hs : s ≤ n) : Kd l yX12_item cX12_item 1 none 5 113 E (modW E b (flat f) hf wf ik fd tch tp (nI n) (nI (mkS tp n s)) (nI s) (nI (enS tp n s)) (tvS tp n s) 0 bo so ce) [.ref (b 0)] none (modW E b (flat ((imAny tp n f s).2.2)) hf wf ik fd tch tp (nI n) (nI (mkS tp n ((imAny tp n f s).2.1))) (nI ((imAny tp n f s).2.1)) (nI (enS tp n ((imAny tp n f s).2.1))) (tvS tp n ((imAny tp n f s).2.1)) (b2i (imAny tp n f s).1) bo so ce) := by
  refine Kn.ofWv (by decide +kernel) (Nat.le_of_ble_eq_true rfl) ?_
  intro pg ev s0 mm below meth cd Q K X fin ls hl
  have hx := K.1
  have hb := K.2.1
  have hs10 := I.s10
  have hp6 := I.p6
  have hen := enS_le tp hs
  have hmk := mkS_lt tp n s
  have hl : lv_has ls 1 [(0, .ref (b 0))] := hl
  refine lv_aload_n hx hb dX12_item_0 rfl (lv_at hl 0 rfl) ?_
  refine k_get K X 0 rfl fg_X12_183 (v := .int (nI (mkS tp n s))) rfl dX12_item_1 ?_
  refine lv_iconst (v := 5) hx hb dX12_item_4 (by decide) ?_
  refine kN_gt (x := mkS tp n s) (y := 5) hx hb 15 dX12_item_5 (by decide) (by omega) (by omega) (fun c5 => ?_) (fun c5 => ?_)
  · refine lv_aload_n hx hb dX12_item_15 rfl (lv_at hl 0 rfl) ?_
    refine k_get K X 0 rfl fg_X12_183 (v := .int (nI (mkS tp n s))) rfl dX12_item_16 ?_
    refine lv_bipush (v := 6) hx hb dX12_item_19 (by decide) ?_
    refine kN_ne (x := mkS tp n s) (y := 6) hx hb 31 dX12_item_21 (by decide) (by omega) (by omega) (fun c21 => ?_) (fun c21 => ?_)
    · refine lv_aload_n hx hb dX12_item_31 rfl (lv_at hl 0 rfl) ?_
      refine lv_bipush (v := 10) hx hb dX12_item_32 (by decide) ?_
      refine k_callV K X gv_X12_196 (As := [.int 10]) (c_X12_passes l E b (flat f) hf wf ik fd tch tp bo so ce n s false 10 (by omega) (by omega) (by decide)) [0, 1, 2, 3, 4, 5, 6, 7, 8] modW_idC (by decide +kernel) (fun _ => modW_fst) 0 12 rfl rfl (by decide) rfl hl.1 (rest := []) rfl (Nat.le_of_ble_eq_true rfl) dX12_item_34 (st1 := fun _ => [.int (b2i (psB tp n false s 10))]) (fun _ => rfl) (fun _ H locs _ X => ?_)
      have X : Wd E _ _ (modW E b (flat f) hf wf ik fd tch tp (nI n) (nI (mkS tp n (psS tp n false s 10))) (nI (psS tp n false s 10)) (nI (enS tp n (psS tp n false s 10))) (tvS tp n (psS tp n false s 10)) 0 bo so ce) _ _ := X.eq modW_idP
      refine k_ifeqB (B := (psB tp n false s 10)) hx hb 56 dX12_item_37 (by decide) (fun c37 => ?_) (fun c37 => ?_)
      · refine lv_aload_n hx hb dX12_item_56 rfl (lv_at hl 0 rfl) ?_
        refine lv_iconst (v := 1) hx hb dX12_item_57 (by decide) ?_
        refine k_put K X 0 rfl fp_X12_189 (v := .int 1) rfl rfl (Nat.le_of_ble_eq_true rfl) dX12_item_58 (fun H locs X => ?_)
        have X : Wd E _ _ (modW E b (flat f) hf wf ik fd tch tp (nI n) (nI (mkS tp n (psS tp n false s 10))) (nI (psS tp n false s 10)) (nI (enS tp n (psS tp n false s 10))) (tvS tp n (psS tp n false s 10)) 1 bo so ce) _ _ := X
        exact fin () 61 _ _ _ trivial (X.eq (by rw [imAny, decide_eq_false (show ¬ mkS tp n s < 6 by omega), cond_false, decide_eq_false c21, cond_false, c37]; rfl)) dX12_item_61
      · have hpl : psS tp n false s 10 ≤ n := psS_le tp hs
        refine lv_aload_n hx hb dX12_item_40 rfl (lv_at hl 0 rfl) ?_
        refine k_get K X 0 rfl fg_X12_9 (v := .ref (b 1)) rfl dX12_item_41 ?_
        refine lv_iconst (v := 1) hx hb dX12_item_44 (by decide) ?_
        refine lv_aload_n hx hb dX12_item_45 rfl (lv_at hl 0 rfl) ?_
        refine lv_iconst (v := 0) hx hb dX12_item_46 (by decide) ?_
        refine lv_bipush (v := 99) hx hb dX12_item_47 (by decide) ?_
        refine k_callV K X gv_X12_199 (As := [.int 0, .int 99]) (c_X12_number l E b (flat f) hf wf ik fd tch tp bo so ce n (psS tp n false s 10) false 99 (by omega) (by omega) (by decide)) [0, 1, 2, 3, 4, 5, 6, 7, 8] modW_idC (by decide +kernel) (fun _ => modW_fst) 0 12 rfl rfl (by decide) rfl hl.1 (rest := [.int 1, .ref (b 1)]) rfl (Nat.le_of_ble_eq_true rfl) dX12_item_49 (st1 := fun _ => [.int (tvS tp n (psS tp n false s 10)), .int 1, .ref (b 1)]) (fun _ => rfl) (fun _ H locs _ X => ?_)
        have X : Wd E _ _ (modW E b (flat f) hf wf ik fd tch tp (nI n) (nI (mkS tp n (nuS tp n false (psS tp n false s 10) 99))) (nI (nuS tp n false (psS tp n false s 10) 99)) (nI (enS tp n (nuS tp n false (psS tp n false s 10) 99))) (tvS tp n (nuS tp n false (psS tp n false s 10) 99)) (b2i (nuB tp n false (psS tp n false s 10) 99)) bo so ce) _ _ := X.eq modW_idP
        refine k_iastN K X 1 rfl (k := 1) (x := tvS tp n (psS tp n false s 10)) (by omega) (by decide) dX12_item_52 (fun H locs X => ?_)
        have X : Wd E _ _ (modW E b (upd (flat f) 1 (tvS tp n (psS tp n false s 10))) hf wf ik fd tch tp (nI n) (nI (mkS tp n (nuS tp n false (psS tp n false s 10) 99))) (nI (nuS tp n false (psS tp n false s 10) 99)) (nI (enS tp n (nuS tp n false (psS tp n false s 10) 99))) (tvS tp n (nuS tp n false (psS tp n false s 10) 99)) (b2i (nuB tp n false (psS tp n false s 10) 99)) bo so ce) _ _ := X
        have X : Wd E _ _ (modW E b (flat (up2 f 0 1 (tvS tp n (psS tp n false s 10)))) hf wf ik fd tch tp (nI n) (nI (mkS tp n (nuS tp n false (psS tp n false s 10) 99))) (nI (nuS tp n false (psS tp n false s 10) 99)) (nI (enS tp n (nuS tp n false (psS tp n false s 10) 99))) (tvS tp n (nuS tp n false (psS tp n false s 10) 99)) (b2i (nuB tp n false (psS tp n false s 10) 99)) bo so ce) _ _ := X.eq (by rw [flat_top _ _ (by decide)])
        refine lv_goto (tgt := 61) hx hb dX12_item_53 (by decide) ?_
        exact fin () 61 _ _ _ trivial (X.eq (by rw [imAny, decide_eq_false (show ¬ mkS tp n s < 6 by omega), cond_false, decide_eq_false c21, cond_false, c37]; rfl)) dX12_item_61
    · refine lv_aload_n hx hb dX12_item_24 rfl (lv_at hl 0 rfl) ?_
      refine k_callV K X gv_X12_205 (As := []) (c_X12_slipItem l E b hf wf ik fd tch tp 0 bo so ce f T n s I (by omega) (by omega)) [0, 1, 2, 3, 4, 5, 6, 7, 8] modW_idC (by decide +kernel) (fun _ => modW_fst) 0 12 rfl rfl (by decide) rfl hl.1 (rest := []) rfl (Nat.le_of_ble_eq_true rfl) dX12_item_25 (st1 := fun _ => []) (fun _ => rfl) (fun _ H locs _ X => ?_)
      have X : Wd E _ _ (modW E b (flat ((imSlip tp n f s).2.2)) hf wf ik fd tch tp (nI n) (nI (mkS tp n ((imSlip tp n f s).2.1))) (nI ((imSlip tp n f s).2.1)) (nI (enS tp n ((imSlip tp n f s).2.1))) (tvS tp n ((imSlip tp n f s).2.1)) (b2i (imSlip tp n f s).1) bo so ce) _ _ := X.eq modW_idP
      refine lv_goto (tgt := 61) hx hb dX12_item_28 (by decide) ?_
      exact fin () 61 _ _ _ trivial (X.eq (by rw [imAny, decide_eq_false (show ¬ mkS tp n s < 6 by omega), cond_false, decide_eq_true c21]; rfl)) dX12_item_61
  · refine lv_aload_n hx hb dX12_item_8 rfl (lv_at hl 0 rfl) ?_
    refine k_callV K X gv_X12_202 (As := []) (c_X12_personItem l E b hf wf ik fd tch tp 0 bo so ce f T n s I (by omega) (by omega) (by omega)) [0, 1, 2, 3, 4, 5, 6, 7, 8] modW_idC (by decide +kernel) (fun _ => modW_fst) 0 12 rfl rfl (by decide) rfl hl.1 (rest := []) rfl (Nat.le_of_ble_eq_true rfl) dX12_item_9 (st1 := fun _ => []) (fun _ => rfl) (fun _ H locs _ X => ?_)
    have X : Wd E _ _ (modW E b (flat ((imPerson tp n f s).2.2)) hf wf ik fd tch tp (nI n) (nI (mkS tp n ((imPerson tp n f s).2.1))) (nI ((imPerson tp n f s).2.1)) (nI (enS tp n ((imPerson tp n f s).2.1))) (tvS tp n ((imPerson tp n f s).2.1)) (b2i (imPerson tp n f s).1) bo so ce) _ _ := X.eq modW_idP
    refine lv_goto (tgt := 61) hx hb dX12_item_12 (by decide) ?_
    exact fin () 61 _ _ _ trivial (X.eq (by rw [imAny, decide_eq_true (show mkS tp n s < 6 by omega)]; rfl)) dX12_item_61
set_option maxRecDepth 100000 in
set_option maxHeartbeats 4000000 in
theorem c_X12_wall (l : Launch) (E : EE) (b : Nat → Nat) (hf : Nat → Int32) (wf : Nat → Int32) (ik : Int32) (fd : Nat → Int32) (tch : Int32) (tp : Nat → Int32) (tk : Int32) (tb : Int32) (ta : Int32) (tv : Int32) (bad : Int32) (bo : Nat → Int32) (so : Nat → Int32) (ce : Nat → Int64) (f : St) (T : Nat) (n : Nat) (I : Inv T f) (hn : n ≤ 120) : Kn l yX12_wall cX12_wall 2 (some .int) 6 133 E (modW E b (flat f) hf wf ik fd tch tp (nI n) tk tb ta tv bad bo so ce) [.ref (b 0)] (S := (Nat → Int32) × Int32 × Int32 × Int32 × Int32 × Int32) (fun _ => True) (fun _ => (some (.int ((oWall f tp n).1)))) (fun u => (modW E b (flat ((oWall f tp n).2)) hf u.1 ik fd tch tp 0 u.2.1 u.2.2.1 u.2.2.2.1 u.2.2.2.2.1 u.2.2.2.2.2 bo so ce)) := by
  refine Kn.ofWi (by decide +kernel) (Nat.le_of_ble_eq_true rfl) (fun _ _ => rfl) ?_
  intro pg ev s0 mm below meth cd Q K X fin ls hl
  have hx := K.1
  have hb := K.2.1
  have hs10 := I.s10
  have hp6 := I.p6
  have hl : lv_has ls 2 [(0, .ref (b 0))] := hl
  refine lv_aload_n hx hb dX12_wall_0 rfl (lv_at hl 0 rfl) ?_
  refine k_callV K X gv_X12_146 (As := []) (c_X12_thinks l E b (flat f) hf wf ik fd tch tp (nI n) tk tb ta tv bad bo so ce) [0, 1, 2, 3, 4, 5, 6, 7, 8] modW_idC (by decide +kernel) (fun _ => modW_fst) 0 12 rfl rfl (by decide) rfl hl.1 (rest := []) rfl (Nat.le_of_ble_eq_true rfl) dX12_wall_1 (st1 := fun _ => []) (fun _ => rfl) (fun _ H locs _ X => ?_)
  have X : Wd E _ _ (modW E b (flat f) hf (flat f) ik fd tch tp (nI n) tk tb ta tv bad bo so ce) _ _ := X.eq modW_idP
  refine lv_aload_n hx hb dX12_wall_4 rfl (lv_at hl 0 rfl) ?_
  refine lv_iconst (v := 0) hx hb dX12_wall_5 (by decide) ?_
  refine k_put K X 0 rfl fp_X12_171 (v := .int 0) rfl rfl (Nat.le_of_ble_eq_true rfl) dX12_wall_6 (fun H locs X => ?_)
  have X : Wd E _ _ (modW E b (flat f) hf (flat f) ik fd tch tp (nI n) tk tb 0 tv bad bo so ce) _ _ := X
  refine lv_aload_n hx hb dX12_wall_9 rfl (lv_at hl 0 rfl) ?_
  refine lv_iconst (v := 0) hx hb dX12_wall_10 (by decide) ?_
  refine k_put K X 0 rfl fp_X12_189 (v := .int 0) rfl rfl (Nat.le_of_ble_eq_true rfl) dX12_wall_11 (fun H locs X => ?_)
  have X : Wd E _ _ (modW E b (flat f) hf (flat f) ik fd tch tp (nI n) tk tb 0 tv 0 bo so ce) _ _ := X
  refine lv_aload_n hx hb dX12_wall_14 rfl (lv_at hl 0 rfl) ?_
  refine k_callV K X gv_X12_193 (As := []) (c_X12_reads l E b (flat f) hf (flat f) ik fd tch tp tk tb tv 0 bo so ce n 0 (by omega) (by omega)) [0, 1, 2, 3, 4, 5, 6, 7, 8] modW_idC (by decide +kernel) (fun _ => modW_fst) 0 12 rfl rfl (by decide) rfl hl.1 (rest := []) rfl (Nat.le_of_ble_eq_true rfl) dX12_wall_15 (st1 := fun _ => []) (fun _ => rfl) (fun _ H locs _ X => ?_)
  have X : Wd E _ _ (modW E b (flat f) hf (flat f) ik fd tch tp (nI n) (nI (mkS tp n (skS tp n 0))) (nI (skS tp n 0)) (nI (enS tp n (skS tp n 0))) (tvS tp n (skS tp n 0)) 0 bo so ce) _ _ := X.eq modW_idP
  have h0l : skS tp n 0 ≤ n := skS_le tp (Nat.zero_le n)
  refine lv_aload_n hx hb dX12_wall_18 rfl (lv_at hl 0 rfl) ?_
  refine k_callV K X gv_X12_208 (As := []) (c_X12_item l E b hf (flat f) ik fd tch tp bo so ce f T n (skS tp n 0) I (by omega) (by omega)) [0, 1, 2, 3, 4, 5, 6, 7, 8] modW_idC (by decide +kernel) (fun _ => modW_fst) 0 12 rfl rfl (by decide) rfl hl.1 (rest := []) rfl (Nat.le_of_ble_eq_true rfl) dX12_wall_19 (st1 := fun _ => []) (fun _ => rfl) (fun _ H locs _ X => ?_)
  have X : Wd E _ _ (modW E b (flat ((imAny tp n f (skS tp n 0)).2.2)) hf (flat f) ik fd tch tp (nI n) (nI (mkS tp n ((imAny tp n f (skS tp n 0)).2.1))) (nI ((imAny tp n f (skS tp n 0)).2.1)) (nI (enS tp n ((imAny tp n f (skS tp n 0)).2.1))) (tvS tp n ((imAny tp n f (skS tp n 0)).2.1)) (b2i (imAny tp n f (skS tp n 0)).1) bo so ce) _ _ := X.eq modW_idP
  have hr0 := imAny_ok tp I h0l
  refine lv_iconst (v := 1) hx hb dX12_wall_22 (by decide) ?_
  refine lv_istore_n (lv' := [(1, .int 1), (0, .ref (b 0))]) hx hb dX12_wall_23 rfl hl (by decide) rfl (fun ls hl => ?_)
  have lp24 : ∀ (fu : Nat) (i : Nat) (m : Nat) (bd : Bool) (s : Nat) (f3 : St) (hfu : n - s < fu) (hs : s ≤ n) (hm : n ≤ s + m + 1) (hI : bd = false → Inv T f3) (hR : vwT (afK tp n (teL tp n m (i + 1)) i (!bd, s, f3)) f = oWall f tp n) (ls : Array Slot) (hl : lv_has ls 2 [(1, .int (nI i)), (0, .ref (b 0))]) (H : Heap) (locs : List Loc) (X : Wd E (inW (modW E b (flat f) hf wf ik fd tch tp (nI n) tk tb ta tv bad bo so ce)) s0.heap (modW E b (flat f3) hf (flat f) ik fd tch tp (nI n) (nI (mkS tp n s)) (nI s) (nI (enS tp n s)) (tvS tp n s) (b2i bd) bo so ce) H locs), W pg l ev (rmK 6 133) s0 mm ([.ref (b 0)] : List Value).toArray below meth cd H locs 0 0 Q (F0 mm 24 ls []) := by
    intro fu
    induction fu with
    | zero => intro i m bd s f3 hfu; exact absurd hfu (Nat.not_lt_zero _)
    | succ fu ih24 =>
      intro i m bd s f3 hfu hs hm hI hR ls hl H locs X
      refine lv_aload_n hx hb dX12_wall_24 rfl (lv_at hl 1 rfl) ?_
      have hen := enS_le tp hs
      refine lv_bipush (v := 21) hx hb dX12_wall_25 (by decide) ?_
      refine k_callV K X gv_X12_196 (As := [.int 21]) (c_X12_passes l E b (flat f3) hf (flat f) ik fd tch tp bo so ce n s bd 21 (by omega) (by omega) (by decide)) [0, 1, 2, 3, 4, 5, 6, 7, 8] modW_idC (by decide +kernel) (fun _ => modW_fst) 0 12 rfl rfl (by decide) rfl hl.1 (rest := []) rfl (Nat.le_of_ble_eq_true rfl) dX12_wall_27 (st1 := fun _ => [.int (b2i (psB tp n bd s 21))]) (fun _ => rfl) (fun _ H locs _ X => ?_)
      have X : Wd E _ _ (modW E b (flat f3) hf (flat f) ik fd tch tp (nI n) (nI (mkS tp n (psS tp n bd s 21))) (nI (psS tp n bd s 21)) (nI (enS tp n (psS tp n bd s 21))) (tvS tp n (psS tp n bd s 21)) (b2i bd) bo so ce) _ _ := X.eq modW_idP
      refine k_ifeqB (B := (psB tp n bd s 21)) hx hb 43 dX12_wall_30 (by decide) (fun c30 => ?_) (fun c30 => ?_)
      · have hq := psS_no c30
        have hmk := mkS_lt tp n s
        rw [← hq] at hmk
        refine lv_aload_n hx hb dX12_wall_43 rfl (lv_at hl 1 rfl) ?_
        refine lv_aload_n hx hb dX12_wall_44 rfl (lv_at hl 1 rfl) ?_
        refine k_get K X 0 rfl fg_X12_189 (v := .int (b2i bd)) rfl dX12_wall_45 ?_
        refine k_ifneB (B := bd) hx hb 60 dX12_wall_48 (by decide) (fun c48 => ?_) (fun c48 => ?_)
        · refine lv_iconst (v := 1) hx hb dX12_wall_60 (by decide) ?_
          refine lv_goto (tgt := 65) hx hb dX12_wall_61 (by decide) ?_
          refine k_put K X 0 rfl fp_X12_189 (v := .int 1) rfl rfl (Nat.le_of_ble_eq_true rfl) dX12_wall_65 (fun H locs X => ?_)
          have X : Wd E _ _ (modW E b (flat f3) hf (flat f) ik fd tch tp (nI n) (nI (mkS tp n (psS tp n bd s 21))) (nI (psS tp n bd s 21)) (nI (enS tp n (psS tp n bd s 21))) (tvS tp n (psS tp n bd s 21)) 1 bo so ce) _ _ := X
          refine lv_aload_n hx hb dX12_wall_68 rfl (lv_at hl 1 rfl) ?_
          refine lv_iconst (v := 0) hx hb dX12_wall_69 (by decide) ?_
          refine k_put K X 0 rfl fp_X12_162 (v := .int 0) rfl rfl (Nat.le_of_ble_eq_true rfl) dX12_wall_70 (fun H locs X => ?_)
          have X : Wd E _ _ (modW E b (flat f3) hf (flat f) ik fd tch tp 0 (nI (mkS tp n (psS tp n bd s 21))) (nI (psS tp n bd s 21)) (nI (enS tp n (psS tp n bd s 21))) (tvS tp n (psS tp n bd s 21)) 1 bo so ce) _ _ := X
          refine lv_aload_n hx hb dX12_wall_73 rfl (lv_at hl 1 rfl) ?_
          refine k_get K X 0 rfl fg_X12_189 (v := .int 1) rfl dX12_wall_74 ?_
          refine k_if1ne hx hb 82 dX12_wall_77 (by decide) ?_
          refine lv_aload_n hx hb dX12_wall_82 rfl (lv_at hl 1 rfl) ?_
          refine k_callV K X gv_X12_149 (As := []) (c_X12_putsBack l E b (flat f3) hf (flat f) ik fd tch tp 0 (nI (mkS tp n (psS tp n bd s 21))) (nI (psS tp n bd s 21)) (nI (enS tp n (psS tp n bd s 21))) (tvS tp n (psS tp n bd s 21)) 1 bo so ce) [0, 1, 2, 3, 4, 5, 6, 7, 8] modW_idC (by decide +kernel) (fun _ => modW_fst) 0 12 rfl rfl (by decide) rfl hl.1 (rest := []) rfl (Nat.le_of_ble_eq_true rfl) dX12_wall_83 (st1 := fun _ => []) (fun _ => rfl) (fun _ H locs _ X => ?_)
          have X : Wd E _ _ (modW E b (flat f) hf (flat f) ik fd tch tp 0 (nI (mkS tp n (psS tp n bd s 21))) (nI (psS tp n bd s 21)) (nI (enS tp n (psS tp n bd s 21))) (tvS tp n (psS tp n bd s 21)) 1 bo so ce) _ _ := X.eq modW_idP
          refine lv_iconst (v := (-1)) hx hb dX12_wall_86 (by decide) ?_
          refine lv_aload_n hx hb dX12_wall_87 rfl (lv_at hl 1 rfl) ?_
          refine k_get K X 0 rfl fg_X12_168 (v := .int (nI (psS tp n bd s 21))) rfl dX12_wall_88 ?_
          refine lv_isub hx hb dX12_wall_91 ?_
          exact k_topi (x' := (oWall f tp n).1) (by rw [← hR, wl_no (Or.inl c48)]; rw [hq]) (fin ((flat f), (nI (mkS tp n (psS tp n bd s 21))), (nI (psS tp n bd s 21)), (nI (enS tp n (psS tp n bd s 21))), (tvS tp n (psS tp n bd s 21)), 1) 92 _ _ _ trivial (X.eq (by rw [← hR, wl_no (Or.inl c48)])) dX12_wall_92)
        · refine lv_aload_n hx hb dX12_wall_51 rfl (lv_at hl 1 rfl) ?_
          refine k_get K X 0 rfl fg_X12_183 (v := .int (nI (mkS tp n (psS tp n bd s 21)))) rfl dX12_wall_52 ?_
          refine lv_bipush (v := 22) hx hb dX12_wall_55 (by decide) ?_
          refine kN_eq (x := mkS tp n (psS tp n bd s 21)) (y := 22) hx hb 64 dX12_wall_57 (by decide) (by omega) (by omega) (fun c57 => ?_) (fun c57 => ?_)
          · refine lv_iconst (v := 0) hx hb dX12_wall_64 (by decide) ?_
            refine k_put K X 0 rfl fp_X12_189 (v := .int 0) rfl rfl (Nat.le_of_ble_eq_true rfl) dX12_wall_65 (fun H locs X => ?_)
            have X : Wd E _ _ (modW E b (flat f3) hf (flat f) ik fd tch tp (nI n) (nI (mkS tp n (psS tp n bd s 21))) (nI (psS tp n bd s 21)) (nI (enS tp n (psS tp n bd s 21))) (tvS tp n (psS tp n bd s 21)) 0 bo so ce) _ _ := X
            refine lv_aload_n hx hb dX12_wall_68 rfl (lv_at hl 1 rfl) ?_
            refine lv_iconst (v := 0) hx hb dX12_wall_69 (by decide) ?_
            refine k_put K X 0 rfl fp_X12_162 (v := .int 0) rfl rfl (Nat.le_of_ble_eq_true rfl) dX12_wall_70 (fun H locs X => ?_)
            have X : Wd E _ _ (modW E b (flat f3) hf (flat f) ik fd tch tp 0 (nI (mkS tp n (psS tp n bd s 21))) (nI (psS tp n bd s 21)) (nI (enS tp n (psS tp n bd s 21))) (tvS tp n (psS tp n bd s 21)) 0 bo so ce) _ _ := X
            refine lv_aload_n hx hb dX12_wall_73 rfl (lv_at hl 1 rfl) ?_
            refine k_get K X 0 rfl fg_X12_189 (v := .int 0) rfl dX12_wall_74 ?_
            refine k_if0ne hx hb dX12_wall_77 ⟨82, by decide⟩ ?_
            refine lv_iload_n hx hb dX12_wall_80 rfl (lv_at hl 0 rfl) ?_
            exact k_topi (x' := (oWall f tp n).1) (by rw [← hR, wl_yes c48 (by rw [← hq]; exact c57)]) (fin ((flat f), (nI (mkS tp n (psS tp n bd s 21))), (nI (psS tp n bd s 21)), (nI (enS tp n (psS tp n bd s 21))), (tvS tp n (psS tp n bd s 21)), 0) 81 _ _ _ trivial (X.eq (by rw [← hR, wl_yes c48 (by rw [← hq]; exact c57)])) dX12_wall_81)
          · refine lv_iconst (v := 1) hx hb dX12_wall_60 (by decide) ?_
            refine lv_goto (tgt := 65) hx hb dX12_wall_61 (by decide) ?_
            refine k_put K X 0 rfl fp_X12_189 (v := .int 1) rfl rfl (Nat.le_of_ble_eq_true rfl) dX12_wall_65 (fun H locs X => ?_)
            have X : Wd E _ _ (modW E b (flat f3) hf (flat f) ik fd tch tp (nI n) (nI (mkS tp n (psS tp n bd s 21))) (nI (psS tp n bd s 21)) (nI (enS tp n (psS tp n bd s 21))) (tvS tp n (psS tp n bd s 21)) 1 bo so ce) _ _ := X
            refine lv_aload_n hx hb dX12_wall_68 rfl (lv_at hl 1 rfl) ?_
            refine lv_iconst (v := 0) hx hb dX12_wall_69 (by decide) ?_
            refine k_put K X 0 rfl fp_X12_162 (v := .int 0) rfl rfl (Nat.le_of_ble_eq_true rfl) dX12_wall_70 (fun H locs X => ?_)
            have X : Wd E _ _ (modW E b (flat f3) hf (flat f) ik fd tch tp 0 (nI (mkS tp n (psS tp n bd s 21))) (nI (psS tp n bd s 21)) (nI (enS tp n (psS tp n bd s 21))) (tvS tp n (psS tp n bd s 21)) 1 bo so ce) _ _ := X
            refine lv_aload_n hx hb dX12_wall_73 rfl (lv_at hl 1 rfl) ?_
            refine k_get K X 0 rfl fg_X12_189 (v := .int 1) rfl dX12_wall_74 ?_
            refine k_if1ne hx hb 82 dX12_wall_77 (by decide) ?_
            refine lv_aload_n hx hb dX12_wall_82 rfl (lv_at hl 1 rfl) ?_
            refine k_callV K X gv_X12_149 (As := []) (c_X12_putsBack l E b (flat f3) hf (flat f) ik fd tch tp 0 (nI (mkS tp n (psS tp n bd s 21))) (nI (psS tp n bd s 21)) (nI (enS tp n (psS tp n bd s 21))) (tvS tp n (psS tp n bd s 21)) 1 bo so ce) [0, 1, 2, 3, 4, 5, 6, 7, 8] modW_idC (by decide +kernel) (fun _ => modW_fst) 0 12 rfl rfl (by decide) rfl hl.1 (rest := []) rfl (Nat.le_of_ble_eq_true rfl) dX12_wall_83 (st1 := fun _ => []) (fun _ => rfl) (fun _ H locs _ X => ?_)
            have X : Wd E _ _ (modW E b (flat f) hf (flat f) ik fd tch tp 0 (nI (mkS tp n (psS tp n bd s 21))) (nI (psS tp n bd s 21)) (nI (enS tp n (psS tp n bd s 21))) (tvS tp n (psS tp n bd s 21)) 1 bo so ce) _ _ := X.eq modW_idP
            refine lv_iconst (v := (-1)) hx hb dX12_wall_86 (by decide) ?_
            refine lv_aload_n hx hb dX12_wall_87 rfl (lv_at hl 1 rfl) ?_
            refine k_get K X 0 rfl fg_X12_168 (v := .int (nI (psS tp n bd s 21))) rfl dX12_wall_88 ?_
            refine lv_isub hx hb dX12_wall_91 ?_
            exact k_topi (x' := (oWall f tp n).1) (by rw [← hR, wl_no (Or.inr ⟨ps_not c48 c30, by rw [← hq]; exact c57⟩)]; rw [hq]) (fin ((flat f), (nI (mkS tp n (psS tp n bd s 21))), (nI (psS tp n bd s 21)), (nI (enS tp n (psS tp n bd s 21))), (tvS tp n (psS tp n bd s 21)), 1) 92 _ _ _ trivial (X.eq (by rw [← hR, wl_no (Or.inr ⟨ps_not c48 c30, by rw [← hq]; exact c57⟩)])) dX12_wall_92)
      · obtain ⟨hbd, hmk⟩ := ps_yes c30
        subst hbd
        have hI0 := hI rfl
        have hpl : psS tp n false s 21 ≤ n := psS_le tp hs
        have hlt := sign_lt hmk
        have hpg := sign_nx hmk
        refine lv_aload_n hx hb dX12_wall_33 rfl (lv_at hl 1 rfl) ?_
        refine k_callV K X gv_X12_208 (As := []) (c_X12_item l E b hf (flat f) ik fd tch tp bo so ce f3 T n (psS tp n false s 21) hI0 (by omega) (by omega)) [0, 1, 2, 3, 4, 5, 6, 7, 8] modW_idC (by decide +kernel) (fun _ => modW_fst) 0 12 rfl rfl (by decide) rfl hl.1 (rest := []) rfl (Nat.le_of_ble_eq_true rfl) dX12_wall_34 (st1 := fun _ => []) (fun _ => rfl) (fun _ H locs _ X => ?_)
        have X : Wd E _ _ (modW E b (flat ((imAny tp n f3 (psS tp n false s 21)).2.2)) hf (flat f) ik fd tch tp (nI n) (nI (mkS tp n ((imAny tp n f3 (psS tp n false s 21)).2.1))) (nI ((imAny tp n f3 (psS tp n false s 21)).2.1)) (nI (enS tp n ((imAny tp n f3 (psS tp n false s 21)).2.1))) (tvS tp n ((imAny tp n f3 (psS tp n false s 21)).2.1)) (b2i (imAny tp n f3 (psS tp n false s 21)).1) bo so ce) _ _ := X.eq modW_idP
        have hr1 := imAny_ok tp hI0 hpl
        refine lv_iinc (v := nI (i + 1)) (lv' := [(1, .int (nI (i + 1))), (0, .ref (b 0))]) hx hb dX12_wall_37 hl (k := 0) rfl (nI_add i 1) (by decide) rfl (fun ls hl => ?_)
        refine lv_goto (tgt := 24) hx hb dX12_wall_40 (by decide) ?_
        exact ih24 (i + 1) (m - 1) ((imAny tp n f3 (psS tp n false s 21)).1) ((imAny tp n f3 (psS tp n false s 21)).2.1) ((imAny tp n f3 (psS tp n false s 21)).2.2) (by omega) (hr1.2.1) (by omega) (hr1.2.2) (by rw [← hR]; exact te_step tp (hI rfl) hs hm hmk) _ hl _ _ X
  exact lp24 ((n - ((imAny tp n f (skS tp n 0)).2.1)) + 1) 1 119 ((imAny tp n f (skS tp n 0)).1) ((imAny tp n f (skS tp n 0)).2.1) ((imAny tp n f (skS tp n 0)).2.2) (by omega) (hr0.2.1) (by omega) (hr0.2.2) (te_first tp I hn) _ hl _ _ X
