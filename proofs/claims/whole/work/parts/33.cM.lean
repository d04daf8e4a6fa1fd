def nmL (tp : Nat → Int32) (s k : Nat) : Nat → Nat → Bool → Bool
  | 0, _, ok => ok
  | n + 1, i, ok => cond ok (nmL tp s k n (i + 1) (decide (kNM.getD (7 * k + i) 0 = tp (s + i)))) false
def isNmS (tp : Nat → Int32) (s k q : Nat) : Bool := nmL tp s k q 0 (decide (q ≤ 7) && (decide (q = 7) || decide (kNM.getD (7 * k + q) 0 = 0)))
theorem nmL_false (tp : Nat → Int32) (s k : Nat) : ∀ n i, nmL tp s k n i false = false
  | 0, _ => rfl
  | _ + 1, _ => rfl
def wdL (tp : Nat → Int32) (s q : Nat) : Nat → Nat → Nat
  | 0, i => i
  | n + 1, i => cond (isNmS tp s i q) i (wdL tp s q n (i + 1))
def wdS (tp : Nat → Int32) (s q : Nat) : Nat := if wdL tp s q 11 0 < 11 then wdL tp s q 11 0 else 23
theorem dig_le {b : Int32} (h : isDig b = true) : 48 ≤ b.toNatClampNeg ∧ b.toNatClampNeg ≤ 57 := by
  obtain ⟨d, hd, rfl, hl, -⟩ := inR_nat (n := 58) (by decide) (by decide) h
  have h0 : ((48 : Int32).toInt) = 48 := (by decide)
  rw [nI_clamp (by omega)]
  omega
theorem num_dig {b : Int32} {v : Nat} (h : isDig b = true) : nI (10 * v) + b - 48 = nI (10 * v + (b.toNatClampNeg - 48)) := by
  obtain ⟨d, hd, rfl, hl, -⟩ := inR_nat (n := 58) (by decide) (by decide) h
  have h0 : ((48 : Int32).toInt) = 48 := (by decide)
  rw [nI_clamp (by omega), nI_add, show (48 : Int32) = nI 48 from rfl, pk_sub (by omega)]
  congr 1
  omega
def mkS (tp : Nat → Int32) (n s : Nat) : Nat := if n ≤ s then 22 else if isLet (tp s) = true then wdS tp s (runF isLet tp n s - s) else if isDig (tp s) = true then 20 else if tp s = 59 then 21 else 23
def tvS (tp : Nat → Int32) (n s : Nat) : Int32 := if n ≤ s then 0 else if isLet (tp s) = true then 0 else if isDig (tp s) = true then nI (numF tp n s) else 0
set_option maxRecDepth 100000 in
set_option maxHeartbeats 4000000 in
theorem c_X12_feed (l : Launch) (E : EE) (b : Nat → Nat) (mf : Nat → Int32) (hf : Nat → Int32) (wf : Nat → Int32) (ik : Int32) (fd : Nat → Int32) (tch : Int32) (tp : Nat → Int32) (tk : Int32) (tb : Int32) (ta : Int32) (tv : Int32) (bad : Int32) (bo : Nat → Int32) (so : Nat → Int32) (ce : Nat → Int64) (n : Nat) (x : Int32) (y : Int32) (hn : n ≤ 120) : Kd l yX12_feed cX12_feed 4 (some .int) 1 23 E (modW E b mf hf wf ik fd tch tp (nI n) tk tb ta tv bad bo so ce) [.ref (b 0), .int x, .int y] (some (.int ((oFeed fd tp n x y).1))) (modW E b mf hf wf ik ((oFeed fd tp n x y).2.1) tch ((oFeed fd tp n x y).2.2.1) (nI (oFeed fd tp n x y).2.2.2) tk tb ta tv bad bo so ce) := by
  refine Kn.ofWi (by decide +kernel) (Nat.le_of_ble_eq_true rfl) (fun _ _ => rfl) ?_
  intro pg ev s0 mm below meth cd Q K X fin ls hl
  have hx := K.1
  have hb := K.2.1
  have hl : lv_has ls 4 [(0, .ref (b 0)), (1, .int x), (2, .int y)] := hl
  refine lv_iload_n hx hb dX12_feed_0 rfl (lv_at hl 2 rfl) ?_
  refine lv_i2l (v := y.toInt64) hx hb dX12_feed_1 rfl ?_
  refine lv_iconst (v := 1) hx hb dX12_feed_2 (by decide) ?_
  refine lv_iconst (v := 4) hx hb dX12_feed_3 (by decide) ?_
  refine k_callS K X gs_X12_41 (As := [.long y.toInt64, .int 1, .int 4]) (c_X12_in l E y 1 4) [] rfl (by decide +kernel) (fun _ => rfl) (by decide) rfl hl.1 (rest := []) rfl (Nat.le_of_ble_eq_true rfl) dX12_feed_4 (st1 := fun _ => [.int (b2i (inR y 1 4))]) (fun _ => rfl) (fun _ H locs _ X => ?_)
  have X : Wd E _ _ (modW E b mf hf wf ik fd tch tp (nI n) tk tb ta tv bad bo so ce) _ _ := X
  refine k_ifneB (B := (inR y 1 4)) hx hb 17 dX12_feed_7 (by decide) (fun c7 => ?_) (fun c7 => ?_)
  · obtain ⟨u, hu, rfl, hul, huh⟩ := inR_nat (n := 5) (by decide) (by decide) c7
    have hul : 1 ≤ u := by have h0 : ((1 : Int32).toInt) = 1 := (by decide); omega
    have eu : (nI u).toNatClampNeg = u := nI_clamp (by omega)
    refine lv_aload_n hx hb dX12_feed_17 rfl (lv_at hl 0 rfl) ?_
    refine k_get K X 0 rfl fg_X12_162 (v := .int (nI n)) rfl dX12_feed_18 ?_
    refine lv_iload_n hx hb dX12_feed_21 rfl (lv_at hl 2 rfl) ?_
    refine lv_iadd hx hb dX12_feed_22 ?_
    refine k_topi (nI_add n u) ?_
    refine lv_bipush (v := 120) hx hb dX12_feed_23 (by decide) ?_
    refine kN_le (x := n + u) (y := 120) hx hb 35 dX12_feed_25 (by decide) (by omega) (by omega) (fun c25 => ?_) (fun c25 => ?_)
    · refine lv_iload_n hx hb dX12_feed_35 rfl (lv_at hl 2 rfl) ?_
      refine lv_iconst (v := 1) hx hb dX12_feed_36 (by decide) ?_
      refine lv_isub hx hb dX12_feed_37 ?_
      refine k_topi (x' := nI u + (-1)) (Int32.sub_eq_add_neg _ _) ?_
      refine lv_istore_n (lv' := [(3, .int (nI u + (-1))), (0, .ref (b 0)), (1, .int x), (2, .int (nI u))]) hx hb dX12_feed_38 rfl hl (by decide) rfl (fun ls hl => ?_)
      have lp39 : ∀ (fu : Nat) (i : Nat) (n1 : Nat) (tp1 : Nat → Int32) (hfu : i < fu) (hin : n1 + i ≤ 120) (hR : fdL x i tp1 n1 = fdL x u tp n) (ls : Array Slot) (hl : lv_has ls 4 [(3, .int (nI i + (-1))), (0, .ref (b 0)), (1, .int x), (2, .int (nI u))]) (H : Heap) (locs : List Loc) (X : Wd E (inW (modW E b mf hf wf ik fd tch tp (nI n) tk tb ta tv bad bo so ce)) s0.heap (modW E b mf hf wf ik fd tch tp1 (nI n1) tk tb ta tv bad bo so ce) H locs), W pg l ev (rmK 1 23) s0 mm ([.ref (b 0), .int x, .int (nI u)] : List Value).toArray below meth cd H locs 0 0 Q (F0 mm 39 ls []) := by
        intro fu
        induction fu with
        | zero => intro i n1 tp1 hfu; exact absurd hfu (Nat.not_lt_zero _)
        | succ fu ih39 =>
          intro i n1 tp1 hfu hin hR ls hl H locs X
          refine lv_iload_n hx hb dX12_feed_39 rfl (lv_at hl 0 rfl) ?_
          refine k_if_lt (x := nI i + (-1)) hx hb 78 dX12_feed_40 (by decide) (fun c40 => ?_) (fun c40 => ?_)
          · obtain rfl : i = 0 := m1_lt (by omega) c40
            refine lv_aload_n hx hb dX12_feed_78 rfl (lv_at hl 1 rfl) ?_
            refine k_get K X 0 rfl fg_X12_162 (v := .int (nI n1)) rfl dX12_feed_79 ?_
            exact k_topi (x' := (oFeed fd tp n x (nI u)).1) (by rw [oFeed, c7, cond_true, eu, decide_eq_true (show n + u ≤ 120 by omega), cond_true, ← hR]; rfl) (fin () 82 _ _ _ trivial (X.eq (by rw [oFeed, c7, cond_true, eu, decide_eq_true (show n + u ≤ 120 by omega), cond_true, ← hR]; rfl)) dX12_feed_82)
          · obtain ⟨i, rfl⟩ : ∃ z, i = z + 1 := m1_ge c40
            rw [pk_m1] at hl
            refine lv_aload_n hx hb dX12_feed_43 rfl (lv_at hl 1 rfl) ?_
            refine k_get K X 0 rfl fg_X12_22 (v := .ref (b 5)) rfl dX12_feed_44 ?_
            refine lv_aload_n hx hb dX12_feed_47 rfl (lv_at hl 1 rfl) ?_
            refine k_get K X 0 rfl fg_X12_162 (v := .int (nI n1)) rfl dX12_feed_48 ?_
            refine lv_iload_n hx hb dX12_feed_51 rfl (lv_at hl 2 rfl) ?_
            refine lv_bipush (v := 8) hx hb dX12_feed_52 (by decide) ?_
            refine lv_iload_n hx hb dX12_feed_54 rfl (lv_at hl 0 rfl) ?_
            refine lv_imul hx hb dX12_feed_55 ?_
            refine k_topi (pk_mul 8 i) ?_
            refine lv_ishr hx hb dX12_feed_56 ?_
            refine lv_sipush (v := 255) hx hb dX12_feed_57 (by decide) ?_
            refine lv_iand hx hb dX12_feed_60 ?_
            refine k_iastN K X 5 rfl (k := n1) (x := (x >>> ((nI (8 * i)) &&& 31)) &&& 255) (by omega) (by decide) dX12_feed_61 (fun H locs X => ?_)
            have X : Wd E _ _ (modW E b mf hf wf ik fd tch (upd tp1 n1 ((x >>> ((nI (8 * i)) &&& 31)) &&& 255)) (nI n1) tk tb ta tv bad bo so ce) _ _ := X
            refine lv_aload_n hx hb dX12_feed_62 rfl (lv_at hl 1 rfl) ?_
            refine lv_dup hx hb dX12_feed_63 rfl ?_
            refine k_get K X 0 rfl fg_X12_162 (v := .int (nI n1)) rfl dX12_feed_64 ?_
            refine lv_iconst (v := 1) hx hb dX12_feed_67 (by decide) ?_
            refine lv_iadd hx hb dX12_feed_68 ?_
            refine k_topi (nI_add n1 1) ?_
            refine k_put K X 0 rfl fp_X12_162 (v := .int (nI (n1 + 1))) rfl rfl (Nat.le_of_ble_eq_true rfl) dX12_feed_69 (fun H locs X => ?_)
            have X : Wd E _ _ (modW E b mf hf wf ik fd tch (upd tp1 n1 ((x >>> ((nI (8 * i)) &&& 31)) &&& 255)) (nI (n1 + 1)) tk tb ta tv bad bo so ce) _ _ := X
            refine lv_iinc (v := (nI i) + (-1)) (lv' := [(3, .int ((nI i) + (-1))), (0, .ref (b 0)), (1, .int x), (2, .int (nI u))]) hx hb dX12_feed_72 hl (k := 0) rfl (rfl) (by decide) rfl (fun ls hl => ?_)
            refine lv_goto (tgt := 39) hx hb dX12_feed_75 (by decide) ?_
            exact ih39 i (n1 + 1) (upd tp1 n1 ((x >>> ((nI (8 * i)) &&& 31)) &&& 255)) (by omega) (by omega) (by rw [← hR, fdL]) _ hl _ _ X
      exact lp39 (u + 1) u n tp (by omega) (by omega) (rfl) _ hl _ _ X
    · refine lv_aload_n hx hb dX12_feed_28 rfl (lv_at hl 0 rfl) ?_
      refine lv_ldc (v := (-1000000002)) hx hb K.2.2.2.1 (K.2.2.2.2.1 _ (Mw_at 914 (by decide +kernel) (by decide +kernel))) dX12_feed_29 ?_
      refine k_topi (show (-1000000002 : Int32) = fnd 1 by decide) ?_
      refine k_callV K X gv_X12_37 (As := [.int (fnd 1)]) (c_X12_finds l E b mf hf wf ik fd tch tp (nI n) tk tb ta tv bad bo so ce 1 (by decide)) [0, 1, 2, 3, 4, 5, 6, 7, 8] modW_idC (by decide +kernel) (fun _ => modW_fst) 0 12 rfl rfl (by decide) rfl hl.1 (rest := []) rfl (Nat.le_of_ble_eq_true rfl) dX12_feed_31 (st1 := fun _ => [.int (fnd 1)]) (fun _ => rfl) (fun _ H locs _ X => ?_)
      have X : Wd E _ _ (modW E b mf hf wf ik (fdU fd 1) tch tp (nI n) tk tb ta tv bad bo so ce) _ _ := X.eq modW_idP
      exact k_topi (x' := (oFeed fd tp n x (nI u)).1) (by rw [oFeed, c7, cond_true, eu, decide_eq_false (show ¬ n + u ≤ 120 by omega)]; rfl) (fin () 34 _ _ _ trivial (X.eq (by rw [oFeed, c7, cond_true, eu, decide_eq_false (show ¬ n + u ≤ 120 by omega)]; rfl)) dX12_feed_34)
  · refine lv_aload_n hx hb dX12_feed_10 rfl (lv_at hl 0 rfl) ?_
    refine lv_ldc (v := (-1000000001)) hx hb K.2.2.2.1 (K.2.2.2.2.1 _ (Mw_at 905 (by decide +kernel) (by decide +kernel))) dX12_feed_11 ?_
    refine k_topi (show (-1000000001 : Int32) = fnd 0 by decide) ?_
    refine k_callV K X gv_X12_37 (As := [.int (fnd 0)]) (c_X12_finds l E b mf hf wf ik fd tch tp (nI n) tk tb ta tv bad bo so ce 0 (by decide)) [0, 1, 2, 3, 4, 5, 6, 7, 8] modW_idC (by decide +kernel) (fun _ => modW_fst) 0 12 rfl rfl (by decide) rfl hl.1 (rest := []) rfl (Nat.le_of_ble_eq_true rfl) dX12_feed_13 (st1 := fun _ => [.int (fnd 0)]) (fun _ => rfl) (fun _ H locs _ X => ?_)
    have X : Wd E _ _ (modW E b mf hf wf ik (fdU fd 0) tch tp (nI n) tk tb ta tv bad bo so ce) _ _ := X.eq modW_idP
    exact k_topi (x' := (oFeed fd tp n x y).1) (by rw [oFeed, c7]; rfl) (fin () 16 _ _ _ trivial (X.eq (by rw [oFeed, c7]; rfl)) dX12_feed_16)
set_option maxRecDepth 100000 in
set_option maxHeartbeats 4000000 in
theorem c_X12_wipe (l : Launch) (E : EE) (b : Nat → Nat) (mf : Nat → Int32) (hf : Nat → Int32) (wf : Nat → Int32) (ik : Int32) (fd : Nat → Int32) (tch : Int32) (tp : Nat → Int32) (tk : Int32) (tb : Int32) (ta : Int32) (tv : Int32) (bad : Int32) (bo : Nat → Int32) (so : Nat → Int32) (ce : Nat → Int64) (n : Nat) : Kd l yX12_wipe cX12_wipe 2 (some .int) 0 0 E (modW E b mf hf wf ik fd tch tp (nI n) tk tb ta tv bad bo so ce) [.ref (b 0)] (some (.int (nI n))) (modW E b mf hf wf ik fd tch tp 0 tk tb ta tv bad bo so ce) := by
  refine Kn.ofWi (by decide +kernel) (Nat.le_of_ble_eq_true rfl) (fun _ _ => rfl) ?_
  intro pg ev s0 mm below meth cd Q K X fin ls hl
  have hx := K.1
  have hb := K.2.1
  have hl : lv_has ls 2 [(0, .ref (b 0))] := hl
  refine lv_aload_n hx hb dX12_wipe_0 rfl (lv_at hl 0 rfl) ?_
  refine k_get K X 0 rfl fg_X12_162 (v := .int (nI n)) rfl dX12_wipe_1 ?_
  refine lv_istore_n (lv' := [(1, .int (nI n)), (0, .ref (b 0))]) hx hb dX12_wipe_4 rfl hl (by decide) rfl (fun ls hl => ?_)
  refine lv_aload_n hx hb dX12_wipe_5 rfl (lv_at hl 1 rfl) ?_
  refine lv_iconst (v := 0) hx hb dX12_wipe_6 (by decide) ?_
  refine k_put K X 0 rfl fp_X12_162 (v := .int 0) rfl rfl (Nat.le_of_ble_eq_true rfl) dX12_wipe_7 (fun H locs X => ?_)
  have X : Wd E _ _ (modW E b mf hf wf ik fd tch tp 0 tk tb ta tv bad bo so ce) _ _ := X
  refine lv_iload_n hx hb dX12_wipe_10 rfl (lv_at hl 0 rfl) ?_
  exact fin () 11 _ _ _ trivial X dX12_wipe_11
set_option maxRecDepth 100000 in
set_option maxHeartbeats 4000000 in
theorem c_X12_isByte (l : Launch) (E : EE) (b : Nat → Nat) (mf : Nat → Int32) (hf : Nat → Int32) (wf : Nat → Int32) (ik : Int32) (fd : Nat → Int32) (tch : Int32) (tp : Nat → Int32) (tk : Int32) (tb : Int32) (ta : Int32) (tv : Int32) (bad : Int32) (bo : Nat → Int32) (so : Nat → Int32) (ce : Nat → Int64) (n : Nat) (i : Nat) (y : Int32) (z : Int32) (hn : n ≤ 120) (hi : i ≤ n) : Kd l yX12_isByte cX12_isByte 4 (some .boolean) 1 23 E (modW E b mf hf wf ik fd tch tp (nI n) tk tb ta tv bad bo so ce) [.ref (b 0), .int (nI i), .int y, .int z] (some (.int (b2i (decide (i < n) && inR (tp i) y z)))) (modW E b mf hf wf ik fd tch tp (nI n) tk tb ta tv bad bo so ce) := by
  refine Kn.ofWi (by decide +kernel) (Nat.le_of_ble_eq_true rfl) (fun _ _ => b2i_nar _) ?_
  intro pg ev s0 mm below meth cd Q K X fin ls hl
  have hx := K.1
  have hb := K.2.1
  have hl : lv_has ls 4 [(0, .ref (b 0)), (1, .int (nI i)), (2, .int y), (3, .int z)] := hl
  refine lv_iload_n hx hb dX12_isByte_0 rfl (lv_at hl 1 rfl) ?_
  refine lv_aload_n hx hb dX12_isByte_1 rfl (lv_at hl 0 rfl) ?_
  refine k_get K X 0 rfl fg_X12_162 (v := .int (nI n)) rfl dX12_isByte_2 ?_
  refine kN_ge (x := i) (y := n) hx hb 27 dX12_isByte_5 (by decide) (by omega) (by omega) (fun c5 => ?_) (fun c5 => ?_)
  · refine lv_iconst (v := 0) hx hb dX12_isByte_27 (by decide) ?_
    exact k_topi (x' := b2i (decide (i < n) && inR (tp i) y z)) (by rw [decide_eq_false (show ¬ i < n by omega)]; rfl) (fin () 28 _ _ _ trivial X dX12_isByte_28)
  · refine lv_aload_n hx hb dX12_isByte_8 rfl (lv_at hl 0 rfl) ?_
    refine k_get K X 0 rfl fg_X12_22 (v := .ref (b 5)) rfl dX12_isByte_9 ?_
    refine lv_iload_n hx hb dX12_isByte_12 rfl (lv_at hl 1 rfl) ?_
    refine k_ialdN K X 5 rfl (k := i) (by omega) (by decide) dX12_isByte_13 (v := tp i) rfl ?_
    refine lv_i2l (v := (tp i).toInt64) hx hb dX12_isByte_14 rfl ?_
    refine lv_iload_n hx hb dX12_isByte_15 rfl (lv_at hl 2 rfl) ?_
    refine lv_iload_n hx hb dX12_isByte_16 rfl (lv_at hl 3 rfl) ?_
    refine k_callS K X gs_X12_41 (As := [.long ((tp i).toInt64), .int y, .int z]) (c_X12_in l E (tp i) y z) [] rfl (by decide +kernel) (fun _ => rfl) (by decide) rfl hl.1 (rest := []) rfl (Nat.le_of_ble_eq_true rfl) dX12_isByte_17 (st1 := fun _ => [.int (b2i (inR (tp i) y z))]) (fun _ => rfl) (fun _ H locs _ X => ?_)
    have X : Wd E _ _ (modW E b mf hf wf ik fd tch tp (nI n) tk tb ta tv bad bo so ce) _ _ := X
    refine k_ifeqB (B := (inR (tp i) y z)) hx hb 27 dX12_isByte_20 (by decide) (fun c20 => ?_) (fun c20 => ?_)
    · refine lv_iconst (v := 0) hx hb dX12_isByte_27 (by decide) ?_
      exact k_topi (x' := b2i (decide (i < n) && inR (tp i) y z)) (by rw [decide_eq_true (show i < n by omega), Bool.true_and, c20]; rfl) (fin () 28 _ _ _ trivial X dX12_isByte_28)
    · refine lv_iconst (v := 1) hx hb dX12_isByte_23 (by decide) ?_
      refine lv_goto (tgt := 28) hx hb dX12_isByte_24 (by decide) ?_
      exact k_topi (x' := b2i (decide (i < n) && inR (tp i) y z)) (by rw [decide_eq_true (show i < n by omega), Bool.true_and, c20]; rfl) (fin () 28 _ _ _ trivial X dX12_isByte_28)
set_option maxRecDepth 100000 in
set_option maxHeartbeats 4000000 in
theorem c_X12_isName (l : Launch) (E : EE) (b : Nat → Nat) (mf : Nat → Int32) (hf : Nat → Int32) (wf : Nat → Int32) (ik : Int32) (fd : Nat → Int32) (tch : Int32) (tp : Nat → Int32) (tl : Int32) (tk : Int32) (ta : Int32) (tv : Int32) (bad : Int32) (bo : Nat → Int32) (so : Nat → Int32) (ce : Nat → Int64) (s : Nat) (k : Nat) (q : Nat) (hk : k < 11) (hs : s + q ≤ 120) : Kd l yX12_isName cX12_isName 5 (some .boolean) 0 0 E (modW E b mf hf wf ik fd tch tp tl tk (nI s) ta tv bad bo so ce) [.ref (b 0), .int (nI k), .int (nI q)] (some (.int (b2i (isNmS tp s k q)))) (modW E b mf hf wf ik fd tch tp tl tk (nI s) ta tv bad bo so ce) := by
  refine Kn.ofWi (by decide +kernel) (Nat.le_of_ble_eq_true rfl) (fun _ _ => b2i_nar _) ?_
  intro pg ev s0 mm below meth cd Q K X fin ls hl
  have hx := K.1
  have hb := K.2.1
  have hl : lv_has ls 5 [(0, .ref (b 0)), (1, .int (nI k)), (2, .int (nI q))] := hl
  refine lv_iload_n hx hb dX12_isName_0 rfl (lv_at hl 2 rfl) ?_
  refine lv_bipush (v := 7) hx hb dX12_isName_1 (by decide) ?_
  refine kN_gt (x := q) (y := 7) hx hb 29 dX12_isName_3 (by decide) (by omega) (by omega) (fun c3 => ?_) (fun c3 => ?_)
  · refine lv_iconst (v := 0) hx hb dX12_isName_29 (by decide) ?_
    refine lv_istore_n (lv' := [(3, .int 0), (0, .ref (b 0)), (1, .int (nI k)), (2, .int (nI q))]) hx hb dX12_isName_30 rfl hl (by decide) rfl (fun ls hl => ?_)
    refine lv_iconst (v := 0) hx hb dX12_isName_31 (by decide) ?_
    refine lv_istore (lv' := [(4, .int 0), (3, .int 0), (0, .ref (b 0)), (1, .int (nI k)), (2, .int (nI q))]) hx hb dX12_isName_32 hl (by decide) rfl (fun ls hl => ?_)
    have lp34 : ∀ (fu : Nat) (i : Nat) (n : Nat) (okb : Bool) (hfu : n < fu) (hin : i + n = q) (hR : nmL tp s k n i okb = isNmS tp s k q) (hm : okb = true → q ≤ 7) (ls : Array Slot) (hl : lv_has ls 5 [(4, .int (nI i)), (3, .int (b2i (okb))), (0, .ref (b 0)), (1, .int (nI k)), (2, .int (nI q))]) (H : Heap) (locs : List Loc) (X : Wd E (inW (modW E b mf hf wf ik fd tch tp tl tk (nI s) ta tv bad bo so ce)) s0.heap (modW E b mf hf wf ik fd tch tp tl tk (nI s) ta tv bad bo so ce) H locs), W pg l ev (rmK 0 0) s0 mm ([.ref (b 0), .int (nI k), .int (nI q)] : List Value).toArray below meth cd H locs 0 0 Q (F0 mm 34 ls []) := by
      intro fu
      induction fu with
      | zero => intro i n okb hfu; exact absurd hfu (Nat.not_lt_zero _)
      | succ fu ih34 =>
        intro i n okb hfu hin hR hm ls hl H locs X
        refine lv_iload hx hb dX12_isName_34 (lv_at hl 0 rfl) ?_
        refine lv_iload_n hx hb dX12_isName_36 rfl (lv_at hl 4 rfl) ?_
        refine kN_ge (x := i) (y := q) hx hb 82 dX12_isName_37 (by decide) (by omega) (by omega) (fun c37 => ?_) (fun c37 => ?_)
        · obtain rfl : n = 0 := by omega
          refine lv_iload_n hx hb dX12_isName_82 rfl (lv_at hl 1 rfl) ?_
          exact k_topi (x' := b2i (isNmS tp s k q)) (by rw [← hR]; rfl) (fin () 83 _ _ _ trivial X dX12_isName_83)
        · refine lv_iload_n hx hb dX12_isName_40 rfl (lv_at hl 1 rfl) ?_
          refine k_ifeqB (B := (okb)) hx hb 82 dX12_isName_41 (by decide) (fun c41 => ?_) (fun c41 => ?_)
          · refine lv_iload_n hx hb dX12_isName_82 rfl (lv_at hl 1 rfl) ?_
            exact k_topi (x' := b2i (isNmS tp s k q)) (by rw [← hR, c41, nmL_false]) (fin () 83 _ _ _ trivial X dX12_isName_83)
          · obtain ⟨n, rfl⟩ : ∃ z, n = z + 1 := ⟨n - 1, by omega⟩
            have hm7 := hm c41
            refine k_nm K X dX12_isName_44 ?_
            refine lv_bipush (v := 7) hx hb dX12_isName_47 (by decide) ?_
            refine lv_iload_n hx hb dX12_isName_49 rfl (lv_at hl 3 rfl) ?_
            refine lv_imul hx hb dX12_isName_50 ?_
            refine k_topi (pk_mul 7 k) ?_
            refine lv_iload hx hb dX12_isName_51 (lv_at hl 0 rfl) ?_
            refine lv_iadd hx hb dX12_isName_53 ?_
            refine k_topi (nI_add (7 * k) i) ?_
            refine k_nmB K X (j := 7 * k + i) (by omega) dX12_isName_54 ?_
            refine lv_aload_n hx hb dX12_isName_55 rfl (lv_at hl 2 rfl) ?_
            refine k_get K X 0 rfl fg_X12_22 (v := .ref (b 5)) rfl dX12_isName_56 ?_
            refine lv_aload_n hx hb dX12_isName_59 rfl (lv_at hl 2 rfl) ?_
            refine k_get K X 0 rfl fg_X12_168 (v := .int (nI s)) rfl dX12_isName_60 ?_
            refine lv_iload hx hb dX12_isName_63 (lv_at hl 0 rfl) ?_
            refine lv_iadd hx hb dX12_isName_65 ?_
            refine k_topi (nI_add s i) ?_
            refine k_ialdN K X 5 rfl (k := s + i) (by omega) (by decide) dX12_isName_66 (v := tp (s + i)) rfl ?_
            refine k_icmp_ne (x := kNM.getD (7 * k + i) 0) (y := tp (s + i)) hx hb 74 dX12_isName_67 (by decide) (fun c67 => ?_) (fun c67 => ?_)
            · refine lv_iconst (v := 0) hx hb dX12_isName_74 (by decide) ?_
              refine lv_istore_n (lv' := [(3, .int 0), (4, .int (nI i)), (0, .ref (b 0)), (1, .int (nI k)), (2, .int (nI q))]) hx hb dX12_isName_75 rfl hl (by decide) rfl (fun ls hl => ?_)
              refine lv_iinc (v := nI (i + 1)) (lv' := [(4, .int (nI (i + 1))), (3, .int 0), (0, .ref (b 0)), (1, .int (nI k)), (2, .int (nI q))]) hx hb dX12_isName_76 hl (k := 1) rfl (nI_add i 1) (by decide) rfl (fun ls hl => ?_)
              refine lv_goto (tgt := 34) hx hb dX12_isName_79 (by decide) ?_
              exact ih34 (i + 1) n false (by omega) (by omega) (by rw [← hR, nmL, c41, cond_true, decide_eq_false c67]) (fun _ => hm c41) _ hl _ _ X
            · refine lv_iconst (v := 1) hx hb dX12_isName_70 (by decide) ?_
              refine lv_goto (tgt := 75) hx hb dX12_isName_71 (by decide) ?_
              refine lv_istore_n (lv' := [(3, .int 1), (4, .int (nI i)), (0, .ref (b 0)), (1, .int (nI k)), (2, .int (nI q))]) hx hb dX12_isName_75 rfl hl (by decide) rfl (fun ls hl => ?_)
              refine lv_iinc (v := nI (i + 1)) (lv' := [(4, .int (nI (i + 1))), (3, .int 1), (0, .ref (b 0)), (1, .int (nI k)), (2, .int (nI q))]) hx hb dX12_isName_76 hl (k := 1) rfl (nI_add i 1) (by decide) rfl (fun ls hl => ?_)
              refine lv_goto (tgt := 34) hx hb dX12_isName_79 (by decide) ?_
              exact ih34 (i + 1) n true (by omega) (by omega) (by rw [← hR, nmL, c41, cond_true, decide_eq_true c67]) (fun _ => hm c41) _ hl _ _ X
    exact lp34 (q + 1) 0 q false (by omega) (by omega) (by rw [isNmS, decide_eq_false (show ¬ q ≤ 7 by omega)]; rfl) (fun z => absurd z (by decide)) _ hl _ _ X
  · refine lv_iload_n hx hb dX12_isName_6 rfl (lv_at hl 2 rfl) ?_
    refine lv_bipush (v := 7) hx hb dX12_isName_7 (by decide) ?_
    refine kN_eq (x := q) (y := 7) hx hb 25 dX12_isName_9 (by decide) (by omega) (by omega) (fun c9 => ?_) (fun c9 => ?_)
    · refine lv_iconst (v := 1) hx hb dX12_isName_25 (by decide) ?_
      refine lv_goto (tgt := 30) hx hb dX12_isName_26 (by decide) ?_
      refine lv_istore_n (lv' := [(3, .int 1), (0, .ref (b 0)), (1, .int (nI k)), (2, .int (nI q))]) hx hb dX12_isName_30 rfl hl (by decide) rfl (fun ls hl => ?_)
      refine lv_iconst (v := 0) hx hb dX12_isName_31 (by decide) ?_
      refine lv_istore (lv' := [(4, .int 0), (3, .int 1), (0, .ref (b 0)), (1, .int (nI k)), (2, .int (nI q))]) hx hb dX12_isName_32 hl (by decide) rfl (fun ls hl => ?_)
      have lp34 : ∀ (fu : Nat) (i : Nat) (n : Nat) (okb : Bool) (hfu : n < fu) (hin : i + n = q) (hR : nmL tp s k n i okb = isNmS tp s k q) (hm : okb = true → q ≤ 7) (ls : Array Slot) (hl : lv_has ls 5 [(4, .int (nI i)), (3, .int (b2i (okb))), (0, .ref (b 0)), (1, .int (nI k)), (2, .int (nI q))]) (H : Heap) (locs : List Loc) (X : Wd E (inW (modW E b mf hf wf ik fd tch tp tl tk (nI s) ta tv bad bo so ce)) s0.heap (modW E b mf hf wf ik fd tch tp tl tk (nI s) ta tv bad bo so ce) H locs), W pg l ev (rmK 0 0) s0 mm ([.ref (b 0), .int (nI k), .int (nI q)] : List Value).toArray below meth cd H locs 0 0 Q (F0 mm 34 ls []) := by
        intro fu
        induction fu with
        | zero => intro i n okb hfu; exact absurd hfu (Nat.not_lt_zero _)
        | succ fu ih34 =>
          intro i n okb hfu hin hR hm ls hl H locs X
          refine lv_iload hx hb dX12_isName_34 (lv_at hl 0 rfl) ?_
          refine lv_iload_n hx hb dX12_isName_36 rfl (lv_at hl 4 rfl) ?_
          refine kN_ge (x := i) (y := q) hx hb 82 dX12_isName_37 (by decide) (by omega) (by omega) (fun c37 => ?_) (fun c37 => ?_)
          · obtain rfl : n = 0 := by omega
            refine lv_iload_n hx hb dX12_isName_82 rfl (lv_at hl 1 rfl) ?_
            exact k_topi (x' := b2i (isNmS tp s k q)) (by rw [← hR]; rfl) (fin () 83 _ _ _ trivial X dX12_isName_83)
          · refine lv_iload_n hx hb dX12_isName_40 rfl (lv_at hl 1 rfl) ?_
            refine k_ifeqB (B := (okb)) hx hb 82 dX12_isName_41 (by decide) (fun c41 => ?_) (fun c41 => ?_)
            · refine lv_iload_n hx hb dX12_isName_82 rfl (lv_at hl 1 rfl) ?_
              exact k_topi (x' := b2i (isNmS tp s k q)) (by rw [← hR, c41, nmL_false]) (fin () 83 _ _ _ trivial X dX12_isName_83)
            · obtain ⟨n, rfl⟩ : ∃ z, n = z + 1 := ⟨n - 1, by omega⟩
              have hm7 := hm c41
              refine k_nm K X dX12_isName_44 ?_
              refine lv_bipush (v := 7) hx hb dX12_isName_47 (by decide) ?_
              refine lv_iload_n hx hb dX12_isName_49 rfl (lv_at hl 3 rfl) ?_
              refine lv_imul hx hb dX12_isName_50 ?_
              refine k_topi (pk_mul 7 k) ?_
              refine lv_iload hx hb dX12_isName_51 (lv_at hl 0 rfl) ?_
              refine lv_iadd hx hb dX12_isName_53 ?_
              refine k_topi (nI_add (7 * k) i) ?_
              refine k_nmB K X (j := 7 * k + i) (by omega) dX12_isName_54 ?_
              refine lv_aload_n hx hb dX12_isName_55 rfl (lv_at hl 2 rfl) ?_
              refine k_get K X 0 rfl fg_X12_22 (v := .ref (b 5)) rfl dX12_isName_56 ?_
              refine lv_aload_n hx hb dX12_isName_59 rfl (lv_at hl 2 rfl) ?_
              refine k_get K X 0 rfl fg_X12_168 (v := .int (nI s)) rfl dX12_isName_60 ?_
              refine lv_iload hx hb dX12_isName_63 (lv_at hl 0 rfl) ?_
              refine lv_iadd hx hb dX12_isName_65 ?_
              refine k_topi (nI_add s i) ?_
              refine k_ialdN K X 5 rfl (k := s + i) (by omega) (by decide) dX12_isName_66 (v := tp (s + i)) rfl ?_
              refine k_icmp_ne (x := kNM.getD (7 * k + i) 0) (y := tp (s + i)) hx hb 74 dX12_isName_67 (by decide) (fun c67 => ?_) (fun c67 => ?_)
              · refine lv_iconst (v := 0) hx hb dX12_isName_74 (by decide) ?_
                refine lv_istore_n (lv' := [(3, .int 0), (4, .int (nI i)), (0, .ref (b 0)), (1, .int (nI k)), (2, .int (nI q))]) hx hb dX12_isName_75 rfl hl (by decide) rfl (fun ls hl => ?_)
                refine lv_iinc (v := nI (i + 1)) (lv' := [(4, .int (nI (i + 1))), (3, .int 0), (0, .ref (b 0)), (1, .int (nI k)), (2, .int (nI q))]) hx hb dX12_isName_76 hl (k := 1) rfl (nI_add i 1) (by decide) rfl (fun ls hl => ?_)
                refine lv_goto (tgt := 34) hx hb dX12_isName_79 (by decide) ?_
                exact ih34 (i + 1) n false (by omega) (by omega) (by rw [← hR, nmL, c41, cond_true, decide_eq_false c67]) (fun _ => hm c41) _ hl _ _ X
              · refine lv_iconst (v := 1) hx hb dX12_isName_70 (by decide) ?_
                refine lv_goto (tgt := 75) hx hb dX12_isName_71 (by decide) ?_
                refine lv_istore_n (lv' := [(3, .int 1), (4, .int (nI i)), (0, .ref (b 0)), (1, .int (nI k)), (2, .int (nI q))]) hx hb dX12_isName_75 rfl hl (by decide) rfl (fun ls hl => ?_)
                refine lv_iinc (v := nI (i + 1)) (lv' := [(4, .int (nI (i + 1))), (3, .int 1), (0, .ref (b 0)), (1, .int (nI k)), (2, .int (nI q))]) hx hb dX12_isName_76 hl (k := 1) rfl (nI_add i 1) (by decide) rfl (fun ls hl => ?_)
                refine lv_goto (tgt := 34) hx hb dX12_isName_79 (by decide) ?_
                exact ih34 (i + 1) n true (by omega) (by omega) (by rw [← hR, nmL, c41, cond_true, decide_eq_true c67]) (fun _ => hm c41) _ hl _ _ X
      exact lp34 (q + 1) 0 q true (by omega) (by omega) (by rw [isNmS, decide_eq_true (show q ≤ 7 by omega), decide_eq_true c9, Bool.true_or]; rfl) (fun _ => by omega) _ hl _ _ X
    · refine k_nm K X dX12_isName_12 ?_
      refine lv_bipush (v := 7) hx hb dX12_isName_15 (by decide) ?_
      refine lv_iload_n hx hb dX12_isName_17 rfl (lv_at hl 1 rfl) ?_
      refine lv_imul hx hb dX12_isName_18 ?_
      refine k_topi (pk_mul 7 k) ?_
      refine lv_iload_n hx hb dX12_isName_19 rfl (lv_at hl 2 rfl) ?_
      refine lv_iadd hx hb dX12_isName_20 ?_
      refine k_topi (nI_add (7 * k) q) ?_
      refine k_nmB K X (j := 7 * k + q) (by omega) dX12_isName_21 ?_
      refine k_if_ne (x := kNM.getD (7 * k + q) 0) hx hb 29 dX12_isName_22 (by decide) (fun c22 => ?_) (fun c22 => ?_)
      · refine lv_iconst (v := 0) hx hb dX12_isName_29 (by decide) ?_
        refine lv_istore_n (lv' := [(3, .int 0), (0, .ref (b 0)), (1, .int (nI k)), (2, .int (nI q))]) hx hb dX12_isName_30 rfl hl (by decide) rfl (fun ls hl => ?_)
        refine lv_iconst (v := 0) hx hb dX12_isName_31 (by decide) ?_
        refine lv_istore (lv' := [(4, .int 0), (3, .int 0), (0, .ref (b 0)), (1, .int (nI k)), (2, .int (nI q))]) hx hb dX12_isName_32 hl (by decide) rfl (fun ls hl => ?_)
        have lp34 : ∀ (fu : Nat) (i : Nat) (n : Nat) (okb : Bool) (hfu : n < fu) (hin : i + n = q) (hR : nmL tp s k n i okb = isNmS tp s k q) (hm : okb = true → q ≤ 7) (ls : Array Slot) (hl : lv_has ls 5 [(4, .int (nI i)), (3, .int (b2i (okb))), (0, .ref (b 0)), (1, .int (nI k)), (2, .int (nI q))]) (H : Heap) (locs : List Loc) (X : Wd E (inW (modW E b mf hf wf ik fd tch tp tl tk (nI s) ta tv bad bo so ce)) s0.heap (modW E b mf hf wf ik fd tch tp tl tk (nI s) ta tv bad bo so ce) H locs), W pg l ev (rmK 0 0) s0 mm ([.ref (b 0), .int (nI k), .int (nI q)] : List Value).toArray below meth cd H locs 0 0 Q (F0 mm 34 ls []) := by
          intro fu
          induction fu with
          | zero => intro i n okb hfu; exact absurd hfu (Nat.not_lt_zero _)
          | succ fu ih34 =>
            intro i n okb hfu hin hR hm ls hl H locs X
            refine lv_iload hx hb dX12_isName_34 (lv_at hl 0 rfl) ?_
            refine lv_iload_n hx hb dX12_isName_36 rfl (lv_at hl 4 rfl) ?_
            refine kN_ge (x := i) (y := q) hx hb 82 dX12_isName_37 (by decide) (by omega) (by omega) (fun c37 => ?_) (fun c37 => ?_)
            · obtain rfl : n = 0 := by omega
              refine lv_iload_n hx hb dX12_isName_82 rfl (lv_at hl 1 rfl) ?_
              exact k_topi (x' := b2i (isNmS tp s k q)) (by rw [← hR]; rfl) (fin () 83 _ _ _ trivial X dX12_isName_83)
            · refine lv_iload_n hx hb dX12_isName_40 rfl (lv_at hl 1 rfl) ?_
              refine k_ifeqB (B := (okb)) hx hb 82 dX12_isName_41 (by decide) (fun c41 => ?_) (fun c41 => ?_)
              · refine lv_iload_n hx hb dX12_isName_82 rfl (lv_at hl 1 rfl) ?_
                exact k_topi (x' := b2i (isNmS tp s k q)) (by rw [← hR, c41, nmL_false]) (fin () 83 _ _ _ trivial X dX12_isName_83)
              · obtain ⟨n, rfl⟩ : ∃ z, n = z + 1 := ⟨n - 1, by omega⟩
                have hm7 := hm c41
                refine k_nm K X dX12_isName_44 ?_
                refine lv_bipush (v := 7) hx hb dX12_isName_47 (by decide) ?_
                refine lv_iload_n hx hb dX12_isName_49 rfl (lv_at hl 3 rfl) ?_
                refine lv_imul hx hb dX12_isName_50 ?_
                refine k_topi (pk_mul 7 k) ?_
                refine lv_iload hx hb dX12_isName_51 (lv_at hl 0 rfl) ?_
                refine lv_iadd hx hb dX12_isName_53 ?_
                refine k_topi (nI_add (7 * k) i) ?_
                refine k_nmB K X (j := 7 * k + i) (by omega) dX12_isName_54 ?_
                refine lv_aload_n hx hb dX12_isName_55 rfl (lv_at hl 2 rfl) ?_
                refine k_get K X 0 rfl fg_X12_22 (v := .ref (b 5)) rfl dX12_isName_56 ?_
                refine lv_aload_n hx hb dX12_isName_59 rfl (lv_at hl 2 rfl) ?_
                refine k_get K X 0 rfl fg_X12_168 (v := .int (nI s)) rfl dX12_isName_60 ?_
                refine lv_iload hx hb dX12_isName_63 (lv_at hl 0 rfl) ?_
                refine lv_iadd hx hb dX12_isName_65 ?_
                refine k_topi (nI_add s i) ?_
                refine k_ialdN K X 5 rfl (k := s + i) (by omega) (by decide) dX12_isName_66 (v := tp (s + i)) rfl ?_
                refine k_icmp_ne (x := kNM.getD (7 * k + i) 0) (y := tp (s + i)) hx hb 74 dX12_isName_67 (by decide) (fun c67 => ?_) (fun c67 => ?_)
                · refine lv_iconst (v := 0) hx hb dX12_isName_74 (by decide) ?_
                  refine lv_istore_n (lv' := [(3, .int 0), (4, .int (nI i)), (0, .ref (b 0)), (1, .int (nI k)), (2, .int (nI q))]) hx hb dX12_isName_75 rfl hl (by decide) rfl (fun ls hl => ?_)
                  refine lv_iinc (v := nI (i + 1)) (lv' := [(4, .int (nI (i + 1))), (3, .int 0), (0, .ref (b 0)), (1, .int (nI k)), (2, .int (nI q))]) hx hb dX12_isName_76 hl (k := 1) rfl (nI_add i 1) (by decide) rfl (fun ls hl => ?_)
                  refine lv_goto (tgt := 34) hx hb dX12_isName_79 (by decide) ?_
                  exact ih34 (i + 1) n false (by omega) (by omega) (by rw [← hR, nmL, c41, cond_true, decide_eq_false c67]) (fun _ => hm c41) _ hl _ _ X
                · refine lv_iconst (v := 1) hx hb dX12_isName_70 (by decide) ?_
                  refine lv_goto (tgt := 75) hx hb dX12_isName_71 (by decide) ?_
                  refine lv_istore_n (lv' := [(3, .int 1), (4, .int (nI i)), (0, .ref (b 0)), (1, .int (nI k)), (2, .int (nI q))]) hx hb dX12_isName_75 rfl hl (by decide) rfl (fun ls hl => ?_)
                  refine lv_iinc (v := nI (i + 1)) (lv' := [(4, .int (nI (i + 1))), (3, .int 1), (0, .ref (b 0)), (1, .int (nI k)), (2, .int (nI q))]) hx hb dX12_isName_76 hl (k := 1) rfl (nI_add i 1) (by decide) rfl (fun ls hl => ?_)
                  refine lv_goto (tgt := 34) hx hb dX12_isName_79 (by decide) ?_
                  exact ih34 (i + 1) n true (by omega) (by omega) (by rw [← hR, nmL, c41, cond_true, decide_eq_true c67]) (fun _ => hm c41) _ hl _ _ X
        exact lp34 (q + 1) 0 q false (by omega) (by omega) (by rw [isNmS, decide_eq_false c9, decide_eq_false c22, Bool.or_false, Bool.and_false]) (fun z => absurd z (by decide)) _ hl _ _ X
      · refine lv_iconst (v := 1) hx hb dX12_isName_25 (by decide) ?_
        refine lv_goto (tgt := 30) hx hb dX12_isName_26 (by decide) ?_
        refine lv_istore_n (lv' := [(3, .int 1), (0, .ref (b 0)), (1, .int (nI k)), (2, .int (nI q))]) hx hb dX12_isName_30 rfl hl (by decide) rfl (fun ls hl => ?_)
        refine lv_iconst (v := 0) hx hb dX12_isName_31 (by decide) ?_
        refine lv_istore (lv' := [(4, .int 0), (3, .int 1), (0, .ref (b 0)), (1, .int (nI k)), (2, .int (nI q))]) hx hb dX12_isName_32 hl (by decide) rfl (fun ls hl => ?_)
        have lp34 : ∀ (fu : Nat) (i : Nat) (n : Nat) (okb : Bool) (hfu : n < fu) (hin : i + n = q) (hR : nmL tp s k n i okb = isNmS tp s k q) (hm : okb = true → q ≤ 7) (ls : Array Slot) (hl : lv_has ls 5 [(4, .int (nI i)), (3, .int (b2i (okb))), (0, .ref (b 0)), (1, .int (nI k)), (2, .int (nI q))]) (H : Heap) (locs : List Loc) (X : Wd E (inW (modW E b mf hf wf ik fd tch tp tl tk (nI s) ta tv bad bo so ce)) s0.heap (modW E b mf hf wf ik fd tch tp tl tk (nI s) ta tv bad bo so ce) H locs), W pg l ev (rmK 0 0) s0 mm ([.ref (b 0), .int (nI k), .int (nI q)] : List Value).toArray below meth cd H locs 0 0 Q (F0 mm 34 ls []) := by
          intro fu
          induction fu with
          | zero => intro i n okb hfu; exact absurd hfu (Nat.not_lt_zero _)
          | succ fu ih34 =>
            intro i n okb hfu hin hR hm ls hl H locs X
            refine lv_iload hx hb dX12_isName_34 (lv_at hl 0 rfl) ?_
            refine lv_iload_n hx hb dX12_isName_36 rfl (lv_at hl 4 rfl) ?_
            refine kN_ge (x := i) (y := q) hx hb 82 dX12_isName_37 (by decide) (by omega) (by omega) (fun c37 => ?_) (fun c37 => ?_)
            · obtain rfl : n = 0 := by omega
              refine lv_iload_n hx hb dX12_isName_82 rfl (lv_at hl 1 rfl) ?_
              exact k_topi (x' := b2i (isNmS tp s k q)) (by rw [← hR]; rfl) (fin () 83 _ _ _ trivial X dX12_isName_83)
            · refine lv_iload_n hx hb dX12_isName_40 rfl (lv_at hl 1 rfl) ?_
              refine k_ifeqB (B := (okb)) hx hb 82 dX12_isName_41 (by decide) (fun c41 => ?_) (fun c41 => ?_)
              · refine lv_iload_n hx hb dX12_isName_82 rfl (lv_at hl 1 rfl) ?_
                exact k_topi (x' := b2i (isNmS tp s k q)) (by rw [← hR, c41, nmL_false]) (fin () 83 _ _ _ trivial X dX12_isName_83)
              · obtain ⟨n, rfl⟩ : ∃ z, n = z + 1 := ⟨n - 1, by omega⟩
                have hm7 := hm c41
                refine k_nm K X dX12_isName_44 ?_
                refine lv_bipush (v := 7) hx hb dX12_isName_47 (by decide) ?_
                refine lv_iload_n hx hb dX12_isName_49 rfl (lv_at hl 3 rfl) ?_
                refine lv_imul hx hb dX12_isName_50 ?_
                refine k_topi (pk_mul 7 k) ?_
                refine lv_iload hx hb dX12_isName_51 (lv_at hl 0 rfl) ?_
                refine lv_iadd hx hb dX12_isName_53 ?_
                refine k_topi (nI_add (7 * k) i) ?_
                refine k_nmB K X (j := 7 * k + i) (by omega) dX12_isName_54 ?_
                refine lv_aload_n hx hb dX12_isName_55 rfl (lv_at hl 2 rfl) ?_
                refine k_get K X 0 rfl fg_X12_22 (v := .ref (b 5)) rfl dX12_isName_56 ?_
                refine lv_aload_n hx hb dX12_isName_59 rfl (lv_at hl 2 rfl) ?_
                refine k_get K X 0 rfl fg_X12_168 (v := .int (nI s)) rfl dX12_isName_60 ?_
                refine lv_iload hx hb dX12_isName_63 (lv_at hl 0 rfl) ?_
                refine lv_iadd hx hb dX12_isName_65 ?_
                refine k_topi (nI_add s i) ?_
                refine k_ialdN K X 5 rfl (k := s + i) (by omega) (by decide) dX12_isName_66 (v := tp (s + i)) rfl ?_
                refine k_icmp_ne (x := kNM.getD (7 * k + i) 0) (y := tp (s + i)) hx hb 74 dX12_isName_67 (by decide) (fun c67 => ?_) (fun c67 => ?_)
                · refine lv_iconst (v := 0) hx hb dX12_isName_74 (by decide) ?_
                  refine lv_istore_n (lv' := [(3, .int 0), (4, .int (nI i)), (0, .ref (b 0)), (1, .int (nI k)), (2, .int (nI q))]) hx hb dX12_isName_75 rfl hl (by decide) rfl (fun ls hl => ?_)
                  refine lv_iinc (v := nI (i + 1)) (lv' := [(4, .int (nI (i + 1))), (3, .int 0), (0, .ref (b 0)), (1, .int (nI k)), (2, .int (nI q))]) hx hb dX12_isName_76 hl (k := 1) rfl (nI_add i 1) (by decide) rfl (fun ls hl => ?_)
                  refine lv_goto (tgt := 34) hx hb dX12_isName_79 (by decide) ?_
                  exact ih34 (i + 1) n false (by omega) (by omega) (by rw [← hR, nmL, c41, cond_true, decide_eq_false c67]) (fun _ => hm c41) _ hl _ _ X
                · refine lv_iconst (v := 1) hx hb dX12_isName_70 (by decide) ?_
                  refine lv_goto (tgt := 75) hx hb dX12_isName_71 (by decide) ?_
                  refine lv_istore_n (lv' := [(3, .int 1), (4, .int (nI i)), (0, .ref (b 0)), (1, .int (nI k)), (2, .int (nI q))]) hx hb dX12_isName_75 rfl hl (by decide) rfl (fun ls hl => ?_)
                  refine lv_iinc (v := nI (i + 1)) (lv' := [(4, .int (nI (i + 1))), (3, .int 1), (0, .ref (b 0)), (1, .int (nI k)), (2, .int (nI q))]) hx hb dX12_isName_76 hl (k := 1) rfl (nI_add i 1) (by decide) rfl (fun ls hl => ?_)
                  refine lv_goto (tgt := 34) hx hb dX12_isName_79 (by decide) ?_
                  exact ih34 (i + 1) n true (by omega) (by omega) (by rw [← hR, nmL, c41, cond_true, decide_eq_true c67]) (fun _ => hm c41) _ hl _ _ X
        exact lp34 (q + 1) 0 q true (by omega) (by omega) (by rw [isNmS, decide_eq_true (show q ≤ 7 by omega), decide_eq_true c22, Bool.or_true]; rfl) (fun _ => by omega) _ hl _ _ X
set_option maxRecDepth 100000 in
set_option maxHeartbeats 4000000 in
theorem c_X12_wordHere (l : Launch) (E : EE) (b : Nat → Nat) (mf : Nat → Int32) (hf : Nat → Int32) (wf : Nat → Int32) (ik : Int32) (fd : Nat → Int32) (tch : Int32) (tp : Nat → Int32) (tl : Int32) (tk : Int32) (tv : Int32) (bad : Int32) (bo : Nat → Int32) (so : Nat → Int32) (ce : Nat → Int64) (s : Nat) (e : Nat) (hse : s ≤ e) (he : e ≤ 120) : Kd l yX12_wordHere cX12_wordHere 2 (some .int) 1 24 E (modW E b mf hf wf ik fd tch tp tl tk (nI s) (nI e) tv bad bo so ce) [.ref (b 0)] (some (.int (nI (wdS tp s (e - s))))) (modW E b mf hf wf ik fd tch tp tl tk (nI s) (nI e) tv bad bo so ce) := by
  refine Kn.ofWi (by decide +kernel) (Nat.le_of_ble_eq_true rfl) (fun _ _ => rfl) ?_
  intro pg ev s0 mm below meth cd Q K X fin ls hl
  have hx := K.1
  have hb := K.2.1
  have hl : lv_has ls 2 [(0, .ref (b 0))] := hl
  refine lv_iconst (v := 0) hx hb dX12_wordHere_0 (by decide) ?_
  refine lv_istore_n (lv' := [(1, .int 0), (0, .ref (b 0))]) hx hb dX12_wordHere_1 rfl hl (by decide) rfl (fun ls hl => ?_)
  have lp2 : ∀ (fu : Nat) (i : Nat) (n : Nat) (hfu : n < fu) (hin : i + n = 11) (hR : wdL tp s (e - s) n i = wdL tp s (e - s) 11 0) (ls : Array Slot) (hl : lv_has ls 2 [(1, .int (nI i)), (0, .ref (b 0))]) (H : Heap) (locs : List Loc) (X : Wd E (inW (modW E b mf hf wf ik fd tch tp tl tk (nI s) (nI e) tv bad bo so ce)) s0.heap (modW E b mf hf wf ik fd tch tp tl tk (nI s) (nI e) tv bad bo so ce) H locs), W pg l ev (rmK 1 24) s0 mm ([.ref (b 0)] : List Value).toArray below meth cd H locs 0 0 Q (F0 mm 2 ls []) := by
    intro fu
    induction fu with
    | zero => intro i n hfu; exact absurd hfu (Nat.not_lt_zero _)
    | succ fu ih2 =>
      intro i n hfu hin hR ls hl H locs X
      refine lv_iload_n hx hb dX12_wordHere_2 rfl (lv_at hl 0 rfl) ?_
      refine lv_bipush (v := 11) hx hb dX12_wordHere_3 (by decide) ?_
      refine kN_ge (x := i) (y := 11) hx hb 31 dX12_wordHere_5 (by decide) (by omega) (by omega) (fun c5 => ?_) (fun c5 => ?_)
      · obtain rfl : n = 0 := by omega
        refine lv_iload_n hx hb dX12_wordHere_31 rfl (lv_at hl 0 rfl) ?_
        refine lv_bipush (v := 11) hx hb dX12_wordHere_32 (by decide) ?_
        refine kN_ge (x := i) (y := 11) hx hb 41 dX12_wordHere_34 (by decide) (by omega) (by omega) (fun c34 => ?_) (fun c34 => ?_)
        · refine lv_bipush (v := 23) hx hb dX12_wordHere_41 (by decide) ?_
          exact k_topi (x' := nI (wdS tp s (e - s))) (by rw [wdS, ← hR, wdL, if_neg (by omega)]; rfl) (fin () 43 _ _ _ trivial X dX12_wordHere_43)
        · exact absurd c34 (by omega)
      · obtain ⟨n, rfl⟩ : ∃ z, n = z + 1 := ⟨n - 1, by omega⟩
        refine lv_aload_n hx hb dX12_wordHere_8 rfl (lv_at hl 1 rfl) ?_
        refine lv_iload_n hx hb dX12_wordHere_9 rfl (lv_at hl 0 rfl) ?_
        refine lv_aload_n hx hb dX12_wordHere_10 rfl (lv_at hl 1 rfl) ?_
        refine k_get K X 0 rfl fg_X12_171 (v := .int (nI e)) rfl dX12_wordHere_11 ?_
        refine lv_aload_n hx hb dX12_wordHere_14 rfl (lv_at hl 1 rfl) ?_
        refine k_get K X 0 rfl fg_X12_168 (v := .int (nI s)) rfl dX12_wordHere_15 ?_
        refine lv_isub hx hb dX12_wordHere_18 ?_
        refine k_topi (x' := nI (e - s)) (pk_sub (a := e) (b := s) hse) ?_
        refine k_callV K X gv_X12_174 (As := [.int (nI i), .int (nI (e - s))]) (c_X12_isName l E b mf hf wf ik fd tch tp tl tk (nI e) tv bad bo so ce s i (e - s) (by omega) (by omega)) [0, 1, 2, 3, 4, 5, 6, 7, 8] modW_idC (by decide +kernel) (fun _ => modW_fst) 0 12 rfl rfl (by decide) rfl hl.1 (rest := []) rfl (Nat.le_of_ble_eq_true rfl) dX12_wordHere_19 (st1 := fun _ => [.int (b2i (isNmS tp s i (e - s)))]) (fun _ => rfl) (fun _ H locs _ X => ?_)
        have X : Wd E _ _ (modW E b mf hf wf ik fd tch tp tl tk (nI s) (nI e) tv bad bo so ce) _ _ := X.eq modW_idP
        refine k_ifneB (B := (isNmS tp s i (e - s))) hx hb 31 dX12_wordHere_22 (by decide) (fun c22 => ?_) (fun c22 => ?_)
        · refine lv_iload_n hx hb dX12_wordHere_31 rfl (lv_at hl 0 rfl) ?_
          refine lv_bipush (v := 11) hx hb dX12_wordHere_32 (by decide) ?_
          refine kN_ge (x := i) (y := 11) hx hb 41 dX12_wordHere_34 (by decide) (by omega) (by omega) (fun c34 => ?_) (fun c34 => ?_)
          · exact absurd c34 (by omega)
          · refine lv_iload_n hx hb dX12_wordHere_37 rfl (lv_at hl 0 rfl) ?_
            refine lv_goto (tgt := 43) hx hb dX12_wordHere_38 (by decide) ?_
            exact k_topi (x' := nI (wdS tp s (e - s))) (by rw [wdS, ← hR, wdL, c22, cond_true, if_pos (by omega)]) (fin () 43 _ _ _ trivial X dX12_wordHere_43)
        · refine lv_iinc (v := nI (i + 1)) (lv' := [(1, .int (nI (i + 1))), (0, .ref (b 0))]) hx hb dX12_wordHere_25 hl (k := 0) rfl (nI_add i 1) (by decide) rfl (fun ls hl => ?_)
          refine lv_goto (tgt := 2) hx hb dX12_wordHere_28 (by decide) ?_
          exact ih2 (i + 1) n (by omega) (by omega) (by rw [← hR, wdL, c22, cond_false]) _ hl _ _ X
  exact lp2 (11 + 1) 0 11 (by omega) (by omega) (rfl) _ hl _ _ X
