set_option maxRecDepth 100000 in
set_option maxHeartbeats 4000000 in
theorem c_X7_isMissing (l : Launch) (E : EE) (t : Nat → Nat) (rb : Int32) (rz : Int32) (rn : Nat → Int64) : Kd l yX7_isMissing cX7_isMissing 1 (some .boolean) 0 0 E (rowW E t rb rz rn) [.ref (t 0)] (some (.int (b2i (decide (rb = 0))))) (rowW E t rb rz rn) := by
  refine Kn.ofWi (by decide +kernel) (Nat.le_of_ble_eq_true rfl) (fun _ _ => b2i_nar _) ?_
  intro pg ev s0 mm below meth cd Q K X fin ls hl
  have hx := K.1
  have hb := K.2.1
  have hl : lv_has ls 1 [(0, .ref (t 0))] := hl
  refine lv_aload_n hx hb dX7_isMissing_0 rfl (lv_at hl 0 rfl) ?_
  refine k_get K X 0 rfl fg_X7_9 (v := .int rb) rfl dX7_isMissing_1 ?_
  refine k_if_ne (x := rb) hx hb 11 dX7_isMissing_4 (by decide) (fun c4 => ?_) (fun c4 => ?_)
  · refine lv_iconst (v := 0) hx hb dX7_isMissing_11 (by decide) ?_
    exact k_topi (x' := b2i (decide (rb = 0))) (by simp [b2i, c4]) (fin () 12 _ _ _ trivial X dX7_isMissing_12)
  · refine lv_iconst (v := 1) hx hb dX7_isMissing_7 (by decide) ?_
    refine lv_goto (tgt := 12) hx hb dX7_isMissing_8 (by decide) ?_
    exact k_topi (x' := b2i (decide (rb = 0))) (by simp [b2i, c4]) (fin () 12 _ _ _ trivial X dX7_isMissing_12)
set_option maxRecDepth 100000 in
set_option maxHeartbeats 4000000 in
theorem c_X7_become (l : Launch) (E : EE) (t : Nat → Nat) (rb : Int32) (rz : Int32) (rn : Nat → Int64) (x : Int32) (y : Int32) : Kd l yX7_become cX7_become 4 none 0 0 E (rowW E t rb rz rn) [.ref (t 0), .int x, .int y] none (rowW E t x (szN x y) (fun _ => 0)) := by
  refine Kn.ofWv (by decide +kernel) (Nat.le_of_ble_eq_true rfl) ?_
  intro pg ev s0 mm below meth cd Q K X fin ls hl
  have hx := K.1
  have hb := K.2.1
  have hl : lv_has ls 4 [(0, .ref (t 0)), (1, .int x), (2, .int y)] := hl
  refine lv_aload_n hx hb dX7_become_0 rfl (lv_at hl 0 rfl) ?_
  refine lv_iload_n hx hb dX7_become_1 rfl (lv_at hl 1 rfl) ?_
  refine k_put K X 0 rfl fp_X7_9 (v := .int x) rfl rfl (Nat.le_of_ble_eq_true rfl) dX7_become_2 (fun H locs X => ?_)
  have X : Wd E _ _ (rowW E t x rz rn) _ _ := X
  refine lv_aload_n hx hb dX7_become_5 rfl (lv_at hl 0 rfl) ?_
  refine lv_iload_n hx hb dX7_become_6 rfl (lv_at hl 1 rfl) ?_
  refine k_if_ne (x := x) hx hb 14 dX7_become_7 (by decide) (fun c7 => ?_) (fun c7 => ?_)
  · refine lv_iload_n hx hb dX7_become_14 rfl (lv_at hl 2 rfl) ?_
    refine k_put K X 0 rfl fp_X7_15 (v := .int y) rfl rfl (Nat.le_of_ble_eq_true rfl) dX7_become_15 (fun H locs X => ?_)
    have X : Wd E _ _ (rowW E t x y rn) _ _ := X
    refine lv_iconst (v := 0) hx hb dX7_become_18 (by decide) ?_
    refine lv_istore_n (lv' := [(3, .int 0), (0, .ref (t 0)), (1, .int x), (2, .int y)]) hx hb dX7_become_19 rfl hl (by decide) rfl (fun ls hl => ?_)
    have lp20 : ∀ (fu : Nat) (i : Nat) (n : Nat) (w : Nat → Int64) (hfu : n < fu) (hin : i + n = 40) (hw : ∀ j, j < i → w j = 0) (ls : Array Slot) (hl : lv_has ls 4 [(3, .int (nI i)), (0, .ref (t 0)), (1, .int x), (2, .int y)]) (H : Heap) (locs : List Loc) (X : Wd E (inW (rowW E t rb rz rn)) s0.heap (rowW E t x y w) H locs), W pg l ev (rmK 0 0) s0 mm ([.ref (t 0), .int x, .int y] : List Value).toArray below meth cd H locs 0 0 Q (F0 mm 20 ls []) := by
      intro fu
      induction fu with
      | zero => intro i n w hfu; exact absurd hfu (Nat.not_lt_zero _)
      | succ fu ih20 =>
        intro i n w hfu hin hw ls hl H locs X
        refine lv_iload_n hx hb dX7_become_20 rfl (lv_at hl 0 rfl) ?_
        refine lv_bipush (v := 40) hx hb dX7_become_21 (by decide) ?_
        refine kN_ge (x := i) (y := 40) hx hb 39 dX7_become_23 (by decide) (by omega) (by omega) (fun c23 => ?_) (fun c23 => ?_)
        · obtain rfl : n = 0 := by omega
          have X := X.arrL 1 (g := fun _ => 0) rfl (fun j hj => hw j (by omega))
          have X : Wd E _ _ (rowW E t x y (fun _ => 0)) _ _ := X
          exact fin () 39 _ _ _ trivial (X.eq (by rw [szN, if_neg c7])) dX7_become_39
        · obtain ⟨n, rfl⟩ : ∃ z, n = z + 1 := ⟨n - 1, by omega⟩
          refine lv_aload_n hx hb dX7_become_26 rfl (lv_at hl 1 rfl) ?_
          refine k_get K X 0 rfl fg_X7_18 (v := .ref (t 1)) rfl dX7_become_27 ?_
          refine lv_iload_n hx hb dX7_become_30 rfl (lv_at hl 0 rfl) ?_
          refine lv_lconst (v := 0) hx hb dX7_become_31 (by decide) ?_
          refine k_lastN K X 1 rfl (k := i) (x := 0) (by omega) (by decide) dX7_become_32 (fun H locs X => ?_)
          have X : Wd E _ _ (rowW E t x y (vp_updL w i 0)) _ _ := X
          refine lv_iinc (v := nI (i + 1)) (lv' := [(3, .int (nI (i + 1))), (0, .ref (t 0)), (1, .int x), (2, .int y)]) hx hb dX7_become_33 hl (k := 0) rfl (nI_add i 1) (by decide) rfl (fun ls hl => ?_)
          refine lv_goto (tgt := 20) hx hb dX7_become_36 (by decide) ?_
          exact ih20 (i + 1) n (vp_updL w i 0) (by omega) (by omega) (fun j hj => by show (if j = i then 0 else w j) = 0; split; rfl; exact hw j (by omega)) _ hl _ _ X
    exact lp20 (40 + 1) 0 40 rn (by omega) (by omega) (fun j hj => absurd hj (Nat.not_lt_zero j)) _ hl _ _ X
  · refine lv_iconst (v := 0) hx hb dX7_become_10 (by decide) ?_
    refine lv_goto (tgt := 15) hx hb dX7_become_11 (by decide) ?_
    refine k_put K X 0 rfl fp_X7_15 (v := .int 0) rfl rfl (Nat.le_of_ble_eq_true rfl) dX7_become_15 (fun H locs X => ?_)
    have X : Wd E _ _ (rowW E t x 0 rn) _ _ := X
    refine lv_iconst (v := 0) hx hb dX7_become_18 (by decide) ?_
    refine lv_istore_n (lv' := [(3, .int 0), (0, .ref (t 0)), (1, .int x), (2, .int y)]) hx hb dX7_become_19 rfl hl (by decide) rfl (fun ls hl => ?_)
    have lp20 : ∀ (fu : Nat) (i : Nat) (n : Nat) (w : Nat → Int64) (hfu : n < fu) (hin : i + n = 40) (hw : ∀ j, j < i → w j = 0) (ls : Array Slot) (hl : lv_has ls 4 [(3, .int (nI i)), (0, .ref (t 0)), (1, .int x), (2, .int y)]) (H : Heap) (locs : List Loc) (X : Wd E (inW (rowW E t rb rz rn)) s0.heap (rowW E t x 0 w) H locs), W pg l ev (rmK 0 0) s0 mm ([.ref (t 0), .int x, .int y] : List Value).toArray below meth cd H locs 0 0 Q (F0 mm 20 ls []) := by
      intro fu
      induction fu with
      | zero => intro i n w hfu; exact absurd hfu (Nat.not_lt_zero _)
      | succ fu ih20 =>
        intro i n w hfu hin hw ls hl H locs X
        refine lv_iload_n hx hb dX7_become_20 rfl (lv_at hl 0 rfl) ?_
        refine lv_bipush (v := 40) hx hb dX7_become_21 (by decide) ?_
        refine kN_ge (x := i) (y := 40) hx hb 39 dX7_become_23 (by decide) (by omega) (by omega) (fun c23 => ?_) (fun c23 => ?_)
        · obtain rfl : n = 0 := by omega
          have X := X.arrL 1 (g := fun _ => 0) rfl (fun j hj => hw j (by omega))
          have X : Wd E _ _ (rowW E t x 0 (fun _ => 0)) _ _ := X
          exact fin () 39 _ _ _ trivial (X.eq (by rw [szN, if_pos c7])) dX7_become_39
        · obtain ⟨n, rfl⟩ : ∃ z, n = z + 1 := ⟨n - 1, by omega⟩
          refine lv_aload_n hx hb dX7_become_26 rfl (lv_at hl 1 rfl) ?_
          refine k_get K X 0 rfl fg_X7_18 (v := .ref (t 1)) rfl dX7_become_27 ?_
          refine lv_iload_n hx hb dX7_become_30 rfl (lv_at hl 0 rfl) ?_
          refine lv_lconst (v := 0) hx hb dX7_become_31 (by decide) ?_
          refine k_lastN K X 1 rfl (k := i) (x := 0) (by omega) (by decide) dX7_become_32 (fun H locs X => ?_)
          have X : Wd E _ _ (rowW E t x 0 (vp_updL w i 0)) _ _ := X
          refine lv_iinc (v := nI (i + 1)) (lv' := [(3, .int (nI (i + 1))), (0, .ref (t 0)), (1, .int x), (2, .int y)]) hx hb dX7_become_33 hl (k := 0) rfl (nI_add i 1) (by decide) rfl (fun ls hl => ?_)
          refine lv_goto (tgt := 20) hx hb dX7_become_36 (by decide) ?_
          exact ih20 (i + 1) n (vp_updL w i 0) (by omega) (by omega) (fun j hj => by show (if j = i then 0 else w j) = 0; split; rfl; exact hw j (by omega)) _ hl _ _ X
    exact lp20 (40 + 1) 0 40 rn (by omega) (by omega) (fun j hj => absurd hj (Nat.not_lt_zero j)) _ hl _ _ X
set_option maxRecDepth 100000 in
set_option maxHeartbeats 4000000 in
theorem c_X7_put (l : Launch) (E : EE) (t : Nat → Nat) (rb : Int32) (rz : Int32) (rn : Nat → Int64) (i : Nat) (v : Int64) (hi : i < 40) : Kd l yX7_put cX7_put 4 none 0 0 E (rowW E t rb rz rn) [.ref (t 0), .int (nI i), .long v] none (rowW E t rb rz (vp_updL rn i (cutL rb v))) := by
  refine Kn.ofWv (by decide +kernel) (Nat.le_of_ble_eq_true rfl) ?_
  intro pg ev s0 mm below meth cd Q K X fin ls hl
  have hx := K.1
  have hb := K.2.1
  have hl : lv_has ls 4 [(0, .ref (t 0)), (1, .int (nI i)), (2, .long v)] := hl
  refine lv_aload_n hx hb dX7_put_0 rfl (lv_at hl 0 rfl) ?_
  refine k_get K X 0 rfl fg_X7_9 (v := .int rb) rfl dX7_put_1 ?_
  refine lv_bipush (v := 8) hx hb dX7_put_4 (by decide) ?_
  refine k_icmp_ne (x := rb) (y := 8) hx hb 22 dX7_put_6 (by decide) (fun c6 => ?_) (fun c6 => ?_)
  · refine lv_aload_n hx hb dX7_put_22 rfl (lv_at hl 0 rfl) ?_
    refine k_get K X 0 rfl fg_X7_9 (v := .int rb) rfl dX7_put_23 ?_
    refine lv_bipush (v := 16) hx hb dX7_put_26 (by decide) ?_
    refine k_icmp_ne (x := rb) (y := 16) hx hb 44 dX7_put_28 (by decide) (fun c28 => ?_) (fun c28 => ?_)
    · refine lv_aload_n hx hb dX7_put_44 rfl (lv_at hl 0 rfl) ?_
      refine k_get K X 0 rfl fg_X7_18 (v := .ref (t 1)) rfl dX7_put_45 ?_
      refine lv_iload_n hx hb dX7_put_48 rfl (lv_at hl 1 rfl) ?_
      refine lv_lload_n hx hb dX7_put_49 rfl (lv_at hl 2 rfl) ?_
      refine k_lastN K X 1 rfl (k := i) (x := v) (by omega) (by decide) dX7_put_50 (fun H locs X => ?_)
      have X : Wd E _ _ (rowW E t rb rz (vp_updL rn i v)) _ _ := X
      exact fin () 51 _ _ _ trivial (X.eq (by rw [cutL, if_neg c6, if_neg c28])) dX7_put_51
    · refine lv_aload_n hx hb dX7_put_31 rfl (lv_at hl 0 rfl) ?_
      refine k_get K X 0 rfl fg_X7_18 (v := .ref (t 1)) rfl dX7_put_32 ?_
      refine lv_iload_n hx hb dX7_put_35 rfl (lv_at hl 1 rfl) ?_
      refine lv_lload_n hx hb dX7_put_36 rfl (lv_at hl 2 rfl) ?_
      refine lv_l2i (v := v.toInt32) hx hb dX7_put_37 rfl ?_
      refine lv_i2s (v := v.toInt32.toInt16.toInt32) hx hb dX7_put_38 rfl ?_
      refine lv_i2l (v := v.toInt32.toInt16.toInt32.toInt64) hx hb dX7_put_39 rfl ?_
      refine k_lastN K X 1 rfl (k := i) (x := v.toInt32.toInt16.toInt32.toInt64) (by omega) (by decide) dX7_put_40 (fun H locs X => ?_)
      have X : Wd E _ _ (rowW E t rb rz (vp_updL rn i v.toInt32.toInt16.toInt32.toInt64)) _ _ := X
      refine lv_goto (tgt := 51) hx hb dX7_put_41 (by decide) ?_
      exact fin () 51 _ _ _ trivial (X.eq (by rw [cutL, if_neg c6, if_pos c28])) dX7_put_51
  · refine lv_aload_n hx hb dX7_put_9 rfl (lv_at hl 0 rfl) ?_
    refine k_get K X 0 rfl fg_X7_18 (v := .ref (t 1)) rfl dX7_put_10 ?_
    refine lv_iload_n hx hb dX7_put_13 rfl (lv_at hl 1 rfl) ?_
    refine lv_lload_n hx hb dX7_put_14 rfl (lv_at hl 2 rfl) ?_
    refine lv_l2i (v := v.toInt32) hx hb dX7_put_15 rfl ?_
    refine lv_i2b (v := v.toInt32.toInt8.toInt32) hx hb dX7_put_16 rfl ?_
    refine lv_i2l (v := v.toInt32.toInt8.toInt32.toInt64) hx hb dX7_put_17 rfl ?_
    refine k_lastN K X 1 rfl (k := i) (x := v.toInt32.toInt8.toInt32.toInt64) (by omega) (by decide) dX7_put_18 (fun H locs X => ?_)
    have X : Wd E _ _ (rowW E t rb rz (vp_updL rn i v.toInt32.toInt8.toInt32.toInt64)) _ _ := X
    refine lv_goto (tgt := 51) hx hb dX7_put_19 (by decide) ?_
    exact fin () 51 _ _ _ trivial (X.eq (by rw [cutL, if_pos c6])) dX7_put_51
set_option maxRecDepth 100000 in
set_option maxHeartbeats 4000000 in
theorem c_X7_hasFrom (l : Launch) (E : EE) (t : Nat → Nat) (rb : Int32) (rz : Int32) (rn : Nat → Int64) (x : Int32) (y : Int32) : Kd l yX7_hasFrom cX7_hasFrom 3 (some .boolean) 0 0 E (rowW E t rb rz rn) [.ref (t 0), .int x, .int y] (some (.int (b2i (hasR rz x y)))) (rowW E t rb rz rn) := by
  refine Kn.ofWi (by decide +kernel) (Nat.le_of_ble_eq_true rfl) (fun _ _ => b2i_nar _) ?_
  intro pg ev s0 mm below meth cd Q K X fin ls hl
  have hx := K.1
  have hb := K.2.1
  have hl : lv_has ls 3 [(0, .ref (t 0)), (1, .int x), (2, .int y)] := hl
  refine lv_iload_n hx hb dX7_hasFrom_0 rfl (lv_at hl 1 rfl) ?_
  refine k_if_lt (x := x) hx hb 22 dX7_hasFrom_1 (by decide) (fun c1 => ?_) (fun c1 => ?_)
  · refine lv_iconst (v := 0) hx hb dX7_hasFrom_22 (by decide) ?_
    exact k_topi (x' := b2i (hasR rz x y)) (by simp [hasR, b2i, c1]) (fin () 23 _ _ _ trivial X dX7_hasFrom_23)
  · refine lv_iload_n hx hb dX7_hasFrom_4 rfl (lv_at hl 2 rfl) ?_
    refine k_if_lt (x := y) hx hb 22 dX7_hasFrom_5 (by decide) (fun c5 => ?_) (fun c5 => ?_)
    · refine lv_iconst (v := 0) hx hb dX7_hasFrom_22 (by decide) ?_
      exact k_topi (x' := b2i (hasR rz x y)) (by simp [hasR, b2i, c1, c5]) (fin () 23 _ _ _ trivial X dX7_hasFrom_23)
    · refine lv_iload_n hx hb dX7_hasFrom_8 rfl (lv_at hl 2 rfl) ?_
      refine lv_aload_n hx hb dX7_hasFrom_9 rfl (lv_at hl 0 rfl) ?_
      refine k_get K X 0 rfl fg_X7_15 (v := .int rz) rfl dX7_hasFrom_10 ?_
      refine lv_iload_n hx hb dX7_hasFrom_13 rfl (lv_at hl 1 rfl) ?_
      refine lv_isub hx hb dX7_hasFrom_14 ?_
      refine k_icmp_gt (x := y) (y := rz - x) hx hb 22 dX7_hasFrom_15 (by decide) (fun c15 => ?_) (fun c15 => ?_)
      · refine lv_iconst (v := 0) hx hb dX7_hasFrom_22 (by decide) ?_
        exact k_topi (x' := b2i (hasR rz x y)) (by simp [hasR, b2i, c1, c5, c15]) (fin () 23 _ _ _ trivial X dX7_hasFrom_23)
      · refine lv_iconst (v := 1) hx hb dX7_hasFrom_18 (by decide) ?_
        refine lv_goto (tgt := 23) hx hb dX7_hasFrom_19 (by decide) ?_
        exact k_topi (x' := b2i (hasR rz x y)) (by simp [hasR, b2i, c1, c5, c15]) (fin () 23 _ _ _ trivial X dX7_hasFrom_23)
set_option maxRecDepth 100000 in
set_option maxHeartbeats 4000000 in
theorem c_X11_sheet (l : Launch) (E : EE) (a : Nat → Nat) (f : St) (g : St) (h : St) (ik : Int32) (one : Int32) (wo : Int32) (tp : Nat → Int32) (tl : Int32) (tk : Int32) (ts : Int32) (te : Int32) (tn : Int32) (rb : Nat → Int32) (rz : Nat → Int32) (rn : Nat → Nat → Int64) (td : Nat → Int32) (x : Int32) (y : Int32) (z : Int32) (J : InvS rz) : Kd l yX11_sheet cX11_sheet 4 (some .int) 2 42 E (clsW E a f g h ik one wo tp tl tk ts te tn rb rz rn td) [.ref (a 0), .int x, .int y, .int z] (some (.int ((oSheet rb rz rn td x y z).1))) (clsW E a f g h ik one wo tp tl tk ts te tn ((oSheet rb rz rn td x y z).2.1) ((oSheet rb rz rn td x y z).2.2.1) ((oSheet rb rz rn td x y z).2.2.2.1) ((oSheet rb rz rn td x y z).2.2.2.2)) := by
  refine Kn.ofWi (by decide +kernel) (Nat.le_of_ble_eq_true rfl) (fun _ _ => rfl) ?_
  intro pg ev s0 mm below meth cd Q K X fin ls hl
  have hx := K.1
  have hb := K.2.1
  have hl : lv_has ls 4 [(0, .ref (a 0)), (1, .int x), (2, .int y), (3, .int z)] := hl
  refine lv_iload_n hx hb dX11_sheet_0 rfl (lv_at hl 1 rfl) ?_
  refine k_callS K X gs_X11_227 (As := [.int x]) (c_X11_noSheet l E x) [] rfl (by decide +kernel) (fun _ => rfl) (by decide) rfl hl.1 (rest := []) rfl (Nat.le_of_ble_eq_true rfl) dX11_sheet_1 (st1 := fun _ => [.int (b2i (!inR x 0 3))]) (fun _ => rfl) (fun _ H locs _ X => ?_)
  have X : Wd E _ _ (clsW E a f g h ik one wo tp tl tk ts te tn rb rz rn td) _ _ := X
  refine k_ifneB (B := (!inR x 0 3)) hx hb 29 dX11_sheet_4 (by decide) (fun c4 => ?_) (fun c4 => ?_)
  · have hx0 : inR x 0 3 = false := by simpa using c4
    refine lv_aload_n hx hb dX11_sheet_29 rfl (lv_at hl 0 rfl) ?_
    refine lv_iconst (v := 0) hx hb dX11_sheet_30 (by decide) ?_
    refine k_callV K X gv_X11_84 (As := [.int 0]) (c_X11_finding l E a f g h ik one wo tp tl tk ts te tn rb rz rn td 0 (by decide)) [0, 1, 2, 3, 4, 5, 6, 7, 8, 9, 10, 11, 12, 13, 14, 15, 16, 17, 18, 19, 20, 21, 22, 23, 24, 25, 26, 27, 28, 29, 30, 31, 32, 33, 34, 35, 36, 37, 38, 39, 40, 41, 42] clsW_idC (by decide +kernel) (fun _ => clsW_fst) 0 11 rfl rfl (by decide) rfl hl.1 (rest := []) rfl (Nat.le_of_ble_eq_true rfl) dX11_sheet_31 (st1 := fun _ => [.int (fnd 0)]) (fun _ => rfl) (fun _ H locs _ X => ?_)
    have X : Wd E _ _ (clsW E a f g h ik one wo tp tl tk ts te tn rb rz rn (fdU td 0)) _ _ := X.eq clsW_idP
    exact k_topi (x' := (oSheet rb rz rn td x y z).1) (by simp [oSheet, hx0]) (fin () 34 _ _ _ trivial (X.eq (by simp [oSheet, hx0])) dX11_sheet_34)
  · have hx0 : inR x 0 3 = true := by simpa using c4
    obtain ⟨k, hk, rfl, -⟩ := inR_nat (n := 4) (by decide) (by decide) hx0
    have ek : (nI k).toNatClampNeg = k := nI_clamp (by omega)
    refine lv_iload_n hx hb dX11_sheet_7 rfl (lv_at hl 2 rfl) ?_
    refine k_if_eq (x := y) hx hb 35 dX11_sheet_8 (by decide) (fun c8 => ?_) (fun c8 => ?_)
    · refine lv_iload_n hx hb dX11_sheet_35 rfl (lv_at hl 3 rfl) ?_
      refine k_if_ge (x := z) hx hb 46 dX11_sheet_36 (by decide) (fun c36 => ?_) (fun c36 => ?_)
      · refine lv_iload_n hx hb dX11_sheet_46 rfl (lv_at hl 3 rfl) ?_
        refine lv_bipush (v := 40) hx hb dX11_sheet_47 (by decide) ?_
        refine k_icmp_le (x := z) (y := 40) hx hb 58 dX11_sheet_49 (by decide) (fun c49 => ?_) (fun c49 => ?_)
        · refine lv_aload_n hx hb dX11_sheet_58 rfl (lv_at hl 0 rfl) ?_
          refine k_get K X 0 rfl fg_X11_71 (v := .ref (a 26)) rfl dX11_sheet_59 ?_
          rcases (show k = 0 ∨ k = 1 ∨ k = 2 ∨ k = 3 by omega) with rfl | rfl | rfl | rfl
          · have hz := (J 0 (by decide)).2
            refine lv_iload_n hx hb dX11_sheet_62 rfl (lv_at hl 1 rfl) ?_
            refine k_aaldN (C := "SlipWall$Row") K X 26 3 rfl rfl (k := 0) (by omega) (by decide) (r := a 27) rfl dX11_sheet_63 ?_
            refine lv_iload_n hx hb dX11_sheet_64 rfl (lv_at hl 2 rfl) ?_
            refine lv_iload_n hx hb dX11_sheet_65 rfl (lv_at hl 3 rfl) ?_
            refine k_callV K X gv_X11_230 (As := [.int y, .int z]) (c_X7_become l E (fun j => a (27 + j)) (rb 0) (rz 0) (rn 0) y z) [27, 28] clsW_s14C (by decide +kernel) (fun _ => rowW_fst) 0 7 rfl rfl (by decide) rfl hl.1 (rest := []) rfl (Nat.le_of_ble_eq_true rfl) dX11_sheet_66 (st1 := fun _ => []) (fun _ => rfl) (fun _ H locs _ X => ?_)
            have X : Wd E _ _ (clsW E a f g h ik one wo tp tl tk ts te tn (upd rb 0 y) (upd rz 0 (szN y z)) (setRL rn 0 (fun _ => 0)) td) _ _ := X.eq clsW_s14P
            refine lv_aload_n hx hb dX11_sheet_69 rfl (lv_at hl 0 rfl) ?_
            refine k_get K X 0 rfl fg_X11_71 (v := .ref (a 26)) rfl dX11_sheet_70 ?_
            refine lv_iload_n hx hb dX11_sheet_73 rfl (lv_at hl 1 rfl) ?_
            refine k_aaldN (C := "SlipWall$Row") K X 26 3 rfl rfl (k := 0) (by omega) (by decide) (r := a 27) rfl dX11_sheet_74 ?_
            refine k_getN K X 27 rfl fg_X11_233 (v := .int (szN y z)) rfl dX11_sheet_75 ?_
            exact k_topi (x' := (oSheet rb rz rn td (nI 0) y z).1) (by simp [oSheet, hx0, ek, c8, c36, c49]) (fin () 78 _ _ _ trivial (X.eq (by simp [oSheet, hx0, ek, c8, c36, c49])) dX11_sheet_78)
          · have hz := (J 1 (by decide)).2
            refine lv_iload_n hx hb dX11_sheet_62 rfl (lv_at hl 1 rfl) ?_
            refine k_aaldN (C := "SlipWall$Row") K X 26 3 rfl rfl (k := 1) (by omega) (by decide) (r := a 29) rfl dX11_sheet_63 ?_
            refine lv_iload_n hx hb dX11_sheet_64 rfl (lv_at hl 2 rfl) ?_
            refine lv_iload_n hx hb dX11_sheet_65 rfl (lv_at hl 3 rfl) ?_
            refine k_callV K X gv_X11_230 (As := [.int y, .int z]) (c_X7_become l E (fun j => a (29 + j)) (rb 1) (rz 1) (rn 1) y z) [29, 30] clsW_s15C (by decide +kernel) (fun _ => rowW_fst) 0 7 rfl rfl (by decide) rfl hl.1 (rest := []) rfl (Nat.le_of_ble_eq_true rfl) dX11_sheet_66 (st1 := fun _ => []) (fun _ => rfl) (fun _ H locs _ X => ?_)
            have X : Wd E _ _ (clsW E a f g h ik one wo tp tl tk ts te tn (upd rb 1 y) (upd rz 1 (szN y z)) (setRL rn 1 (fun _ => 0)) td) _ _ := X.eq clsW_s15P
            refine lv_aload_n hx hb dX11_sheet_69 rfl (lv_at hl 0 rfl) ?_
            refine k_get K X 0 rfl fg_X11_71 (v := .ref (a 26)) rfl dX11_sheet_70 ?_
            refine lv_iload_n hx hb dX11_sheet_73 rfl (lv_at hl 1 rfl) ?_
            refine k_aaldN (C := "SlipWall$Row") K X 26 3 rfl rfl (k := 1) (by omega) (by decide) (r := a 29) rfl dX11_sheet_74 ?_
            refine k_getN K X 29 rfl fg_X11_233 (v := .int (szN y z)) rfl dX11_sheet_75 ?_
            exact k_topi (x' := (oSheet rb rz rn td (nI 1) y z).1) (by simp [oSheet, hx0, ek, c8, c36, c49]) (fin () 78 _ _ _ trivial (X.eq (by simp [oSheet, hx0, ek, c8, c36, c49])) dX11_sheet_78)
          · have hz := (J 2 (by decide)).2
            refine lv_iload_n hx hb dX11_sheet_62 rfl (lv_at hl 1 rfl) ?_
            refine k_aaldN (C := "SlipWall$Row") K X 26 3 rfl rfl (k := 2) (by omega) (by decide) (r := a 31) rfl dX11_sheet_63 ?_
            refine lv_iload_n hx hb dX11_sheet_64 rfl (lv_at hl 2 rfl) ?_
            refine lv_iload_n hx hb dX11_sheet_65 rfl (lv_at hl 3 rfl) ?_
            refine k_callV K X gv_X11_230 (As := [.int y, .int z]) (c_X7_become l E (fun j => a (31 + j)) (rb 2) (rz 2) (rn 2) y z) [31, 32] clsW_s16C (by decide +kernel) (fun _ => rowW_fst) 0 7 rfl rfl (by decide) rfl hl.1 (rest := []) rfl (Nat.le_of_ble_eq_true rfl) dX11_sheet_66 (st1 := fun _ => []) (fun _ => rfl) (fun _ H locs _ X => ?_)
            have X : Wd E _ _ (clsW E a f g h ik one wo tp tl tk ts te tn (upd rb 2 y) (upd rz 2 (szN y z)) (setRL rn 2 (fun _ => 0)) td) _ _ := X.eq clsW_s16P
            refine lv_aload_n hx hb dX11_sheet_69 rfl (lv_at hl 0 rfl) ?_
            refine k_get K X 0 rfl fg_X11_71 (v := .ref (a 26)) rfl dX11_sheet_70 ?_
            refine lv_iload_n hx hb dX11_sheet_73 rfl (lv_at hl 1 rfl) ?_
            refine k_aaldN (C := "SlipWall$Row") K X 26 3 rfl rfl (k := 2) (by omega) (by decide) (r := a 31) rfl dX11_sheet_74 ?_
            refine k_getN K X 31 rfl fg_X11_233 (v := .int (szN y z)) rfl dX11_sheet_75 ?_
            exact k_topi (x' := (oSheet rb rz rn td (nI 2) y z).1) (by simp [oSheet, hx0, ek, c8, c36, c49]) (fin () 78 _ _ _ trivial (X.eq (by simp [oSheet, hx0, ek, c8, c36, c49])) dX11_sheet_78)
          · have hz := (J 3 (by decide)).2
            refine lv_iload_n hx hb dX11_sheet_62 rfl (lv_at hl 1 rfl) ?_
            refine k_aaldN (C := "SlipWall$Row") K X 26 3 rfl rfl (k := 3) (by omega) (by decide) (r := a 33) rfl dX11_sheet_63 ?_
            refine lv_iload_n hx hb dX11_sheet_64 rfl (lv_at hl 2 rfl) ?_
            refine lv_iload_n hx hb dX11_sheet_65 rfl (lv_at hl 3 rfl) ?_
            refine k_callV K X gv_X11_230 (As := [.int y, .int z]) (c_X7_become l E (fun j => a (33 + j)) (rb 3) (rz 3) (rn 3) y z) [33, 34] clsW_s17C (by decide +kernel) (fun _ => rowW_fst) 0 7 rfl rfl (by decide) rfl hl.1 (rest := []) rfl (Nat.le_of_ble_eq_true rfl) dX11_sheet_66 (st1 := fun _ => []) (fun _ => rfl) (fun _ H locs _ X => ?_)
            have X : Wd E _ _ (clsW E a f g h ik one wo tp tl tk ts te tn (upd rb 3 y) (upd rz 3 (szN y z)) (setRL rn 3 (fun _ => 0)) td) _ _ := X.eq clsW_s17P
            refine lv_aload_n hx hb dX11_sheet_69 rfl (lv_at hl 0 rfl) ?_
            refine k_get K X 0 rfl fg_X11_71 (v := .ref (a 26)) rfl dX11_sheet_70 ?_
            refine lv_iload_n hx hb dX11_sheet_73 rfl (lv_at hl 1 rfl) ?_
            refine k_aaldN (C := "SlipWall$Row") K X 26 3 rfl rfl (k := 3) (by omega) (by decide) (r := a 33) rfl dX11_sheet_74 ?_
            refine k_getN K X 33 rfl fg_X11_233 (v := .int (szN y z)) rfl dX11_sheet_75 ?_
            exact k_topi (x' := (oSheet rb rz rn td (nI 3) y z).1) (by simp [oSheet, hx0, ek, c8, c36, c49]) (fin () 78 _ _ _ trivial (X.eq (by simp [oSheet, hx0, ek, c8, c36, c49])) dX11_sheet_78)
        · refine lv_aload_n hx hb dX11_sheet_52 rfl (lv_at hl 0 rfl) ?_
          refine lv_iconst (v := 0) hx hb dX11_sheet_53 (by decide) ?_
          refine k_callV K X gv_X11_84 (As := [.int 0]) (c_X11_finding l E a f g h ik one wo tp tl tk ts te tn rb rz rn td 0 (by decide)) [0, 1, 2, 3, 4, 5, 6, 7, 8, 9, 10, 11, 12, 13, 14, 15, 16, 17, 18, 19, 20, 21, 22, 23, 24, 25, 26, 27, 28, 29, 30, 31, 32, 33, 34, 35, 36, 37, 38, 39, 40, 41, 42] clsW_idC (by decide +kernel) (fun _ => clsW_fst) 0 11 rfl rfl (by decide) rfl hl.1 (rest := []) rfl (Nat.le_of_ble_eq_true rfl) dX11_sheet_54 (st1 := fun _ => [.int (fnd 0)]) (fun _ => rfl) (fun _ H locs _ X => ?_)
          have X : Wd E _ _ (clsW E a f g h ik one wo tp tl tk ts te tn rb rz rn (fdU td 0)) _ _ := X.eq clsW_idP
          exact k_topi (x' := (oSheet rb rz rn td (nI k) y z).1) (by simp [oSheet, hx0, ek, c8, c36, c49]) (fin () 57 _ _ _ trivial (X.eq (by simp [oSheet, hx0, ek, c8, c36, c49])) dX11_sheet_57)
      · refine lv_aload_n hx hb dX11_sheet_39 rfl (lv_at hl 0 rfl) ?_
        refine lv_bipush (v := 6) hx hb dX11_sheet_40 (by decide) ?_
        refine k_callV K X gv_X11_84 (As := [.int 6]) (c_X11_finding l E a f g h ik one wo tp tl tk ts te tn rb rz rn td 6 (by decide)) [0, 1, 2, 3, 4, 5, 6, 7, 8, 9, 10, 11, 12, 13, 14, 15, 16, 17, 18, 19, 20, 21, 22, 23, 24, 25, 26, 27, 28, 29, 30, 31, 32, 33, 34, 35, 36, 37, 38, 39, 40, 41, 42] clsW_idC (by decide +kernel) (fun _ => clsW_fst) 0 11 rfl rfl (by decide) rfl hl.1 (rest := []) rfl (Nat.le_of_ble_eq_true rfl) dX11_sheet_42 (st1 := fun _ => [.int (fnd 6)]) (fun _ => rfl) (fun _ H locs _ X => ?_)
        have X : Wd E _ _ (clsW E a f g h ik one wo tp tl tk ts te tn rb rz rn (fdU td 6)) _ _ := X.eq clsW_idP
        exact k_topi (x' := (oSheet rb rz rn td (nI k) y z).1) (by simp [oSheet, hx0, ek, c8, c36]) (fin () 45 _ _ _ trivial (X.eq (by simp [oSheet, hx0, ek, c8, c36])) dX11_sheet_45)
    · refine lv_iload_n hx hb dX11_sheet_11 rfl (lv_at hl 2 rfl) ?_
      refine lv_bipush (v := 8) hx hb dX11_sheet_12 (by decide) ?_
      refine k_icmp_eq (x := y) (y := 8) hx hb 35 dX11_sheet_14 (by decide) (fun c14 => ?_) (fun c14 => ?_)
      · refine lv_iload_n hx hb dX11_sheet_35 rfl (lv_at hl 3 rfl) ?_
        refine k_if_ge (x := z) hx hb 46 dX11_sheet_36 (by decide) (fun c36 => ?_) (fun c36 => ?_)
        · refine lv_iload_n hx hb dX11_sheet_46 rfl (lv_at hl 3 rfl) ?_
          refine lv_bipush (v := 40) hx hb dX11_sheet_47 (by decide) ?_
          refine k_icmp_le (x := z) (y := 40) hx hb 58 dX11_sheet_49 (by decide) (fun c49 => ?_) (fun c49 => ?_)
          · refine lv_aload_n hx hb dX11_sheet_58 rfl (lv_at hl 0 rfl) ?_
            refine k_get K X 0 rfl fg_X11_71 (v := .ref (a 26)) rfl dX11_sheet_59 ?_
            rcases (show k = 0 ∨ k = 1 ∨ k = 2 ∨ k = 3 by omega) with rfl | rfl | rfl | rfl
            · have hz := (J 0 (by decide)).2
              refine lv_iload_n hx hb dX11_sheet_62 rfl (lv_at hl 1 rfl) ?_
              refine k_aaldN (C := "SlipWall$Row") K X 26 3 rfl rfl (k := 0) (by omega) (by decide) (r := a 27) rfl dX11_sheet_63 ?_
              refine lv_iload_n hx hb dX11_sheet_64 rfl (lv_at hl 2 rfl) ?_
              refine lv_iload_n hx hb dX11_sheet_65 rfl (lv_at hl 3 rfl) ?_
              refine k_callV K X gv_X11_230 (As := [.int y, .int z]) (c_X7_become l E (fun j => a (27 + j)) (rb 0) (rz 0) (rn 0) y z) [27, 28] clsW_s14C (by decide +kernel) (fun _ => rowW_fst) 0 7 rfl rfl (by decide) rfl hl.1 (rest := []) rfl (Nat.le_of_ble_eq_true rfl) dX11_sheet_66 (st1 := fun _ => []) (fun _ => rfl) (fun _ H locs _ X => ?_)
              have X : Wd E _ _ (clsW E a f g h ik one wo tp tl tk ts te tn (upd rb 0 y) (upd rz 0 (szN y z)) (setRL rn 0 (fun _ => 0)) td) _ _ := X.eq clsW_s14P
              refine lv_aload_n hx hb dX11_sheet_69 rfl (lv_at hl 0 rfl) ?_
              refine k_get K X 0 rfl fg_X11_71 (v := .ref (a 26)) rfl dX11_sheet_70 ?_
              refine lv_iload_n hx hb dX11_sheet_73 rfl (lv_at hl 1 rfl) ?_
              refine k_aaldN (C := "SlipWall$Row") K X 26 3 rfl rfl (k := 0) (by omega) (by decide) (r := a 27) rfl dX11_sheet_74 ?_
              refine k_getN K X 27 rfl fg_X11_233 (v := .int (szN y z)) rfl dX11_sheet_75 ?_
              exact k_topi (x' := (oSheet rb rz rn td (nI 0) y z).1) (by simp [oSheet, hx0, ek, c8, c14, c36, c49]) (fin () 78 _ _ _ trivial (X.eq (by simp [oSheet, hx0, ek, c8, c14, c36, c49])) dX11_sheet_78)
            · have hz := (J 1 (by decide)).2
              refine lv_iload_n hx hb dX11_sheet_62 rfl (lv_at hl 1 rfl) ?_
              refine k_aaldN (C := "SlipWall$Row") K X 26 3 rfl rfl (k := 1) (by omega) (by decide) (r := a 29) rfl dX11_sheet_63 ?_
              refine lv_iload_n hx hb dX11_sheet_64 rfl (lv_at hl 2 rfl) ?_
              refine lv_iload_n hx hb dX11_sheet_65 rfl (lv_at hl 3 rfl) ?_
              refine k_callV K X gv_X11_230 (As := [.int y, .int z]) (c_X7_become l E (fun j => a (29 + j)) (rb 1) (rz 1) (rn 1) y z) [29, 30] clsW_s15C (by decide +kernel) (fun _ => rowW_fst) 0 7 rfl rfl (by decide) rfl hl.1 (rest := []) rfl (Nat.le_of_ble_eq_true rfl) dX11_sheet_66 (st1 := fun _ => []) (fun _ => rfl) (fun _ H locs _ X => ?_)
              have X : Wd E _ _ (clsW E a f g h ik one wo tp tl tk ts te tn (upd rb 1 y) (upd rz 1 (szN y z)) (setRL rn 1 (fun _ => 0)) td) _ _ := X.eq clsW_s15P
              refine lv_aload_n hx hb dX11_sheet_69 rfl (lv_at hl 0 rfl) ?_
              refine k_get K X 0 rfl fg_X11_71 (v := .ref (a 26)) rfl dX11_sheet_70 ?_
              refine lv_iload_n hx hb dX11_sheet_73 rfl (lv_at hl 1 rfl) ?_
              refine k_aaldN (C := "SlipWall$Row") K X 26 3 rfl rfl (k := 1) (by omega) (by decide) (r := a 29) rfl dX11_sheet_74 ?_
              refine k_getN K X 29 rfl fg_X11_233 (v := .int (szN y z)) rfl dX11_sheet_75 ?_
              exact k_topi (x' := (oSheet rb rz rn td (nI 1) y z).1) (by simp [oSheet, hx0, ek, c8, c14, c36, c49]) (fin () 78 _ _ _ trivial (X.eq (by simp [oSheet, hx0, ek, c8, c14, c36, c49])) dX11_sheet_78)
            · have hz := (J 2 (by decide)).2
              refine lv_iload_n hx hb dX11_sheet_62 rfl (lv_at hl 1 rfl) ?_
              refine k_aaldN (C := "SlipWall$Row") K X 26 3 rfl rfl (k := 2) (by omega) (by decide) (r := a 31) rfl dX11_sheet_63 ?_
              refine lv_iload_n hx hb dX11_sheet_64 rfl (lv_at hl 2 rfl) ?_
              refine lv_iload_n hx hb dX11_sheet_65 rfl (lv_at hl 3 rfl) ?_
              refine k_callV K X gv_X11_230 (As := [.int y, .int z]) (c_X7_become l E (fun j => a (31 + j)) (rb 2) (rz 2) (rn 2) y z) [31, 32] clsW_s16C (by decide +kernel) (fun _ => rowW_fst) 0 7 rfl rfl (by decide) rfl hl.1 (rest := []) rfl (Nat.le_of_ble_eq_true rfl) dX11_sheet_66 (st1 := fun _ => []) (fun _ => rfl) (fun _ H locs _ X => ?_)
              have X : Wd E _ _ (clsW E a f g h ik one wo tp tl tk ts te tn (upd rb 2 y) (upd rz 2 (szN y z)) (setRL rn 2 (fun _ => 0)) td) _ _ := X.eq clsW_s16P
              refine lv_aload_n hx hb dX11_sheet_69 rfl (lv_at hl 0 rfl) ?_
              refine k_get K X 0 rfl fg_X11_71 (v := .ref (a 26)) rfl dX11_sheet_70 ?_
              refine lv_iload_n hx hb dX11_sheet_73 rfl (lv_at hl 1 rfl) ?_
              refine k_aaldN (C := "SlipWall$Row") K X 26 3 rfl rfl (k := 2) (by omega) (by decide) (r := a 31) rfl dX11_sheet_74 ?_
              refine k_getN K X 31 rfl fg_X11_233 (v := .int (szN y z)) rfl dX11_sheet_75 ?_
              exact k_topi (x' := (oSheet rb rz rn td (nI 2) y z).1) (by simp [oSheet, hx0, ek, c8, c14, c36, c49]) (fin () 78 _ _ _ trivial (X.eq (by simp [oSheet, hx0, ek, c8, c14, c36, c49])) dX11_sheet_78)
            · have hz := (J 3 (by decide)).2
              refine lv_iload_n hx hb dX11_sheet_62 rfl (lv_at hl 1 rfl) ?_
              refine k_aaldN (C := "SlipWall$Row") K X 26 3 rfl rfl (k := 3) (by omega) (by decide) (r := a 33) rfl dX11_sheet_63 ?_
              refine lv_iload_n hx hb dX11_sheet_64 rfl (lv_at hl 2 rfl) ?_
              refine lv_iload_n hx hb dX11_sheet_65 rfl (lv_at hl 3 rfl) ?_
              refine k_callV K X gv_X11_230 (As := [.int y, .int z]) (c_X7_become l E (fun j => a (33 + j)) (rb 3) (rz 3) (rn 3) y z) [33, 34] clsW_s17C (by decide +kernel) (fun _ => rowW_fst) 0 7 rfl rfl (by decide) rfl hl.1 (rest := []) rfl (Nat.le_of_ble_eq_true rfl) dX11_sheet_66 (st1 := fun _ => []) (fun _ => rfl) (fun _ H locs _ X => ?_)
              have X : Wd E _ _ (clsW E a f g h ik one wo tp tl tk ts te tn (upd rb 3 y) (upd rz 3 (szN y z)) (setRL rn 3 (fun _ => 0)) td) _ _ := X.eq clsW_s17P
              refine lv_aload_n hx hb dX11_sheet_69 rfl (lv_at hl 0 rfl) ?_
              refine k_get K X 0 rfl fg_X11_71 (v := .ref (a 26)) rfl dX11_sheet_70 ?_
              refine lv_iload_n hx hb dX11_sheet_73 rfl (lv_at hl 1 rfl) ?_
              refine k_aaldN (C := "SlipWall$Row") K X 26 3 rfl rfl (k := 3) (by omega) (by decide) (r := a 33) rfl dX11_sheet_74 ?_
              refine k_getN K X 33 rfl fg_X11_233 (v := .int (szN y z)) rfl dX11_sheet_75 ?_
              exact k_topi (x' := (oSheet rb rz rn td (nI 3) y z).1) (by simp [oSheet, hx0, ek, c8, c14, c36, c49]) (fin () 78 _ _ _ trivial (X.eq (by simp [oSheet, hx0, ek, c8, c14, c36, c49])) dX11_sheet_78)
          · refine lv_aload_n hx hb dX11_sheet_52 rfl (lv_at hl 0 rfl) ?_
            refine lv_iconst (v := 0) hx hb dX11_sheet_53 (by decide) ?_
            refine k_callV K X gv_X11_84 (As := [.int 0]) (c_X11_finding l E a f g h ik one wo tp tl tk ts te tn rb rz rn td 0 (by decide)) [0, 1, 2, 3, 4, 5, 6, 7, 8, 9, 10, 11, 12, 13, 14, 15, 16, 17, 18, 19, 20, 21, 22, 23, 24, 25, 26, 27, 28, 29, 30, 31, 32, 33, 34, 35, 36, 37, 38, 39, 40, 41, 42] clsW_idC (by decide +kernel) (fun _ => clsW_fst) 0 11 rfl rfl (by decide) rfl hl.1 (rest := []) rfl (Nat.le_of_ble_eq_true rfl) dX11_sheet_54 (st1 := fun _ => [.int (fnd 0)]) (fun _ => rfl) (fun _ H locs _ X => ?_)
            have X : Wd E _ _ (clsW E a f g h ik one wo tp tl tk ts te tn rb rz rn (fdU td 0)) _ _ := X.eq clsW_idP
            exact k_topi (x' := (oSheet rb rz rn td (nI k) y z).1) (by simp [oSheet, hx0, ek, c8, c14, c36, c49]) (fin () 57 _ _ _ trivial (X.eq (by simp [oSheet, hx0, ek, c8, c14, c36, c49])) dX11_sheet_57)
        · refine lv_aload_n hx hb dX11_sheet_39 rfl (lv_at hl 0 rfl) ?_
          refine lv_bipush (v := 6) hx hb dX11_sheet_40 (by decide) ?_
          refine k_callV K X gv_X11_84 (As := [.int 6]) (c_X11_finding l E a f g h ik one wo tp tl tk ts te tn rb rz rn td 6 (by decide)) [0, 1, 2, 3, 4, 5, 6, 7, 8, 9, 10, 11, 12, 13, 14, 15, 16, 17, 18, 19, 20, 21, 22, 23, 24, 25, 26, 27, 28, 29, 30, 31, 32, 33, 34, 35, 36, 37, 38, 39, 40, 41, 42] clsW_idC (by decide +kernel) (fun _ => clsW_fst) 0 11 rfl rfl (by decide) rfl hl.1 (rest := []) rfl (Nat.le_of_ble_eq_true rfl) dX11_sheet_42 (st1 := fun _ => [.int (fnd 6)]) (fun _ => rfl) (fun _ H locs _ X => ?_)
          have X : Wd E _ _ (clsW E a f g h ik one wo tp tl tk ts te tn rb rz rn (fdU td 6)) _ _ := X.eq clsW_idP
          exact k_topi (x' := (oSheet rb rz rn td (nI k) y z).1) (by simp [oSheet, hx0, ek, c8, c14, c36]) (fin () 45 _ _ _ trivial (X.eq (by simp [oSheet, hx0, ek, c8, c14, c36])) dX11_sheet_45)
      · refine lv_iload_n hx hb dX11_sheet_17 rfl (lv_at hl 2 rfl) ?_
        refine lv_bipush (v := 16) hx hb dX11_sheet_18 (by decide) ?_
        refine k_icmp_eq (x := y) (y := 16) hx hb 35 dX11_sheet_20 (by decide) (fun c20 => ?_) (fun c20 => ?_)
        · refine lv_iload_n hx hb dX11_sheet_35 rfl (lv_at hl 3 rfl) ?_
          refine k_if_ge (x := z) hx hb 46 dX11_sheet_36 (by decide) (fun c36 => ?_) (fun c36 => ?_)
          · refine lv_iload_n hx hb dX11_sheet_46 rfl (lv_at hl 3 rfl) ?_
            refine lv_bipush (v := 40) hx hb dX11_sheet_47 (by decide) ?_
            refine k_icmp_le (x := z) (y := 40) hx hb 58 dX11_sheet_49 (by decide) (fun c49 => ?_) (fun c49 => ?_)
            · refine lv_aload_n hx hb dX11_sheet_58 rfl (lv_at hl 0 rfl) ?_
              refine k_get K X 0 rfl fg_X11_71 (v := .ref (a 26)) rfl dX11_sheet_59 ?_
              rcases (show k = 0 ∨ k = 1 ∨ k = 2 ∨ k = 3 by omega) with rfl | rfl | rfl | rfl
              · have hz := (J 0 (by decide)).2
                refine lv_iload_n hx hb dX11_sheet_62 rfl (lv_at hl 1 rfl) ?_
                refine k_aaldN (C := "SlipWall$Row") K X 26 3 rfl rfl (k := 0) (by omega) (by decide) (r := a 27) rfl dX11_sheet_63 ?_
                refine lv_iload_n hx hb dX11_sheet_64 rfl (lv_at hl 2 rfl) ?_
                refine lv_iload_n hx hb dX11_sheet_65 rfl (lv_at hl 3 rfl) ?_
                refine k_callV K X gv_X11_230 (As := [.int y, .int z]) (c_X7_become l E (fun j => a (27 + j)) (rb 0) (rz 0) (rn 0) y z) [27, 28] clsW_s14C (by decide +kernel) (fun _ => rowW_fst) 0 7 rfl rfl (by decide) rfl hl.1 (rest := []) rfl (Nat.le_of_ble_eq_true rfl) dX11_sheet_66 (st1 := fun _ => []) (fun _ => rfl) (fun _ H locs _ X => ?_)
                have X : Wd E _ _ (clsW E a f g h ik one wo tp tl tk ts te tn (upd rb 0 y) (upd rz 0 (szN y z)) (setRL rn 0 (fun _ => 0)) td) _ _ := X.eq clsW_s14P
                refine lv_aload_n hx hb dX11_sheet_69 rfl (lv_at hl 0 rfl) ?_
                refine k_get K X 0 rfl fg_X11_71 (v := .ref (a 26)) rfl dX11_sheet_70 ?_
                refine lv_iload_n hx hb dX11_sheet_73 rfl (lv_at hl 1 rfl) ?_
                refine k_aaldN (C := "SlipWall$Row") K X 26 3 rfl rfl (k := 0) (by omega) (by decide) (r := a 27) rfl dX11_sheet_74 ?_
                refine k_getN K X 27 rfl fg_X11_233 (v := .int (szN y z)) rfl dX11_sheet_75 ?_
                exact k_topi (x' := (oSheet rb rz rn td (nI 0) y z).1) (by simp [oSheet, hx0, ek, c8, c14, c20, c36, c49]) (fin () 78 _ _ _ trivial (X.eq (by simp [oSheet, hx0, ek, c8, c14, c20, c36, c49])) dX11_sheet_78)
              · have hz := (J 1 (by decide)).2
                refine lv_iload_n hx hb dX11_sheet_62 rfl (lv_at hl 1 rfl) ?_
                refine k_aaldN (C := "SlipWall$Row") K X 26 3 rfl rfl (k := 1) (by omega) (by decide) (r := a 29) rfl dX11_sheet_63 ?_
                refine lv_iload_n hx hb dX11_sheet_64 rfl (lv_at hl 2 rfl) ?_
                refine lv_iload_n hx hb dX11_sheet_65 rfl (lv_at hl 3 rfl) ?_
                refine k_callV K X gv_X11_230 (As := [.int y, .int z]) (c_X7_become l E (fun j => a (29 + j)) (rb 1) (rz 1) (rn 1) y z) [29, 30] clsW_s15C (by decide +kernel) (fun _ => rowW_fst) 0 7 rfl rfl (by decide) rfl hl.1 (rest := []) rfl (Nat.le_of_ble_eq_true rfl) dX11_sheet_66 (st1 := fun _ => []) (fun _ => rfl) (fun _ H locs _ X => ?_)
                have X : Wd E _ _ (clsW E a f g h ik one wo tp tl tk ts te tn (upd rb 1 y) (upd rz 1 (szN y z)) (setRL rn 1 (fun _ => 0)) td) _ _ := X.eq clsW_s15P
                refine lv_aload_n hx hb dX11_sheet_69 rfl (lv_at hl 0 rfl) ?_
                refine k_get K X 0 rfl fg_X11_71 (v := .ref (a 26)) rfl dX11_sheet_70 ?_
                refine lv_iload_n hx hb dX11_sheet_73 rfl (lv_at hl 1 rfl) ?_
                refine k_aaldN (C := "SlipWall$Row") K X 26 3 rfl rfl (k := 1) (by omega) (by decide) (r := a 29) rfl dX11_sheet_74 ?_
                refine k_getN K X 29 rfl fg_X11_233 (v := .int (szN y z)) rfl dX11_sheet_75 ?_
                exact k_topi (x' := (oSheet rb rz rn td (nI 1) y z).1) (by simp [oSheet, hx0, ek, c8, c14, c20, c36, c49]) (fin () 78 _ _ _ trivial (X.eq (by simp [oSheet, hx0, ek, c8, c14, c20, c36, c49])) dX11_sheet_78)
              · have hz := (J 2 (by decide)).2
                refine lv_iload_n hx hb dX11_sheet_62 rfl (lv_at hl 1 rfl) ?_
                refine k_aaldN (C := "SlipWall$Row") K X 26 3 rfl rfl (k := 2) (by omega) (by decide) (r := a 31) rfl dX11_sheet_63 ?_
                refine lv_iload_n hx hb dX11_sheet_64 rfl (lv_at hl 2 rfl) ?_
                refine lv_iload_n hx hb dX11_sheet_65 rfl (lv_at hl 3 rfl) ?_
                refine k_callV K X gv_X11_230 (As := [.int y, .int z]) (c_X7_become l E (fun j => a (31 + j)) (rb 2) (rz 2) (rn 2) y z) [31, 32] clsW_s16C (by decide +kernel) (fun _ => rowW_fst) 0 7 rfl rfl (by decide) rfl hl.1 (rest := []) rfl (Nat.le_of_ble_eq_true rfl) dX11_sheet_66 (st1 := fun _ => []) (fun _ => rfl) (fun _ H locs _ X => ?_)
                have X : Wd E _ _ (clsW E a f g h ik one wo tp tl tk ts te tn (upd rb 2 y) (upd rz 2 (szN y z)) (setRL rn 2 (fun _ => 0)) td) _ _ := X.eq clsW_s16P
                refine lv_aload_n hx hb dX11_sheet_69 rfl (lv_at hl 0 rfl) ?_
                refine k_get K X 0 rfl fg_X11_71 (v := .ref (a 26)) rfl dX11_sheet_70 ?_
                refine lv_iload_n hx hb dX11_sheet_73 rfl (lv_at hl 1 rfl) ?_
                refine k_aaldN (C := "SlipWall$Row") K X 26 3 rfl rfl (k := 2) (by omega) (by decide) (r := a 31) rfl dX11_sheet_74 ?_
                refine k_getN K X 31 rfl fg_X11_233 (v := .int (szN y z)) rfl dX11_sheet_75 ?_
                exact k_topi (x' := (oSheet rb rz rn td (nI 2) y z).1) (by simp [oSheet, hx0, ek, c8, c14, c20, c36, c49]) (fin () 78 _ _ _ trivial (X.eq (by simp [oSheet, hx0, ek, c8, c14, c20, c36, c49])) dX11_sheet_78)
              · have hz := (J 3 (by decide)).2
                refine lv_iload_n hx hb dX11_sheet_62 rfl (lv_at hl 1 rfl) ?_
                refine k_aaldN (C := "SlipWall$Row") K X 26 3 rfl rfl (k := 3) (by omega) (by decide) (r := a 33) rfl dX11_sheet_63 ?_
                refine lv_iload_n hx hb dX11_sheet_64 rfl (lv_at hl 2 rfl) ?_
                refine lv_iload_n hx hb dX11_sheet_65 rfl (lv_at hl 3 rfl) ?_
                refine k_callV K X gv_X11_230 (As := [.int y, .int z]) (c_X7_become l E (fun j => a (33 + j)) (rb 3) (rz 3) (rn 3) y z) [33, 34] clsW_s17C (by decide +kernel) (fun _ => rowW_fst) 0 7 rfl rfl (by decide) rfl hl.1 (rest := []) rfl (Nat.le_of_ble_eq_true rfl) dX11_sheet_66 (st1 := fun _ => []) (fun _ => rfl) (fun _ H locs _ X => ?_)
                have X : Wd E _ _ (clsW E a f g h ik one wo tp tl tk ts te tn (upd rb 3 y) (upd rz 3 (szN y z)) (setRL rn 3 (fun _ => 0)) td) _ _ := X.eq clsW_s17P
                refine lv_aload_n hx hb dX11_sheet_69 rfl (lv_at hl 0 rfl) ?_
                refine k_get K X 0 rfl fg_X11_71 (v := .ref (a 26)) rfl dX11_sheet_70 ?_
                refine lv_iload_n hx hb dX11_sheet_73 rfl (lv_at hl 1 rfl) ?_
                refine k_aaldN (C := "SlipWall$Row") K X 26 3 rfl rfl (k := 3) (by omega) (by decide) (r := a 33) rfl dX11_sheet_74 ?_
                refine k_getN K X 33 rfl fg_X11_233 (v := .int (szN y z)) rfl dX11_sheet_75 ?_
                exact k_topi (x' := (oSheet rb rz rn td (nI 3) y z).1) (by simp [oSheet, hx0, ek, c8, c14, c20, c36, c49]) (fin () 78 _ _ _ trivial (X.eq (by simp [oSheet, hx0, ek, c8, c14, c20, c36, c49])) dX11_sheet_78)
            · refine lv_aload_n hx hb dX11_sheet_52 rfl (lv_at hl 0 rfl) ?_
              refine lv_iconst (v := 0) hx hb dX11_sheet_53 (by decide) ?_
              refine k_callV K X gv_X11_84 (As := [.int 0]) (c_X11_finding l E a f g h ik one wo tp tl tk ts te tn rb rz rn td 0 (by decide)) [0, 1, 2, 3, 4, 5, 6, 7, 8, 9, 10, 11, 12, 13, 14, 15, 16, 17, 18, 19, 20, 21, 22, 23, 24, 25, 26, 27, 28, 29, 30, 31, 32, 33, 34, 35, 36, 37, 38, 39, 40, 41, 42] clsW_idC (by decide +kernel) (fun _ => clsW_fst) 0 11 rfl rfl (by decide) rfl hl.1 (rest := []) rfl (Nat.le_of_ble_eq_true rfl) dX11_sheet_54 (st1 := fun _ => [.int (fnd 0)]) (fun _ => rfl) (fun _ H locs _ X => ?_)
              have X : Wd E _ _ (clsW E a f g h ik one wo tp tl tk ts te tn rb rz rn (fdU td 0)) _ _ := X.eq clsW_idP
              exact k_topi (x' := (oSheet rb rz rn td (nI k) y z).1) (by simp [oSheet, hx0, ek, c8, c14, c20, c36, c49]) (fin () 57 _ _ _ trivial (X.eq (by simp [oSheet, hx0, ek, c8, c14, c20, c36, c49])) dX11_sheet_57)
          · refine lv_aload_n hx hb dX11_sheet_39 rfl (lv_at hl 0 rfl) ?_
            refine lv_bipush (v := 6) hx hb dX11_sheet_40 (by decide) ?_
            refine k_callV K X gv_X11_84 (As := [.int 6]) (c_X11_finding l E a f g h ik one wo tp tl tk ts te tn rb rz rn td 6 (by decide)) [0, 1, 2, 3, 4, 5, 6, 7, 8, 9, 10, 11, 12, 13, 14, 15, 16, 17, 18, 19, 20, 21, 22, 23, 24, 25, 26, 27, 28, 29, 30, 31, 32, 33, 34, 35, 36, 37, 38, 39, 40, 41, 42] clsW_idC (by decide +kernel) (fun _ => clsW_fst) 0 11 rfl rfl (by decide) rfl hl.1 (rest := []) rfl (Nat.le_of_ble_eq_true rfl) dX11_sheet_42 (st1 := fun _ => [.int (fnd 6)]) (fun _ => rfl) (fun _ H locs _ X => ?_)
            have X : Wd E _ _ (clsW E a f g h ik one wo tp tl tk ts te tn rb rz rn (fdU td 6)) _ _ := X.eq clsW_idP
            exact k_topi (x' := (oSheet rb rz rn td (nI k) y z).1) (by simp [oSheet, hx0, ek, c8, c14, c20, c36]) (fin () 45 _ _ _ trivial (X.eq (by simp [oSheet, hx0, ek, c8, c14, c20, c36])) dX11_sheet_45)
        · refine lv_iload_n hx hb dX11_sheet_23 rfl (lv_at hl 2 rfl) ?_
          refine lv_bipush (v := 64) hx hb dX11_sheet_24 (by decide) ?_
          refine k_icmp_eq (x := y) (y := 64) hx hb 35 dX11_sheet_26 (by decide) (fun c26 => ?_) (fun c26 => ?_)
          · refine lv_iload_n hx hb dX11_sheet_35 rfl (lv_at hl 3 rfl) ?_
            refine k_if_ge (x := z) hx hb 46 dX11_sheet_36 (by decide) (fun c36 => ?_) (fun c36 => ?_)
            · refine lv_iload_n hx hb dX11_sheet_46 rfl (lv_at hl 3 rfl) ?_
              refine lv_bipush (v := 40) hx hb dX11_sheet_47 (by decide) ?_
              refine k_icmp_le (x := z) (y := 40) hx hb 58 dX11_sheet_49 (by decide) (fun c49 => ?_) (fun c49 => ?_)
              · refine lv_aload_n hx hb dX11_sheet_58 rfl (lv_at hl 0 rfl) ?_
                refine k_get K X 0 rfl fg_X11_71 (v := .ref (a 26)) rfl dX11_sheet_59 ?_
                rcases (show k = 0 ∨ k = 1 ∨ k = 2 ∨ k = 3 by omega) with rfl | rfl | rfl | rfl
                · have hz := (J 0 (by decide)).2
                  refine lv_iload_n hx hb dX11_sheet_62 rfl (lv_at hl 1 rfl) ?_
                  refine k_aaldN (C := "SlipWall$Row") K X 26 3 rfl rfl (k := 0) (by omega) (by decide) (r := a 27) rfl dX11_sheet_63 ?_
                  refine lv_iload_n hx hb dX11_sheet_64 rfl (lv_at hl 2 rfl) ?_
                  refine lv_iload_n hx hb dX11_sheet_65 rfl (lv_at hl 3 rfl) ?_
                  refine k_callV K X gv_X11_230 (As := [.int y, .int z]) (c_X7_become l E (fun j => a (27 + j)) (rb 0) (rz 0) (rn 0) y z) [27, 28] clsW_s14C (by decide +kernel) (fun _ => rowW_fst) 0 7 rfl rfl (by decide) rfl hl.1 (rest := []) rfl (Nat.le_of_ble_eq_true rfl) dX11_sheet_66 (st1 := fun _ => []) (fun _ => rfl) (fun _ H locs _ X => ?_)
                  have X : Wd E _ _ (clsW E a f g h ik one wo tp tl tk ts te tn (upd rb 0 y) (upd rz 0 (szN y z)) (setRL rn 0 (fun _ => 0)) td) _ _ := X.eq clsW_s14P
                  refine lv_aload_n hx hb dX11_sheet_69 rfl (lv_at hl 0 rfl) ?_
                  refine k_get K X 0 rfl fg_X11_71 (v := .ref (a 26)) rfl dX11_sheet_70 ?_
                  refine lv_iload_n hx hb dX11_sheet_73 rfl (lv_at hl 1 rfl) ?_
                  refine k_aaldN (C := "SlipWall$Row") K X 26 3 rfl rfl (k := 0) (by omega) (by decide) (r := a 27) rfl dX11_sheet_74 ?_
                  refine k_getN K X 27 rfl fg_X11_233 (v := .int (szN y z)) rfl dX11_sheet_75 ?_
                  exact k_topi (x' := (oSheet rb rz rn td (nI 0) y z).1) (by simp [oSheet, hx0, ek, c8, c14, c20, c26, c36, c49]) (fin () 78 _ _ _ trivial (X.eq (by simp [oSheet, hx0, ek, c8, c14, c20, c26, c36, c49])) dX11_sheet_78)
                · have hz := (J 1 (by decide)).2
                  refine lv_iload_n hx hb dX11_sheet_62 rfl (lv_at hl 1 rfl) ?_
                  refine k_aaldN (C := "SlipWall$Row") K X 26 3 rfl rfl (k := 1) (by omega) (by decide) (r := a 29) rfl dX11_sheet_63 ?_
                  refine lv_iload_n hx hb dX11_sheet_64 rfl (lv_at hl 2 rfl) ?_
                  refine lv_iload_n hx hb dX11_sheet_65 rfl (lv_at hl 3 rfl) ?_
                  refine k_callV K X gv_X11_230 (As := [.int y, .int z]) (c_X7_become l E (fun j => a (29 + j)) (rb 1) (rz 1) (rn 1) y z) [29, 30] clsW_s15C (by decide +kernel) (fun _ => rowW_fst) 0 7 rfl rfl (by decide) rfl hl.1 (rest := []) rfl (Nat.le_of_ble_eq_true rfl) dX11_sheet_66 (st1 := fun _ => []) (fun _ => rfl) (fun _ H locs _ X => ?_)
                  have X : Wd E _ _ (clsW E a f g h ik one wo tp tl tk ts te tn (upd rb 1 y) (upd rz 1 (szN y z)) (setRL rn 1 (fun _ => 0)) td) _ _ := X.eq clsW_s15P
                  refine lv_aload_n hx hb dX11_sheet_69 rfl (lv_at hl 0 rfl) ?_
                  refine k_get K X 0 rfl fg_X11_71 (v := .ref (a 26)) rfl dX11_sheet_70 ?_
                  refine lv_iload_n hx hb dX11_sheet_73 rfl (lv_at hl 1 rfl) ?_
                  refine k_aaldN (C := "SlipWall$Row") K X 26 3 rfl rfl (k := 1) (by omega) (by decide) (r := a 29) rfl dX11_sheet_74 ?_
                  refine k_getN K X 29 rfl fg_X11_233 (v := .int (szN y z)) rfl dX11_sheet_75 ?_
                  exact k_topi (x' := (oSheet rb rz rn td (nI 1) y z).1) (by simp [oSheet, hx0, ek, c8, c14, c20, c26, c36, c49]) (fin () 78 _ _ _ trivial (X.eq (by simp [oSheet, hx0, ek, c8, c14, c20, c26, c36, c49])) dX11_sheet_78)
                · have hz := (J 2 (by decide)).2
                  refine lv_iload_n hx hb dX11_sheet_62 rfl (lv_at hl 1 rfl) ?_
                  refine k_aaldN (C := "SlipWall$Row") K X 26 3 rfl rfl (k := 2) (by omega) (by decide) (r := a 31) rfl dX11_sheet_63 ?_
                  refine lv_iload_n hx hb dX11_sheet_64 rfl (lv_at hl 2 rfl) ?_
                  refine lv_iload_n hx hb dX11_sheet_65 rfl (lv_at hl 3 rfl) ?_
                  refine k_callV K X gv_X11_230 (As := [.int y, .int z]) (c_X7_become l E (fun j => a (31 + j)) (rb 2) (rz 2) (rn 2) y z) [31, 32] clsW_s16C (by decide +kernel) (fun _ => rowW_fst) 0 7 rfl rfl (by decide) rfl hl.1 (rest := []) rfl (Nat.le_of_ble_eq_true rfl) dX11_sheet_66 (st1 := fun _ => []) (fun _ => rfl) (fun _ H locs _ X => ?_)
                  have X : Wd E _ _ (clsW E a f g h ik one wo tp tl tk ts te tn (upd rb 2 y) (upd rz 2 (szN y z)) (setRL rn 2 (fun _ => 0)) td) _ _ := X.eq clsW_s16P
                  refine lv_aload_n hx hb dX11_sheet_69 rfl (lv_at hl 0 rfl) ?_
                  refine k_get K X 0 rfl fg_X11_71 (v := .ref (a 26)) rfl dX11_sheet_70 ?_
                  refine lv_iload_n hx hb dX11_sheet_73 rfl (lv_at hl 1 rfl) ?_
                  refine k_aaldN (C := "SlipWall$Row") K X 26 3 rfl rfl (k := 2) (by omega) (by decide) (r := a 31) rfl dX11_sheet_74 ?_
                  refine k_getN K X 31 rfl fg_X11_233 (v := .int (szN y z)) rfl dX11_sheet_75 ?_
                  exact k_topi (x' := (oSheet rb rz rn td (nI 2) y z).1) (by simp [oSheet, hx0, ek, c8, c14, c20, c26, c36, c49]) (fin () 78 _ _ _ trivial (X.eq (by simp [oSheet, hx0, ek, c8, c14, c20, c26, c36, c49])) dX11_sheet_78)
                · have hz := (J 3 (by decide)).2
                  refine lv_iload_n hx hb dX11_sheet_62 rfl (lv_at hl 1 rfl) ?_
                  refine k_aaldN (C := "SlipWall$Row") K X 26 3 rfl rfl (k := 3) (by omega) (by decide) (r := a 33) rfl dX11_sheet_63 ?_
                  refine lv_iload_n hx hb dX11_sheet_64 rfl (lv_at hl 2 rfl) ?_
                  refine lv_iload_n hx hb dX11_sheet_65 rfl (lv_at hl 3 rfl) ?_
                  refine k_callV K X gv_X11_230 (As := [.int y, .int z]) (c_X7_become l E (fun j => a (33 + j)) (rb 3) (rz 3) (rn 3) y z) [33, 34] clsW_s17C (by decide +kernel) (fun _ => rowW_fst) 0 7 rfl rfl (by decide) rfl hl.1 (rest := []) rfl (Nat.le_of_ble_eq_true rfl) dX11_sheet_66 (st1 := fun _ => []) (fun _ => rfl) (fun _ H locs _ X => ?_)
                  have X : Wd E _ _ (clsW E a f g h ik one wo tp tl tk ts te tn (upd rb 3 y) (upd rz 3 (szN y z)) (setRL rn 3 (fun _ => 0)) td) _ _ := X.eq clsW_s17P
                  refine lv_aload_n hx hb dX11_sheet_69 rfl (lv_at hl 0 rfl) ?_
                  refine k_get K X 0 rfl fg_X11_71 (v := .ref (a 26)) rfl dX11_sheet_70 ?_
                  refine lv_iload_n hx hb dX11_sheet_73 rfl (lv_at hl 1 rfl) ?_
                  refine k_aaldN (C := "SlipWall$Row") K X 26 3 rfl rfl (k := 3) (by omega) (by decide) (r := a 33) rfl dX11_sheet_74 ?_
                  refine k_getN K X 33 rfl fg_X11_233 (v := .int (szN y z)) rfl dX11_sheet_75 ?_
                  exact k_topi (x' := (oSheet rb rz rn td (nI 3) y z).1) (by simp [oSheet, hx0, ek, c8, c14, c20, c26, c36, c49]) (fin () 78 _ _ _ trivial (X.eq (by simp [oSheet, hx0, ek, c8, c14, c20, c26, c36, c49])) dX11_sheet_78)
              · refine lv_aload_n hx hb dX11_sheet_52 rfl (lv_at hl 0 rfl) ?_
                refine lv_iconst (v := 0) hx hb dX11_sheet_53 (by decide) ?_
                refine k_callV K X gv_X11_84 (As := [.int 0]) (c_X11_finding l E a f g h ik one wo tp tl tk ts te tn rb rz rn td 0 (by decide)) [0, 1, 2, 3, 4, 5, 6, 7, 8, 9, 10, 11, 12, 13, 14, 15, 16, 17, 18, 19, 20, 21, 22, 23, 24, 25, 26, 27, 28, 29, 30, 31, 32, 33, 34, 35, 36, 37, 38, 39, 40, 41, 42] clsW_idC (by decide +kernel) (fun _ => clsW_fst) 0 11 rfl rfl (by decide) rfl hl.1 (rest := []) rfl (Nat.le_of_ble_eq_true rfl) dX11_sheet_54 (st1 := fun _ => [.int (fnd 0)]) (fun _ => rfl) (fun _ H locs _ X => ?_)
                have X : Wd E _ _ (clsW E a f g h ik one wo tp tl tk ts te tn rb rz rn (fdU td 0)) _ _ := X.eq clsW_idP
                exact k_topi (x' := (oSheet rb rz rn td (nI k) y z).1) (by simp [oSheet, hx0, ek, c8, c14, c20, c26, c36, c49]) (fin () 57 _ _ _ trivial (X.eq (by simp [oSheet, hx0, ek, c8, c14, c20, c26, c36, c49])) dX11_sheet_57)
            · refine lv_aload_n hx hb dX11_sheet_39 rfl (lv_at hl 0 rfl) ?_
              refine lv_bipush (v := 6) hx hb dX11_sheet_40 (by decide) ?_
              refine k_callV K X gv_X11_84 (As := [.int 6]) (c_X11_finding l E a f g h ik one wo tp tl tk ts te tn rb rz rn td 6 (by decide)) [0, 1, 2, 3, 4, 5, 6, 7, 8, 9, 10, 11, 12, 13, 14, 15, 16, 17, 18, 19, 20, 21, 22, 23, 24, 25, 26, 27, 28, 29, 30, 31, 32, 33, 34, 35, 36, 37, 38, 39, 40, 41, 42] clsW_idC (by decide +kernel) (fun _ => clsW_fst) 0 11 rfl rfl (by decide) rfl hl.1 (rest := []) rfl (Nat.le_of_ble_eq_true rfl) dX11_sheet_42 (st1 := fun _ => [.int (fnd 6)]) (fun _ => rfl) (fun _ H locs _ X => ?_)
              have X : Wd E _ _ (clsW E a f g h ik one wo tp tl tk ts te tn rb rz rn (fdU td 6)) _ _ := X.eq clsW_idP
              exact k_topi (x' := (oSheet rb rz rn td (nI k) y z).1) (by simp [oSheet, hx0, ek, c8, c14, c20, c26, c36]) (fin () 45 _ _ _ trivial (X.eq (by simp [oSheet, hx0, ek, c8, c14, c20, c26, c36])) dX11_sheet_45)
          · refine lv_aload_n hx hb dX11_sheet_29 rfl (lv_at hl 0 rfl) ?_
            refine lv_iconst (v := 0) hx hb dX11_sheet_30 (by decide) ?_
            refine k_callV K X gv_X11_84 (As := [.int 0]) (c_X11_finding l E a f g h ik one wo tp tl tk ts te tn rb rz rn td 0 (by decide)) [0, 1, 2, 3, 4, 5, 6, 7, 8, 9, 10, 11, 12, 13, 14, 15, 16, 17, 18, 19, 20, 21, 22, 23, 24, 25, 26, 27, 28, 29, 30, 31, 32, 33, 34, 35, 36, 37, 38, 39, 40, 41, 42] clsW_idC (by decide +kernel) (fun _ => clsW_fst) 0 11 rfl rfl (by decide) rfl hl.1 (rest := []) rfl (Nat.le_of_ble_eq_true rfl) dX11_sheet_31 (st1 := fun _ => [.int (fnd 0)]) (fun _ => rfl) (fun _ H locs _ X => ?_)
            have X : Wd E _ _ (clsW E a f g h ik one wo tp tl tk ts te tn rb rz rn (fdU td 0)) _ _ := X.eq clsW_idP
            exact k_topi (x' := (oSheet rb rz rn td (nI k) y z).1) (by simp [oSheet, hx0, ek, c8, c14, c20, c26]) (fin () 34 _ _ _ trivial (X.eq (by simp [oSheet, hx0, ek, c8, c14, c20, c26])) dX11_sheet_34)
set_option maxRecDepth 100000 in
set_option maxHeartbeats 4000000 in
theorem c_X11_write (l : Launch) (E : EE) (a : Nat → Nat) (f : St) (g : St) (h : St) (ik : Int32) (one : Int32) (wo : Int32) (tp : Nat → Int32) (tl : Int32) (tk : Int32) (ts : Int32) (te : Int32) (tn : Int32) (rb : Nat → Int32) (rz : Nat → Int32) (rn : Nat → Nat → Int64) (td : Nat → Int32) (x : Int32) (y : Int32) (v : Int64) (J : InvS rz) : Kd l yX11_write cX11_write 7 (some .long) 2 42 E (clsW E a f g h ik one wo tp tl tk ts te tn rb rz rn td) [.ref (a 0), .int x, .int y, .long v] (some (.long ((oWrite rb rz rn td x y v).1))) (clsW E a f g h ik one wo tp tl tk ts te tn rb rz ((oWrite rb rz rn td x y v).2.1) ((oWrite rb rz rn td x y v).2.2)) := by
  refine Kn.ofWl (by decide +kernel) (Nat.le_of_ble_eq_true rfl) ?_
  intro pg ev s0 mm below meth cd Q K X fin ls hl
  have hx := K.1
  have hb := K.2.1
  have hl : lv_has ls 7 [(0, .ref (a 0)), (1, .int x), (2, .int y), (3, .long v)] := hl
  refine lv_iload_n hx hb dX11_write_0 rfl (lv_at hl 1 rfl) ?_
  refine k_callS K X gs_X11_227 (As := [.int x]) (c_X11_noSheet l E x) [] rfl (by decide +kernel) (fun _ => rfl) (by decide) rfl hl.1 (rest := []) rfl (Nat.le_of_ble_eq_true rfl) dX11_write_1 (st1 := fun _ => [.int (b2i (!inR x 0 3))]) (fun _ => rfl) (fun _ H locs _ X => ?_)
  have X : Wd E _ _ (clsW E a f g h ik one wo tp tl tk ts te tn rb rz rn td) _ _ := X
  refine k_ifeqB (B := (!inR x 0 3)) hx hb 14 dX11_write_4 (by decide) (fun c4 => ?_) (fun c4 => ?_)
  · have hx0 : inR x 0 3 = true := by simpa using c4
    obtain ⟨k, hk, rfl, -⟩ := inR_nat (n := 4) (by decide) (by decide) hx0
    have ek : (nI k).toNatClampNeg = k := nI_clamp (by omega)
    refine lv_aload_n hx hb dX11_write_14 rfl (lv_at hl 0 rfl) ?_
    refine k_get K X 0 rfl fg_X11_71 (v := .ref (a 26)) rfl dX11_write_15 ?_
    rcases (show k = 0 ∨ k = 1 ∨ k = 2 ∨ k = 3 by omega) with rfl | rfl | rfl | rfl
    · have hz := (J 0 (by decide)).2
      refine lv_iload_n hx hb dX11_write_18 rfl (lv_at hl 1 rfl) ?_
      refine k_aaldN (C := "SlipWall$Row") K X 26 3 rfl rfl (k := 0) (by omega) (by decide) (r := a 27) rfl dX11_write_19 ?_
      refine k_callV K X gv_X11_236 (As := []) (c_X7_isMissing l E (fun j => a (27 + j)) (rb 0) (rz 0) (rn 0)) [27, 28] clsW_s14C (by decide +kernel) (fun _ => rowW_fst) 0 7 rfl rfl (by decide) rfl hl.1 (rest := []) rfl (Nat.le_of_ble_eq_true rfl) dX11_write_20 (st1 := fun _ => [.int (b2i (decide ((rb 0) = 0)))]) (fun _ => rfl) (fun _ H locs _ X => ?_)
      have X : Wd E _ _ (clsW E a f g h ik one wo tp tl tk ts te tn rb rz rn td) _ _ := X.eq clsW_s14P
      refine k_ifeqB (B := (decide ((rb 0) = 0))) hx hb 33 dX11_write_23 (by decide) (fun c23 => ?_) (fun c23 => ?_)
      · refine lv_iload_n hx hb dX11_write_33 rfl (lv_at hl 2 rfl) ?_
        refine lv_iconst (v := 0) hx hb dX11_write_34 (by decide) ?_
        refine lv_aload_n hx hb dX11_write_35 rfl (lv_at hl 0 rfl) ?_
        refine k_get K X 0 rfl fg_X11_71 (v := .ref (a 26)) rfl dX11_write_36 ?_
        refine lv_iload_n hx hb dX11_write_39 rfl (lv_at hl 1 rfl) ?_
        refine k_aaldN (C := "SlipWall$Row") K X 26 3 rfl rfl (k := 0) (by omega) (by decide) (r := a 27) rfl dX11_write_40 ?_
        refine k_getN K X 27 rfl fg_X11_233 (v := .int (rz 0)) rfl dX11_write_41 ?_
        refine k_topi ((J 0 (by decide)).1) ?_
        refine lv_iconst (v := 1) hx hb dX11_write_44 (by decide) ?_
        refine lv_isub hx hb dX11_write_45 ?_
        refine k_callS K X gs_X11_80 (As := [.int y, .int 0, .int ((nI (zR rz 0)) - 1)]) (c_X11_within l E y 0 ((nI (zR rz 0)) - 1)) [] rfl (by decide +kernel) (fun _ => rfl) (by decide) rfl hl.1 (rest := []) rfl (Nat.le_of_ble_eq_true rfl) dX11_write_46 (st1 := fun _ => [.int (b2i (inR y 0 ((nI (zR rz 0)) - 1)))]) (fun _ => rfl) (fun _ H locs _ X => ?_)
        have X : Wd E _ _ (clsW E a f g h ik one wo tp tl tk ts te tn rb rz rn td) _ _ := X
        refine k_ifneB (B := (inR y 0 ((nI (zR rz 0)) - 1))) hx hb 59 dX11_write_49 (by decide) (fun c49 => ?_) (fun c49 => ?_)
        · obtain ⟨j, hj, rfl⟩ := in_row hz c49
          have ej : (nI j).toNatClampNeg = j := nI_clamp (by omega)
          refine lv_aload_n hx hb dX11_write_59 rfl (lv_at hl 0 rfl) ?_
          refine k_get K X 0 rfl fg_X11_71 (v := .ref (a 26)) rfl dX11_write_60 ?_
          refine lv_iload_n hx hb dX11_write_63 rfl (lv_at hl 1 rfl) ?_
          refine k_aaldN (C := "SlipWall$Row") K X 26 3 rfl rfl (k := 0) (by omega) (by decide) (r := a 27) rfl dX11_write_64 ?_
          refine k_getN K X 27 rfl fg_X11_240 (v := .ref (a 28)) rfl dX11_write_65 ?_
          refine lv_iload_n hx hb dX11_write_68 rfl (lv_at hl 2 rfl) ?_
          refine k_laldN K X 28 rfl (k := j) (by omega) (by decide) dX11_write_69 (v := rn 0 j) rfl ?_
          refine lv_lstore (lv' := [(5, .long (rn 0 j)), (0, .ref (a 0)), (1, .int 0), (2, .int (nI j)), (3, .long v)]) hx hb dX11_write_70 hl (by decide) rfl (fun ls hl => ?_)
          refine lv_aload_n hx hb dX11_write_72 rfl (lv_at hl 1 rfl) ?_
          refine k_get K X 0 rfl fg_X11_71 (v := .ref (a 26)) rfl dX11_write_73 ?_
          refine lv_iload_n hx hb dX11_write_76 rfl (lv_at hl 2 rfl) ?_
          refine k_aaldN (C := "SlipWall$Row") K X 26 3 rfl rfl (k := 0) (by omega) (by decide) (r := a 27) rfl dX11_write_77 ?_
          refine lv_iload_n hx hb dX11_write_78 rfl (lv_at hl 3 rfl) ?_
          refine lv_lload_n hx hb dX11_write_79 rfl (lv_at hl 4 rfl) ?_
          refine k_callV K X gv_X11_244 (As := [.int (nI j), .long v]) (c_X7_put l E (fun j => a (27 + j)) (rb 0) (rz 0) (rn 0) j v (by omega)) [27, 28] clsW_s14C (by decide +kernel) (fun _ => rowW_fst) 0 7 rfl rfl (by decide) rfl hl.1 (rest := []) rfl (Nat.le_of_ble_eq_true rfl) dX11_write_80 (st1 := fun _ => []) (fun _ => rfl) (fun _ H locs _ X => ?_)
          have X : Wd E _ _ (clsW E a f g h ik one wo tp tl tk ts te tn rb rz (setRL rn 0 (vp_updL (rn 0) j (cutL (rb 0) v))) td) _ _ := X.eq clsW_s14P
          refine lv_lload hx hb dX11_write_83 (lv_at hl 0 rfl) ?_
          exact k_topl (x' := (oWrite rb rz rn td (nI 0) (nI j) v).1) (by simp [oWrite, hx0, ek, c23, c49, ej]) (fin () 85 _ _ _ trivial (X.eq (by simp [oWrite, hx0, ek, c23, c49, ej])) dX11_write_85)
        · refine lv_aload_n hx hb dX11_write_52 rfl (lv_at hl 0 rfl) ?_
          refine lv_iconst (v := 0) hx hb dX11_write_53 (by decide) ?_
          refine k_callV K X gv_X11_84 (As := [.int 0]) (c_X11_finding l E a f g h ik one wo tp tl tk ts te tn rb rz rn td 0 (by decide)) [0, 1, 2, 3, 4, 5, 6, 7, 8, 9, 10, 11, 12, 13, 14, 15, 16, 17, 18, 19, 20, 21, 22, 23, 24, 25, 26, 27, 28, 29, 30, 31, 32, 33, 34, 35, 36, 37, 38, 39, 40, 41, 42] clsW_idC (by decide +kernel) (fun _ => clsW_fst) 0 11 rfl rfl (by decide) rfl hl.1 (rest := []) rfl (Nat.le_of_ble_eq_true rfl) dX11_write_54 (st1 := fun _ => [.int (fnd 0)]) (fun _ => rfl) (fun _ H locs _ X => ?_)
          have X : Wd E _ _ (clsW E a f g h ik one wo tp tl tk ts te tn rb rz rn (fdU td 0)) _ _ := X.eq clsW_idP
          refine lv_i2l (v := (fnd 0).toInt64) hx hb dX11_write_57 rfl ?_
          exact k_topl (x' := (oWrite rb rz rn td (nI 0) y v).1) (by simp [oWrite, hx0, ek, c23, c49]) (fin () 58 _ _ _ trivial (X.eq (by simp [oWrite, hx0, ek, c23, c49])) dX11_write_58)
      · refine lv_aload_n hx hb dX11_write_26 rfl (lv_at hl 0 rfl) ?_
        refine lv_iconst (v := 5) hx hb dX11_write_27 (by decide) ?_
        refine k_callV K X gv_X11_84 (As := [.int 5]) (c_X11_finding l E a f g h ik one wo tp tl tk ts te tn rb rz rn td 5 (by decide)) [0, 1, 2, 3, 4, 5, 6, 7, 8, 9, 10, 11, 12, 13, 14, 15, 16, 17, 18, 19, 20, 21, 22, 23, 24, 25, 26, 27, 28, 29, 30, 31, 32, 33, 34, 35, 36, 37, 38, 39, 40, 41, 42] clsW_idC (by decide +kernel) (fun _ => clsW_fst) 0 11 rfl rfl (by decide) rfl hl.1 (rest := []) rfl (Nat.le_of_ble_eq_true rfl) dX11_write_28 (st1 := fun _ => [.int (fnd 5)]) (fun _ => rfl) (fun _ H locs _ X => ?_)
        have X : Wd E _ _ (clsW E a f g h ik one wo tp tl tk ts te tn rb rz rn (fdU td 5)) _ _ := X.eq clsW_idP
        refine lv_i2l (v := (fnd 5).toInt64) hx hb dX11_write_31 rfl ?_
        exact k_topl (x' := (oWrite rb rz rn td (nI 0) y v).1) (by simp [oWrite, hx0, ek, c23]) (fin () 32 _ _ _ trivial (X.eq (by simp [oWrite, hx0, ek, c23])) dX11_write_32)
    · have hz := (J 1 (by decide)).2
      refine lv_iload_n hx hb dX11_write_18 rfl (lv_at hl 1 rfl) ?_
      refine k_aaldN (C := "SlipWall$Row") K X 26 3 rfl rfl (k := 1) (by omega) (by decide) (r := a 29) rfl dX11_write_19 ?_
      refine k_callV K X gv_X11_236 (As := []) (c_X7_isMissing l E (fun j => a (29 + j)) (rb 1) (rz 1) (rn 1)) [29, 30] clsW_s15C (by decide +kernel) (fun _ => rowW_fst) 0 7 rfl rfl (by decide) rfl hl.1 (rest := []) rfl (Nat.le_of_ble_eq_true rfl) dX11_write_20 (st1 := fun _ => [.int (b2i (decide ((rb 1) = 0)))]) (fun _ => rfl) (fun _ H locs _ X => ?_)
      have X : Wd E _ _ (clsW E a f g h ik one wo tp tl tk ts te tn rb rz rn td) _ _ := X.eq clsW_s15P
      refine k_ifeqB (B := (decide ((rb 1) = 0))) hx hb 33 dX11_write_23 (by decide) (fun c23 => ?_) (fun c23 => ?_)
      · refine lv_iload_n hx hb dX11_write_33 rfl (lv_at hl 2 rfl) ?_
        refine lv_iconst (v := 0) hx hb dX11_write_34 (by decide) ?_
        refine lv_aload_n hx hb dX11_write_35 rfl (lv_at hl 0 rfl) ?_
        refine k_get K X 0 rfl fg_X11_71 (v := .ref (a 26)) rfl dX11_write_36 ?_
        refine lv_iload_n hx hb dX11_write_39 rfl (lv_at hl 1 rfl) ?_
        refine k_aaldN (C := "SlipWall$Row") K X 26 3 rfl rfl (k := 1) (by omega) (by decide) (r := a 29) rfl dX11_write_40 ?_
        refine k_getN K X 29 rfl fg_X11_233 (v := .int (rz 1)) rfl dX11_write_41 ?_
        refine k_topi ((J 1 (by decide)).1) ?_
        refine lv_iconst (v := 1) hx hb dX11_write_44 (by decide) ?_
        refine lv_isub hx hb dX11_write_45 ?_
        refine k_callS K X gs_X11_80 (As := [.int y, .int 0, .int ((nI (zR rz 1)) - 1)]) (c_X11_within l E y 0 ((nI (zR rz 1)) - 1)) [] rfl (by decide +kernel) (fun _ => rfl) (by decide) rfl hl.1 (rest := []) rfl (Nat.le_of_ble_eq_true rfl) dX11_write_46 (st1 := fun _ => [.int (b2i (inR y 0 ((nI (zR rz 1)) - 1)))]) (fun _ => rfl) (fun _ H locs _ X => ?_)
        have X : Wd E _ _ (clsW E a f g h ik one wo tp tl tk ts te tn rb rz rn td) _ _ := X
        refine k_ifneB (B := (inR y 0 ((nI (zR rz 1)) - 1))) hx hb 59 dX11_write_49 (by decide) (fun c49 => ?_) (fun c49 => ?_)
        · obtain ⟨j, hj, rfl⟩ := in_row hz c49
          have ej : (nI j).toNatClampNeg = j := nI_clamp (by omega)
          refine lv_aload_n hx hb dX11_write_59 rfl (lv_at hl 0 rfl) ?_
          refine k_get K X 0 rfl fg_X11_71 (v := .ref (a 26)) rfl dX11_write_60 ?_
          refine lv_iload_n hx hb dX11_write_63 rfl (lv_at hl 1 rfl) ?_
          refine k_aaldN (C := "SlipWall$Row") K X 26 3 rfl rfl (k := 1) (by omega) (by decide) (r := a 29) rfl dX11_write_64 ?_
          refine k_getN K X 29 rfl fg_X11_240 (v := .ref (a 30)) rfl dX11_write_65 ?_
          refine lv_iload_n hx hb dX11_write_68 rfl (lv_at hl 2 rfl) ?_
          refine k_laldN K X 30 rfl (k := j) (by omega) (by decide) dX11_write_69 (v := rn 1 j) rfl ?_
          refine lv_lstore (lv' := [(5, .long (rn 1 j)), (0, .ref (a 0)), (1, .int 1), (2, .int (nI j)), (3, .long v)]) hx hb dX11_write_70 hl (by decide) rfl (fun ls hl => ?_)
          refine lv_aload_n hx hb dX11_write_72 rfl (lv_at hl 1 rfl) ?_
          refine k_get K X 0 rfl fg_X11_71 (v := .ref (a 26)) rfl dX11_write_73 ?_
          refine lv_iload_n hx hb dX11_write_76 rfl (lv_at hl 2 rfl) ?_
          refine k_aaldN (C := "SlipWall$Row") K X 26 3 rfl rfl (k := 1) (by omega) (by decide) (r := a 29) rfl dX11_write_77 ?_
          refine lv_iload_n hx hb dX11_write_78 rfl (lv_at hl 3 rfl) ?_
          refine lv_lload_n hx hb dX11_write_79 rfl (lv_at hl 4 rfl) ?_
          refine k_callV K X gv_X11_244 (As := [.int (nI j), .long v]) (c_X7_put l E (fun j => a (29 + j)) (rb 1) (rz 1) (rn 1) j v (by omega)) [29, 30] clsW_s15C (by decide +kernel) (fun _ => rowW_fst) 0 7 rfl rfl (by decide) rfl hl.1 (rest := []) rfl (Nat.le_of_ble_eq_true rfl) dX11_write_80 (st1 := fun _ => []) (fun _ => rfl) (fun _ H locs _ X => ?_)
          have X : Wd E _ _ (clsW E a f g h ik one wo tp tl tk ts te tn rb rz (setRL rn 1 (vp_updL (rn 1) j (cutL (rb 1) v))) td) _ _ := X.eq clsW_s15P
          refine lv_lload hx hb dX11_write_83 (lv_at hl 0 rfl) ?_
          exact k_topl (x' := (oWrite rb rz rn td (nI 1) (nI j) v).1) (by simp [oWrite, hx0, ek, c23, c49, ej]) (fin () 85 _ _ _ trivial (X.eq (by simp [oWrite, hx0, ek, c23, c49, ej])) dX11_write_85)
        · refine lv_aload_n hx hb dX11_write_52 rfl (lv_at hl 0 rfl) ?_
          refine lv_iconst (v := 0) hx hb dX11_write_53 (by decide) ?_
          refine k_callV K X gv_X11_84 (As := [.int 0]) (c_X11_finding l E a f g h ik one wo tp tl tk ts te tn rb rz rn td 0 (by decide)) [0, 1, 2, 3, 4, 5, 6, 7, 8, 9, 10, 11, 12, 13, 14, 15, 16, 17, 18, 19, 20, 21, 22, 23, 24, 25, 26, 27, 28, 29, 30, 31, 32, 33, 34, 35, 36, 37, 38, 39, 40, 41, 42] clsW_idC (by decide +kernel) (fun _ => clsW_fst) 0 11 rfl rfl (by decide) rfl hl.1 (rest := []) rfl (Nat.le_of_ble_eq_true rfl) dX11_write_54 (st1 := fun _ => [.int (fnd 0)]) (fun _ => rfl) (fun _ H locs _ X => ?_)
          have X : Wd E _ _ (clsW E a f g h ik one wo tp tl tk ts te tn rb rz rn (fdU td 0)) _ _ := X.eq clsW_idP
          refine lv_i2l (v := (fnd 0).toInt64) hx hb dX11_write_57 rfl ?_
          exact k_topl (x' := (oWrite rb rz rn td (nI 1) y v).1) (by simp [oWrite, hx0, ek, c23, c49]) (fin () 58 _ _ _ trivial (X.eq (by simp [oWrite, hx0, ek, c23, c49])) dX11_write_58)
      · refine lv_aload_n hx hb dX11_write_26 rfl (lv_at hl 0 rfl) ?_
        refine lv_iconst (v := 5) hx hb dX11_write_27 (by decide) ?_
        refine k_callV K X gv_X11_84 (As := [.int 5]) (c_X11_finding l E a f g h ik one wo tp tl tk ts te tn rb rz rn td 5 (by decide)) [0, 1, 2, 3, 4, 5, 6, 7, 8, 9, 10, 11, 12, 13, 14, 15, 16, 17, 18, 19, 20, 21, 22, 23, 24, 25, 26, 27, 28, 29, 30, 31, 32, 33, 34, 35, 36, 37, 38, 39, 40, 41, 42] clsW_idC (by decide +kernel) (fun _ => clsW_fst) 0 11 rfl rfl (by decide) rfl hl.1 (rest := []) rfl (Nat.le_of_ble_eq_true rfl) dX11_write_28 (st1 := fun _ => [.int (fnd 5)]) (fun _ => rfl) (fun _ H locs _ X => ?_)
        have X : Wd E _ _ (clsW E a f g h ik one wo tp tl tk ts te tn rb rz rn (fdU td 5)) _ _ := X.eq clsW_idP
        refine lv_i2l (v := (fnd 5).toInt64) hx hb dX11_write_31 rfl ?_
        exact k_topl (x' := (oWrite rb rz rn td (nI 1) y v).1) (by simp [oWrite, hx0, ek, c23]) (fin () 32 _ _ _ trivial (X.eq (by simp [oWrite, hx0, ek, c23])) dX11_write_32)
    · have hz := (J 2 (by decide)).2
      refine lv_iload_n hx hb dX11_write_18 rfl (lv_at hl 1 rfl) ?_
      refine k_aaldN (C := "SlipWall$Row") K X 26 3 rfl rfl (k := 2) (by omega) (by decide) (r := a 31) rfl dX11_write_19 ?_
      refine k_callV K X gv_X11_236 (As := []) (c_X7_isMissing l E (fun j => a (31 + j)) (rb 2) (rz 2) (rn 2)) [31, 32] clsW_s16C (by decide +kernel) (fun _ => rowW_fst) 0 7 rfl rfl (by decide) rfl hl.1 (rest := []) rfl (Nat.le_of_ble_eq_true rfl) dX11_write_20 (st1 := fun _ => [.int (b2i (decide ((rb 2) = 0)))]) (fun _ => rfl) (fun _ H locs _ X => ?_)
      have X : Wd E _ _ (clsW E a f g h ik one wo tp tl tk ts te tn rb rz rn td) _ _ := X.eq clsW_s16P
      refine k_ifeqB (B := (decide ((rb 2) = 0))) hx hb 33 dX11_write_23 (by decide) (fun c23 => ?_) (fun c23 => ?_)
      · refine lv_iload_n hx hb dX11_write_33 rfl (lv_at hl 2 rfl) ?_
        refine lv_iconst (v := 0) hx hb dX11_write_34 (by decide) ?_
        refine lv_aload_n hx hb dX11_write_35 rfl (lv_at hl 0 rfl) ?_
        refine k_get K X 0 rfl fg_X11_71 (v := .ref (a 26)) rfl dX11_write_36 ?_
        refine lv_iload_n hx hb dX11_write_39 rfl (lv_at hl 1 rfl) ?_
        refine k_aaldN (C := "SlipWall$Row") K X 26 3 rfl rfl (k := 2) (by omega) (by decide) (r := a 31) rfl dX11_write_40 ?_
        refine k_getN K X 31 rfl fg_X11_233 (v := .int (rz 2)) rfl dX11_write_41 ?_
        refine k_topi ((J 2 (by decide)).1) ?_
        refine lv_iconst (v := 1) hx hb dX11_write_44 (by decide) ?_
        refine lv_isub hx hb dX11_write_45 ?_
        refine k_callS K X gs_X11_80 (As := [.int y, .int 0, .int ((nI (zR rz 2)) - 1)]) (c_X11_within l E y 0 ((nI (zR rz 2)) - 1)) [] rfl (by decide +kernel) (fun _ => rfl) (by decide) rfl hl.1 (rest := []) rfl (Nat.le_of_ble_eq_true rfl) dX11_write_46 (st1 := fun _ => [.int (b2i (inR y 0 ((nI (zR rz 2)) - 1)))]) (fun _ => rfl) (fun _ H locs _ X => ?_)
        have X : Wd E _ _ (clsW E a f g h ik one wo tp tl tk ts te tn rb rz rn td) _ _ := X
        refine k_ifneB (B := (inR y 0 ((nI (zR rz 2)) - 1))) hx hb 59 dX11_write_49 (by decide) (fun c49 => ?_) (fun c49 => ?_)
        · obtain ⟨j, hj, rfl⟩ := in_row hz c49
          have ej : (nI j).toNatClampNeg = j := nI_clamp (by omega)
          refine lv_aload_n hx hb dX11_write_59 rfl (lv_at hl 0 rfl) ?_
          refine k_get K X 0 rfl fg_X11_71 (v := .ref (a 26)) rfl dX11_write_60 ?_
          refine lv_iload_n hx hb dX11_write_63 rfl (lv_at hl 1 rfl) ?_
          refine k_aaldN (C := "SlipWall$Row") K X 26 3 rfl rfl (k := 2) (by omega) (by decide) (r := a 31) rfl dX11_write_64 ?_
          refine k_getN K X 31 rfl fg_X11_240 (v := .ref (a 32)) rfl dX11_write_65 ?_
          refine lv_iload_n hx hb dX11_write_68 rfl (lv_at hl 2 rfl) ?_
          refine k_laldN K X 32 rfl (k := j) (by omega) (by decide) dX11_write_69 (v := rn 2 j) rfl ?_
          refine lv_lstore (lv' := [(5, .long (rn 2 j)), (0, .ref (a 0)), (1, .int 2), (2, .int (nI j)), (3, .long v)]) hx hb dX11_write_70 hl (by decide) rfl (fun ls hl => ?_)
          refine lv_aload_n hx hb dX11_write_72 rfl (lv_at hl 1 rfl) ?_
          refine k_get K X 0 rfl fg_X11_71 (v := .ref (a 26)) rfl dX11_write_73 ?_
          refine lv_iload_n hx hb dX11_write_76 rfl (lv_at hl 2 rfl) ?_
          refine k_aaldN (C := "SlipWall$Row") K X 26 3 rfl rfl (k := 2) (by omega) (by decide) (r := a 31) rfl dX11_write_77 ?_
          refine lv_iload_n hx hb dX11_write_78 rfl (lv_at hl 3 rfl) ?_
          refine lv_lload_n hx hb dX11_write_79 rfl (lv_at hl 4 rfl) ?_
          refine k_callV K X gv_X11_244 (As := [.int (nI j), .long v]) (c_X7_put l E (fun j => a (31 + j)) (rb 2) (rz 2) (rn 2) j v (by omega)) [31, 32] clsW_s16C (by decide +kernel) (fun _ => rowW_fst) 0 7 rfl rfl (by decide) rfl hl.1 (rest := []) rfl (Nat.le_of_ble_eq_true rfl) dX11_write_80 (st1 := fun _ => []) (fun _ => rfl) (fun _ H locs _ X => ?_)
          have X : Wd E _ _ (clsW E a f g h ik one wo tp tl tk ts te tn rb rz (setRL rn 2 (vp_updL (rn 2) j (cutL (rb 2) v))) td) _ _ := X.eq clsW_s16P
          refine lv_lload hx hb dX11_write_83 (lv_at hl 0 rfl) ?_
          exact k_topl (x' := (oWrite rb rz rn td (nI 2) (nI j) v).1) (by simp [oWrite, hx0, ek, c23, c49, ej]) (fin () 85 _ _ _ trivial (X.eq (by simp [oWrite, hx0, ek, c23, c49, ej])) dX11_write_85)
        · refine lv_aload_n hx hb dX11_write_52 rfl (lv_at hl 0 rfl) ?_
          refine lv_iconst (v := 0) hx hb dX11_write_53 (by decide) ?_
          refine k_callV K X gv_X11_84 (As := [.int 0]) (c_X11_finding l E a f g h ik one wo tp tl tk ts te tn rb rz rn td 0 (by decide)) [0, 1, 2, 3, 4, 5, 6, 7, 8, 9, 10, 11, 12, 13, 14, 15, 16, 17, 18, 19, 20, 21, 22, 23, 24, 25, 26, 27, 28, 29, 30, 31, 32, 33, 34, 35, 36, 37, 38, 39, 40, 41, 42] clsW_idC (by decide +kernel) (fun _ => clsW_fst) 0 11 rfl rfl (by decide) rfl hl.1 (rest := []) rfl (Nat.le_of_ble_eq_true rfl) dX11_write_54 (st1 := fun _ => [.int (fnd 0)]) (fun _ => rfl) (fun _ H locs _ X => ?_)
          have X : Wd E _ _ (clsW E a f g h ik one wo tp tl tk ts te tn rb rz rn (fdU td 0)) _ _ := X.eq clsW_idP
          refine lv_i2l (v := (fnd 0).toInt64) hx hb dX11_write_57 rfl ?_
          exact k_topl (x' := (oWrite rb rz rn td (nI 2) y v).1) (by simp [oWrite, hx0, ek, c23, c49]) (fin () 58 _ _ _ trivial (X.eq (by simp [oWrite, hx0, ek, c23, c49])) dX11_write_58)
      · refine lv_aload_n hx hb dX11_write_26 rfl (lv_at hl 0 rfl) ?_
        refine lv_iconst (v := 5) hx hb dX11_write_27 (by decide) ?_
        refine k_callV K X gv_X11_84 (As := [.int 5]) (c_X11_finding l E a f g h ik one wo tp tl tk ts te tn rb rz rn td 5 (by decide)) [0, 1, 2, 3, 4, 5, 6, 7, 8, 9, 10, 11, 12, 13, 14, 15, 16, 17, 18, 19, 20, 21, 22, 23, 24, 25, 26, 27, 28, 29, 30, 31, 32, 33, 34, 35, 36, 37, 38, 39, 40, 41, 42] clsW_idC (by decide +kernel) (fun _ => clsW_fst) 0 11 rfl rfl (by decide) rfl hl.1 (rest := []) rfl (Nat.le_of_ble_eq_true rfl) dX11_write_28 (st1 := fun _ => [.int (fnd 5)]) (fun _ => rfl) (fun _ H locs _ X => ?_)
        have X : Wd E _ _ (clsW E a f g h ik one wo tp tl tk ts te tn rb rz rn (fdU td 5)) _ _ := X.eq clsW_idP
        refine lv_i2l (v := (fnd 5).toInt64) hx hb dX11_write_31 rfl ?_
        exact k_topl (x' := (oWrite rb rz rn td (nI 2) y v).1) (by simp [oWrite, hx0, ek, c23]) (fin () 32 _ _ _ trivial (X.eq (by simp [oWrite, hx0, ek, c23])) dX11_write_32)
    · have hz := (J 3 (by decide)).2
      refine lv_iload_n hx hb dX11_write_18 rfl (lv_at hl 1 rfl) ?_
      refine k_aaldN (C := "SlipWall$Row") K X 26 3 rfl rfl (k := 3) (by omega) (by decide) (r := a 33) rfl dX11_write_19 ?_
      refine k_callV K X gv_X11_236 (As := []) (c_X7_isMissing l E (fun j => a (33 + j)) (rb 3) (rz 3) (rn 3)) [33, 34] clsW_s17C (by decide +kernel) (fun _ => rowW_fst) 0 7 rfl rfl (by decide) rfl hl.1 (rest := []) rfl (Nat.le_of_ble_eq_true rfl) dX11_write_20 (st1 := fun _ => [.int (b2i (decide ((rb 3) = 0)))]) (fun _ => rfl) (fun _ H locs _ X => ?_)
      have X : Wd E _ _ (clsW E a f g h ik one wo tp tl tk ts te tn rb rz rn td) _ _ := X.eq clsW_s17P
      refine k_ifeqB (B := (decide ((rb 3) = 0))) hx hb 33 dX11_write_23 (by decide) (fun c23 => ?_) (fun c23 => ?_)
      · refine lv_iload_n hx hb dX11_write_33 rfl (lv_at hl 2 rfl) ?_
        refine lv_iconst (v := 0) hx hb dX11_write_34 (by decide) ?_
        refine lv_aload_n hx hb dX11_write_35 rfl (lv_at hl 0 rfl) ?_
        refine k_get K X 0 rfl fg_X11_71 (v := .ref (a 26)) rfl dX11_write_36 ?_
        refine lv_iload_n hx hb dX11_write_39 rfl (lv_at hl 1 rfl) ?_
        refine k_aaldN (C := "SlipWall$Row") K X 26 3 rfl rfl (k := 3) (by omega) (by decide) (r := a 33) rfl dX11_write_40 ?_
        refine k_getN K X 33 rfl fg_X11_233 (v := .int (rz 3)) rfl dX11_write_41 ?_
        refine k_topi ((J 3 (by decide)).1) ?_
        refine lv_iconst (v := 1) hx hb dX11_write_44 (by decide) ?_
        refine lv_isub hx hb dX11_write_45 ?_
        refine k_callS K X gs_X11_80 (As := [.int y, .int 0, .int ((nI (zR rz 3)) - 1)]) (c_X11_within l E y 0 ((nI (zR rz 3)) - 1)) [] rfl (by decide +kernel) (fun _ => rfl) (by decide) rfl hl.1 (rest := []) rfl (Nat.le_of_ble_eq_true rfl) dX11_write_46 (st1 := fun _ => [.int (b2i (inR y 0 ((nI (zR rz 3)) - 1)))]) (fun _ => rfl) (fun _ H locs _ X => ?_)
        have X : Wd E _ _ (clsW E a f g h ik one wo tp tl tk ts te tn rb rz rn td) _ _ := X
        refine k_ifneB (B := (inR y 0 ((nI (zR rz 3)) - 1))) hx hb 59 dX11_write_49 (by decide) (fun c49 => ?_) (fun c49 => ?_)
        · obtain ⟨j, hj, rfl⟩ := in_row hz c49
          have ej : (nI j).toNatClampNeg = j := nI_clamp (by omega)
          refine lv_aload_n hx hb dX11_write_59 rfl (lv_at hl 0 rfl) ?_
          refine k_get K X 0 rfl fg_X11_71 (v := .ref (a 26)) rfl dX11_write_60 ?_
          refine lv_iload_n hx hb dX11_write_63 rfl (lv_at hl 1 rfl) ?_
          refine k_aaldN (C := "SlipWall$Row") K X 26 3 rfl rfl (k := 3) (by omega) (by decide) (r := a 33) rfl dX11_write_64 ?_
          refine k_getN K X 33 rfl fg_X11_240 (v := .ref (a 34)) rfl dX11_write_65 ?_
          refine lv_iload_n hx hb dX11_write_68 rfl (lv_at hl 2 rfl) ?_
          refine k_laldN K X 34 rfl (k := j) (by omega) (by decide) dX11_write_69 (v := rn 3 j) rfl ?_
          refine lv_lstore (lv' := [(5, .long (rn 3 j)), (0, .ref (a 0)), (1, .int 3), (2, .int (nI j)), (3, .long v)]) hx hb dX11_write_70 hl (by decide) rfl (fun ls hl => ?_)
          refine lv_aload_n hx hb dX11_write_72 rfl (lv_at hl 1 rfl) ?_
          refine k_get K X 0 rfl fg_X11_71 (v := .ref (a 26)) rfl dX11_write_73 ?_
          refine lv_iload_n hx hb dX11_write_76 rfl (lv_at hl 2 rfl) ?_
          refine k_aaldN (C := "SlipWall$Row") K X 26 3 rfl rfl (k := 3) (by omega) (by decide) (r := a 33) rfl dX11_write_77 ?_
          refine lv_iload_n hx hb dX11_write_78 rfl (lv_at hl 3 rfl) ?_
          refine lv_lload_n hx hb dX11_write_79 rfl (lv_at hl 4 rfl) ?_
          refine k_callV K X gv_X11_244 (As := [.int (nI j), .long v]) (c_X7_put l E (fun j => a (33 + j)) (rb 3) (rz 3) (rn 3) j v (by omega)) [33, 34] clsW_s17C (by decide +kernel) (fun _ => rowW_fst) 0 7 rfl rfl (by decide) rfl hl.1 (rest := []) rfl (Nat.le_of_ble_eq_true rfl) dX11_write_80 (st1 := fun _ => []) (fun _ => rfl) (fun _ H locs _ X => ?_)
          have X : Wd E _ _ (clsW E a f g h ik one wo tp tl tk ts te tn rb rz (setRL rn 3 (vp_updL (rn 3) j (cutL (rb 3) v))) td) _ _ := X.eq clsW_s17P
          refine lv_lload hx hb dX11_write_83 (lv_at hl 0 rfl) ?_
          exact k_topl (x' := (oWrite rb rz rn td (nI 3) (nI j) v).1) (by simp [oWrite, hx0, ek, c23, c49, ej]) (fin () 85 _ _ _ trivial (X.eq (by simp [oWrite, hx0, ek, c23, c49, ej])) dX11_write_85)
        · refine lv_aload_n hx hb dX11_write_52 rfl (lv_at hl 0 rfl) ?_
          refine lv_iconst (v := 0) hx hb dX11_write_53 (by decide) ?_
          refine k_callV K X gv_X11_84 (As := [.int 0]) (c_X11_finding l E a f g h ik one wo tp tl tk ts te tn rb rz rn td 0 (by decide)) [0, 1, 2, 3, 4, 5, 6, 7, 8, 9, 10, 11, 12, 13, 14, 15, 16, 17, 18, 19, 20, 21, 22, 23, 24, 25, 26, 27, 28, 29, 30, 31, 32, 33, 34, 35, 36, 37, 38, 39, 40, 41, 42] clsW_idC (by decide +kernel) (fun _ => clsW_fst) 0 11 rfl rfl (by decide) rfl hl.1 (rest := []) rfl (Nat.le_of_ble_eq_true rfl) dX11_write_54 (st1 := fun _ => [.int (fnd 0)]) (fun _ => rfl) (fun _ H locs _ X => ?_)
          have X : Wd E _ _ (clsW E a f g h ik one wo tp tl tk ts te tn rb rz rn (fdU td 0)) _ _ := X.eq clsW_idP
          refine lv_i2l (v := (fnd 0).toInt64) hx hb dX11_write_57 rfl ?_
          exact k_topl (x' := (oWrite rb rz rn td (nI 3) y v).1) (by simp [oWrite, hx0, ek, c23, c49]) (fin () 58 _ _ _ trivial (X.eq (by simp [oWrite, hx0, ek, c23, c49])) dX11_write_58)
      · refine lv_aload_n hx hb dX11_write_26 rfl (lv_at hl 0 rfl) ?_
        refine lv_iconst (v := 5) hx hb dX11_write_27 (by decide) ?_
        refine k_callV K X gv_X11_84 (As := [.int 5]) (c_X11_finding l E a f g h ik one wo tp tl tk ts te tn rb rz rn td 5 (by decide)) [0, 1, 2, 3, 4, 5, 6, 7, 8, 9, 10, 11, 12, 13, 14, 15, 16, 17, 18, 19, 20, 21, 22, 23, 24, 25, 26, 27, 28, 29, 30, 31, 32, 33, 34, 35, 36, 37, 38, 39, 40, 41, 42] clsW_idC (by decide +kernel) (fun _ => clsW_fst) 0 11 rfl rfl (by decide) rfl hl.1 (rest := []) rfl (Nat.le_of_ble_eq_true rfl) dX11_write_28 (st1 := fun _ => [.int (fnd 5)]) (fun _ => rfl) (fun _ H locs _ X => ?_)
        have X : Wd E _ _ (clsW E a f g h ik one wo tp tl tk ts te tn rb rz rn (fdU td 5)) _ _ := X.eq clsW_idP
        refine lv_i2l (v := (fnd 5).toInt64) hx hb dX11_write_31 rfl ?_
        exact k_topl (x' := (oWrite rb rz rn td (nI 3) y v).1) (by simp [oWrite, hx0, ek, c23]) (fin () 32 _ _ _ trivial (X.eq (by simp [oWrite, hx0, ek, c23])) dX11_write_32)
  · have hx0 : inR x 0 3 = false := by simpa using c4
    refine lv_aload_n hx hb dX11_write_7 rfl (lv_at hl 0 rfl) ?_
    refine lv_iconst (v := 0) hx hb dX11_write_8 (by decide) ?_
    refine k_callV K X gv_X11_84 (As := [.int 0]) (c_X11_finding l E a f g h ik one wo tp tl tk ts te tn rb rz rn td 0 (by decide)) [0, 1, 2, 3, 4, 5, 6, 7, 8, 9, 10, 11, 12, 13, 14, 15, 16, 17, 18, 19, 20, 21, 22, 23, 24, 25, 26, 27, 28, 29, 30, 31, 32, 33, 34, 35, 36, 37, 38, 39, 40, 41, 42] clsW_idC (by decide +kernel) (fun _ => clsW_fst) 0 11 rfl rfl (by decide) rfl hl.1 (rest := []) rfl (Nat.le_of_ble_eq_true rfl) dX11_write_9 (st1 := fun _ => [.int (fnd 0)]) (fun _ => rfl) (fun _ H locs _ X => ?_)
    have X : Wd E _ _ (clsW E a f g h ik one wo tp tl tk ts te tn rb rz rn (fdU td 0)) _ _ := X.eq clsW_idP
    refine lv_i2l (v := (fnd 0).toInt64) hx hb dX11_write_12 rfl ?_
    exact k_topl (x' := (oWrite rb rz rn td x y v).1) (by simp [oWrite, hx0]) (fin () 13 _ _ _ trivial (X.eq (by simp [oWrite, hx0])) dX11_write_13)
set_option maxRecDepth 100000 in
set_option maxHeartbeats 4000000 in
theorem c_X11_lays (l : Launch) (E : EE) (a : Nat → Nat) (f : St) (g : St) (h : St) (ik : Int32) (one : Int32) (wo : Int32) (tp : Nat → Int32) (tl : Int32) (tk : Int32) (ts : Int32) (te : Int32) (tn : Int32) (rb : Nat → Int32) (rz : Nat → Int32) (rn : Nat → Nat → Int64) (td : Nat → Int32) (T : Nat) (x : Int32) (y : Int32) (I : Inv T f) (J : InvS rz) : Kd l yX11_lays cX11_lays 7 (some .int) 2 43 E (clsW E a f g h ik one wo tp tl tk ts te tn rb rz rn td) [.ref (a 0), .int x, .int y] (some (.int ((oLays rb rz rn f td x y).1))) (clsW E a ((oLays rb rz rn f td x y).2.1) g h ik one wo tp tl tk ts te tn rb rz rn ((oLays rb rz rn f td x y).2.2)) := by
  refine Kn.ofWi (by decide +kernel) (Nat.le_of_ble_eq_true rfl) (fun _ _ => rfl) ?_
  intro pg ev s0 mm below meth cd Q K X fin ls hl
  have hx := K.1
  have hb := K.2.1
  have hs10 := I.s10
  have hp6 := I.p6
  have hl : lv_has ls 7 [(0, .ref (a 0)), (1, .int x), (2, .int y)] := hl
  refine lv_iload_n hx hb dX11_lays_0 rfl (lv_at hl 1 rfl) ?_
  refine k_callS K X gs_X11_227 (As := [.int x]) (c_X11_noSheet l E x) [] rfl (by decide +kernel) (fun _ => rfl) (by decide) rfl hl.1 (rest := []) rfl (Nat.le_of_ble_eq_true rfl) dX11_lays_1 (st1 := fun _ => [.int (b2i (!inR x 0 3))]) (fun _ => rfl) (fun _ H locs _ X => ?_)
  have X : Wd E _ _ (clsW E a f g h ik one wo tp tl tk ts te tn rb rz rn td) _ _ := X
  refine k_ifeqB (B := (!inR x 0 3)) hx hb 13 dX11_lays_4 (by decide) (fun c4 => ?_) (fun c4 => ?_)
  · have hx0 : inR x 0 3 = true := by simpa using c4
    obtain ⟨k, hk, rfl, -⟩ := inR_nat (n := 4) (by decide) (by decide) hx0
    have ek : (nI k).toNatClampNeg = k := nI_clamp (by omega)
    refine lv_aload_n hx hb dX11_lays_13 rfl (lv_at hl 0 rfl) ?_
    refine k_get K X 0 rfl fg_X11_71 (v := .ref (a 26)) rfl dX11_lays_14 ?_
    rcases (show k = 0 ∨ k = 1 ∨ k = 2 ∨ k = 3 by omega) with rfl | rfl | rfl | rfl
    · have hz := (J 0 (by decide)).2
      refine lv_iload_n hx hb dX11_lays_17 rfl (lv_at hl 1 rfl) ?_
      refine k_aaldN (C := "SlipWall$Row") K X 26 3 rfl rfl (k := 0) (by omega) (by decide) (r := a 27) rfl dX11_lays_18 ?_
      refine k_callV K X gv_X11_236 (As := []) (c_X7_isMissing l E (fun j => a (27 + j)) (rb 0) (rz 0) (rn 0)) [27, 28] clsW_s14C (by decide +kernel) (fun _ => rowW_fst) 0 7 rfl rfl (by decide) rfl hl.1 (rest := []) rfl (Nat.le_of_ble_eq_true rfl) dX11_lays_19 (st1 := fun _ => [.int (b2i (decide ((rb 0) = 0)))]) (fun _ => rfl) (fun _ H locs _ X => ?_)
      have X : Wd E _ _ (clsW E a f g h ik one wo tp tl tk ts te tn rb rz rn td) _ _ := X.eq clsW_s14P
      refine k_ifeqB (B := (decide ((rb 0) = 0))) hx hb 31 dX11_lays_22 (by decide) (fun c22 => ?_) (fun c22 => ?_)
      · refine lv_aload_n hx hb dX11_lays_31 rfl (lv_at hl 0 rfl) ?_
        refine lv_iload_n hx hb dX11_lays_32 rfl (lv_at hl 2 rfl) ?_
        refine k_callV K X gv_X11_147 (As := [.int y]) (c_X11_noPerson l E a f g h ik one wo tp tl tk ts te tn rb rz rn td y) [0, 1, 2, 3, 4, 5, 6, 7, 8, 9, 10, 11, 12, 13, 14, 15, 16, 17, 18, 19, 20, 21, 22, 23, 24, 25, 26, 27, 28, 29, 30, 31, 32, 33, 34, 35, 36, 37, 38, 39, 40, 41, 42] clsW_idC (by decide +kernel) (fun _ => clsW_fst) 0 11 rfl rfl (by decide) rfl hl.1 (rest := []) rfl (Nat.le_of_ble_eq_true rfl) dX11_lays_33 (st1 := fun _ => [.int (b2i (!isP f y))]) (fun _ => rfl) (fun _ H locs _ X => ?_)
        have X : Wd E _ _ (clsW E a f g h ik one wo tp tl tk ts te tn rb rz rn td) _ _ := X.eq clsW_idP
        refine k_ifeqB (B := (!isP f y)) hx hb 45 dX11_lays_36 (by decide) (fun c36 => ?_) (fun c36 => ?_)
        · have hy0 : isP f y = true := by simpa using c36
          obtain ⟨p, hp, rfl⟩ := isP_nat I hy0
          have ep : (nI p).toNatClampNeg = p := nI_clamp (by omega)
          refine lv_iconst (v := 0) hx hb dX11_lays_45 (by decide) ?_
          refine lv_istore_n (lv' := [(3, .int 0), (0, .ref (a 0)), (1, .int 0), (2, .int (nI p))]) hx hb dX11_lays_46 rfl hl (by decide) rfl (fun ls hl => ?_)
          refine lv_iconst (v := 0) hx hb dX11_lays_47 (by decide) ?_
          refine lv_istore (lv' := [(4, .int 0), (3, .int 0), (0, .ref (a 0)), (1, .int 0), (2, .int (nI p))]) hx hb dX11_lays_48 hl (by decide) rfl (fun ls hl => ?_)
          have lp50 : ∀ (fu : Nat) (i : Nat) (m : Nat) (w : Nat) (f3 : St) (hfu : m < fu) (hin : i + m = min (zR rz 0) 10) (hR : laL (rn 0) p m i w f3 = laL (rn 0) p (min (zR rz 0) 10) 0 0 f) (ls : Array Slot) (hl : lv_has ls 7 [(4, .int (nI i)), (3, .int (nI w)), (0, .ref (a 0)), (1, .int 0), (2, .int (nI p))]) (H : Heap) (locs : List Loc) (X : Wd E (inW (clsW E a f g h ik one wo tp tl tk ts te tn rb rz rn td)) s0.heap (clsW E a f3 g h ik one wo tp tl tk ts te tn rb rz rn td) H locs), W pg l ev (rmK 2 43) s0 mm ([.ref (a 0), .int (nI 0), .int (nI p)] : List Value).toArray below meth cd H locs 0 0 Q (F0 mm 50 ls []) := by
            intro fu
            induction fu with
            | zero => intro i m w f3 hfu; exact absurd hfu (Nat.not_lt_zero _)
            | succ fu ih50 =>
              intro i m w f3 hfu hin hR ls hl H locs X
              refine lv_iload hx hb dX11_lays_50 (lv_at hl 0 rfl) ?_
              refine lv_aload_n hx hb dX11_lays_52 rfl (lv_at hl 2 rfl) ?_
              refine k_get K X 0 rfl fg_X11_71 (v := .ref (a 26)) rfl dX11_lays_53 ?_
              refine lv_iload_n hx hb dX11_lays_56 rfl (lv_at hl 3 rfl) ?_
              refine k_aaldN (C := "SlipWall$Row") K X 26 3 rfl rfl (k := 0) (by omega) (by decide) (r := a 27) rfl dX11_lays_57 ?_
              refine k_getN K X 27 rfl fg_X11_233 (v := .int (rz 0)) rfl dX11_lays_58 ?_
              refine k_topi ((J 0 (by decide)).1) ?_
              refine kN_ge (x := i) (y := zR rz 0) hx hb 127 dX11_lays_61 (by decide) (by omega) (by omega) (fun c61 => ?_) (fun c61 => ?_)
              · obtain rfl : m = 0 := by omega
                refine lv_iload_n hx hb dX11_lays_127 rfl (lv_at hl 1 rfl) ?_
                exact k_topi (x' := (oLays rb rz rn f td (nI 0) (nI p)).1) (by rw [oLays, hx0, cond_true, ek, c22, cond_false, hy0, cond_true, ep, ← hR]; rfl) (fin () 128 _ _ _ trivial (X.eq (by rw [oLays, hx0, cond_true, ek, c22, cond_false, hy0, cond_true, ep, ← hR]; rfl)) dX11_lays_128)
              · refine lv_iload hx hb dX11_lays_64 (lv_at hl 0 rfl) ?_
                refine lv_bipush (v := 10) hx hb dX11_lays_66 (by decide) ?_
                refine kN_ge (x := i) (y := 10) hx hb 127 dX11_lays_68 (by decide) (by omega) (by omega) (fun c68 => ?_) (fun c68 => ?_)
                · obtain rfl : m = 0 := by omega
                  refine lv_iload_n hx hb dX11_lays_127 rfl (lv_at hl 1 rfl) ?_
                  exact k_topi (x' := (oLays rb rz rn f td (nI 0) (nI p)).1) (by rw [oLays, hx0, cond_true, ek, c22, cond_false, hy0, cond_true, ep, ← hR]; rfl) (fin () 128 _ _ _ trivial (X.eq (by rw [oLays, hx0, cond_true, ek, c22, cond_false, hy0, cond_true, ep, ← hR]; rfl)) dX11_lays_128)
                · obtain ⟨m, rfl⟩ : ∃ z, m = z + 1 := ⟨m - 1, by omega⟩
                  refine lv_aload_n hx hb dX11_lays_71 rfl (lv_at hl 2 rfl) ?_
                  refine k_get K X 0 rfl fg_X11_71 (v := .ref (a 26)) rfl dX11_lays_72 ?_
                  refine lv_iload_n hx hb dX11_lays_75 rfl (lv_at hl 3 rfl) ?_
                  refine k_aaldN (C := "SlipWall$Row") K X 26 3 rfl rfl (k := 0) (by omega) (by decide) (r := a 27) rfl dX11_lays_76 ?_
                  refine k_getN K X 27 rfl fg_X11_240 (v := .ref (a 28)) rfl dX11_lays_77 ?_
                  refine lv_iload hx hb dX11_lays_80 (lv_at hl 0 rfl) ?_
                  refine k_laldN K X 28 rfl (k := i) (by omega) (by decide) dX11_lays_82 (v := rn 0 i) rfl ?_
                  refine lv_lstore (lv' := [(5, .long (rn 0 i)), (4, .int (nI i)), (3, .int (nI w)), (0, .ref (a 0)), (1, .int 0), (2, .int (nI p))]) hx hb dX11_lays_83 hl (by decide) rfl (fun ls hl => ?_)
                  refine lv_lload hx hb dX11_lays_85 (lv_at hl 0 rfl) ?_
                  refine lv_lconst (v := 0) hx hb dX11_lays_87 (by decide) ?_
                  refine W.lcmp hx hb dX11_lays_88 ?_
                  refine k_lc_lt (x := rn 0 i) (y := 0) hx hb 121 dX11_lays_89 (by decide) (fun c89 => ?_) (fun c89 => ?_)
                  · refine lv_iinc (v := nI (i + 1)) (lv' := [(4, .int (nI (i + 1))), (5, .long (rn 0 i)), (3, .int (nI w)), (0, .ref (a 0)), (1, .int 0), (2, .int (nI p))]) hx hb dX11_lays_121 hl (k := 1) rfl (nI_add i 1) (by decide) rfl (fun ls hl => ?_)
                    refine lv_goto (tgt := 50) hx hb dX11_lays_124 (by decide) ?_
                    exact ih50 (i + 1) m w f3 (by omega) (by omega) (by rw [← hR, laL, inG_lo c89]; rfl) _ (lv_sub hl [0, 2, 3, 4, 5] rfl) _ _ X
                  · refine lv_lload hx hb dX11_lays_92 (lv_at hl 0 rfl) ?_
                    refine lv_ldc2 (v := 5) hx hb K.2.2.2.1 (K.2.2.2.2.1 _ (Mw_at 806 (by decide +kernel) (by decide +kernel))) dX11_lays_94 ?_
                    refine W.lcmp hx hb dX11_lays_97 ?_
                    refine k_lc_gt (x := rn 0 i) (y := 5) hx hb 121 dX11_lays_98 (by decide) (fun c98 => ?_) (fun c98 => ?_)
                    · refine lv_iinc (v := nI (i + 1)) (lv' := [(4, .int (nI (i + 1))), (5, .long (rn 0 i)), (3, .int (nI w)), (0, .ref (a 0)), (1, .int 0), (2, .int (nI p))]) hx hb dX11_lays_121 hl (k := 1) rfl (nI_add i 1) (by decide) rfl (fun ls hl => ?_)
                      refine lv_goto (tgt := 50) hx hb dX11_lays_124 (by decide) ?_
                      exact ih50 (i + 1) m w f3 (by omega) (by omega) (by rw [← hR, laL, inG_hi c98]; rfl) _ (lv_sub hl [0, 2, 3, 4, 5] rfl) _ _ X
                    · refine lv_aload_n hx hb dX11_lays_101 rfl (lv_at hl 3 rfl) ?_
                      refine k_get K X 0 rfl fg_X11_30 (v := .ref (a 1)) rfl dX11_lays_102 ?_
                      refine k_getN K X 1 rfl fg_X11_165 (v := .ref (a 7)) rfl dX11_lays_105 ?_
                      refine lv_iload_n hx hb dX11_lays_108 rfl (lv_at hl 5 rfl) ?_
                      refine lv_iload hx hb dX11_lays_109 (lv_at hl 1 rfl) ?_
                      refine k_callS K X gs_X11_168 (As := [.int (nI p), .int (nI i)]) (c_X6_wish l E p i) [] rfl (by decide +kernel) (fun _ => rfl) (by decide) rfl hl.1 (rest := [.ref (a 7)]) rfl (Nat.le_of_ble_eq_true rfl) dX11_lays_111 (st1 := fun _ => [.int (nI (10 * p + i)), .ref (a 7)]) (fun _ => rfl) (fun _ H locs _ X => ?_)
                      have X : Wd E _ _ (clsW E a f3 g h ik one wo tp tl tk ts te tn rb rz rn td) _ _ := X
                      refine lv_lload hx hb dX11_lays_114 (lv_at hl 0 rfl) ?_
                      refine lv_l2i (v := (rn 0 i).toInt32) hx hb dX11_lays_116 rfl ?_
                      refine k_iastN K X 7 rfl (k := 10 * p + i) (x := (rn 0 i).toInt32) (by omega) (by decide) dX11_lays_117 (fun H locs X => ?_)
                      have X : Wd E _ _ (clsW E a (up2 f3 6 (10 * p + i) ((rn 0 i).toInt32)) g h ik one wo tp tl tk ts te tn rb rz rn td) _ _ := X
                      refine lv_iinc (v := nI (w + 1)) (lv' := [(3, .int (nI (w + 1))), (5, .long (rn 0 i)), (4, .int (nI i)), (0, .ref (a 0)), (1, .int 0), (2, .int (nI p))]) hx hb dX11_lays_118 hl (k := 2) rfl (nI_add w 1) (by decide) rfl (fun ls hl => ?_)
                      refine lv_iinc (v := nI (i + 1)) (lv' := [(4, .int (nI (i + 1))), (3, .int (nI (w + 1))), (5, .long (rn 0 i)), (0, .ref (a 0)), (1, .int 0), (2, .int (nI p))]) hx hb dX11_lays_121 hl (k := 2) rfl (nI_add i 1) (by decide) rfl (fun ls hl => ?_)
                      refine lv_goto (tgt := 50) hx hb dX11_lays_124 (by decide) ?_
                      exact ih50 (i + 1) m (w + 1) (up2 f3 6 (10 * p + i) ((rn 0 i).toInt32)) (by omega) (by omega) (by rw [← hR, laL, inG_in c89 c98]; rfl) _ (lv_sub hl [0, 1, 3, 4, 5] rfl) _ _ X
          exact lp50 ((min (zR rz 0) 10) + 1) 0 (min (zR rz 0) 10) 0 f (by omega) (by omega) (rfl) _ hl _ _ X
        · have hy0 : isP f y = false := by simpa using c36
          refine lv_aload_n hx hb dX11_lays_39 rfl (lv_at hl 0 rfl) ?_
          refine lv_iconst (v := 0) hx hb dX11_lays_40 (by decide) ?_
          refine k_callV K X gv_X11_84 (As := [.int 0]) (c_X11_finding l E a f g h ik one wo tp tl tk ts te tn rb rz rn td 0 (by decide)) [0, 1, 2, 3, 4, 5, 6, 7, 8, 9, 10, 11, 12, 13, 14, 15, 16, 17, 18, 19, 20, 21, 22, 23, 24, 25, 26, 27, 28, 29, 30, 31, 32, 33, 34, 35, 36, 37, 38, 39, 40, 41, 42] clsW_idC (by decide +kernel) (fun _ => clsW_fst) 0 11 rfl rfl (by decide) rfl hl.1 (rest := []) rfl (Nat.le_of_ble_eq_true rfl) dX11_lays_41 (st1 := fun _ => [.int (fnd 0)]) (fun _ => rfl) (fun _ H locs _ X => ?_)
          have X : Wd E _ _ (clsW E a f g h ik one wo tp tl tk ts te tn rb rz rn (fdU td 0)) _ _ := X.eq clsW_idP
          exact k_topi (x' := (oLays rb rz rn f td (nI 0) y).1) (by simp [oLays, bad3, hx0, ek, c22, hy0]) (fin () 44 _ _ _ trivial (X.eq (by simp [oLays, bad3, hx0, ek, c22, hy0])) dX11_lays_44)
      · refine lv_aload_n hx hb dX11_lays_25 rfl (lv_at hl 0 rfl) ?_
        refine lv_iconst (v := 5) hx hb dX11_lays_26 (by decide) ?_
        refine k_callV K X gv_X11_84 (As := [.int 5]) (c_X11_finding l E a f g h ik one wo tp tl tk ts te tn rb rz rn td 5 (by decide)) [0, 1, 2, 3, 4, 5, 6, 7, 8, 9, 10, 11, 12, 13, 14, 15, 16, 17, 18, 19, 20, 21, 22, 23, 24, 25, 26, 27, 28, 29, 30, 31, 32, 33, 34, 35, 36, 37, 38, 39, 40, 41, 42] clsW_idC (by decide +kernel) (fun _ => clsW_fst) 0 11 rfl rfl (by decide) rfl hl.1 (rest := []) rfl (Nat.le_of_ble_eq_true rfl) dX11_lays_27 (st1 := fun _ => [.int (fnd 5)]) (fun _ => rfl) (fun _ H locs _ X => ?_)
        have X : Wd E _ _ (clsW E a f g h ik one wo tp tl tk ts te tn rb rz rn (fdU td 5)) _ _ := X.eq clsW_idP
        exact k_topi (x' := (oLays rb rz rn f td (nI 0) y).1) (by simp [oLays, bad3, hx0, ek, c22]) (fin () 30 _ _ _ trivial (X.eq (by simp [oLays, bad3, hx0, ek, c22])) dX11_lays_30)
    · have hz := (J 1 (by decide)).2
      refine lv_iload_n hx hb dX11_lays_17 rfl (lv_at hl 1 rfl) ?_
      refine k_aaldN (C := "SlipWall$Row") K X 26 3 rfl rfl (k := 1) (by omega) (by decide) (r := a 29) rfl dX11_lays_18 ?_
      refine k_callV K X gv_X11_236 (As := []) (c_X7_isMissing l E (fun j => a (29 + j)) (rb 1) (rz 1) (rn 1)) [29, 30] clsW_s15C (by decide +kernel) (fun _ => rowW_fst) 0 7 rfl rfl (by decide) rfl hl.1 (rest := []) rfl (Nat.le_of_ble_eq_true rfl) dX11_lays_19 (st1 := fun _ => [.int (b2i (decide ((rb 1) = 0)))]) (fun _ => rfl) (fun _ H locs _ X => ?_)
      have X : Wd E _ _ (clsW E a f g h ik one wo tp tl tk ts te tn rb rz rn td) _ _ := X.eq clsW_s15P
      refine k_ifeqB (B := (decide ((rb 1) = 0))) hx hb 31 dX11_lays_22 (by decide) (fun c22 => ?_) (fun c22 => ?_)
      · refine lv_aload_n hx hb dX11_lays_31 rfl (lv_at hl 0 rfl) ?_
        refine lv_iload_n hx hb dX11_lays_32 rfl (lv_at hl 2 rfl) ?_
        refine k_callV K X gv_X11_147 (As := [.int y]) (c_X11_noPerson l E a f g h ik one wo tp tl tk ts te tn rb rz rn td y) [0, 1, 2, 3, 4, 5, 6, 7, 8, 9, 10, 11, 12, 13, 14, 15, 16, 17, 18, 19, 20, 21, 22, 23, 24, 25, 26, 27, 28, 29, 30, 31, 32, 33, 34, 35, 36, 37, 38, 39, 40, 41, 42] clsW_idC (by decide +kernel) (fun _ => clsW_fst) 0 11 rfl rfl (by decide) rfl hl.1 (rest := []) rfl (Nat.le_of_ble_eq_true rfl) dX11_lays_33 (st1 := fun _ => [.int (b2i (!isP f y))]) (fun _ => rfl) (fun _ H locs _ X => ?_)
        have X : Wd E _ _ (clsW E a f g h ik one wo tp tl tk ts te tn rb rz rn td) _ _ := X.eq clsW_idP
        refine k_ifeqB (B := (!isP f y)) hx hb 45 dX11_lays_36 (by decide) (fun c36 => ?_) (fun c36 => ?_)
        · have hy0 : isP f y = true := by simpa using c36
          obtain ⟨p, hp, rfl⟩ := isP_nat I hy0
          have ep : (nI p).toNatClampNeg = p := nI_clamp (by omega)
          refine lv_iconst (v := 0) hx hb dX11_lays_45 (by decide) ?_
          refine lv_istore_n (lv' := [(3, .int 0), (0, .ref (a 0)), (1, .int 1), (2, .int (nI p))]) hx hb dX11_lays_46 rfl hl (by decide) rfl (fun ls hl => ?_)
          refine lv_iconst (v := 0) hx hb dX11_lays_47 (by decide) ?_
          refine lv_istore (lv' := [(4, .int 0), (3, .int 0), (0, .ref (a 0)), (1, .int 1), (2, .int (nI p))]) hx hb dX11_lays_48 hl (by decide) rfl (fun ls hl => ?_)
          have lp50 : ∀ (fu : Nat) (i : Nat) (m : Nat) (w : Nat) (f3 : St) (hfu : m < fu) (hin : i + m = min (zR rz 1) 10) (hR : laL (rn 1) p m i w f3 = laL (rn 1) p (min (zR rz 1) 10) 0 0 f) (ls : Array Slot) (hl : lv_has ls 7 [(4, .int (nI i)), (3, .int (nI w)), (0, .ref (a 0)), (1, .int 1), (2, .int (nI p))]) (H : Heap) (locs : List Loc) (X : Wd E (inW (clsW E a f g h ik one wo tp tl tk ts te tn rb rz rn td)) s0.heap (clsW E a f3 g h ik one wo tp tl tk ts te tn rb rz rn td) H locs), W pg l ev (rmK 2 43) s0 mm ([.ref (a 0), .int (nI 1), .int (nI p)] : List Value).toArray below meth cd H locs 0 0 Q (F0 mm 50 ls []) := by
            intro fu
            induction fu with
            | zero => intro i m w f3 hfu; exact absurd hfu (Nat.not_lt_zero _)
            | succ fu ih50 =>
              intro i m w f3 hfu hin hR ls hl H locs X
              refine lv_iload hx hb dX11_lays_50 (lv_at hl 0 rfl) ?_
              refine lv_aload_n hx hb dX11_lays_52 rfl (lv_at hl 2 rfl) ?_
              refine k_get K X 0 rfl fg_X11_71 (v := .ref (a 26)) rfl dX11_lays_53 ?_
              refine lv_iload_n hx hb dX11_lays_56 rfl (lv_at hl 3 rfl) ?_
              refine k_aaldN (C := "SlipWall$Row") K X 26 3 rfl rfl (k := 1) (by omega) (by decide) (r := a 29) rfl dX11_lays_57 ?_
              refine k_getN K X 29 rfl fg_X11_233 (v := .int (rz 1)) rfl dX11_lays_58 ?_
              refine k_topi ((J 1 (by decide)).1) ?_
              refine kN_ge (x := i) (y := zR rz 1) hx hb 127 dX11_lays_61 (by decide) (by omega) (by omega) (fun c61 => ?_) (fun c61 => ?_)
              · obtain rfl : m = 0 := by omega
                refine lv_iload_n hx hb dX11_lays_127 rfl (lv_at hl 1 rfl) ?_
                exact k_topi (x' := (oLays rb rz rn f td (nI 1) (nI p)).1) (by rw [oLays, hx0, cond_true, ek, c22, cond_false, hy0, cond_true, ep, ← hR]; rfl) (fin () 128 _ _ _ trivial (X.eq (by rw [oLays, hx0, cond_true, ek, c22, cond_false, hy0, cond_true, ep, ← hR]; rfl)) dX11_lays_128)
              · refine lv_iload hx hb dX11_lays_64 (lv_at hl 0 rfl) ?_
                refine lv_bipush (v := 10) hx hb dX11_lays_66 (by decide) ?_
                refine kN_ge (x := i) (y := 10) hx hb 127 dX11_lays_68 (by decide) (by omega) (by omega) (fun c68 => ?_) (fun c68 => ?_)
                · obtain rfl : m = 0 := by omega
                  refine lv_iload_n hx hb dX11_lays_127 rfl (lv_at hl 1 rfl) ?_
                  exact k_topi (x' := (oLays rb rz rn f td (nI 1) (nI p)).1) (by rw [oLays, hx0, cond_true, ek, c22, cond_false, hy0, cond_true, ep, ← hR]; rfl) (fin () 128 _ _ _ trivial (X.eq (by rw [oLays, hx0, cond_true, ek, c22, cond_false, hy0, cond_true, ep, ← hR]; rfl)) dX11_lays_128)
                · obtain ⟨m, rfl⟩ : ∃ z, m = z + 1 := ⟨m - 1, by omega⟩
                  refine lv_aload_n hx hb dX11_lays_71 rfl (lv_at hl 2 rfl) ?_
                  refine k_get K X 0 rfl fg_X11_71 (v := .ref (a 26)) rfl dX11_lays_72 ?_
                  refine lv_iload_n hx hb dX11_lays_75 rfl (lv_at hl 3 rfl) ?_
                  refine k_aaldN (C := "SlipWall$Row") K X 26 3 rfl rfl (k := 1) (by omega) (by decide) (r := a 29) rfl dX11_lays_76 ?_
                  refine k_getN K X 29 rfl fg_X11_240 (v := .ref (a 30)) rfl dX11_lays_77 ?_
                  refine lv_iload hx hb dX11_lays_80 (lv_at hl 0 rfl) ?_
                  refine k_laldN K X 30 rfl (k := i) (by omega) (by decide) dX11_lays_82 (v := rn 1 i) rfl ?_
                  refine lv_lstore (lv' := [(5, .long (rn 1 i)), (4, .int (nI i)), (3, .int (nI w)), (0, .ref (a 0)), (1, .int 1), (2, .int (nI p))]) hx hb dX11_lays_83 hl (by decide) rfl (fun ls hl => ?_)
                  refine lv_lload hx hb dX11_lays_85 (lv_at hl 0 rfl) ?_
                  refine lv_lconst (v := 0) hx hb dX11_lays_87 (by decide) ?_
                  refine W.lcmp hx hb dX11_lays_88 ?_
                  refine k_lc_lt (x := rn 1 i) (y := 0) hx hb 121 dX11_lays_89 (by decide) (fun c89 => ?_) (fun c89 => ?_)
                  · refine lv_iinc (v := nI (i + 1)) (lv' := [(4, .int (nI (i + 1))), (5, .long (rn 1 i)), (3, .int (nI w)), (0, .ref (a 0)), (1, .int 1), (2, .int (nI p))]) hx hb dX11_lays_121 hl (k := 1) rfl (nI_add i 1) (by decide) rfl (fun ls hl => ?_)
                    refine lv_goto (tgt := 50) hx hb dX11_lays_124 (by decide) ?_
                    exact ih50 (i + 1) m w f3 (by omega) (by omega) (by rw [← hR, laL, inG_lo c89]; rfl) _ (lv_sub hl [0, 2, 3, 4, 5] rfl) _ _ X
                  · refine lv_lload hx hb dX11_lays_92 (lv_at hl 0 rfl) ?_
                    refine lv_ldc2 (v := 5) hx hb K.2.2.2.1 (K.2.2.2.2.1 _ (Mw_at 806 (by decide +kernel) (by decide +kernel))) dX11_lays_94 ?_
                    refine W.lcmp hx hb dX11_lays_97 ?_
                    refine k_lc_gt (x := rn 1 i) (y := 5) hx hb 121 dX11_lays_98 (by decide) (fun c98 => ?_) (fun c98 => ?_)
                    · refine lv_iinc (v := nI (i + 1)) (lv' := [(4, .int (nI (i + 1))), (5, .long (rn 1 i)), (3, .int (nI w)), (0, .ref (a 0)), (1, .int 1), (2, .int (nI p))]) hx hb dX11_lays_121 hl (k := 1) rfl (nI_add i 1) (by decide) rfl (fun ls hl => ?_)
                      refine lv_goto (tgt := 50) hx hb dX11_lays_124 (by decide) ?_
                      exact ih50 (i + 1) m w f3 (by omega) (by omega) (by rw [← hR, laL, inG_hi c98]; rfl) _ (lv_sub hl [0, 2, 3, 4, 5] rfl) _ _ X
                    · refine lv_aload_n hx hb dX11_lays_101 rfl (lv_at hl 3 rfl) ?_
                      refine k_get K X 0 rfl fg_X11_30 (v := .ref (a 1)) rfl dX11_lays_102 ?_
                      refine k_getN K X 1 rfl fg_X11_165 (v := .ref (a 7)) rfl dX11_lays_105 ?_
                      refine lv_iload_n hx hb dX11_lays_108 rfl (lv_at hl 5 rfl) ?_
                      refine lv_iload hx hb dX11_lays_109 (lv_at hl 1 rfl) ?_
                      refine k_callS K X gs_X11_168 (As := [.int (nI p), .int (nI i)]) (c_X6_wish l E p i) [] rfl (by decide +kernel) (fun _ => rfl) (by decide) rfl hl.1 (rest := [.ref (a 7)]) rfl (Nat.le_of_ble_eq_true rfl) dX11_lays_111 (st1 := fun _ => [.int (nI (10 * p + i)), .ref (a 7)]) (fun _ => rfl) (fun _ H locs _ X => ?_)
                      have X : Wd E _ _ (clsW E a f3 g h ik one wo tp tl tk ts te tn rb rz rn td) _ _ := X
                      refine lv_lload hx hb dX11_lays_114 (lv_at hl 0 rfl) ?_
                      refine lv_l2i (v := (rn 1 i).toInt32) hx hb dX11_lays_116 rfl ?_
                      refine k_iastN K X 7 rfl (k := 10 * p + i) (x := (rn 1 i).toInt32) (by omega) (by decide) dX11_lays_117 (fun H locs X => ?_)
                      have X : Wd E _ _ (clsW E a (up2 f3 6 (10 * p + i) ((rn 1 i).toInt32)) g h ik one wo tp tl tk ts te tn rb rz rn td) _ _ := X
                      refine lv_iinc (v := nI (w + 1)) (lv' := [(3, .int (nI (w + 1))), (5, .long (rn 1 i)), (4, .int (nI i)), (0, .ref (a 0)), (1, .int 1), (2, .int (nI p))]) hx hb dX11_lays_118 hl (k := 2) rfl (nI_add w 1) (by decide) rfl (fun ls hl => ?_)
                      refine lv_iinc (v := nI (i + 1)) (lv' := [(4, .int (nI (i + 1))), (3, .int (nI (w + 1))), (5, .long (rn 1 i)), (0, .ref (a 0)), (1, .int 1), (2, .int (nI p))]) hx hb dX11_lays_121 hl (k := 2) rfl (nI_add i 1) (by decide) rfl (fun ls hl => ?_)
                      refine lv_goto (tgt := 50) hx hb dX11_lays_124 (by decide) ?_
                      exact ih50 (i + 1) m (w + 1) (up2 f3 6 (10 * p + i) ((rn 1 i).toInt32)) (by omega) (by omega) (by rw [← hR, laL, inG_in c89 c98]; rfl) _ (lv_sub hl [0, 1, 3, 4, 5] rfl) _ _ X
          exact lp50 ((min (zR rz 1) 10) + 1) 0 (min (zR rz 1) 10) 0 f (by omega) (by omega) (rfl) _ hl _ _ X
        · have hy0 : isP f y = false := by simpa using c36
          refine lv_aload_n hx hb dX11_lays_39 rfl (lv_at hl 0 rfl) ?_
          refine lv_iconst (v := 0) hx hb dX11_lays_40 (by decide) ?_
          refine k_callV K X gv_X11_84 (As := [.int 0]) (c_X11_finding l E a f g h ik one wo tp tl tk ts te tn rb rz rn td 0 (by decide)) [0, 1, 2, 3, 4, 5, 6, 7, 8, 9, 10, 11, 12, 13, 14, 15, 16, 17, 18, 19, 20, 21, 22, 23, 24, 25, 26, 27, 28, 29, 30, 31, 32, 33, 34, 35, 36, 37, 38, 39, 40, 41, 42] clsW_idC (by decide +kernel) (fun _ => clsW_fst) 0 11 rfl rfl (by decide) rfl hl.1 (rest := []) rfl (Nat.le_of_ble_eq_true rfl) dX11_lays_41 (st1 := fun _ => [.int (fnd 0)]) (fun _ => rfl) (fun _ H locs _ X => ?_)
          have X : Wd E _ _ (clsW E a f g h ik one wo tp tl tk ts te tn rb rz rn (fdU td 0)) _ _ := X.eq clsW_idP
          exact k_topi (x' := (oLays rb rz rn f td (nI 1) y).1) (by simp [oLays, bad3, hx0, ek, c22, hy0]) (fin () 44 _ _ _ trivial (X.eq (by simp [oLays, bad3, hx0, ek, c22, hy0])) dX11_lays_44)
      · refine lv_aload_n hx hb dX11_lays_25 rfl (lv_at hl 0 rfl) ?_
        refine lv_iconst (v := 5) hx hb dX11_lays_26 (by decide) ?_
        refine k_callV K X gv_X11_84 (As := [.int 5]) (c_X11_finding l E a f g h ik one wo tp tl tk ts te tn rb rz rn td 5 (by decide)) [0, 1, 2, 3, 4, 5, 6, 7, 8, 9, 10, 11, 12, 13, 14, 15, 16, 17, 18, 19, 20, 21, 22, 23, 24, 25, 26, 27, 28, 29, 30, 31, 32, 33, 34, 35, 36, 37, 38, 39, 40, 41, 42] clsW_idC (by decide +kernel) (fun _ => clsW_fst) 0 11 rfl rfl (by decide) rfl hl.1 (rest := []) rfl (Nat.le_of_ble_eq_true rfl) dX11_lays_27 (st1 := fun _ => [.int (fnd 5)]) (fun _ => rfl) (fun _ H locs _ X => ?_)
        have X : Wd E _ _ (clsW E a f g h ik one wo tp tl tk ts te tn rb rz rn (fdU td 5)) _ _ := X.eq clsW_idP
        exact k_topi (x' := (oLays rb rz rn f td (nI 1) y).1) (by simp [oLays, bad3, hx0, ek, c22]) (fin () 30 _ _ _ trivial (X.eq (by simp [oLays, bad3, hx0, ek, c22])) dX11_lays_30)
    · have hz := (J 2 (by decide)).2
      refine lv_iload_n hx hb dX11_lays_17 rfl (lv_at hl 1 rfl) ?_
      refine k_aaldN (C := "SlipWall$Row") K X 26 3 rfl rfl (k := 2) (by omega) (by decide) (r := a 31) rfl dX11_lays_18 ?_
      refine k_callV K X gv_X11_236 (As := []) (c_X7_isMissing l E (fun j => a (31 + j)) (rb 2) (rz 2) (rn 2)) [31, 32] clsW_s16C (by decide +kernel) (fun _ => rowW_fst) 0 7 rfl rfl (by decide) rfl hl.1 (rest := []) rfl (Nat.le_of_ble_eq_true rfl) dX11_lays_19 (st1 := fun _ => [.int (b2i (decide ((rb 2) = 0)))]) (fun _ => rfl) (fun _ H locs _ X => ?_)
      have X : Wd E _ _ (clsW E a f g h ik one wo tp tl tk ts te tn rb rz rn td) _ _ := X.eq clsW_s16P
      refine k_ifeqB (B := (decide ((rb 2) = 0))) hx hb 31 dX11_lays_22 (by decide) (fun c22 => ?_) (fun c22 => ?_)
      · refine lv_aload_n hx hb dX11_lays_31 rfl (lv_at hl 0 rfl) ?_
        refine lv_iload_n hx hb dX11_lays_32 rfl (lv_at hl 2 rfl) ?_
        refine k_callV K X gv_X11_147 (As := [.int y]) (c_X11_noPerson l E a f g h ik one wo tp tl tk ts te tn rb rz rn td y) [0, 1, 2, 3, 4, 5, 6, 7, 8, 9, 10, 11, 12, 13, 14, 15, 16, 17, 18, 19, 20, 21, 22, 23, 24, 25, 26, 27, 28, 29, 30, 31, 32, 33, 34, 35, 36, 37, 38, 39, 40, 41, 42] clsW_idC (by decide +kernel) (fun _ => clsW_fst) 0 11 rfl rfl (by decide) rfl hl.1 (rest := []) rfl (Nat.le_of_ble_eq_true rfl) dX11_lays_33 (st1 := fun _ => [.int (b2i (!isP f y))]) (fun _ => rfl) (fun _ H locs _ X => ?_)
        have X : Wd E _ _ (clsW E a f g h ik one wo tp tl tk ts te tn rb rz rn td) _ _ := X.eq clsW_idP
        refine k_ifeqB (B := (!isP f y)) hx hb 45 dX11_lays_36 (by decide) (fun c36 => ?_) (fun c36 => ?_)
        · have hy0 : isP f y = true := by simpa using c36
          obtain ⟨p, hp, rfl⟩ := isP_nat I hy0
          have ep : (nI p).toNatClampNeg = p := nI_clamp (by omega)
          refine lv_iconst (v := 0) hx hb dX11_lays_45 (by decide) ?_
          refine lv_istore_n (lv' := [(3, .int 0), (0, .ref (a 0)), (1, .int 2), (2, .int (nI p))]) hx hb dX11_lays_46 rfl hl (by decide) rfl (fun ls hl => ?_)
          refine lv_iconst (v := 0) hx hb dX11_lays_47 (by decide) ?_
          refine lv_istore (lv' := [(4, .int 0), (3, .int 0), (0, .ref (a 0)), (1, .int 2), (2, .int (nI p))]) hx hb dX11_lays_48 hl (by decide) rfl (fun ls hl => ?_)
          have lp50 : ∀ (fu : Nat) (i : Nat) (m : Nat) (w : Nat) (f3 : St) (hfu : m < fu) (hin : i + m = min (zR rz 2) 10) (hR : laL (rn 2) p m i w f3 = laL (rn 2) p (min (zR rz 2) 10) 0 0 f) (ls : Array Slot) (hl : lv_has ls 7 [(4, .int (nI i)), (3, .int (nI w)), (0, .ref (a 0)), (1, .int 2), (2, .int (nI p))]) (H : Heap) (locs : List Loc) (X : Wd E (inW (clsW E a f g h ik one wo tp tl tk ts te tn rb rz rn td)) s0.heap (clsW E a f3 g h ik one wo tp tl tk ts te tn rb rz rn td) H locs), W pg l ev (rmK 2 43) s0 mm ([.ref (a 0), .int (nI 2), .int (nI p)] : List Value).toArray below meth cd H locs 0 0 Q (F0 mm 50 ls []) := by
            intro fu
            induction fu with
            | zero => intro i m w f3 hfu; exact absurd hfu (Nat.not_lt_zero _)
            | succ fu ih50 =>
              intro i m w f3 hfu hin hR ls hl H locs X
              refine lv_iload hx hb dX11_lays_50 (lv_at hl 0 rfl) ?_
              refine lv_aload_n hx hb dX11_lays_52 rfl (lv_at hl 2 rfl) ?_
              refine k_get K X 0 rfl fg_X11_71 (v := .ref (a 26)) rfl dX11_lays_53 ?_
              refine lv_iload_n hx hb dX11_lays_56 rfl (lv_at hl 3 rfl) ?_
              refine k_aaldN (C := "SlipWall$Row") K X 26 3 rfl rfl (k := 2) (by omega) (by decide) (r := a 31) rfl dX11_lays_57 ?_
              refine k_getN K X 31 rfl fg_X11_233 (v := .int (rz 2)) rfl dX11_lays_58 ?_
              refine k_topi ((J 2 (by decide)).1) ?_
              refine kN_ge (x := i) (y := zR rz 2) hx hb 127 dX11_lays_61 (by decide) (by omega) (by omega) (fun c61 => ?_) (fun c61 => ?_)
              · obtain rfl : m = 0 := by omega
                refine lv_iload_n hx hb dX11_lays_127 rfl (lv_at hl 1 rfl) ?_
                exact k_topi (x' := (oLays rb rz rn f td (nI 2) (nI p)).1) (by rw [oLays, hx0, cond_true, ek, c22, cond_false, hy0, cond_true, ep, ← hR]; rfl) (fin () 128 _ _ _ trivial (X.eq (by rw [oLays, hx0, cond_true, ek, c22, cond_false, hy0, cond_true, ep, ← hR]; rfl)) dX11_lays_128)
              · refine lv_iload hx hb dX11_lays_64 (lv_at hl 0 rfl) ?_
                refine lv_bipush (v := 10) hx hb dX11_lays_66 (by decide) ?_
                refine kN_ge (x := i) (y := 10) hx hb 127 dX11_lays_68 (by decide) (by omega) (by omega) (fun c68 => ?_) (fun c68 => ?_)
                · obtain rfl : m = 0 := by omega
                  refine lv_iload_n hx hb dX11_lays_127 rfl (lv_at hl 1 rfl) ?_
                  exact k_topi (x' := (oLays rb rz rn f td (nI 2) (nI p)).1) (by rw [oLays, hx0, cond_true, ek, c22, cond_false, hy0, cond_true, ep, ← hR]; rfl) (fin () 128 _ _ _ trivial (X.eq (by rw [oLays, hx0, cond_true, ek, c22, cond_false, hy0, cond_true, ep, ← hR]; rfl)) dX11_lays_128)
                · obtain ⟨m, rfl⟩ : ∃ z, m = z + 1 := ⟨m - 1, by omega⟩
                  refine lv_aload_n hx hb dX11_lays_71 rfl (lv_at hl 2 rfl) ?_
                  refine k_get K X 0 rfl fg_X11_71 (v := .ref (a 26)) rfl dX11_lays_72 ?_
                  refine lv_iload_n hx hb dX11_lays_75 rfl (lv_at hl 3 rfl) ?_
                  refine k_aaldN (C := "SlipWall$Row") K X 26 3 rfl rfl (k := 2) (by omega) (by decide) (r := a 31) rfl dX11_lays_76 ?_
                  refine k_getN K X 31 rfl fg_X11_240 (v := .ref (a 32)) rfl dX11_lays_77 ?_
                  refine lv_iload hx hb dX11_lays_80 (lv_at hl 0 rfl) ?_
                  refine k_laldN K X 32 rfl (k := i) (by omega) (by decide) dX11_lays_82 (v := rn 2 i) rfl ?_
                  refine lv_lstore (lv' := [(5, .long (rn 2 i)), (4, .int (nI i)), (3, .int (nI w)), (0, .ref (a 0)), (1, .int 2), (2, .int (nI p))]) hx hb dX11_lays_83 hl (by decide) rfl (fun ls hl => ?_)
                  refine lv_lload hx hb dX11_lays_85 (lv_at hl 0 rfl) ?_
                  refine lv_lconst (v := 0) hx hb dX11_lays_87 (by decide) ?_
                  refine W.lcmp hx hb dX11_lays_88 ?_
                  refine k_lc_lt (x := rn 2 i) (y := 0) hx hb 121 dX11_lays_89 (by decide) (fun c89 => ?_) (fun c89 => ?_)
                  · refine lv_iinc (v := nI (i + 1)) (lv' := [(4, .int (nI (i + 1))), (5, .long (rn 2 i)), (3, .int (nI w)), (0, .ref (a 0)), (1, .int 2), (2, .int (nI p))]) hx hb dX11_lays_121 hl (k := 1) rfl (nI_add i 1) (by decide) rfl (fun ls hl => ?_)
                    refine lv_goto (tgt := 50) hx hb dX11_lays_124 (by decide) ?_
                    exact ih50 (i + 1) m w f3 (by omega) (by omega) (by rw [← hR, laL, inG_lo c89]; rfl) _ (lv_sub hl [0, 2, 3, 4, 5] rfl) _ _ X
                  · refine lv_lload hx hb dX11_lays_92 (lv_at hl 0 rfl) ?_
                    refine lv_ldc2 (v := 5) hx hb K.2.2.2.1 (K.2.2.2.2.1 _ (Mw_at 806 (by decide +kernel) (by decide +kernel))) dX11_lays_94 ?_
                    refine W.lcmp hx hb dX11_lays_97 ?_
                    refine k_lc_gt (x := rn 2 i) (y := 5) hx hb 121 dX11_lays_98 (by decide) (fun c98 => ?_) (fun c98 => ?_)
                    · refine lv_iinc (v := nI (i + 1)) (lv' := [(4, .int (nI (i + 1))), (5, .long (rn 2 i)), (3, .int (nI w)), (0, .ref (a 0)), (1, .int 2), (2, .int (nI p))]) hx hb dX11_lays_121 hl (k := 1) rfl (nI_add i 1) (by decide) rfl (fun ls hl => ?_)
                      refine lv_goto (tgt := 50) hx hb dX11_lays_124 (by decide) ?_
                      exact ih50 (i + 1) m w f3 (by omega) (by omega) (by rw [← hR, laL, inG_hi c98]; rfl) _ (lv_sub hl [0, 2, 3, 4, 5] rfl) _ _ X
                    · refine lv_aload_n hx hb dX11_lays_101 rfl (lv_at hl 3 rfl) ?_
                      refine k_get K X 0 rfl fg_X11_30 (v := .ref (a 1)) rfl dX11_lays_102 ?_
                      refine k_getN K X 1 rfl fg_X11_165 (v := .ref (a 7)) rfl dX11_lays_105 ?_
                      refine lv_iload_n hx hb dX11_lays_108 rfl (lv_at hl 5 rfl) ?_
                      refine lv_iload hx hb dX11_lays_109 (lv_at hl 1 rfl) ?_
                      refine k_callS K X gs_X11_168 (As := [.int (nI p), .int (nI i)]) (c_X6_wish l E p i) [] rfl (by decide +kernel) (fun _ => rfl) (by decide) rfl hl.1 (rest := [.ref (a 7)]) rfl (Nat.le_of_ble_eq_true rfl) dX11_lays_111 (st1 := fun _ => [.int (nI (10 * p + i)), .ref (a 7)]) (fun _ => rfl) (fun _ H locs _ X => ?_)
                      have X : Wd E _ _ (clsW E a f3 g h ik one wo tp tl tk ts te tn rb rz rn td) _ _ := X
                      refine lv_lload hx hb dX11_lays_114 (lv_at hl 0 rfl) ?_
                      refine lv_l2i (v := (rn 2 i).toInt32) hx hb dX11_lays_116 rfl ?_
                      refine k_iastN K X 7 rfl (k := 10 * p + i) (x := (rn 2 i).toInt32) (by omega) (by decide) dX11_lays_117 (fun H locs X => ?_)
                      have X : Wd E _ _ (clsW E a (up2 f3 6 (10 * p + i) ((rn 2 i).toInt32)) g h ik one wo tp tl tk ts te tn rb rz rn td) _ _ := X
                      refine lv_iinc (v := nI (w + 1)) (lv' := [(3, .int (nI (w + 1))), (5, .long (rn 2 i)), (4, .int (nI i)), (0, .ref (a 0)), (1, .int 2), (2, .int (nI p))]) hx hb dX11_lays_118 hl (k := 2) rfl (nI_add w 1) (by decide) rfl (fun ls hl => ?_)
                      refine lv_iinc (v := nI (i + 1)) (lv' := [(4, .int (nI (i + 1))), (3, .int (nI (w + 1))), (5, .long (rn 2 i)), (0, .ref (a 0)), (1, .int 2), (2, .int (nI p))]) hx hb dX11_lays_121 hl (k := 2) rfl (nI_add i 1) (by decide) rfl (fun ls hl => ?_)
                      refine lv_goto (tgt := 50) hx hb dX11_lays_124 (by decide) ?_
                      exact ih50 (i + 1) m (w + 1) (up2 f3 6 (10 * p + i) ((rn 2 i).toInt32)) (by omega) (by omega) (by rw [← hR, laL, inG_in c89 c98]; rfl) _ (lv_sub hl [0, 1, 3, 4, 5] rfl) _ _ X
          exact lp50 ((min (zR rz 2) 10) + 1) 0 (min (zR rz 2) 10) 0 f (by omega) (by omega) (rfl) _ hl _ _ X
        · have hy0 : isP f y = false := by simpa using c36
          refine lv_aload_n hx hb dX11_lays_39 rfl (lv_at hl 0 rfl) ?_
          refine lv_iconst (v := 0) hx hb dX11_lays_40 (by decide) ?_
          refine k_callV K X gv_X11_84 (As := [.int 0]) (c_X11_finding l E a f g h ik one wo tp tl tk ts te tn rb rz rn td 0 (by decide)) [0, 1, 2, 3, 4, 5, 6, 7, 8, 9, 10, 11, 12, 13, 14, 15, 16, 17, 18, 19, 20, 21, 22, 23, 24, 25, 26, 27, 28, 29, 30, 31, 32, 33, 34, 35, 36, 37, 38, 39, 40, 41, 42] clsW_idC (by decide +kernel) (fun _ => clsW_fst) 0 11 rfl rfl (by decide) rfl hl.1 (rest := []) rfl (Nat.le_of_ble_eq_true rfl) dX11_lays_41 (st1 := fun _ => [.int (fnd 0)]) (fun _ => rfl) (fun _ H locs _ X => ?_)
          have X : Wd E _ _ (clsW E a f g h ik one wo tp tl tk ts te tn rb rz rn (fdU td 0)) _ _ := X.eq clsW_idP
          exact k_topi (x' := (oLays rb rz rn f td (nI 2) y).1) (by simp [oLays, bad3, hx0, ek, c22, hy0]) (fin () 44 _ _ _ trivial (X.eq (by simp [oLays, bad3, hx0, ek, c22, hy0])) dX11_lays_44)
      · refine lv_aload_n hx hb dX11_lays_25 rfl (lv_at hl 0 rfl) ?_
        refine lv_iconst (v := 5) hx hb dX11_lays_26 (by decide) ?_
        refine k_callV K X gv_X11_84 (As := [.int 5]) (c_X11_finding l E a f g h ik one wo tp tl tk ts te tn rb rz rn td 5 (by decide)) [0, 1, 2, 3, 4, 5, 6, 7, 8, 9, 10, 11, 12, 13, 14, 15, 16, 17, 18, 19, 20, 21, 22, 23, 24, 25, 26, 27, 28, 29, 30, 31, 32, 33, 34, 35, 36, 37, 38, 39, 40, 41, 42] clsW_idC (by decide +kernel) (fun _ => clsW_fst) 0 11 rfl rfl (by decide) rfl hl.1 (rest := []) rfl (Nat.le_of_ble_eq_true rfl) dX11_lays_27 (st1 := fun _ => [.int (fnd 5)]) (fun _ => rfl) (fun _ H locs _ X => ?_)
        have X : Wd E _ _ (clsW E a f g h ik one wo tp tl tk ts te tn rb rz rn (fdU td 5)) _ _ := X.eq clsW_idP
        exact k_topi (x' := (oLays rb rz rn f td (nI 2) y).1) (by simp [oLays, bad3, hx0, ek, c22]) (fin () 30 _ _ _ trivial (X.eq (by simp [oLays, bad3, hx0, ek, c22])) dX11_lays_30)
    · have hz := (J 3 (by decide)).2
      refine lv_iload_n hx hb dX11_lays_17 rfl (lv_at hl 1 rfl) ?_
      refine k_aaldN (C := "SlipWall$Row") K X 26 3 rfl rfl (k := 3) (by omega) (by decide) (r := a 33) rfl dX11_lays_18 ?_
      refine k_callV K X gv_X11_236 (As := []) (c_X7_isMissing l E (fun j => a (33 + j)) (rb 3) (rz 3) (rn 3)) [33, 34] clsW_s17C (by decide +kernel) (fun _ => rowW_fst) 0 7 rfl rfl (by decide) rfl hl.1 (rest := []) rfl (Nat.le_of_ble_eq_true rfl) dX11_lays_19 (st1 := fun _ => [.int (b2i (decide ((rb 3) = 0)))]) (fun _ => rfl) (fun _ H locs _ X => ?_)
      have X : Wd E _ _ (clsW E a f g h ik one wo tp tl tk ts te tn rb rz rn td) _ _ := X.eq clsW_s17P
      refine k_ifeqB (B := (decide ((rb 3) = 0))) hx hb 31 dX11_lays_22 (by decide) (fun c22 => ?_) (fun c22 => ?_)
      · refine lv_aload_n hx hb dX11_lays_31 rfl (lv_at hl 0 rfl) ?_
        refine lv_iload_n hx hb dX11_lays_32 rfl (lv_at hl 2 rfl) ?_
        refine k_callV K X gv_X11_147 (As := [.int y]) (c_X11_noPerson l E a f g h ik one wo tp tl tk ts te tn rb rz rn td y) [0, 1, 2, 3, 4, 5, 6, 7, 8, 9, 10, 11, 12, 13, 14, 15, 16, 17, 18, 19, 20, 21, 22, 23, 24, 25, 26, 27, 28, 29, 30, 31, 32, 33, 34, 35, 36, 37, 38, 39, 40, 41, 42] clsW_idC (by decide +kernel) (fun _ => clsW_fst) 0 11 rfl rfl (by decide) rfl hl.1 (rest := []) rfl (Nat.le_of_ble_eq_true rfl) dX11_lays_33 (st1 := fun _ => [.int (b2i (!isP f y))]) (fun _ => rfl) (fun _ H locs _ X => ?_)
        have X : Wd E _ _ (clsW E a f g h ik one wo tp tl tk ts te tn rb rz rn td) _ _ := X.eq clsW_idP
        refine k_ifeqB (B := (!isP f y)) hx hb 45 dX11_lays_36 (by decide) (fun c36 => ?_) (fun c36 => ?_)
        · have hy0 : isP f y = true := by simpa using c36
          obtain ⟨p, hp, rfl⟩ := isP_nat I hy0
          have ep : (nI p).toNatClampNeg = p := nI_clamp (by omega)
          refine lv_iconst (v := 0) hx hb dX11_lays_45 (by decide) ?_
          refine lv_istore_n (lv' := [(3, .int 0), (0, .ref (a 0)), (1, .int 3), (2, .int (nI p))]) hx hb dX11_lays_46 rfl hl (by decide) rfl (fun ls hl => ?_)
          refine lv_iconst (v := 0) hx hb dX11_lays_47 (by decide) ?_
          refine lv_istore (lv' := [(4, .int 0), (3, .int 0), (0, .ref (a 0)), (1, .int 3), (2, .int (nI p))]) hx hb dX11_lays_48 hl (by decide) rfl (fun ls hl => ?_)
          have lp50 : ∀ (fu : Nat) (i : Nat) (m : Nat) (w : Nat) (f3 : St) (hfu : m < fu) (hin : i + m = min (zR rz 3) 10) (hR : laL (rn 3) p m i w f3 = laL (rn 3) p (min (zR rz 3) 10) 0 0 f) (ls : Array Slot) (hl : lv_has ls 7 [(4, .int (nI i)), (3, .int (nI w)), (0, .ref (a 0)), (1, .int 3), (2, .int (nI p))]) (H : Heap) (locs : List Loc) (X : Wd E (inW (clsW E a f g h ik one wo tp tl tk ts te tn rb rz rn td)) s0.heap (clsW E a f3 g h ik one wo tp tl tk ts te tn rb rz rn td) H locs), W pg l ev (rmK 2 43) s0 mm ([.ref (a 0), .int (nI 3), .int (nI p)] : List Value).toArray below meth cd H locs 0 0 Q (F0 mm 50 ls []) := by
            intro fu
            induction fu with
            | zero => intro i m w f3 hfu; exact absurd hfu (Nat.not_lt_zero _)
            | succ fu ih50 =>
              intro i m w f3 hfu hin hR ls hl H locs X
              refine lv_iload hx hb dX11_lays_50 (lv_at hl 0 rfl) ?_
              refine lv_aload_n hx hb dX11_lays_52 rfl (lv_at hl 2 rfl) ?_
              refine k_get K X 0 rfl fg_X11_71 (v := .ref (a 26)) rfl dX11_lays_53 ?_
              refine lv_iload_n hx hb dX11_lays_56 rfl (lv_at hl 3 rfl) ?_
              refine k_aaldN (C := "SlipWall$Row") K X 26 3 rfl rfl (k := 3) (by omega) (by decide) (r := a 33) rfl dX11_lays_57 ?_
              refine k_getN K X 33 rfl fg_X11_233 (v := .int (rz 3)) rfl dX11_lays_58 ?_
              refine k_topi ((J 3 (by decide)).1) ?_
              refine kN_ge (x := i) (y := zR rz 3) hx hb 127 dX11_lays_61 (by decide) (by omega) (by omega) (fun c61 => ?_) (fun c61 => ?_)
              · obtain rfl : m = 0 := by omega
                refine lv_iload_n hx hb dX11_lays_127 rfl (lv_at hl 1 rfl) ?_
                exact k_topi (x' := (oLays rb rz rn f td (nI 3) (nI p)).1) (by rw [oLays, hx0, cond_true, ek, c22, cond_false, hy0, cond_true, ep, ← hR]; rfl) (fin () 128 _ _ _ trivial (X.eq (by rw [oLays, hx0, cond_true, ek, c22, cond_false, hy0, cond_true, ep, ← hR]; rfl)) dX11_lays_128)
              · refine lv_iload hx hb dX11_lays_64 (lv_at hl 0 rfl) ?_
                refine lv_bipush (v := 10) hx hb dX11_lays_66 (by decide) ?_
                refine kN_ge (x := i) (y := 10) hx hb 127 dX11_lays_68 (by decide) (by omega) (by omega) (fun c68 => ?_) (fun c68 => ?_)
                · obtain rfl : m = 0 := by omega
                  refine lv_iload_n hx hb dX11_lays_127 rfl (lv_at hl 1 rfl) ?_
                  exact k_topi (x' := (oLays rb rz rn f td (nI 3) (nI p)).1) (by rw [oLays, hx0, cond_true, ek, c22, cond_false, hy0, cond_true, ep, ← hR]; rfl) (fin () 128 _ _ _ trivial (X.eq (by rw [oLays, hx0, cond_true, ek, c22, cond_false, hy0, cond_true, ep, ← hR]; rfl)) dX11_lays_128)
                · obtain ⟨m, rfl⟩ : ∃ z, m = z + 1 := ⟨m - 1, by omega⟩
                  refine lv_aload_n hx hb dX11_lays_71 rfl (lv_at hl 2 rfl) ?_
                  refine k_get K X 0 rfl fg_X11_71 (v := .ref (a 26)) rfl dX11_lays_72 ?_
                  refine lv_iload_n hx hb dX11_lays_75 rfl (lv_at hl 3 rfl) ?_
                  refine k_aaldN (C := "SlipWall$Row") K X 26 3 rfl rfl (k := 3) (by omega) (by decide) (r := a 33) rfl dX11_lays_76 ?_
                  refine k_getN K X 33 rfl fg_X11_240 (v := .ref (a 34)) rfl dX11_lays_77 ?_
                  refine lv_iload hx hb dX11_lays_80 (lv_at hl 0 rfl) ?_
                  refine k_laldN K X 34 rfl (k := i) (by omega) (by decide) dX11_lays_82 (v := rn 3 i) rfl ?_
                  refine lv_lstore (lv' := [(5, .long (rn 3 i)), (4, .int (nI i)), (3, .int (nI w)), (0, .ref (a 0)), (1, .int 3), (2, .int (nI p))]) hx hb dX11_lays_83 hl (by decide) rfl (fun ls hl => ?_)
                  refine lv_lload hx hb dX11_lays_85 (lv_at hl 0 rfl) ?_
                  refine lv_lconst (v := 0) hx hb dX11_lays_87 (by decide) ?_
                  refine W.lcmp hx hb dX11_lays_88 ?_
                  refine k_lc_lt (x := rn 3 i) (y := 0) hx hb 121 dX11_lays_89 (by decide) (fun c89 => ?_) (fun c89 => ?_)
                  · refine lv_iinc (v := nI (i + 1)) (lv' := [(4, .int (nI (i + 1))), (5, .long (rn 3 i)), (3, .int (nI w)), (0, .ref (a 0)), (1, .int 3), (2, .int (nI p))]) hx hb dX11_lays_121 hl (k := 1) rfl (nI_add i 1) (by decide) rfl (fun ls hl => ?_)
                    refine lv_goto (tgt := 50) hx hb dX11_lays_124 (by decide) ?_
                    exact ih50 (i + 1) m w f3 (by omega) (by omega) (by rw [← hR, laL, inG_lo c89]; rfl) _ (lv_sub hl [0, 2, 3, 4, 5] rfl) _ _ X
                  · refine lv_lload hx hb dX11_lays_92 (lv_at hl 0 rfl) ?_
                    refine lv_ldc2 (v := 5) hx hb K.2.2.2.1 (K.2.2.2.2.1 _ (Mw_at 806 (by decide +kernel) (by decide +kernel))) dX11_lays_94 ?_
                    refine W.lcmp hx hb dX11_lays_97 ?_
                    refine k_lc_gt (x := rn 3 i) (y := 5) hx hb 121 dX11_lays_98 (by decide) (fun c98 => ?_) (fun c98 => ?_)
                    · refine lv_iinc (v := nI (i + 1)) (lv' := [(4, .int (nI (i + 1))), (5, .long (rn 3 i)), (3, .int (nI w)), (0, .ref (a 0)), (1, .int 3), (2, .int (nI p))]) hx hb dX11_lays_121 hl (k := 1) rfl (nI_add i 1) (by decide) rfl (fun ls hl => ?_)
                      refine lv_goto (tgt := 50) hx hb dX11_lays_124 (by decide) ?_
                      exact ih50 (i + 1) m w f3 (by omega) (by omega) (by rw [← hR, laL, inG_hi c98]; rfl) _ (lv_sub hl [0, 2, 3, 4, 5] rfl) _ _ X
                    · refine lv_aload_n hx hb dX11_lays_101 rfl (lv_at hl 3 rfl) ?_
                      refine k_get K X 0 rfl fg_X11_30 (v := .ref (a 1)) rfl dX11_lays_102 ?_
                      refine k_getN K X 1 rfl fg_X11_165 (v := .ref (a 7)) rfl dX11_lays_105 ?_
                      refine lv_iload_n hx hb dX11_lays_108 rfl (lv_at hl 5 rfl) ?_
                      refine lv_iload hx hb dX11_lays_109 (lv_at hl 1 rfl) ?_
                      refine k_callS K X gs_X11_168 (As := [.int (nI p), .int (nI i)]) (c_X6_wish l E p i) [] rfl (by decide +kernel) (fun _ => rfl) (by decide) rfl hl.1 (rest := [.ref (a 7)]) rfl (Nat.le_of_ble_eq_true rfl) dX11_lays_111 (st1 := fun _ => [.int (nI (10 * p + i)), .ref (a 7)]) (fun _ => rfl) (fun _ H locs _ X => ?_)
                      have X : Wd E _ _ (clsW E a f3 g h ik one wo tp tl tk ts te tn rb rz rn td) _ _ := X
                      refine lv_lload hx hb dX11_lays_114 (lv_at hl 0 rfl) ?_
                      refine lv_l2i (v := (rn 3 i).toInt32) hx hb dX11_lays_116 rfl ?_
                      refine k_iastN K X 7 rfl (k := 10 * p + i) (x := (rn 3 i).toInt32) (by omega) (by decide) dX11_lays_117 (fun H locs X => ?_)
                      have X : Wd E _ _ (clsW E a (up2 f3 6 (10 * p + i) ((rn 3 i).toInt32)) g h ik one wo tp tl tk ts te tn rb rz rn td) _ _ := X
                      refine lv_iinc (v := nI (w + 1)) (lv' := [(3, .int (nI (w + 1))), (5, .long (rn 3 i)), (4, .int (nI i)), (0, .ref (a 0)), (1, .int 3), (2, .int (nI p))]) hx hb dX11_lays_118 hl (k := 2) rfl (nI_add w 1) (by decide) rfl (fun ls hl => ?_)
                      refine lv_iinc (v := nI (i + 1)) (lv' := [(4, .int (nI (i + 1))), (3, .int (nI (w + 1))), (5, .long (rn 3 i)), (0, .ref (a 0)), (1, .int 3), (2, .int (nI p))]) hx hb dX11_lays_121 hl (k := 2) rfl (nI_add i 1) (by decide) rfl (fun ls hl => ?_)
                      refine lv_goto (tgt := 50) hx hb dX11_lays_124 (by decide) ?_
                      exact ih50 (i + 1) m (w + 1) (up2 f3 6 (10 * p + i) ((rn 3 i).toInt32)) (by omega) (by omega) (by rw [← hR, laL, inG_in c89 c98]; rfl) _ (lv_sub hl [0, 1, 3, 4, 5] rfl) _ _ X
          exact lp50 ((min (zR rz 3) 10) + 1) 0 (min (zR rz 3) 10) 0 f (by omega) (by omega) (rfl) _ hl _ _ X
        · have hy0 : isP f y = false := by simpa using c36
          refine lv_aload_n hx hb dX11_lays_39 rfl (lv_at hl 0 rfl) ?_
          refine lv_iconst (v := 0) hx hb dX11_lays_40 (by decide) ?_
          refine k_callV K X gv_X11_84 (As := [.int 0]) (c_X11_finding l E a f g h ik one wo tp tl tk ts te tn rb rz rn td 0 (by decide)) [0, 1, 2, 3, 4, 5, 6, 7, 8, 9, 10, 11, 12, 13, 14, 15, 16, 17, 18, 19, 20, 21, 22, 23, 24, 25, 26, 27, 28, 29, 30, 31, 32, 33, 34, 35, 36, 37, 38, 39, 40, 41, 42] clsW_idC (by decide +kernel) (fun _ => clsW_fst) 0 11 rfl rfl (by decide) rfl hl.1 (rest := []) rfl (Nat.le_of_ble_eq_true rfl) dX11_lays_41 (st1 := fun _ => [.int (fnd 0)]) (fun _ => rfl) (fun _ H locs _ X => ?_)
          have X : Wd E _ _ (clsW E a f g h ik one wo tp tl tk ts te tn rb rz rn (fdU td 0)) _ _ := X.eq clsW_idP
          exact k_topi (x' := (oLays rb rz rn f td (nI 3) y).1) (by simp [oLays, bad3, hx0, ek, c22, hy0]) (fin () 44 _ _ _ trivial (X.eq (by simp [oLays, bad3, hx0, ek, c22, hy0])) dX11_lays_44)
      · refine lv_aload_n hx hb dX11_lays_25 rfl (lv_at hl 0 rfl) ?_
        refine lv_iconst (v := 5) hx hb dX11_lays_26 (by decide) ?_
        refine k_callV K X gv_X11_84 (As := [.int 5]) (c_X11_finding l E a f g h ik one wo tp tl tk ts te tn rb rz rn td 5 (by decide)) [0, 1, 2, 3, 4, 5, 6, 7, 8, 9, 10, 11, 12, 13, 14, 15, 16, 17, 18, 19, 20, 21, 22, 23, 24, 25, 26, 27, 28, 29, 30, 31, 32, 33, 34, 35, 36, 37, 38, 39, 40, 41, 42] clsW_idC (by decide +kernel) (fun _ => clsW_fst) 0 11 rfl rfl (by decide) rfl hl.1 (rest := []) rfl (Nat.le_of_ble_eq_true rfl) dX11_lays_27 (st1 := fun _ => [.int (fnd 5)]) (fun _ => rfl) (fun _ H locs _ X => ?_)
        have X : Wd E _ _ (clsW E a f g h ik one wo tp tl tk ts te tn rb rz rn (fdU td 5)) _ _ := X.eq clsW_idP
        exact k_topi (x' := (oLays rb rz rn f td (nI 3) y).1) (by simp [oLays, bad3, hx0, ek, c22]) (fin () 30 _ _ _ trivial (X.eq (by simp [oLays, bad3, hx0, ek, c22])) dX11_lays_30)
  · have hx0 : inR x 0 3 = false := by simpa using c4
    refine lv_aload_n hx hb dX11_lays_7 rfl (lv_at hl 0 rfl) ?_
    refine lv_iconst (v := 0) hx hb dX11_lays_8 (by decide) ?_
    refine k_callV K X gv_X11_84 (As := [.int 0]) (c_X11_finding l E a f g h ik one wo tp tl tk ts te tn rb rz rn td 0 (by decide)) [0, 1, 2, 3, 4, 5, 6, 7, 8, 9, 10, 11, 12, 13, 14, 15, 16, 17, 18, 19, 20, 21, 22, 23, 24, 25, 26, 27, 28, 29, 30, 31, 32, 33, 34, 35, 36, 37, 38, 39, 40, 41, 42] clsW_idC (by decide +kernel) (fun _ => clsW_fst) 0 11 rfl rfl (by decide) rfl hl.1 (rest := []) rfl (Nat.le_of_ble_eq_true rfl) dX11_lays_9 (st1 := fun _ => [.int (fnd 0)]) (fun _ => rfl) (fun _ H locs _ X => ?_)
    have X : Wd E _ _ (clsW E a f g h ik one wo tp tl tk ts te tn rb rz rn (fdU td 0)) _ _ := X.eq clsW_idP
    exact k_topi (x' := (oLays rb rz rn f td x y).1) (by simp [oLays, bad3, hx0]) (fin () 12 _ _ _ trivial (X.eq (by simp [oLays, bad3, hx0])) dX11_lays_12)
set_option maxRecDepth 100000 in
set_option maxHeartbeats 4000000 in
theorem c_X11_book (l : Launch) (E : EE) (a : Nat → Nat) (f : St) (g : St) (h : St) (ik : Int32) (one : Int32) (wo : Int32) (tp : Nat → Int32) (tl : Int32) (tk : Int32) (ts : Int32) (te : Int32) (tn : Int32) (rb : Nat → Int32) (rz : Nat → Int32) (rn : Nat → Nat → Int64) (td : Nat → Int32) (T : Nat) (x : Int32) (y : Int32) (I : Inv T f) (J : InvS rz) (hT : T < 999000) : Kn l yX11_book cX11_book 4 (some .int) 5 118 E (clsW E a f g h ik one wo tp tl tk ts te tn rb rz rn td) [.ref (a 0), .int x, .int y] (S := St) (fun _ => True) (fun _ => (some (.int ((oBook rb rz rn f td x y).1)))) (fun u => (clsW E a f u h ik one wo tp tl tk ts te tn rb rz ((oBook rb rz rn f td x y).2.1) ((oBook rb rz rn f td x y).2.2))) := by
  refine Kn.ofWi (by decide +kernel) (Nat.le_of_ble_eq_true rfl) (fun _ _ => rfl) ?_
  intro pg ev s0 mm below meth cd Q K X fin ls hl
  have hx := K.1
  have hb := K.2.1
  have hs10 := I.s10
  have hp6 := I.p6
  have hl : lv_has ls 4 [(0, .ref (a 0)), (1, .int x), (2, .int y)] := hl
  refine lv_iload_n hx hb dX11_book_0 rfl (lv_at hl 1 rfl) ?_
  refine k_callS K X gs_X11_227 (As := [.int x]) (c_X11_noSheet l E x) [] rfl (by decide +kernel) (fun _ => rfl) (by decide) rfl hl.1 (rest := []) rfl (Nat.le_of_ble_eq_true rfl) dX11_book_1 (st1 := fun _ => [.int (b2i (!inR x 0 3))]) (fun _ => rfl) (fun _ H locs _ X => ?_)
  have X : Wd E _ _ (clsW E a f g h ik one wo tp tl tk ts te tn rb rz rn td) _ _ := X
  refine k_ifeqB (B := (!inR x 0 3)) hx hb 13 dX11_book_4 (by decide) (fun c4 => ?_) (fun c4 => ?_)
  · have hx0 : inR x 0 3 = true := by simpa using c4
    obtain ⟨k, hk, rfl, -⟩ := inR_nat (n := 4) (by decide) (by decide) hx0
    have ek : (nI k).toNatClampNeg = k := nI_clamp (by omega)
    refine lv_aload_n hx hb dX11_book_13 rfl (lv_at hl 0 rfl) ?_
    refine k_get K X 0 rfl fg_X11_71 (v := .ref (a 26)) rfl dX11_book_14 ?_
    rcases (show k = 0 ∨ k = 1 ∨ k = 2 ∨ k = 3 by omega) with rfl | rfl | rfl | rfl
    · have hz := (J 0 (by decide)).2
      refine lv_iload_n hx hb dX11_book_17 rfl (lv_at hl 1 rfl) ?_
      refine k_aaldN (C := "SlipWall$Row") K X 26 3 rfl rfl (k := 0) (by omega) (by decide) (r := a 27) rfl dX11_book_18 ?_
      refine k_callV K X gv_X11_236 (As := []) (c_X7_isMissing l E (fun j => a (27 + j)) (rb 0) (rz 0) (rn 0)) [27, 28] clsW_s14C (by decide +kernel) (fun _ => rowW_fst) 0 7 rfl rfl (by decide) rfl hl.1 (rest := []) rfl (Nat.le_of_ble_eq_true rfl) dX11_book_19 (st1 := fun _ => [.int (b2i (decide ((rb 0) = 0)))]) (fun _ => rfl) (fun _ H locs _ X => ?_)
      have X : Wd E _ _ (clsW E a f g h ik one wo tp tl tk ts te tn rb rz rn td) _ _ := X.eq clsW_s14P
      refine k_ifeqB (B := (decide ((rb 0) = 0))) hx hb 31 dX11_book_22 (by decide) (fun c22 => ?_) (fun c22 => ?_)
      · refine lv_aload_n hx hb dX11_book_31 rfl (lv_at hl 0 rfl) ?_
        refine lv_iload_n hx hb dX11_book_32 rfl (lv_at hl 2 rfl) ?_
        refine k_callV K X gv_X11_99 (As := [.int y]) (c_X11_noSlip l E a f g h ik one wo tp tl tk ts te tn rb rz rn td y) [0, 1, 2, 3, 4, 5, 6, 7, 8, 9, 10, 11, 12, 13, 14, 15, 16, 17, 18, 19, 20, 21, 22, 23, 24, 25, 26, 27, 28, 29, 30, 31, 32, 33, 34, 35, 36, 37, 38, 39, 40, 41, 42] clsW_idC (by decide +kernel) (fun _ => clsW_fst) 0 11 rfl rfl (by decide) rfl hl.1 (rest := []) rfl (Nat.le_of_ble_eq_true rfl) dX11_book_33 (st1 := fun _ => [.int (b2i (!isS f y))]) (fun _ => rfl) (fun _ H locs _ X => ?_)
        have X : Wd E _ _ (clsW E a f g h ik one wo tp tl tk ts te tn rb rz rn td) _ _ := X.eq clsW_idP
        refine k_ifeqB (B := (!isS f y)) hx hb 45 dX11_book_36 (by decide) (fun c36 => ?_) (fun c36 => ?_)
        · have hy0 : isS f y = true := by simpa using c36
          obtain ⟨q, hq, rfl⟩ := isS_nat I hy0
          have eq : (nI q).toNatClampNeg = q := nI_clamp (by omega)
          refine lv_aload_n hx hb dX11_book_45 rfl (lv_at hl 0 rfl) ?_
          refine k_get K X 0 rfl fg_X11_36 (v := .ref (a 8)) rfl dX11_book_46 ?_
          refine lv_aload_n hx hb dX11_book_49 rfl (lv_at hl 0 rfl) ?_
          refine k_get K X 0 rfl fg_X11_30 (v := .ref (a 1)) rfl dX11_book_50 ?_
          refine k_callV K X gv_X11_189 (As := [.ref (a 1)]) (c_X6_copyFrom l E (fun j => a (8 + j)) (fun j => a (1 + j)) (fun j => a (36 + j)) g f) [8, 9, 10, 11, 12, 13, 14, 1, 2, 3, 4, 5, 6, 7] clsW_s8C (by decide +kernel) (fun _ => room2_fst) 0 6 rfl rfl (by decide) rfl hl.1 (rest := []) rfl (Nat.le_of_ble_eq_true rfl) dX11_book_53 (st1 := fun _ => []) (fun _ => rfl) (fun _ H locs _ X => ?_)
          have X : Wd E _ _ (clsW E a f f h ik one wo tp tl tk ts te tn rb rz rn td) _ _ := X.eq clsW_s8P
          refine lv_iconst (v := 0) hx hb dX11_book_56 (by decide) ?_
          refine lv_istore_n (lv' := [(3, .int 0), (0, .ref (a 0)), (1, .int 0), (2, .int (nI q))]) hx hb dX11_book_57 rfl hl (by decide) rfl (fun ls hl => ?_)
          have lp58 : ∀ (fu : Nat) (i : Nat) (m : Nat) (g2 : St) (rn2 : Nat → Nat → Int64) (hfu : m < fu) (hin : i + m = zR rz 0) (hR : boL (rb 0) 0 q m i g2 rn2 = boL (rb 0) 0 q (zR rz 0) 0 f rn) (Ig : Inv (T + i) g2) (ls : Array Slot) (hl : lv_has ls 4 [(3, .int (nI i)), (0, .ref (a 0)), (1, .int 0), (2, .int (nI q))]) (H : Heap) (locs : List Loc) (X : Wd E (inW (clsW E a f g h ik one wo tp tl tk ts te tn rb rz rn td)) s0.heap (clsW E a f g2 h ik one wo tp tl tk ts te tn rb rz rn2 td) H locs), W pg l ev (rmK 5 118) s0 mm ([.ref (a 0), .int (nI 0), .int (nI q)] : List Value).toArray below meth cd H locs 0 0 Q (F0 mm 58 ls []) := by
            intro fu
            induction fu with
            | zero => intro i m g2 rn2 hfu; exact absurd hfu (Nat.not_lt_zero _)
            | succ fu ih58 =>
              intro i m g2 rn2 hfu hin hR Ig ls hl H locs X
              refine lv_iload_n hx hb dX11_book_58 rfl (lv_at hl 0 rfl) ?_
              refine lv_aload_n hx hb dX11_book_59 rfl (lv_at hl 1 rfl) ?_
              refine k_get K X 0 rfl fg_X11_71 (v := .ref (a 26)) rfl dX11_book_60 ?_
              refine lv_iload_n hx hb dX11_book_63 rfl (lv_at hl 2 rfl) ?_
              refine k_aaldN (C := "SlipWall$Row") K X 26 3 rfl rfl (k := 0) (by omega) (by decide) (r := a 27) rfl dX11_book_64 ?_
              refine k_getN K X 27 rfl fg_X11_233 (v := .int (rz 0)) rfl dX11_book_65 ?_
              refine k_topi ((J 0 (by decide)).1) ?_
              refine kN_ge (x := i) (y := zR rz 0) hx hb 105 dX11_book_68 (by decide) (by omega) (by omega) (fun c68 => ?_) (fun c68 => ?_)
              · obtain rfl : m = 0 := by omega
                refine lv_aload_n hx hb dX11_book_105 rfl (lv_at hl 1 rfl) ?_
                refine k_get K X 0 rfl fg_X11_71 (v := .ref (a 26)) rfl dX11_book_106 ?_
                refine lv_iload_n hx hb dX11_book_109 rfl (lv_at hl 2 rfl) ?_
                refine k_aaldN (C := "SlipWall$Row") K X 26 3 rfl rfl (k := 0) (by omega) (by decide) (r := a 27) rfl dX11_book_110 ?_
                refine k_getN K X 27 rfl fg_X11_233 (v := .int (rz 0)) rfl dX11_book_111 ?_
                refine k_topi ((J 0 (by decide)).1) ?_
                exact k_topi (x' := (oBook rb rz rn f td (nI 0) (nI q)).1) (by rw [oBook, hx0, cond_true, ek, c22, cond_false, hy0, cond_true]) (fin (g2) 114 _ _ _ trivial (X.eq (by rw [oBook, hx0, cond_true, ek, c22, cond_false, hy0, cond_true, eq, ← hR] <;> rfl)) dX11_book_114)
              · obtain ⟨m, rfl⟩ : ∃ z, m = z + 1 := ⟨m - 1, by omega⟩
                refine lv_aload_n hx hb dX11_book_71 rfl (lv_at hl 1 rfl) ?_
                refine k_get K X 0 rfl fg_X11_71 (v := .ref (a 26)) rfl dX11_book_72 ?_
                refine lv_iload_n hx hb dX11_book_75 rfl (lv_at hl 2 rfl) ?_
                refine k_aaldN (C := "SlipWall$Row") K X 26 3 rfl rfl (k := 0) (by omega) (by decide) (r := a 27) rfl dX11_book_76 ?_
                refine lv_iload_n hx hb dX11_book_77 rfl (lv_at hl 0 rfl) ?_
                refine lv_aload_n hx hb dX11_book_78 rfl (lv_at hl 1 rfl) ?_
                refine k_get K X 0 rfl fg_X11_36 (v := .ref (a 8)) rfl dX11_book_79 ?_
                refine k_getN K X 8 rfl fg_X11_103 (v := .ref (a 9)) rfl dX11_book_82 ?_
                refine lv_iload_n hx hb dX11_book_85 rfl (lv_at hl 3 rfl) ?_
                refine k_ialdN K X 9 rfl (k := q) (by omega) (by decide) dX11_book_86 (v := g2 1 q) rfl ?_
                refine lv_i2l (v := (g2 1 q).toInt64) hx hb dX11_book_87 rfl ?_
                refine k_callV K X gv_X11_244 (As := [.int (nI i), .long ((g2 1 q).toInt64)]) (c_X7_put l E (fun j => a (27 + j)) (rb 0) (rz 0) (rn2 0) i ((g2 1 q).toInt64) (by omega)) [27, 28] clsW_s14C (by decide +kernel) (fun _ => rowW_fst) 0 7 rfl rfl (by decide) rfl hl.1 (rest := []) rfl (Nat.le_of_ble_eq_true rfl) dX11_book_88 (st1 := fun _ => []) (fun _ => rfl) (fun _ H locs _ X => ?_)
                have X : Wd E _ _ (clsW E a f g2 h ik one wo tp tl tk ts te tn rb rz (setRL rn2 0 (vp_updL (rn2 0) i (cutL (rb 0) ((g2 1 q).toInt64)))) td) _ _ := X.eq clsW_s14P
                refine lv_aload_n hx hb dX11_book_91 rfl (lv_at hl 1 rfl) ?_
                refine k_get K X 0 rfl fg_X11_36 (v := .ref (a 8)) rfl dX11_book_92 ?_
                refine k_callV K X gv_X11_196 (As := []) (c_X6_passMinute l E (fun j => a (8 + j)) (fun j => a (36 + j)) g2 (T + i) Ig (by omega)) [8, 9, 10, 11, 12, 13, 14, 36, 37, 38, 39, 40, 41, 42] clsW_s1C (by decide +kernel) (fun _ => roomK_fst) 0 6 rfl rfl (by decide) rfl hl.1 (rest := []) rfl (Nat.le_of_ble_eq_true rfl) dX11_book_95 (st1 := fun _ => [.int (tcF g2)]) (fun _ => rfl) (fun _ H locs _ X => ?_)
                have X : Wd E _ _ (clsW E a f (goF g2) h ik one wo tp tl tk ts te tn rb rz (setRL rn2 0 (vp_updL (rn2 0) i (cutL (rb 0) ((g2 1 q).toInt64)))) td) _ _ := X.eq clsW_s1P
                refine lv_pop hx hb dX11_book_98 rfl ?_
                refine lv_iinc (v := nI (i + 1)) (lv' := [(3, .int (nI (i + 1))), (0, .ref (a 0)), (1, .int 0), (2, .int (nI q))]) hx hb dX11_book_99 hl (k := 0) rfl (nI_add i 1) (by decide) rfl (fun ls hl => ?_)
                refine lv_goto (tgt := 58) hx hb dX11_book_102 (by decide) ?_
                exact ih58 (i + 1) m (goF g2) (setRL rn2 0 (vp_updL (rn2 0) i (cutL (rb 0) ((g2 1 q).toInt64)))) (by omega) (by omega) (by rw [← hR, boL]) (Ig.go (by omega)) _ hl _ _ X
          exact lp58 ((zR rz 0) + 1) 0 (zR rz 0) f rn (by omega) (by omega) (rfl) (I) _ hl _ _ X
        · have hy0 : isS f y = false := by simpa using c36
          refine lv_aload_n hx hb dX11_book_39 rfl (lv_at hl 0 rfl) ?_
          refine lv_iconst (v := 0) hx hb dX11_book_40 (by decide) ?_
          refine k_callV K X gv_X11_84 (As := [.int 0]) (c_X11_finding l E a f g h ik one wo tp tl tk ts te tn rb rz rn td 0 (by decide)) [0, 1, 2, 3, 4, 5, 6, 7, 8, 9, 10, 11, 12, 13, 14, 15, 16, 17, 18, 19, 20, 21, 22, 23, 24, 25, 26, 27, 28, 29, 30, 31, 32, 33, 34, 35, 36, 37, 38, 39, 40, 41, 42] clsW_idC (by decide +kernel) (fun _ => clsW_fst) 0 11 rfl rfl (by decide) rfl hl.1 (rest := []) rfl (Nat.le_of_ble_eq_true rfl) dX11_book_41 (st1 := fun _ => [.int (fnd 0)]) (fun _ => rfl) (fun _ H locs _ X => ?_)
          have X : Wd E _ _ (clsW E a f g h ik one wo tp tl tk ts te tn rb rz rn (fdU td 0)) _ _ := X.eq clsW_idP
          exact k_topi (x' := (oBook rb rz rn f td (nI 0) y).1) (by simp [oBook, hx0, ek, c22, hy0]) (fin (g) 44 _ _ _ trivial (X.eq (by simp [oBook, hx0, ek, c22, hy0])) dX11_book_44)
      · refine lv_aload_n hx hb dX11_book_25 rfl (lv_at hl 0 rfl) ?_
        refine lv_iconst (v := 5) hx hb dX11_book_26 (by decide) ?_
        refine k_callV K X gv_X11_84 (As := [.int 5]) (c_X11_finding l E a f g h ik one wo tp tl tk ts te tn rb rz rn td 5 (by decide)) [0, 1, 2, 3, 4, 5, 6, 7, 8, 9, 10, 11, 12, 13, 14, 15, 16, 17, 18, 19, 20, 21, 22, 23, 24, 25, 26, 27, 28, 29, 30, 31, 32, 33, 34, 35, 36, 37, 38, 39, 40, 41, 42] clsW_idC (by decide +kernel) (fun _ => clsW_fst) 0 11 rfl rfl (by decide) rfl hl.1 (rest := []) rfl (Nat.le_of_ble_eq_true rfl) dX11_book_27 (st1 := fun _ => [.int (fnd 5)]) (fun _ => rfl) (fun _ H locs _ X => ?_)
        have X : Wd E _ _ (clsW E a f g h ik one wo tp tl tk ts te tn rb rz rn (fdU td 5)) _ _ := X.eq clsW_idP
        exact k_topi (x' := (oBook rb rz rn f td (nI 0) y).1) (by simp [oBook, hx0, ek, c22]) (fin (g) 30 _ _ _ trivial (X.eq (by simp [oBook, hx0, ek, c22])) dX11_book_30)
    · have hz := (J 1 (by decide)).2
      refine lv_iload_n hx hb dX11_book_17 rfl (lv_at hl 1 rfl) ?_
      refine k_aaldN (C := "SlipWall$Row") K X 26 3 rfl rfl (k := 1) (by omega) (by decide) (r := a 29) rfl dX11_book_18 ?_
      refine k_callV K X gv_X11_236 (As := []) (c_X7_isMissing l E (fun j => a (29 + j)) (rb 1) (rz 1) (rn 1)) [29, 30] clsW_s15C (by decide +kernel) (fun _ => rowW_fst) 0 7 rfl rfl (by decide) rfl hl.1 (rest := []) rfl (Nat.le_of_ble_eq_true rfl) dX11_book_19 (st1 := fun _ => [.int (b2i (decide ((rb 1) = 0)))]) (fun _ => rfl) (fun _ H locs _ X => ?_)
      have X : Wd E _ _ (clsW E a f g h ik one wo tp tl tk ts te tn rb rz rn td) _ _ := X.eq clsW_s15P
      refine k_ifeqB (B := (decide ((rb 1) = 0))) hx hb 31 dX11_book_22 (by decide) (fun c22 => ?_) (fun c22 => ?_)
      · refine lv_aload_n hx hb dX11_book_31 rfl (lv_at hl 0 rfl) ?_
        refine lv_iload_n hx hb dX11_book_32 rfl (lv_at hl 2 rfl) ?_
        refine k_callV K X gv_X11_99 (As := [.int y]) (c_X11_noSlip l E a f g h ik one wo tp tl tk ts te tn rb rz rn td y) [0, 1, 2, 3, 4, 5, 6, 7, 8, 9, 10, 11, 12, 13, 14, 15, 16, 17, 18, 19, 20, 21, 22, 23, 24, 25, 26, 27, 28, 29, 30, 31, 32, 33, 34, 35, 36, 37, 38, 39, 40, 41, 42] clsW_idC (by decide +kernel) (fun _ => clsW_fst) 0 11 rfl rfl (by decide) rfl hl.1 (rest := []) rfl (Nat.le_of_ble_eq_true rfl) dX11_book_33 (st1 := fun _ => [.int (b2i (!isS f y))]) (fun _ => rfl) (fun _ H locs _ X => ?_)
        have X : Wd E _ _ (clsW E a f g h ik one wo tp tl tk ts te tn rb rz rn td) _ _ := X.eq clsW_idP
        refine k_ifeqB (B := (!isS f y)) hx hb 45 dX11_book_36 (by decide) (fun c36 => ?_) (fun c36 => ?_)
        · have hy0 : isS f y = true := by simpa using c36
          obtain ⟨q, hq, rfl⟩ := isS_nat I hy0
          have eq : (nI q).toNatClampNeg = q := nI_clamp (by omega)
          refine lv_aload_n hx hb dX11_book_45 rfl (lv_at hl 0 rfl) ?_
          refine k_get K X 0 rfl fg_X11_36 (v := .ref (a 8)) rfl dX11_book_46 ?_
          refine lv_aload_n hx hb dX11_book_49 rfl (lv_at hl 0 rfl) ?_
          refine k_get K X 0 rfl fg_X11_30 (v := .ref (a 1)) rfl dX11_book_50 ?_
          refine k_callV K X gv_X11_189 (As := [.ref (a 1)]) (c_X6_copyFrom l E (fun j => a (8 + j)) (fun j => a (1 + j)) (fun j => a (36 + j)) g f) [8, 9, 10, 11, 12, 13, 14, 1, 2, 3, 4, 5, 6, 7] clsW_s8C (by decide +kernel) (fun _ => room2_fst) 0 6 rfl rfl (by decide) rfl hl.1 (rest := []) rfl (Nat.le_of_ble_eq_true rfl) dX11_book_53 (st1 := fun _ => []) (fun _ => rfl) (fun _ H locs _ X => ?_)
          have X : Wd E _ _ (clsW E a f f h ik one wo tp tl tk ts te tn rb rz rn td) _ _ := X.eq clsW_s8P
          refine lv_iconst (v := 0) hx hb dX11_book_56 (by decide) ?_
          refine lv_istore_n (lv' := [(3, .int 0), (0, .ref (a 0)), (1, .int 1), (2, .int (nI q))]) hx hb dX11_book_57 rfl hl (by decide) rfl (fun ls hl => ?_)
          have lp58 : ∀ (fu : Nat) (i : Nat) (m : Nat) (g2 : St) (rn2 : Nat → Nat → Int64) (hfu : m < fu) (hin : i + m = zR rz 1) (hR : boL (rb 1) 1 q m i g2 rn2 = boL (rb 1) 1 q (zR rz 1) 0 f rn) (Ig : Inv (T + i) g2) (ls : Array Slot) (hl : lv_has ls 4 [(3, .int (nI i)), (0, .ref (a 0)), (1, .int 1), (2, .int (nI q))]) (H : Heap) (locs : List Loc) (X : Wd E (inW (clsW E a f g h ik one wo tp tl tk ts te tn rb rz rn td)) s0.heap (clsW E a f g2 h ik one wo tp tl tk ts te tn rb rz rn2 td) H locs), W pg l ev (rmK 5 118) s0 mm ([.ref (a 0), .int (nI 1), .int (nI q)] : List Value).toArray below meth cd H locs 0 0 Q (F0 mm 58 ls []) := by
            intro fu
            induction fu with
            | zero => intro i m g2 rn2 hfu; exact absurd hfu (Nat.not_lt_zero _)
            | succ fu ih58 =>
              intro i m g2 rn2 hfu hin hR Ig ls hl H locs X
              refine lv_iload_n hx hb dX11_book_58 rfl (lv_at hl 0 rfl) ?_
              refine lv_aload_n hx hb dX11_book_59 rfl (lv_at hl 1 rfl) ?_
              refine k_get K X 0 rfl fg_X11_71 (v := .ref (a 26)) rfl dX11_book_60 ?_
              refine lv_iload_n hx hb dX11_book_63 rfl (lv_at hl 2 rfl) ?_
              refine k_aaldN (C := "SlipWall$Row") K X 26 3 rfl rfl (k := 1) (by omega) (by decide) (r := a 29) rfl dX11_book_64 ?_
              refine k_getN K X 29 rfl fg_X11_233 (v := .int (rz 1)) rfl dX11_book_65 ?_
              refine k_topi ((J 1 (by decide)).1) ?_
              refine kN_ge (x := i) (y := zR rz 1) hx hb 105 dX11_book_68 (by decide) (by omega) (by omega) (fun c68 => ?_) (fun c68 => ?_)
              · obtain rfl : m = 0 := by omega
                refine lv_aload_n hx hb dX11_book_105 rfl (lv_at hl 1 rfl) ?_
                refine k_get K X 0 rfl fg_X11_71 (v := .ref (a 26)) rfl dX11_book_106 ?_
                refine lv_iload_n hx hb dX11_book_109 rfl (lv_at hl 2 rfl) ?_
                refine k_aaldN (C := "SlipWall$Row") K X 26 3 rfl rfl (k := 1) (by omega) (by decide) (r := a 29) rfl dX11_book_110 ?_
                refine k_getN K X 29 rfl fg_X11_233 (v := .int (rz 1)) rfl dX11_book_111 ?_
                refine k_topi ((J 1 (by decide)).1) ?_
                exact k_topi (x' := (oBook rb rz rn f td (nI 1) (nI q)).1) (by rw [oBook, hx0, cond_true, ek, c22, cond_false, hy0, cond_true]) (fin (g2) 114 _ _ _ trivial (X.eq (by rw [oBook, hx0, cond_true, ek, c22, cond_false, hy0, cond_true, eq, ← hR] <;> rfl)) dX11_book_114)
              · obtain ⟨m, rfl⟩ : ∃ z, m = z + 1 := ⟨m - 1, by omega⟩
                refine lv_aload_n hx hb dX11_book_71 rfl (lv_at hl 1 rfl) ?_
                refine k_get K X 0 rfl fg_X11_71 (v := .ref (a 26)) rfl dX11_book_72 ?_
                refine lv_iload_n hx hb dX11_book_75 rfl (lv_at hl 2 rfl) ?_
                refine k_aaldN (C := "SlipWall$Row") K X 26 3 rfl rfl (k := 1) (by omega) (by decide) (r := a 29) rfl dX11_book_76 ?_
                refine lv_iload_n hx hb dX11_book_77 rfl (lv_at hl 0 rfl) ?_
                refine lv_aload_n hx hb dX11_book_78 rfl (lv_at hl 1 rfl) ?_
                refine k_get K X 0 rfl fg_X11_36 (v := .ref (a 8)) rfl dX11_book_79 ?_
                refine k_getN K X 8 rfl fg_X11_103 (v := .ref (a 9)) rfl dX11_book_82 ?_
                refine lv_iload_n hx hb dX11_book_85 rfl (lv_at hl 3 rfl) ?_
                refine k_ialdN K X 9 rfl (k := q) (by omega) (by decide) dX11_book_86 (v := g2 1 q) rfl ?_
                refine lv_i2l (v := (g2 1 q).toInt64) hx hb dX11_book_87 rfl ?_
                refine k_callV K X gv_X11_244 (As := [.int (nI i), .long ((g2 1 q).toInt64)]) (c_X7_put l E (fun j => a (29 + j)) (rb 1) (rz 1) (rn2 1) i ((g2 1 q).toInt64) (by omega)) [29, 30] clsW_s15C (by decide +kernel) (fun _ => rowW_fst) 0 7 rfl rfl (by decide) rfl hl.1 (rest := []) rfl (Nat.le_of_ble_eq_true rfl) dX11_book_88 (st1 := fun _ => []) (fun _ => rfl) (fun _ H locs _ X => ?_)
                have X : Wd E _ _ (clsW E a f g2 h ik one wo tp tl tk ts te tn rb rz (setRL rn2 1 (vp_updL (rn2 1) i (cutL (rb 1) ((g2 1 q).toInt64)))) td) _ _ := X.eq clsW_s15P
                refine lv_aload_n hx hb dX11_book_91 rfl (lv_at hl 1 rfl) ?_
                refine k_get K X 0 rfl fg_X11_36 (v := .ref (a 8)) rfl dX11_book_92 ?_
                refine k_callV K X gv_X11_196 (As := []) (c_X6_passMinute l E (fun j => a (8 + j)) (fun j => a (36 + j)) g2 (T + i) Ig (by omega)) [8, 9, 10, 11, 12, 13, 14, 36, 37, 38, 39, 40, 41, 42] clsW_s1C (by decide +kernel) (fun _ => roomK_fst) 0 6 rfl rfl (by decide) rfl hl.1 (rest := []) rfl (Nat.le_of_ble_eq_true rfl) dX11_book_95 (st1 := fun _ => [.int (tcF g2)]) (fun _ => rfl) (fun _ H locs _ X => ?_)
                have X : Wd E _ _ (clsW E a f (goF g2) h ik one wo tp tl tk ts te tn rb rz (setRL rn2 1 (vp_updL (rn2 1) i (cutL (rb 1) ((g2 1 q).toInt64)))) td) _ _ := X.eq clsW_s1P
                refine lv_pop hx hb dX11_book_98 rfl ?_
                refine lv_iinc (v := nI (i + 1)) (lv' := [(3, .int (nI (i + 1))), (0, .ref (a 0)), (1, .int 1), (2, .int (nI q))]) hx hb dX11_book_99 hl (k := 0) rfl (nI_add i 1) (by decide) rfl (fun ls hl => ?_)
                refine lv_goto (tgt := 58) hx hb dX11_book_102 (by decide) ?_
                exact ih58 (i + 1) m (goF g2) (setRL rn2 1 (vp_updL (rn2 1) i (cutL (rb 1) ((g2 1 q).toInt64)))) (by omega) (by omega) (by rw [← hR, boL]) (Ig.go (by omega)) _ hl _ _ X
          exact lp58 ((zR rz 1) + 1) 0 (zR rz 1) f rn (by omega) (by omega) (rfl) (I) _ hl _ _ X
        · have hy0 : isS f y = false := by simpa using c36
          refine lv_aload_n hx hb dX11_book_39 rfl (lv_at hl 0 rfl) ?_
          refine lv_iconst (v := 0) hx hb dX11_book_40 (by decide) ?_
          refine k_callV K X gv_X11_84 (As := [.int 0]) (c_X11_finding l E a f g h ik one wo tp tl tk ts te tn rb rz rn td 0 (by decide)) [0, 1, 2, 3, 4, 5, 6, 7, 8, 9, 10, 11, 12, 13, 14, 15, 16, 17, 18, 19, 20, 21, 22, 23, 24, 25, 26, 27, 28, 29, 30, 31, 32, 33, 34, 35, 36, 37, 38, 39, 40, 41, 42] clsW_idC (by decide +kernel) (fun _ => clsW_fst) 0 11 rfl rfl (by decide) rfl hl.1 (rest := []) rfl (Nat.le_of_ble_eq_true rfl) dX11_book_41 (st1 := fun _ => [.int (fnd 0)]) (fun _ => rfl) (fun _ H locs _ X => ?_)
          have X : Wd E _ _ (clsW E a f g h ik one wo tp tl tk ts te tn rb rz rn (fdU td 0)) _ _ := X.eq clsW_idP
          exact k_topi (x' := (oBook rb rz rn f td (nI 1) y).1) (by simp [oBook, hx0, ek, c22, hy0]) (fin (g) 44 _ _ _ trivial (X.eq (by simp [oBook, hx0, ek, c22, hy0])) dX11_book_44)
      · refine lv_aload_n hx hb dX11_book_25 rfl (lv_at hl 0 rfl) ?_
        refine lv_iconst (v := 5) hx hb dX11_book_26 (by decide) ?_
        refine k_callV K X gv_X11_84 (As := [.int 5]) (c_X11_finding l E a f g h ik one wo tp tl tk ts te tn rb rz rn td 5 (by decide)) [0, 1, 2, 3, 4, 5, 6, 7, 8, 9, 10, 11, 12, 13, 14, 15, 16, 17, 18, 19, 20, 21, 22, 23, 24, 25, 26, 27, 28, 29, 30, 31, 32, 33, 34, 35, 36, 37, 38, 39, 40, 41, 42] clsW_idC (by decide +kernel) (fun _ => clsW_fst) 0 11 rfl rfl (by decide) rfl hl.1 (rest := []) rfl (Nat.le_of_ble_eq_true rfl) dX11_book_27 (st1 := fun _ => [.int (fnd 5)]) (fun _ => rfl) (fun _ H locs _ X => ?_)
        have X : Wd E _ _ (clsW E a f g h ik one wo tp tl tk ts te tn rb rz rn (fdU td 5)) _ _ := X.eq clsW_idP
        exact k_topi (x' := (oBook rb rz rn f td (nI 1) y).1) (by simp [oBook, hx0, ek, c22]) (fin (g) 30 _ _ _ trivial (X.eq (by simp [oBook, hx0, ek, c22])) dX11_book_30)
    · have hz := (J 2 (by decide)).2
      refine lv_iload_n hx hb dX11_book_17 rfl (lv_at hl 1 rfl) ?_
      refine k_aaldN (C := "SlipWall$Row") K X 26 3 rfl rfl (k := 2) (by omega) (by decide) (r := a 31) rfl dX11_book_18 ?_
      refine k_callV K X gv_X11_236 (As := []) (c_X7_isMissing l E (fun j => a (31 + j)) (rb 2) (rz 2) (rn 2)) [31, 32] clsW_s16C (by decide +kernel) (fun _ => rowW_fst) 0 7 rfl rfl (by decide) rfl hl.1 (rest := []) rfl (Nat.le_of_ble_eq_true rfl) dX11_book_19 (st1 := fun _ => [.int (b2i (decide ((rb 2) = 0)))]) (fun _ => rfl) (fun _ H locs _ X => ?_)
      have X : Wd E _ _ (clsW E a f g h ik one wo tp tl tk ts te tn rb rz rn td) _ _ := X.eq clsW_s16P
      refine k_ifeqB (B := (decide ((rb 2) = 0))) hx hb 31 dX11_book_22 (by decide) (fun c22 => ?_) (fun c22 => ?_)
      · refine lv_aload_n hx hb dX11_book_31 rfl (lv_at hl 0 rfl) ?_
        refine lv_iload_n hx hb dX11_book_32 rfl (lv_at hl 2 rfl) ?_
        refine k_callV K X gv_X11_99 (As := [.int y]) (c_X11_noSlip l E a f g h ik one wo tp tl tk ts te tn rb rz rn td y) [0, 1, 2, 3, 4, 5, 6, 7, 8, 9, 10, 11, 12, 13, 14, 15, 16, 17, 18, 19, 20, 21, 22, 23, 24, 25, 26, 27, 28, 29, 30, 31, 32, 33, 34, 35, 36, 37, 38, 39, 40, 41, 42] clsW_idC (by decide +kernel) (fun _ => clsW_fst) 0 11 rfl rfl (by decide) rfl hl.1 (rest := []) rfl (Nat.le_of_ble_eq_true rfl) dX11_book_33 (st1 := fun _ => [.int (b2i (!isS f y))]) (fun _ => rfl) (fun _ H locs _ X => ?_)
        have X : Wd E _ _ (clsW E a f g h ik one wo tp tl tk ts te tn rb rz rn td) _ _ := X.eq clsW_idP
        refine k_ifeqB (B := (!isS f y)) hx hb 45 dX11_book_36 (by decide) (fun c36 => ?_) (fun c36 => ?_)
        · have hy0 : isS f y = true := by simpa using c36
          obtain ⟨q, hq, rfl⟩ := isS_nat I hy0
          have eq : (nI q).toNatClampNeg = q := nI_clamp (by omega)
          refine lv_aload_n hx hb dX11_book_45 rfl (lv_at hl 0 rfl) ?_
          refine k_get K X 0 rfl fg_X11_36 (v := .ref (a 8)) rfl dX11_book_46 ?_
          refine lv_aload_n hx hb dX11_book_49 rfl (lv_at hl 0 rfl) ?_
          refine k_get K X 0 rfl fg_X11_30 (v := .ref (a 1)) rfl dX11_book_50 ?_
          refine k_callV K X gv_X11_189 (As := [.ref (a 1)]) (c_X6_copyFrom l E (fun j => a (8 + j)) (fun j => a (1 + j)) (fun j => a (36 + j)) g f) [8, 9, 10, 11, 12, 13, 14, 1, 2, 3, 4, 5, 6, 7] clsW_s8C (by decide +kernel) (fun _ => room2_fst) 0 6 rfl rfl (by decide) rfl hl.1 (rest := []) rfl (Nat.le_of_ble_eq_true rfl) dX11_book_53 (st1 := fun _ => []) (fun _ => rfl) (fun _ H locs _ X => ?_)
          have X : Wd E _ _ (clsW E a f f h ik one wo tp tl tk ts te tn rb rz rn td) _ _ := X.eq clsW_s8P
          refine lv_iconst (v := 0) hx hb dX11_book_56 (by decide) ?_
          refine lv_istore_n (lv' := [(3, .int 0), (0, .ref (a 0)), (1, .int 2), (2, .int (nI q))]) hx hb dX11_book_57 rfl hl (by decide) rfl (fun ls hl => ?_)
          have lp58 : ∀ (fu : Nat) (i : Nat) (m : Nat) (g2 : St) (rn2 : Nat → Nat → Int64) (hfu : m < fu) (hin : i + m = zR rz 2) (hR : boL (rb 2) 2 q m i g2 rn2 = boL (rb 2) 2 q (zR rz 2) 0 f rn) (Ig : Inv (T + i) g2) (ls : Array Slot) (hl : lv_has ls 4 [(3, .int (nI i)), (0, .ref (a 0)), (1, .int 2), (2, .int (nI q))]) (H : Heap) (locs : List Loc) (X : Wd E (inW (clsW E a f g h ik one wo tp tl tk ts te tn rb rz rn td)) s0.heap (clsW E a f g2 h ik one wo tp tl tk ts te tn rb rz rn2 td) H locs), W pg l ev (rmK 5 118) s0 mm ([.ref (a 0), .int (nI 2), .int (nI q)] : List Value).toArray below meth cd H locs 0 0 Q (F0 mm 58 ls []) := by
            intro fu
            induction fu with
            | zero => intro i m g2 rn2 hfu; exact absurd hfu (Nat.not_lt_zero _)
            | succ fu ih58 =>
              intro i m g2 rn2 hfu hin hR Ig ls hl H locs X
              refine lv_iload_n hx hb dX11_book_58 rfl (lv_at hl 0 rfl) ?_
              refine lv_aload_n hx hb dX11_book_59 rfl (lv_at hl 1 rfl) ?_
              refine k_get K X 0 rfl fg_X11_71 (v := .ref (a 26)) rfl dX11_book_60 ?_
              refine lv_iload_n hx hb dX11_book_63 rfl (lv_at hl 2 rfl) ?_
              refine k_aaldN (C := "SlipWall$Row") K X 26 3 rfl rfl (k := 2) (by omega) (by decide) (r := a 31) rfl dX11_book_64 ?_
              refine k_getN K X 31 rfl fg_X11_233 (v := .int (rz 2)) rfl dX11_book_65 ?_
              refine k_topi ((J 2 (by decide)).1) ?_
              refine kN_ge (x := i) (y := zR rz 2) hx hb 105 dX11_book_68 (by decide) (by omega) (by omega) (fun c68 => ?_) (fun c68 => ?_)
              · obtain rfl : m = 0 := by omega
                refine lv_aload_n hx hb dX11_book_105 rfl (lv_at hl 1 rfl) ?_
                refine k_get K X 0 rfl fg_X11_71 (v := .ref (a 26)) rfl dX11_book_106 ?_
                refine lv_iload_n hx hb dX11_book_109 rfl (lv_at hl 2 rfl) ?_
                refine k_aaldN (C := "SlipWall$Row") K X 26 3 rfl rfl (k := 2) (by omega) (by decide) (r := a 31) rfl dX11_book_110 ?_
                refine k_getN K X 31 rfl fg_X11_233 (v := .int (rz 2)) rfl dX11_book_111 ?_
                refine k_topi ((J 2 (by decide)).1) ?_
                exact k_topi (x' := (oBook rb rz rn f td (nI 2) (nI q)).1) (by rw [oBook, hx0, cond_true, ek, c22, cond_false, hy0, cond_true]) (fin (g2) 114 _ _ _ trivial (X.eq (by rw [oBook, hx0, cond_true, ek, c22, cond_false, hy0, cond_true, eq, ← hR] <;> rfl)) dX11_book_114)
              · obtain ⟨m, rfl⟩ : ∃ z, m = z + 1 := ⟨m - 1, by omega⟩
                refine lv_aload_n hx hb dX11_book_71 rfl (lv_at hl 1 rfl) ?_
                refine k_get K X 0 rfl fg_X11_71 (v := .ref (a 26)) rfl dX11_book_72 ?_
                refine lv_iload_n hx hb dX11_book_75 rfl (lv_at hl 2 rfl) ?_
                refine k_aaldN (C := "SlipWall$Row") K X 26 3 rfl rfl (k := 2) (by omega) (by decide) (r := a 31) rfl dX11_book_76 ?_
                refine lv_iload_n hx hb dX11_book_77 rfl (lv_at hl 0 rfl) ?_
                refine lv_aload_n hx hb dX11_book_78 rfl (lv_at hl 1 rfl) ?_
                refine k_get K X 0 rfl fg_X11_36 (v := .ref (a 8)) rfl dX11_book_79 ?_
                refine k_getN K X 8 rfl fg_X11_103 (v := .ref (a 9)) rfl dX11_book_82 ?_
                refine lv_iload_n hx hb dX11_book_85 rfl (lv_at hl 3 rfl) ?_
                refine k_ialdN K X 9 rfl (k := q) (by omega) (by decide) dX11_book_86 (v := g2 1 q) rfl ?_
                refine lv_i2l (v := (g2 1 q).toInt64) hx hb dX11_book_87 rfl ?_
                refine k_callV K X gv_X11_244 (As := [.int (nI i), .long ((g2 1 q).toInt64)]) (c_X7_put l E (fun j => a (31 + j)) (rb 2) (rz 2) (rn2 2) i ((g2 1 q).toInt64) (by omega)) [31, 32] clsW_s16C (by decide +kernel) (fun _ => rowW_fst) 0 7 rfl rfl (by decide) rfl hl.1 (rest := []) rfl (Nat.le_of_ble_eq_true rfl) dX11_book_88 (st1 := fun _ => []) (fun _ => rfl) (fun _ H locs _ X => ?_)
                have X : Wd E _ _ (clsW E a f g2 h ik one wo tp tl tk ts te tn rb rz (setRL rn2 2 (vp_updL (rn2 2) i (cutL (rb 2) ((g2 1 q).toInt64)))) td) _ _ := X.eq clsW_s16P
                refine lv_aload_n hx hb dX11_book_91 rfl (lv_at hl 1 rfl) ?_
                refine k_get K X 0 rfl fg_X11_36 (v := .ref (a 8)) rfl dX11_book_92 ?_
                refine k_callV K X gv_X11_196 (As := []) (c_X6_passMinute l E (fun j => a (8 + j)) (fun j => a (36 + j)) g2 (T + i) Ig (by omega)) [8, 9, 10, 11, 12, 13, 14, 36, 37, 38, 39, 40, 41, 42] clsW_s1C (by decide +kernel) (fun _ => roomK_fst) 0 6 rfl rfl (by decide) rfl hl.1 (rest := []) rfl (Nat.le_of_ble_eq_true rfl) dX11_book_95 (st1 := fun _ => [.int (tcF g2)]) (fun _ => rfl) (fun _ H locs _ X => ?_)
                have X : Wd E _ _ (clsW E a f (goF g2) h ik one wo tp tl tk ts te tn rb rz (setRL rn2 2 (vp_updL (rn2 2) i (cutL (rb 2) ((g2 1 q).toInt64)))) td) _ _ := X.eq clsW_s1P
                refine lv_pop hx hb dX11_book_98 rfl ?_
                refine lv_iinc (v := nI (i + 1)) (lv' := [(3, .int (nI (i + 1))), (0, .ref (a 0)), (1, .int 2), (2, .int (nI q))]) hx hb dX11_book_99 hl (k := 0) rfl (nI_add i 1) (by decide) rfl (fun ls hl => ?_)
                refine lv_goto (tgt := 58) hx hb dX11_book_102 (by decide) ?_
                exact ih58 (i + 1) m (goF g2) (setRL rn2 2 (vp_updL (rn2 2) i (cutL (rb 2) ((g2 1 q).toInt64)))) (by omega) (by omega) (by rw [← hR, boL]) (Ig.go (by omega)) _ hl _ _ X
          exact lp58 ((zR rz 2) + 1) 0 (zR rz 2) f rn (by omega) (by omega) (rfl) (I) _ hl _ _ X
        · have hy0 : isS f y = false := by simpa using c36
          refine lv_aload_n hx hb dX11_book_39 rfl (lv_at hl 0 rfl) ?_
          refine lv_iconst (v := 0) hx hb dX11_book_40 (by decide) ?_
          refine k_callV K X gv_X11_84 (As := [.int 0]) (c_X11_finding l E a f g h ik one wo tp tl tk ts te tn rb rz rn td 0 (by decide)) [0, 1, 2, 3, 4, 5, 6, 7, 8, 9, 10, 11, 12, 13, 14, 15, 16, 17, 18, 19, 20, 21, 22, 23, 24, 25, 26, 27, 28, 29, 30, 31, 32, 33, 34, 35, 36, 37, 38, 39, 40, 41, 42] clsW_idC (by decide +kernel) (fun _ => clsW_fst) 0 11 rfl rfl (by decide) rfl hl.1 (rest := []) rfl (Nat.le_of_ble_eq_true rfl) dX11_book_41 (st1 := fun _ => [.int (fnd 0)]) (fun _ => rfl) (fun _ H locs _ X => ?_)
          have X : Wd E _ _ (clsW E a f g h ik one wo tp tl tk ts te tn rb rz rn (fdU td 0)) _ _ := X.eq clsW_idP
          exact k_topi (x' := (oBook rb rz rn f td (nI 2) y).1) (by simp [oBook, hx0, ek, c22, hy0]) (fin (g) 44 _ _ _ trivial (X.eq (by simp [oBook, hx0, ek, c22, hy0])) dX11_book_44)
      · refine lv_aload_n hx hb dX11_book_25 rfl (lv_at hl 0 rfl) ?_
        refine lv_iconst (v := 5) hx hb dX11_book_26 (by decide) ?_
        refine k_callV K X gv_X11_84 (As := [.int 5]) (c_X11_finding l E a f g h ik one wo tp tl tk ts te tn rb rz rn td 5 (by decide)) [0, 1, 2, 3, 4, 5, 6, 7, 8, 9, 10, 11, 12, 13, 14, 15, 16, 17, 18, 19, 20, 21, 22, 23, 24, 25, 26, 27, 28, 29, 30, 31, 32, 33, 34, 35, 36, 37, 38, 39, 40, 41, 42] clsW_idC (by decide +kernel) (fun _ => clsW_fst) 0 11 rfl rfl (by decide) rfl hl.1 (rest := []) rfl (Nat.le_of_ble_eq_true rfl) dX11_book_27 (st1 := fun _ => [.int (fnd 5)]) (fun _ => rfl) (fun _ H locs _ X => ?_)
        have X : Wd E _ _ (clsW E a f g h ik one wo tp tl tk ts te tn rb rz rn (fdU td 5)) _ _ := X.eq clsW_idP
        exact k_topi (x' := (oBook rb rz rn f td (nI 2) y).1) (by simp [oBook, hx0, ek, c22]) (fin (g) 30 _ _ _ trivial (X.eq (by simp [oBook, hx0, ek, c22])) dX11_book_30)
    · have hz := (J 3 (by decide)).2
      refine lv_iload_n hx hb dX11_book_17 rfl (lv_at hl 1 rfl) ?_
      refine k_aaldN (C := "SlipWall$Row") K X 26 3 rfl rfl (k := 3) (by omega) (by decide) (r := a 33) rfl dX11_book_18 ?_
      refine k_callV K X gv_X11_236 (As := []) (c_X7_isMissing l E (fun j => a (33 + j)) (rb 3) (rz 3) (rn 3)) [33, 34] clsW_s17C (by decide +kernel) (fun _ => rowW_fst) 0 7 rfl rfl (by decide) rfl hl.1 (rest := []) rfl (Nat.le_of_ble_eq_true rfl) dX11_book_19 (st1 := fun _ => [.int (b2i (decide ((rb 3) = 0)))]) (fun _ => rfl) (fun _ H locs _ X => ?_)
      have X : Wd E _ _ (clsW E a f g h ik one wo tp tl tk ts te tn rb rz rn td) _ _ := X.eq clsW_s17P
      refine k_ifeqB (B := (decide ((rb 3) = 0))) hx hb 31 dX11_book_22 (by decide) (fun c22 => ?_) (fun c22 => ?_)
      · refine lv_aload_n hx hb dX11_book_31 rfl (lv_at hl 0 rfl) ?_
        refine lv_iload_n hx hb dX11_book_32 rfl (lv_at hl 2 rfl) ?_
        refine k_callV K X gv_X11_99 (As := [.int y]) (c_X11_noSlip l E a f g h ik one wo tp tl tk ts te tn rb rz rn td y) [0, 1, 2, 3, 4, 5, 6, 7, 8, 9, 10, 11, 12, 13, 14, 15, 16, 17, 18, 19, 20, 21, 22, 23, 24, 25, 26, 27, 28, 29, 30, 31, 32, 33, 34, 35, 36, 37, 38, 39, 40, 41, 42] clsW_idC (by decide +kernel) (fun _ => clsW_fst) 0 11 rfl rfl (by decide) rfl hl.1 (rest := []) rfl (Nat.le_of_ble_eq_true rfl) dX11_book_33 (st1 := fun _ => [.int (b2i (!isS f y))]) (fun _ => rfl) (fun _ H locs _ X => ?_)
        have X : Wd E _ _ (clsW E a f g h ik one wo tp tl tk ts te tn rb rz rn td) _ _ := X.eq clsW_idP
        refine k_ifeqB (B := (!isS f y)) hx hb 45 dX11_book_36 (by decide) (fun c36 => ?_) (fun c36 => ?_)
        · have hy0 : isS f y = true := by simpa using c36
          obtain ⟨q, hq, rfl⟩ := isS_nat I hy0
          have eq : (nI q).toNatClampNeg = q := nI_clamp (by omega)
          refine lv_aload_n hx hb dX11_book_45 rfl (lv_at hl 0 rfl) ?_
          refine k_get K X 0 rfl fg_X11_36 (v := .ref (a 8)) rfl dX11_book_46 ?_
          refine lv_aload_n hx hb dX11_book_49 rfl (lv_at hl 0 rfl) ?_
          refine k_get K X 0 rfl fg_X11_30 (v := .ref (a 1)) rfl dX11_book_50 ?_
          refine k_callV K X gv_X11_189 (As := [.ref (a 1)]) (c_X6_copyFrom l E (fun j => a (8 + j)) (fun j => a (1 + j)) (fun j => a (36 + j)) g f) [8, 9, 10, 11, 12, 13, 14, 1, 2, 3, 4, 5, 6, 7] clsW_s8C (by decide +kernel) (fun _ => room2_fst) 0 6 rfl rfl (by decide) rfl hl.1 (rest := []) rfl (Nat.le_of_ble_eq_true rfl) dX11_book_53 (st1 := fun _ => []) (fun _ => rfl) (fun _ H locs _ X => ?_)
          have X : Wd E _ _ (clsW E a f f h ik one wo tp tl tk ts te tn rb rz rn td) _ _ := X.eq clsW_s8P
          refine lv_iconst (v := 0) hx hb dX11_book_56 (by decide) ?_
          refine lv_istore_n (lv' := [(3, .int 0), (0, .ref (a 0)), (1, .int 3), (2, .int (nI q))]) hx hb dX11_book_57 rfl hl (by decide) rfl (fun ls hl => ?_)
          have lp58 : ∀ (fu : Nat) (i : Nat) (m : Nat) (g2 : St) (rn2 : Nat → Nat → Int64) (hfu : m < fu) (hin : i + m = zR rz 3) (hR : boL (rb 3) 3 q m i g2 rn2 = boL (rb 3) 3 q (zR rz 3) 0 f rn) (Ig : Inv (T + i) g2) (ls : Array Slot) (hl : lv_has ls 4 [(3, .int (nI i)), (0, .ref (a 0)), (1, .int 3), (2, .int (nI q))]) (H : Heap) (locs : List Loc) (X : Wd E (inW (clsW E a f g h ik one wo tp tl tk ts te tn rb rz rn td)) s0.heap (clsW E a f g2 h ik one wo tp tl tk ts te tn rb rz rn2 td) H locs), W pg l ev (rmK 5 118) s0 mm ([.ref (a 0), .int (nI 3), .int (nI q)] : List Value).toArray below meth cd H locs 0 0 Q (F0 mm 58 ls []) := by
            intro fu
            induction fu with
            | zero => intro i m g2 rn2 hfu; exact absurd hfu (Nat.not_lt_zero _)
            | succ fu ih58 =>
              intro i m g2 rn2 hfu hin hR Ig ls hl H locs X
              refine lv_iload_n hx hb dX11_book_58 rfl (lv_at hl 0 rfl) ?_
              refine lv_aload_n hx hb dX11_book_59 rfl (lv_at hl 1 rfl) ?_
              refine k_get K X 0 rfl fg_X11_71 (v := .ref (a 26)) rfl dX11_book_60 ?_
              refine lv_iload_n hx hb dX11_book_63 rfl (lv_at hl 2 rfl) ?_
              refine k_aaldN (C := "SlipWall$Row") K X 26 3 rfl rfl (k := 3) (by omega) (by decide) (r := a 33) rfl dX11_book_64 ?_
              refine k_getN K X 33 rfl fg_X11_233 (v := .int (rz 3)) rfl dX11_book_65 ?_
              refine k_topi ((J 3 (by decide)).1) ?_
              refine kN_ge (x := i) (y := zR rz 3) hx hb 105 dX11_book_68 (by decide) (by omega) (by omega) (fun c68 => ?_) (fun c68 => ?_)
              · obtain rfl : m = 0 := by omega
                refine lv_aload_n hx hb dX11_book_105 rfl (lv_at hl 1 rfl) ?_
                refine k_get K X 0 rfl fg_X11_71 (v := .ref (a 26)) rfl dX11_book_106 ?_
                refine lv_iload_n hx hb dX11_book_109 rfl (lv_at hl 2 rfl) ?_
                refine k_aaldN (C := "SlipWall$Row") K X 26 3 rfl rfl (k := 3) (by omega) (by decide) (r := a 33) rfl dX11_book_110 ?_
                refine k_getN K X 33 rfl fg_X11_233 (v := .int (rz 3)) rfl dX11_book_111 ?_
                refine k_topi ((J 3 (by decide)).1) ?_
                exact k_topi (x' := (oBook rb rz rn f td (nI 3) (nI q)).1) (by rw [oBook, hx0, cond_true, ek, c22, cond_false, hy0, cond_true]) (fin (g2) 114 _ _ _ trivial (X.eq (by rw [oBook, hx0, cond_true, ek, c22, cond_false, hy0, cond_true, eq, ← hR] <;> rfl)) dX11_book_114)
              · obtain ⟨m, rfl⟩ : ∃ z, m = z + 1 := ⟨m - 1, by omega⟩
                refine lv_aload_n hx hb dX11_book_71 rfl (lv_at hl 1 rfl) ?_
                refine k_get K X 0 rfl fg_X11_71 (v := .ref (a 26)) rfl dX11_book_72 ?_
                refine lv_iload_n hx hb dX11_book_75 rfl (lv_at hl 2 rfl) ?_
                refine k_aaldN (C := "SlipWall$Row") K X 26 3 rfl rfl (k := 3) (by omega) (by decide) (r := a 33) rfl dX11_book_76 ?_
                refine lv_iload_n hx hb dX11_book_77 rfl (lv_at hl 0 rfl) ?_
                refine lv_aload_n hx hb dX11_book_78 rfl (lv_at hl 1 rfl) ?_
                refine k_get K X 0 rfl fg_X11_36 (v := .ref (a 8)) rfl dX11_book_79 ?_
                refine k_getN K X 8 rfl fg_X11_103 (v := .ref (a 9)) rfl dX11_book_82 ?_
                refine lv_iload_n hx hb dX11_book_85 rfl (lv_at hl 3 rfl) ?_
                refine k_ialdN K X 9 rfl (k := q) (by omega) (by decide) dX11_book_86 (v := g2 1 q) rfl ?_
                refine lv_i2l (v := (g2 1 q).toInt64) hx hb dX11_book_87 rfl ?_
                refine k_callV K X gv_X11_244 (As := [.int (nI i), .long ((g2 1 q).toInt64)]) (c_X7_put l E (fun j => a (33 + j)) (rb 3) (rz 3) (rn2 3) i ((g2 1 q).toInt64) (by omega)) [33, 34] clsW_s17C (by decide +kernel) (fun _ => rowW_fst) 0 7 rfl rfl (by decide) rfl hl.1 (rest := []) rfl (Nat.le_of_ble_eq_true rfl) dX11_book_88 (st1 := fun _ => []) (fun _ => rfl) (fun _ H locs _ X => ?_)
                have X : Wd E _ _ (clsW E a f g2 h ik one wo tp tl tk ts te tn rb rz (setRL rn2 3 (vp_updL (rn2 3) i (cutL (rb 3) ((g2 1 q).toInt64)))) td) _ _ := X.eq clsW_s17P
                refine lv_aload_n hx hb dX11_book_91 rfl (lv_at hl 1 rfl) ?_
                refine k_get K X 0 rfl fg_X11_36 (v := .ref (a 8)) rfl dX11_book_92 ?_
                refine k_callV K X gv_X11_196 (As := []) (c_X6_passMinute l E (fun j => a (8 + j)) (fun j => a (36 + j)) g2 (T + i) Ig (by omega)) [8, 9, 10, 11, 12, 13, 14, 36, 37, 38, 39, 40, 41, 42] clsW_s1C (by decide +kernel) (fun _ => roomK_fst) 0 6 rfl rfl (by decide) rfl hl.1 (rest := []) rfl (Nat.le_of_ble_eq_true rfl) dX11_book_95 (st1 := fun _ => [.int (tcF g2)]) (fun _ => rfl) (fun _ H locs _ X => ?_)
                have X : Wd E _ _ (clsW E a f (goF g2) h ik one wo tp tl tk ts te tn rb rz (setRL rn2 3 (vp_updL (rn2 3) i (cutL (rb 3) ((g2 1 q).toInt64)))) td) _ _ := X.eq clsW_s1P
                refine lv_pop hx hb dX11_book_98 rfl ?_
                refine lv_iinc (v := nI (i + 1)) (lv' := [(3, .int (nI (i + 1))), (0, .ref (a 0)), (1, .int 3), (2, .int (nI q))]) hx hb dX11_book_99 hl (k := 0) rfl (nI_add i 1) (by decide) rfl (fun ls hl => ?_)
                refine lv_goto (tgt := 58) hx hb dX11_book_102 (by decide) ?_
                exact ih58 (i + 1) m (goF g2) (setRL rn2 3 (vp_updL (rn2 3) i (cutL (rb 3) ((g2 1 q).toInt64)))) (by omega) (by omega) (by rw [← hR, boL]) (Ig.go (by omega)) _ hl _ _ X
          exact lp58 ((zR rz 3) + 1) 0 (zR rz 3) f rn (by omega) (by omega) (rfl) (I) _ hl _ _ X
        · have hy0 : isS f y = false := by simpa using c36
          refine lv_aload_n hx hb dX11_book_39 rfl (lv_at hl 0 rfl) ?_
          refine lv_iconst (v := 0) hx hb dX11_book_40 (by decide) ?_
          refine k_callV K X gv_X11_84 (As := [.int 0]) (c_X11_finding l E a f g h ik one wo tp tl tk ts te tn rb rz rn td 0 (by decide)) [0, 1, 2, 3, 4, 5, 6, 7, 8, 9, 10, 11, 12, 13, 14, 15, 16, 17, 18, 19, 20, 21, 22, 23, 24, 25, 26, 27, 28, 29, 30, 31, 32, 33, 34, 35, 36, 37, 38, 39, 40, 41, 42] clsW_idC (by decide +kernel) (fun _ => clsW_fst) 0 11 rfl rfl (by decide) rfl hl.1 (rest := []) rfl (Nat.le_of_ble_eq_true rfl) dX11_book_41 (st1 := fun _ => [.int (fnd 0)]) (fun _ => rfl) (fun _ H locs _ X => ?_)
          have X : Wd E _ _ (clsW E a f g h ik one wo tp tl tk ts te tn rb rz rn (fdU td 0)) _ _ := X.eq clsW_idP
          exact k_topi (x' := (oBook rb rz rn f td (nI 3) y).1) (by simp [oBook, hx0, ek, c22, hy0]) (fin (g) 44 _ _ _ trivial (X.eq (by simp [oBook, hx0, ek, c22, hy0])) dX11_book_44)
      · refine lv_aload_n hx hb dX11_book_25 rfl (lv_at hl 0 rfl) ?_
        refine lv_iconst (v := 5) hx hb dX11_book_26 (by decide) ?_
        refine k_callV K X gv_X11_84 (As := [.int 5]) (c_X11_finding l E a f g h ik one wo tp tl tk ts te tn rb rz rn td 5 (by decide)) [0, 1, 2, 3, 4, 5, 6, 7, 8, 9, 10, 11, 12, 13, 14, 15, 16, 17, 18, 19, 20, 21, 22, 23, 24, 25, 26, 27, 28, 29, 30, 31, 32, 33, 34, 35, 36, 37, 38, 39, 40, 41, 42] clsW_idC (by decide +kernel) (fun _ => clsW_fst) 0 11 rfl rfl (by decide) rfl hl.1 (rest := []) rfl (Nat.le_of_ble_eq_true rfl) dX11_book_27 (st1 := fun _ => [.int (fnd 5)]) (fun _ => rfl) (fun _ H locs _ X => ?_)
        have X : Wd E _ _ (clsW E a f g h ik one wo tp tl tk ts te tn rb rz rn (fdU td 5)) _ _ := X.eq clsW_idP
        exact k_topi (x' := (oBook rb rz rn f td (nI 3) y).1) (by simp [oBook, hx0, ek, c22]) (fin (g) 30 _ _ _ trivial (X.eq (by simp [oBook, hx0, ek, c22])) dX11_book_30)
  · have hx0 : inR x 0 3 = false := by simpa using c4
    refine lv_aload_n hx hb dX11_book_7 rfl (lv_at hl 0 rfl) ?_
    refine lv_iconst (v := 0) hx hb dX11_book_8 (by decide) ?_
    refine k_callV K X gv_X11_84 (As := [.int 0]) (c_X11_finding l E a f g h ik one wo tp tl tk ts te tn rb rz rn td 0 (by decide)) [0, 1, 2, 3, 4, 5, 6, 7, 8, 9, 10, 11, 12, 13, 14, 15, 16, 17, 18, 19, 20, 21, 22, 23, 24, 25, 26, 27, 28, 29, 30, 31, 32, 33, 34, 35, 36, 37, 38, 39, 40, 41, 42] clsW_idC (by decide +kernel) (fun _ => clsW_fst) 0 11 rfl rfl (by decide) rfl hl.1 (rest := []) rfl (Nat.le_of_ble_eq_true rfl) dX11_book_9 (st1 := fun _ => [.int (fnd 0)]) (fun _ => rfl) (fun _ H locs _ X => ?_)
    have X : Wd E _ _ (clsW E a f g h ik one wo tp tl tk ts te tn rb rz rn (fdU td 0)) _ _ := X.eq clsW_idP
    exact k_topi (x' := (oBook rb rz rn f td x y).1) (by simp [oBook, hx0]) (fin (g) 12 _ _ _ trivial (X.eq (by simp [oBook, hx0])) dX11_book_12)
set_option maxRecDepth 100000 in
set_option maxHeartbeats 4000000 in
theorem c_X11_trialGoesAs0 (l : Launch) (E : EE) (a : Nat → Nat) (f : St) (g : St) (h : St) (ik : Int32) (one : Int32) (wo : Int32) (tp : Nat → Int32) (tl : Int32) (tk : Int32) (ts : Int32) (te : Int32) (tn : Int32) (rb : Nat → Int32) (rz : Nat → Int32) (rn : Nat → Nat → Int64) (td : Nat → Int32) (T : Nat) (q : Nat) (J : InvS rz) (Ig : Inv T g) (hq : q < 10) (hT : T < 999000) : Kn l yX11_trialGoesAs cX11_trialGoesAs 4 (some .boolean) 5 118 E (clsW E a f g h ik one wo tp tl tk ts te tn rb rz rn td) [.ref (a 0), .ref (a 27), .int (nI q)] (S := St) (fun _ => True) (fun _ => (some (.int (b2i (goL (rn 0) q (zR rz 0) 0 g))))) (fun u => (clsW E a f u h ik one wo tp tl tk ts te tn rb rz rn td)) := by
  refine Kn.ofWi (by decide +kernel) (Nat.le_of_ble_eq_true rfl) (fun _ _ => b2i_nar _) ?_
  intro pg ev s0 mm below meth cd Q K X fin ls hl
  have hx := K.1
  have hb := K.2.1
  have hz := (J 0 (by decide)).2
  have hl : lv_has ls 4 [(0, .ref (a 0)), (1, .ref (a 27)), (2, .int (nI q))] := hl
  refine lv_iconst (v := 0) hx hb dX11_trialGoesAs_0 (by decide) ?_
  refine lv_istore_n (lv' := [(3, .int 0), (0, .ref (a 0)), (1, .ref (a 27)), (2, .int (nI q))]) hx hb dX11_trialGoesAs_1 rfl hl (by decide) rfl (fun ls hl => ?_)
  have lp2 : ∀ (fu : Nat) (i : Nat) (m : Nat) (g2 : St) (hfu : m < fu) (hin : i + m = zR rz 0) (hR : goL (rn 0) q m i g2 = goL (rn 0) q (zR rz 0) 0 g) (Ig2 : Inv (T + i) g2) (ls : Array Slot) (hl : lv_has ls 4 [(3, .int (nI i)), (0, .ref (a 0)), (1, .ref (a 27)), (2, .int (nI q))]) (H : Heap) (locs : List Loc) (X : Wd E (inW (clsW E a f g h ik one wo tp tl tk ts te tn rb rz rn td)) s0.heap (clsW E a f g2 h ik one wo tp tl tk ts te tn rb rz rn td) H locs), W pg l ev (rmK 5 118) s0 mm ([.ref (a 0), .ref (a 27), .int (nI q)] : List Value).toArray below meth cd H locs 0 0 Q (F0 mm 2 ls []) := by
    intro fu
    induction fu with
    | zero => intro i m g2 hfu; exact absurd hfu (Nat.not_lt_zero _)
    | succ fu ih2 =>
      intro i m g2 hfu hin hR Ig2 ls hl H locs X
      refine lv_iload_n hx hb dX11_trialGoesAs_2 rfl (lv_at hl 0 rfl) ?_
      refine lv_aload_n hx hb dX11_trialGoesAs_3 rfl (lv_at hl 2 rfl) ?_
      refine k_getN K X 27 rfl fg_X11_233 (v := .int (rz 0)) rfl dX11_trialGoesAs_4 ?_
      refine k_topi ((J 0 (by decide)).1) ?_
      refine kN_ge (x := i) (y := zR rz 0) hx hb 46 dX11_trialGoesAs_7 (by decide) (by omega) (by omega) (fun c7 => ?_) (fun c7 => ?_)
      · obtain rfl : m = 0 := by omega
        refine lv_iconst (v := 1) hx hb dX11_trialGoesAs_46 (by decide) ?_
        exact k_topi (x' := b2i (goL (rn 0) q (zR rz 0) 0 g)) (by rw [← hR]; rfl) (fin (g2) 47 _ _ _ trivial X dX11_trialGoesAs_47)
      · obtain ⟨m, rfl⟩ : ∃ z, m = z + 1 := ⟨m - 1, by omega⟩
        refine lv_aload_n hx hb dX11_trialGoesAs_10 rfl (lv_at hl 2 rfl) ?_
        refine k_getN K X 27 rfl fg_X11_240 (v := .ref (a 28)) rfl dX11_trialGoesAs_11 ?_
        refine lv_iload_n hx hb dX11_trialGoesAs_14 rfl (lv_at hl 0 rfl) ?_
        refine k_laldN K X 28 rfl (k := i) (by omega) (by decide) dX11_trialGoesAs_15 (v := rn 0 i) rfl ?_
        refine lv_aload_n hx hb dX11_trialGoesAs_16 rfl (lv_at hl 1 rfl) ?_
        refine k_get K X 0 rfl fg_X11_36 (v := .ref (a 8)) rfl dX11_trialGoesAs_17 ?_
        refine k_getN K X 8 rfl fg_X11_103 (v := .ref (a 9)) rfl dX11_trialGoesAs_20 ?_
        refine lv_iload_n hx hb dX11_trialGoesAs_23 rfl (lv_at hl 3 rfl) ?_
        refine k_ialdN K X 9 rfl (k := q) (by omega) (by decide) dX11_trialGoesAs_24 (v := g2 1 q) rfl ?_
        refine lv_i2l (v := (g2 1 q).toInt64) hx hb dX11_trialGoesAs_25 rfl ?_
        refine W.lcmp hx hb dX11_trialGoesAs_26 ?_
        refine k_lc_eq (x := rn 0 i) (y := (g2 1 q).toInt64) hx hb 32 dX11_trialGoesAs_27 (by decide) (fun c27 => ?_) (fun c27 => ?_)
        · refine lv_aload_n hx hb dX11_trialGoesAs_32 rfl (lv_at hl 1 rfl) ?_
          refine k_get K X 0 rfl fg_X11_36 (v := .ref (a 8)) rfl dX11_trialGoesAs_33 ?_
          refine k_callV K X gv_X11_196 (As := []) (c_X6_passMinute l E (fun j => a (8 + j)) (fun j => a (36 + j)) g2 (T + i) Ig2 (by omega)) [8, 9, 10, 11, 12, 13, 14, 36, 37, 38, 39, 40, 41, 42] clsW_s1C (by decide +kernel) (fun _ => roomK_fst) 0 6 rfl rfl (by decide) rfl hl.1 (rest := []) rfl (Nat.le_of_ble_eq_true rfl) dX11_trialGoesAs_36 (st1 := fun _ => [.int (tcF g2)]) (fun _ => rfl) (fun _ H locs _ X => ?_)
          have X : Wd E _ _ (clsW E a f (goF g2) h ik one wo tp tl tk ts te tn rb rz rn td) _ _ := X.eq clsW_s1P
          refine lv_pop hx hb dX11_trialGoesAs_39 rfl ?_
          refine lv_iinc (v := nI (i + 1)) (lv' := [(3, .int (nI (i + 1))), (0, .ref (a 0)), (1, .ref (a 27)), (2, .int (nI q))]) hx hb dX11_trialGoesAs_40 hl (k := 0) rfl (nI_add i 1) (by decide) rfl (fun ls hl => ?_)
          refine lv_goto (tgt := 2) hx hb dX11_trialGoesAs_43 (by decide) ?_
          exact ih2 (i + 1) m (goF g2) (by omega) (by omega) (by rw [← hR, goL, if_pos c27]) (Ig2.go (by omega)) _ hl _ _ X
        · refine lv_iconst (v := 0) hx hb dX11_trialGoesAs_30 (by decide) ?_
          exact k_topi (x' := b2i (goL (rn 0) q (zR rz 0) 0 g)) (by rw [← hR, goL, if_neg c27]; rfl) (fin (g2) 31 _ _ _ trivial X dX11_trialGoesAs_31)
  exact lp2 ((zR rz 0) + 1) 0 (zR rz 0) g (by omega) (by omega) (rfl) (Ig) _ hl _ _ X
set_option maxRecDepth 100000 in
set_option maxHeartbeats 4000000 in
theorem c_X11_trialGoesAs1 (l : Launch) (E : EE) (a : Nat → Nat) (f : St) (g : St) (h : St) (ik : Int32) (one : Int32) (wo : Int32) (tp : Nat → Int32) (tl : Int32) (tk : Int32) (ts : Int32) (te : Int32) (tn : Int32) (rb : Nat → Int32) (rz : Nat → Int32) (rn : Nat → Nat → Int64) (td : Nat → Int32) (T : Nat) (q : Nat) (J : InvS rz) (Ig : Inv T g) (hq : q < 10) (hT : T < 999000) : Kn l yX11_trialGoesAs cX11_trialGoesAs 4 (some .boolean) 5 118 E (clsW E a f g h ik one wo tp tl tk ts te tn rb rz rn td) [.ref (a 0), .ref (a 29), .int (nI q)] (S := St) (fun _ => True) (fun _ => (some (.int (b2i (goL (rn 1) q (zR rz 1) 0 g))))) (fun u => (clsW E a f u h ik one wo tp tl tk ts te tn rb rz rn td)) := by
  refine Kn.ofWi (by decide +kernel) (Nat.le_of_ble_eq_true rfl) (fun _ _ => b2i_nar _) ?_
  intro pg ev s0 mm below meth cd Q K X fin ls hl
  have hx := K.1
  have hb := K.2.1
  have hz := (J 1 (by decide)).2
  have hl : lv_has ls 4 [(0, .ref (a 0)), (1, .ref (a 29)), (2, .int (nI q))] := hl
  refine lv_iconst (v := 0) hx hb dX11_trialGoesAs_0 (by decide) ?_
  refine lv_istore_n (lv' := [(3, .int 0), (0, .ref (a 0)), (1, .ref (a 29)), (2, .int (nI q))]) hx hb dX11_trialGoesAs_1 rfl hl (by decide) rfl (fun ls hl => ?_)
  have lp2 : ∀ (fu : Nat) (i : Nat) (m : Nat) (g2 : St) (hfu : m < fu) (hin : i + m = zR rz 1) (hR : goL (rn 1) q m i g2 = goL (rn 1) q (zR rz 1) 0 g) (Ig2 : Inv (T + i) g2) (ls : Array Slot) (hl : lv_has ls 4 [(3, .int (nI i)), (0, .ref (a 0)), (1, .ref (a 29)), (2, .int (nI q))]) (H : Heap) (locs : List Loc) (X : Wd E (inW (clsW E a f g h ik one wo tp tl tk ts te tn rb rz rn td)) s0.heap (clsW E a f g2 h ik one wo tp tl tk ts te tn rb rz rn td) H locs), W pg l ev (rmK 5 118) s0 mm ([.ref (a 0), .ref (a 29), .int (nI q)] : List Value).toArray below meth cd H locs 0 0 Q (F0 mm 2 ls []) := by
    intro fu
    induction fu with
    | zero => intro i m g2 hfu; exact absurd hfu (Nat.not_lt_zero _)
    | succ fu ih2 =>
      intro i m g2 hfu hin hR Ig2 ls hl H locs X
      refine lv_iload_n hx hb dX11_trialGoesAs_2 rfl (lv_at hl 0 rfl) ?_
      refine lv_aload_n hx hb dX11_trialGoesAs_3 rfl (lv_at hl 2 rfl) ?_
      refine k_getN K X 29 rfl fg_X11_233 (v := .int (rz 1)) rfl dX11_trialGoesAs_4 ?_
      refine k_topi ((J 1 (by decide)).1) ?_
      refine kN_ge (x := i) (y := zR rz 1) hx hb 46 dX11_trialGoesAs_7 (by decide) (by omega) (by omega) (fun c7 => ?_) (fun c7 => ?_)
      · obtain rfl : m = 0 := by omega
        refine lv_iconst (v := 1) hx hb dX11_trialGoesAs_46 (by decide) ?_
        exact k_topi (x' := b2i (goL (rn 1) q (zR rz 1) 0 g)) (by rw [← hR]; rfl) (fin (g2) 47 _ _ _ trivial X dX11_trialGoesAs_47)
      · obtain ⟨m, rfl⟩ : ∃ z, m = z + 1 := ⟨m - 1, by omega⟩
        refine lv_aload_n hx hb dX11_trialGoesAs_10 rfl (lv_at hl 2 rfl) ?_
        refine k_getN K X 29 rfl fg_X11_240 (v := .ref (a 30)) rfl dX11_trialGoesAs_11 ?_
        refine lv_iload_n hx hb dX11_trialGoesAs_14 rfl (lv_at hl 0 rfl) ?_
        refine k_laldN K X 30 rfl (k := i) (by omega) (by decide) dX11_trialGoesAs_15 (v := rn 1 i) rfl ?_
        refine lv_aload_n hx hb dX11_trialGoesAs_16 rfl (lv_at hl 1 rfl) ?_
        refine k_get K X 0 rfl fg_X11_36 (v := .ref (a 8)) rfl dX11_trialGoesAs_17 ?_
        refine k_getN K X 8 rfl fg_X11_103 (v := .ref (a 9)) rfl dX11_trialGoesAs_20 ?_
        refine lv_iload_n hx hb dX11_trialGoesAs_23 rfl (lv_at hl 3 rfl) ?_
        refine k_ialdN K X 9 rfl (k := q) (by omega) (by decide) dX11_trialGoesAs_24 (v := g2 1 q) rfl ?_
        refine lv_i2l (v := (g2 1 q).toInt64) hx hb dX11_trialGoesAs_25 rfl ?_
        refine W.lcmp hx hb dX11_trialGoesAs_26 ?_
        refine k_lc_eq (x := rn 1 i) (y := (g2 1 q).toInt64) hx hb 32 dX11_trialGoesAs_27 (by decide) (fun c27 => ?_) (fun c27 => ?_)
        · refine lv_aload_n hx hb dX11_trialGoesAs_32 rfl (lv_at hl 1 rfl) ?_
          refine k_get K X 0 rfl fg_X11_36 (v := .ref (a 8)) rfl dX11_trialGoesAs_33 ?_
          refine k_callV K X gv_X11_196 (As := []) (c_X6_passMinute l E (fun j => a (8 + j)) (fun j => a (36 + j)) g2 (T + i) Ig2 (by omega)) [8, 9, 10, 11, 12, 13, 14, 36, 37, 38, 39, 40, 41, 42] clsW_s1C (by decide +kernel) (fun _ => roomK_fst) 0 6 rfl rfl (by decide) rfl hl.1 (rest := []) rfl (Nat.le_of_ble_eq_true rfl) dX11_trialGoesAs_36 (st1 := fun _ => [.int (tcF g2)]) (fun _ => rfl) (fun _ H locs _ X => ?_)
          have X : Wd E _ _ (clsW E a f (goF g2) h ik one wo tp tl tk ts te tn rb rz rn td) _ _ := X.eq clsW_s1P
          refine lv_pop hx hb dX11_trialGoesAs_39 rfl ?_
          refine lv_iinc (v := nI (i + 1)) (lv' := [(3, .int (nI (i + 1))), (0, .ref (a 0)), (1, .ref (a 29)), (2, .int (nI q))]) hx hb dX11_trialGoesAs_40 hl (k := 0) rfl (nI_add i 1) (by decide) rfl (fun ls hl => ?_)
          refine lv_goto (tgt := 2) hx hb dX11_trialGoesAs_43 (by decide) ?_
          exact ih2 (i + 1) m (goF g2) (by omega) (by omega) (by rw [← hR, goL, if_pos c27]) (Ig2.go (by omega)) _ hl _ _ X
        · refine lv_iconst (v := 0) hx hb dX11_trialGoesAs_30 (by decide) ?_
          exact k_topi (x' := b2i (goL (rn 1) q (zR rz 1) 0 g)) (by rw [← hR, goL, if_neg c27]; rfl) (fin (g2) 31 _ _ _ trivial X dX11_trialGoesAs_31)
  exact lp2 ((zR rz 1) + 1) 0 (zR rz 1) g (by omega) (by omega) (rfl) (Ig) _ hl _ _ X
set_option maxRecDepth 100000 in
set_option maxHeartbeats 4000000 in
theorem c_X11_trialGoesAs2 (l : Launch) (E : EE) (a : Nat → Nat) (f : St) (g : St) (h : St) (ik : Int32) (one : Int32) (wo : Int32) (tp : Nat → Int32) (tl : Int32) (tk : Int32) (ts : Int32) (te : Int32) (tn : Int32) (rb : Nat → Int32) (rz : Nat → Int32) (rn : Nat → Nat → Int64) (td : Nat → Int32) (T : Nat) (q : Nat) (J : InvS rz) (Ig : Inv T g) (hq : q < 10) (hT : T < 999000) : Kn l yX11_trialGoesAs cX11_trialGoesAs 4 (some .boolean) 5 118 E (clsW E a f g h ik one wo tp tl tk ts te tn rb rz rn td) [.ref (a 0), .ref (a 31), .int (nI q)] (S := St) (fun _ => True) (fun _ => (some (.int (b2i (goL (rn 2) q (zR rz 2) 0 g))))) (fun u => (clsW E a f u h ik one wo tp tl tk ts te tn rb rz rn td)) := by
  refine Kn.ofWi (by decide +kernel) (Nat.le_of_ble_eq_true rfl) (fun _ _ => b2i_nar _) ?_
  intro pg ev s0 mm below meth cd Q K X fin ls hl
  have hx := K.1
  have hb := K.2.1
  have hz := (J 2 (by decide)).2
  have hl : lv_has ls 4 [(0, .ref (a 0)), (1, .ref (a 31)), (2, .int (nI q))] := hl
  refine lv_iconst (v := 0) hx hb dX11_trialGoesAs_0 (by decide) ?_
  refine lv_istore_n (lv' := [(3, .int 0), (0, .ref (a 0)), (1, .ref (a 31)), (2, .int (nI q))]) hx hb dX11_trialGoesAs_1 rfl hl (by decide) rfl (fun ls hl => ?_)
  have lp2 : ∀ (fu : Nat) (i : Nat) (m : Nat) (g2 : St) (hfu : m < fu) (hin : i + m = zR rz 2) (hR : goL (rn 2) q m i g2 = goL (rn 2) q (zR rz 2) 0 g) (Ig2 : Inv (T + i) g2) (ls : Array Slot) (hl : lv_has ls 4 [(3, .int (nI i)), (0, .ref (a 0)), (1, .ref (a 31)), (2, .int (nI q))]) (H : Heap) (locs : List Loc) (X : Wd E (inW (clsW E a f g h ik one wo tp tl tk ts te tn rb rz rn td)) s0.heap (clsW E a f g2 h ik one wo tp tl tk ts te tn rb rz rn td) H locs), W pg l ev (rmK 5 118) s0 mm ([.ref (a 0), .ref (a 31), .int (nI q)] : List Value).toArray below meth cd H locs 0 0 Q (F0 mm 2 ls []) := by
    intro fu
    induction fu with
    | zero => intro i m g2 hfu; exact absurd hfu (Nat.not_lt_zero _)
    | succ fu ih2 =>
      intro i m g2 hfu hin hR Ig2 ls hl H locs X
      refine lv_iload_n hx hb dX11_trialGoesAs_2 rfl (lv_at hl 0 rfl) ?_
      refine lv_aload_n hx hb dX11_trialGoesAs_3 rfl (lv_at hl 2 rfl) ?_
      refine k_getN K X 31 rfl fg_X11_233 (v := .int (rz 2)) rfl dX11_trialGoesAs_4 ?_
      refine k_topi ((J 2 (by decide)).1) ?_
      refine kN_ge (x := i) (y := zR rz 2) hx hb 46 dX11_trialGoesAs_7 (by decide) (by omega) (by omega) (fun c7 => ?_) (fun c7 => ?_)
      · obtain rfl : m = 0 := by omega
        refine lv_iconst (v := 1) hx hb dX11_trialGoesAs_46 (by decide) ?_
        exact k_topi (x' := b2i (goL (rn 2) q (zR rz 2) 0 g)) (by rw [← hR]; rfl) (fin (g2) 47 _ _ _ trivial X dX11_trialGoesAs_47)
      · obtain ⟨m, rfl⟩ : ∃ z, m = z + 1 := ⟨m - 1, by omega⟩
        refine lv_aload_n hx hb dX11_trialGoesAs_10 rfl (lv_at hl 2 rfl) ?_
        refine k_getN K X 31 rfl fg_X11_240 (v := .ref (a 32)) rfl dX11_trialGoesAs_11 ?_
        refine lv_iload_n hx hb dX11_trialGoesAs_14 rfl (lv_at hl 0 rfl) ?_
        refine k_laldN K X 32 rfl (k := i) (by omega) (by decide) dX11_trialGoesAs_15 (v := rn 2 i) rfl ?_
        refine lv_aload_n hx hb dX11_trialGoesAs_16 rfl (lv_at hl 1 rfl) ?_
        refine k_get K X 0 rfl fg_X11_36 (v := .ref (a 8)) rfl dX11_trialGoesAs_17 ?_
        refine k_getN K X 8 rfl fg_X11_103 (v := .ref (a 9)) rfl dX11_trialGoesAs_20 ?_
        refine lv_iload_n hx hb dX11_trialGoesAs_23 rfl (lv_at hl 3 rfl) ?_
        refine k_ialdN K X 9 rfl (k := q) (by omega) (by decide) dX11_trialGoesAs_24 (v := g2 1 q) rfl ?_
        refine lv_i2l (v := (g2 1 q).toInt64) hx hb dX11_trialGoesAs_25 rfl ?_
        refine W.lcmp hx hb dX11_trialGoesAs_26 ?_
        refine k_lc_eq (x := rn 2 i) (y := (g2 1 q).toInt64) hx hb 32 dX11_trialGoesAs_27 (by decide) (fun c27 => ?_) (fun c27 => ?_)
        · refine lv_aload_n hx hb dX11_trialGoesAs_32 rfl (lv_at hl 1 rfl) ?_
          refine k_get K X 0 rfl fg_X11_36 (v := .ref (a 8)) rfl dX11_trialGoesAs_33 ?_
          refine k_callV K X gv_X11_196 (As := []) (c_X6_passMinute l E (fun j => a (8 + j)) (fun j => a (36 + j)) g2 (T + i) Ig2 (by omega)) [8, 9, 10, 11, 12, 13, 14, 36, 37, 38, 39, 40, 41, 42] clsW_s1C (by decide +kernel) (fun _ => roomK_fst) 0 6 rfl rfl (by decide) rfl hl.1 (rest := []) rfl (Nat.le_of_ble_eq_true rfl) dX11_trialGoesAs_36 (st1 := fun _ => [.int (tcF g2)]) (fun _ => rfl) (fun _ H locs _ X => ?_)
          have X : Wd E _ _ (clsW E a f (goF g2) h ik one wo tp tl tk ts te tn rb rz rn td) _ _ := X.eq clsW_s1P
          refine lv_pop hx hb dX11_trialGoesAs_39 rfl ?_
          refine lv_iinc (v := nI (i + 1)) (lv' := [(3, .int (nI (i + 1))), (0, .ref (a 0)), (1, .ref (a 31)), (2, .int (nI q))]) hx hb dX11_trialGoesAs_40 hl (k := 0) rfl (nI_add i 1) (by decide) rfl (fun ls hl => ?_)
          refine lv_goto (tgt := 2) hx hb dX11_trialGoesAs_43 (by decide) ?_
          exact ih2 (i + 1) m (goF g2) (by omega) (by omega) (by rw [← hR, goL, if_pos c27]) (Ig2.go (by omega)) _ hl _ _ X
        · refine lv_iconst (v := 0) hx hb dX11_trialGoesAs_30 (by decide) ?_
          exact k_topi (x' := b2i (goL (rn 2) q (zR rz 2) 0 g)) (by rw [← hR, goL, if_neg c27]; rfl) (fin (g2) 31 _ _ _ trivial X dX11_trialGoesAs_31)
  exact lp2 ((zR rz 2) + 1) 0 (zR rz 2) g (by omega) (by omega) (rfl) (Ig) _ hl _ _ X
set_option maxRecDepth 100000 in
set_option maxHeartbeats 4000000 in
theorem c_X11_trialGoesAs3 (l : Launch) (E : EE) (a : Nat → Nat) (f : St) (g : St) (h : St) (ik : Int32) (one : Int32) (wo : Int32) (tp : Nat → Int32) (tl : Int32) (tk : Int32) (ts : Int32) (te : Int32) (tn : Int32) (rb : Nat → Int32) (rz : Nat → Int32) (rn : Nat → Nat → Int64) (td : Nat → Int32) (T : Nat) (q : Nat) (J : InvS rz) (Ig : Inv T g) (hq : q < 10) (hT : T < 999000) : Kn l yX11_trialGoesAs cX11_trialGoesAs 4 (some .boolean) 5 118 E (clsW E a f g h ik one wo tp tl tk ts te tn rb rz rn td) [.ref (a 0), .ref (a 33), .int (nI q)] (S := St) (fun _ => True) (fun _ => (some (.int (b2i (goL (rn 3) q (zR rz 3) 0 g))))) (fun u => (clsW E a f u h ik one wo tp tl tk ts te tn rb rz rn td)) := by
  refine Kn.ofWi (by decide +kernel) (Nat.le_of_ble_eq_true rfl) (fun _ _ => b2i_nar _) ?_
  intro pg ev s0 mm below meth cd Q K X fin ls hl
  have hx := K.1
  have hb := K.2.1
  have hz := (J 3 (by decide)).2
  have hl : lv_has ls 4 [(0, .ref (a 0)), (1, .ref (a 33)), (2, .int (nI q))] := hl
  refine lv_iconst (v := 0) hx hb dX11_trialGoesAs_0 (by decide) ?_
  refine lv_istore_n (lv' := [(3, .int 0), (0, .ref (a 0)), (1, .ref (a 33)), (2, .int (nI q))]) hx hb dX11_trialGoesAs_1 rfl hl (by decide) rfl (fun ls hl => ?_)
  have lp2 : ∀ (fu : Nat) (i : Nat) (m : Nat) (g2 : St) (hfu : m < fu) (hin : i + m = zR rz 3) (hR : goL (rn 3) q m i g2 = goL (rn 3) q (zR rz 3) 0 g) (Ig2 : Inv (T + i) g2) (ls : Array Slot) (hl : lv_has ls 4 [(3, .int (nI i)), (0, .ref (a 0)), (1, .ref (a 33)), (2, .int (nI q))]) (H : Heap) (locs : List Loc) (X : Wd E (inW (clsW E a f g h ik one wo tp tl tk ts te tn rb rz rn td)) s0.heap (clsW E a f g2 h ik one wo tp tl tk ts te tn rb rz rn td) H locs), W pg l ev (rmK 5 118) s0 mm ([.ref (a 0), .ref (a 33), .int (nI q)] : List Value).toArray below meth cd H locs 0 0 Q (F0 mm 2 ls []) := by
    intro fu
    induction fu with
    | zero => intro i m g2 hfu; exact absurd hfu (Nat.not_lt_zero _)
    | succ fu ih2 =>
      intro i m g2 hfu hin hR Ig2 ls hl H locs X
      refine lv_iload_n hx hb dX11_trialGoesAs_2 rfl (lv_at hl 0 rfl) ?_
      refine lv_aload_n hx hb dX11_trialGoesAs_3 rfl (lv_at hl 2 rfl) ?_
      refine k_getN K X 33 rfl fg_X11_233 (v := .int (rz 3)) rfl dX11_trialGoesAs_4 ?_
      refine k_topi ((J 3 (by decide)).1) ?_
      refine kN_ge (x := i) (y := zR rz 3) hx hb 46 dX11_trialGoesAs_7 (by decide) (by omega) (by omega) (fun c7 => ?_) (fun c7 => ?_)
      · obtain rfl : m = 0 := by omega
        refine lv_iconst (v := 1) hx hb dX11_trialGoesAs_46 (by decide) ?_
        exact k_topi (x' := b2i (goL (rn 3) q (zR rz 3) 0 g)) (by rw [← hR]; rfl) (fin (g2) 47 _ _ _ trivial X dX11_trialGoesAs_47)
      · obtain ⟨m, rfl⟩ : ∃ z, m = z + 1 := ⟨m - 1, by omega⟩
        refine lv_aload_n hx hb dX11_trialGoesAs_10 rfl (lv_at hl 2 rfl) ?_
        refine k_getN K X 33 rfl fg_X11_240 (v := .ref (a 34)) rfl dX11_trialGoesAs_11 ?_
        refine lv_iload_n hx hb dX11_trialGoesAs_14 rfl (lv_at hl 0 rfl) ?_
        refine k_laldN K X 34 rfl (k := i) (by omega) (by decide) dX11_trialGoesAs_15 (v := rn 3 i) rfl ?_
        refine lv_aload_n hx hb dX11_trialGoesAs_16 rfl (lv_at hl 1 rfl) ?_
        refine k_get K X 0 rfl fg_X11_36 (v := .ref (a 8)) rfl dX11_trialGoesAs_17 ?_
        refine k_getN K X 8 rfl fg_X11_103 (v := .ref (a 9)) rfl dX11_trialGoesAs_20 ?_
        refine lv_iload_n hx hb dX11_trialGoesAs_23 rfl (lv_at hl 3 rfl) ?_
        refine k_ialdN K X 9 rfl (k := q) (by omega) (by decide) dX11_trialGoesAs_24 (v := g2 1 q) rfl ?_
        refine lv_i2l (v := (g2 1 q).toInt64) hx hb dX11_trialGoesAs_25 rfl ?_
        refine W.lcmp hx hb dX11_trialGoesAs_26 ?_
        refine k_lc_eq (x := rn 3 i) (y := (g2 1 q).toInt64) hx hb 32 dX11_trialGoesAs_27 (by decide) (fun c27 => ?_) (fun c27 => ?_)
        · refine lv_aload_n hx hb dX11_trialGoesAs_32 rfl (lv_at hl 1 rfl) ?_
          refine k_get K X 0 rfl fg_X11_36 (v := .ref (a 8)) rfl dX11_trialGoesAs_33 ?_
          refine k_callV K X gv_X11_196 (As := []) (c_X6_passMinute l E (fun j => a (8 + j)) (fun j => a (36 + j)) g2 (T + i) Ig2 (by omega)) [8, 9, 10, 11, 12, 13, 14, 36, 37, 38, 39, 40, 41, 42] clsW_s1C (by decide +kernel) (fun _ => roomK_fst) 0 6 rfl rfl (by decide) rfl hl.1 (rest := []) rfl (Nat.le_of_ble_eq_true rfl) dX11_trialGoesAs_36 (st1 := fun _ => [.int (tcF g2)]) (fun _ => rfl) (fun _ H locs _ X => ?_)
          have X : Wd E _ _ (clsW E a f (goF g2) h ik one wo tp tl tk ts te tn rb rz rn td) _ _ := X.eq clsW_s1P
          refine lv_pop hx hb dX11_trialGoesAs_39 rfl ?_
          refine lv_iinc (v := nI (i + 1)) (lv' := [(3, .int (nI (i + 1))), (0, .ref (a 0)), (1, .ref (a 33)), (2, .int (nI q))]) hx hb dX11_trialGoesAs_40 hl (k := 0) rfl (nI_add i 1) (by decide) rfl (fun ls hl => ?_)
          refine lv_goto (tgt := 2) hx hb dX11_trialGoesAs_43 (by decide) ?_
          exact ih2 (i + 1) m (goF g2) (by omega) (by omega) (by rw [← hR, goL, if_pos c27]) (Ig2.go (by omega)) _ hl _ _ X
        · refine lv_iconst (v := 0) hx hb dX11_trialGoesAs_30 (by decide) ?_
          exact k_topi (x' := b2i (goL (rn 3) q (zR rz 3) 0 g)) (by rw [← hR, goL, if_neg c27]; rfl) (fin (g2) 31 _ _ _ trivial X dX11_trialGoesAs_31)
  exact lp2 ((zR rz 3) + 1) 0 (zR rz 3) g (by omega) (by omega) (rfl) (Ig) _ hl _ _ X
set_option maxRecDepth 100000 in
set_option maxHeartbeats 4000000 in
theorem c_X11_read (l : Launch) (E : EE) (a : Nat → Nat) (f : St) (g : St) (h : St) (ik : Int32) (one : Int32) (wo : Int32) (tp : Nat → Int32) (tl : Int32) (tk : Int32) (ts : Int32) (te : Int32) (tn : Int32) (rb : Nat → Int32) (rz : Nat → Int32) (rn : Nat → Nat → Int64) (td : Nat → Int32) (T : Nat) (x : Int32) (y : Int32) (z : Int32) (I : Inv T f) (J : InvS rz) (hT : T < 999000) : Kn l yX11_read cX11_read 7 (some .int) 6 141 E (clsW E a f g h ik one wo tp tl tk ts te tn rb rz rn td) [.ref (a 0), .int x, .int y, .int z] (S := St) (fun _ => True) (fun _ => (some (.int ((oRead rb rz rn f td x y z).1)))) (fun u => (clsW E a f u h ik one wo tp tl tk ts te tn rb rz rn ((oRead rb rz rn f td x y z).2))) := by
  refine Kn.ofWi (by decide +kernel) (Nat.le_of_ble_eq_true rfl) (fun _ _ => rfl) ?_
  intro pg ev s0 mm below meth cd Q K X fin ls hl
  have hx := K.1
  have hb := K.2.1
  have hs10 := I.s10
  have hp6 := I.p6
  have hl : lv_has ls 7 [(0, .ref (a 0)), (1, .int x), (2, .int y), (3, .int z)] := hl
  refine lv_iload_n hx hb dX11_read_0 rfl (lv_at hl 1 rfl) ?_
  refine k_callS K X gs_X11_227 (As := [.int x]) (c_X11_noSheet l E x) [] rfl (by decide +kernel) (fun _ => rfl) (by decide) rfl hl.1 (rest := []) rfl (Nat.le_of_ble_eq_true rfl) dX11_read_1 (st1 := fun _ => [.int (b2i (!inR x 0 3))]) (fun _ => rfl) (fun _ H locs _ X => ?_)
  have X : Wd E _ _ (clsW E a f g h ik one wo tp tl tk ts te tn rb rz rn td) _ _ := X
  refine k_ifeqB (B := (!inR x 0 3)) hx hb 13 dX11_read_4 (by decide) (fun c4 => ?_) (fun c4 => ?_)
  · have hx0 : inR x 0 3 = true := by simpa using c4
    obtain ⟨k, hk, rfl, -⟩ := inR_nat (n := 4) (by decide) (by decide) hx0
    have ek : (nI k).toNatClampNeg = k := nI_clamp (by omega)
    refine lv_aload_n hx hb dX11_read_13 rfl (lv_at hl 0 rfl) ?_
    refine k_get K X 0 rfl fg_X11_71 (v := .ref (a 26)) rfl dX11_read_14 ?_
    rcases (show k = 0 ∨ k = 1 ∨ k = 2 ∨ k = 3 by omega) with rfl | rfl | rfl | rfl
    · have hz := (J 0 (by decide)).2
      refine lv_iload_n hx hb dX11_read_17 rfl (lv_at hl 1 rfl) ?_
      refine k_aaldN (C := "SlipWall$Row") K X 26 3 rfl rfl (k := 0) (by omega) (by decide) (r := a 27) rfl dX11_read_18 ?_
      refine k_callV K X gv_X11_236 (As := []) (c_X7_isMissing l E (fun j => a (27 + j)) (rb 0) (rz 0) (rn 0)) [27, 28] clsW_s14C (by decide +kernel) (fun _ => rowW_fst) 0 7 rfl rfl (by decide) rfl hl.1 (rest := []) rfl (Nat.le_of_ble_eq_true rfl) dX11_read_19 (st1 := fun _ => [.int (b2i (decide ((rb 0) = 0)))]) (fun _ => rfl) (fun _ H locs _ X => ?_)
      have X : Wd E _ _ (clsW E a f g h ik one wo tp tl tk ts te tn rb rz rn td) _ _ := X.eq clsW_s14P
      refine k_ifeqB (B := (decide ((rb 0) = 0))) hx hb 31 dX11_read_22 (by decide) (fun c22 => ?_) (fun c22 => ?_)
      · refine lv_aload_n hx hb dX11_read_31 rfl (lv_at hl 0 rfl) ?_
        refine lv_iload_n hx hb dX11_read_32 rfl (lv_at hl 2 rfl) ?_
        refine k_callV K X gv_X11_99 (As := [.int y]) (c_X11_noSlip l E a f g h ik one wo tp tl tk ts te tn rb rz rn td y) [0, 1, 2, 3, 4, 5, 6, 7, 8, 9, 10, 11, 12, 13, 14, 15, 16, 17, 18, 19, 20, 21, 22, 23, 24, 25, 26, 27, 28, 29, 30, 31, 32, 33, 34, 35, 36, 37, 38, 39, 40, 41, 42] clsW_idC (by decide +kernel) (fun _ => clsW_fst) 0 11 rfl rfl (by decide) rfl hl.1 (rest := []) rfl (Nat.le_of_ble_eq_true rfl) dX11_read_33 (st1 := fun _ => [.int (b2i (!isS f y))]) (fun _ => rfl) (fun _ H locs _ X => ?_)
        have X : Wd E _ _ (clsW E a f g h ik one wo tp tl tk ts te tn rb rz rn td) _ _ := X.eq clsW_idP
        refine k_ifneB (B := (!isS f y)) hx hb 47 dX11_read_36 (by decide) (fun c36 => ?_) (fun c36 => ?_)
        · have hy0 : isS f y = false := by simpa using c36
          refine lv_aload_n hx hb dX11_read_47 rfl (lv_at hl 0 rfl) ?_
          refine lv_iconst (v := 0) hx hb dX11_read_48 (by decide) ?_
          refine k_callV K X gv_X11_84 (As := [.int 0]) (c_X11_finding l E a f g h ik one wo tp tl tk ts te tn rb rz rn td 0 (by decide)) [0, 1, 2, 3, 4, 5, 6, 7, 8, 9, 10, 11, 12, 13, 14, 15, 16, 17, 18, 19, 20, 21, 22, 23, 24, 25, 26, 27, 28, 29, 30, 31, 32, 33, 34, 35, 36, 37, 38, 39, 40, 41, 42] clsW_idC (by decide +kernel) (fun _ => clsW_fst) 0 11 rfl rfl (by decide) rfl hl.1 (rest := []) rfl (Nat.le_of_ble_eq_true rfl) dX11_read_49 (st1 := fun _ => [.int (fnd 0)]) (fun _ => rfl) (fun _ H locs _ X => ?_)
          have X : Wd E _ _ (clsW E a f g h ik one wo tp tl tk ts te tn rb rz rn (fdU td 0)) _ _ := X.eq clsW_idP
          exact k_topi (x' := (oRead rb rz rn f td (nI 0) y z).1) (by simp [oRead, hx0, ek, c22, hy0]) (fin (g) 52 _ _ _ trivial (X.eq (by simp [oRead, hx0, ek, c22, hy0])) dX11_read_52)
        · have hy0 : isS f y = true := by simpa using c36
          obtain ⟨q, hq, rfl⟩ := isS_nat I hy0
          have eq : (nI q).toNatClampNeg = q := nI_clamp (by omega)
          refine lv_aload_n hx hb dX11_read_39 rfl (lv_at hl 0 rfl) ?_
          refine lv_iload_n hx hb dX11_read_40 rfl (lv_at hl 3 rfl) ?_
          refine k_callV K X gv_X11_147 (As := [.int z]) (c_X11_noPerson l E a f g h ik one wo tp tl tk ts te tn rb rz rn td z) [0, 1, 2, 3, 4, 5, 6, 7, 8, 9, 10, 11, 12, 13, 14, 15, 16, 17, 18, 19, 20, 21, 22, 23, 24, 25, 26, 27, 28, 29, 30, 31, 32, 33, 34, 35, 36, 37, 38, 39, 40, 41, 42] clsW_idC (by decide +kernel) (fun _ => clsW_fst) 0 11 rfl rfl (by decide) rfl hl.1 (rest := []) rfl (Nat.le_of_ble_eq_true rfl) dX11_read_41 (st1 := fun _ => [.int (b2i (!isP f z))]) (fun _ => rfl) (fun _ H locs _ X => ?_)
          have X : Wd E _ _ (clsW E a f g h ik one wo tp tl tk ts te tn rb rz rn td) _ _ := X.eq clsW_idP
          refine k_ifeqB (B := (!isP f z)) hx hb 53 dX11_read_44 (by decide) (fun c44 => ?_) (fun c44 => ?_)
          · have hp0 : isP f z = true := by simpa using c44
            obtain ⟨p, hp, rfl⟩ := isP_nat I hp0
            have ep : (nI p).toNatClampNeg = p := nI_clamp (by omega)
            refine lv_iconst (v := 0) hx hb dX11_read_53 (by decide) ?_
            refine lv_istore (lv' := [(4, .int 0), (0, .ref (a 0)), (1, .int 0), (2, .int (nI q)), (3, .int (nI p))]) hx hb dX11_read_54 hl (by decide) rfl (fun ls hl => ?_)
            refine lv_iconst (v := 0) hx hb dX11_read_56 (by decide) ?_
            refine lv_istore (lv' := [(5, .int 0), (4, .int 0), (0, .ref (a 0)), (1, .int 0), (2, .int (nI q)), (3, .int (nI p))]) hx hb dX11_read_57 hl (by decide) rfl (fun ls hl => ?_)
            have lp59 : ∀ (fu : Nat) (i : Nat) (n : Nat) (w : Nat) (g2 : St) (hfu : n < fu) (hin : i + n = 6) (hR : cntL (rdB (rn 0) (zR rz 0) f p q) (6 * n) (6 * i) w = cntL (rdB (rn 0) (zR rz 0) f p q) 36 0 0) (ls : Array Slot) (hl : lv_has ls 7 [(5, .int (nI i)), (4, .int (nI w)), (0, .ref (a 0)), (1, .int 0), (2, .int (nI q)), (3, .int (nI p))]) (H : Heap) (locs : List Loc) (X : Wd E (inW (clsW E a f g h ik one wo tp tl tk ts te tn rb rz rn td)) s0.heap (clsW E a f g2 h ik one wo tp tl tk ts te tn rb rz rn td) H locs), W pg l ev (rmK 6 141) s0 mm ([.ref (a 0), .int (nI 0), .int (nI q), .int (nI p)] : List Value).toArray below meth cd H locs 0 0 Q (F0 mm 59 ls []) := by
              intro fu
              induction fu with
              | zero => intro i n w g2 hfu; exact absurd hfu (Nat.not_lt_zero _)
              | succ fu ih59 =>
                intro i n w g2 hfu hin hR ls hl H locs X
                refine lv_iload hx hb dX11_read_59 (lv_at hl 0 rfl) ?_
                refine lv_iconst (v := 5) hx hb dX11_read_61 (by decide) ?_
                refine kN_gt (x := i) (y := 5) hx hb 140 dX11_read_62 (by decide) (by omega) (by omega) (fun c62 => ?_) (fun c62 => ?_)
                · obtain rfl : n = 0 := by omega
                  refine lv_iload hx hb dX11_read_140 (lv_at hl 1 rfl) ?_
                  exact k_topi (x' := (oRead rb rz rn f td (nI 0) (nI q) (nI p)).1) (by rw [oRead, hx0, cond_true, ek, c22, cond_false, hy0, hp0, Bool.true_and, cond_true, eq, ep, ← hR] <;> rfl) (fin (g2) 142 _ _ _ trivial (X.eq (by rw [oRead, hx0, cond_true, ek, c22, cond_false, hy0, hp0, Bool.true_and, cond_true] <;> rfl)) dX11_read_142)
                · obtain ⟨n, rfl⟩ : ∃ z, n = z + 1 := ⟨n - 1, by omega⟩
                  refine lv_iconst (v := 0) hx hb dX11_read_65 (by decide) ?_
                  refine lv_istore (lv' := [(6, .int 0), (5, .int (nI i)), (4, .int (nI w)), (0, .ref (a 0)), (1, .int 0), (2, .int (nI q)), (3, .int (nI p))]) hx hb dX11_read_66 hl (by decide) rfl (fun ls hl => ?_)
                  have lp68 : ∀ (fu : Nat) (j : Nat) (m : Nat) (w2 : Nat) (g3 : St) (hfu : m < fu) (hin2 : j + m = 6) (hV : cntL (rdB (rn 0) (zR rz 0) f p q) (m + 6 * n) (6 * i + j) w2 = cntL (rdB (rn 0) (zR rz 0) f p q) 36 0 0) (ls : Array Slot) (hl : lv_has ls 7 [(6, .int (nI j)), (5, .int (nI i)), (4, .int (nI w2)), (0, .ref (a 0)), (1, .int 0), (2, .int (nI q)), (3, .int (nI p))]) (H : Heap) (locs : List Loc) (X : Wd E (inW (clsW E a f g h ik one wo tp tl tk ts te tn rb rz rn td)) s0.heap (clsW E a f g3 h ik one wo tp tl tk ts te tn rb rz rn td) H locs), W pg l ev (rmK 6 141) s0 mm ([.ref (a 0), .int (nI 0), .int (nI q), .int (nI p)] : List Value).toArray below meth cd H locs 0 0 Q (F0 mm 68 ls []) := by
                    intro fu
                    induction fu with
                    | zero => intro j m w2 g3 hfu; exact absurd hfu (Nat.not_lt_zero _)
                    | succ fu ih68 =>
                      intro j m w2 g3 hfu hin2 hV ls hl H locs X
                      refine lv_iload hx hb dX11_read_68 (lv_at hl 0 rfl) ?_
                      refine lv_iconst (v := 5) hx hb dX11_read_70 (by decide) ?_
                      refine kN_gt (x := j) (y := 5) hx hb 134 dX11_read_71 (by decide) (by omega) (by omega) (fun c71 => ?_) (fun c71 => ?_)
                      · obtain rfl : m = 0 := by omega
                        rw [show 6 * i + j = 6 * (i + 1) by omega, Nat.zero_add] at hV
                        refine lv_iinc (v := nI (i + 1)) (lv' := [(5, .int (nI (i + 1))), (6, .int (nI j)), (4, .int (nI w2)), (0, .ref (a 0)), (1, .int 0), (2, .int (nI q)), (3, .int (nI p))]) hx hb dX11_read_134 hl (k := 1) rfl (nI_add i 1) (by decide) rfl (fun ls hl => ?_)
                        refine lv_goto (tgt := 59) hx hb dX11_read_137 (by decide) ?_
                        exact ih59 (i + 1) n w2 g3 (by omega) (by omega) (hV) _ (lv_sub hl [0, 2, 3, 4, 5, 6] rfl) _ _ X
                      · obtain ⟨m, rfl⟩ : ∃ z, m = z + 1 := ⟨m - 1, by omega⟩
                        refine lv_aload_n hx hb dX11_read_74 rfl (lv_at hl 3 rfl) ?_
                        refine k_get K X 0 rfl fg_X11_36 (v := .ref (a 8)) rfl dX11_read_75 ?_
                        refine lv_aload_n hx hb dX11_read_78 rfl (lv_at hl 3 rfl) ?_
                        refine k_get K X 0 rfl fg_X11_30 (v := .ref (a 1)) rfl dX11_read_79 ?_
                        refine k_callV K X gv_X11_189 (As := [.ref (a 1)]) (c_X6_copyFrom l E (fun j => a (8 + j)) (fun j => a (1 + j)) (fun j => a (36 + j)) g3 f) [8, 9, 10, 11, 12, 13, 14, 1, 2, 3, 4, 5, 6, 7] clsW_s8C (by decide +kernel) (fun _ => room2_fst) 0 6 rfl rfl (by decide) rfl hl.1 (rest := []) rfl (Nat.le_of_ble_eq_true rfl) dX11_read_82 (st1 := fun _ => []) (fun _ => rfl) (fun _ H locs _ X => ?_)
                        have X : Wd E _ _ (clsW E a f f h ik one wo tp tl tk ts te tn rb rz rn td) _ _ := X.eq clsW_s8P
                        refine lv_aload_n hx hb dX11_read_85 rfl (lv_at hl 3 rfl) ?_
                        refine k_get K X 0 rfl fg_X11_36 (v := .ref (a 8)) rfl dX11_read_86 ?_
                        refine k_getN K X 8 rfl fg_X11_150 (v := .ref (a 12)) rfl dX11_read_89 ?_
                        refine lv_iload_n hx hb dX11_read_92 rfl (lv_at hl 6 rfl) ?_
                        refine lv_iload hx hb dX11_read_93 (lv_at hl 1 rfl) ?_
                        refine k_iastN K X 12 rfl (k := p) (x := nI i) (by omega) (by decide) dX11_read_95 (fun H locs X => ?_)
                        have X : Wd E _ _ (clsW E a f (up2 f 4 p (nI i)) h ik one wo tp tl tk ts te tn rb rz rn td) _ _ := X
                        refine lv_aload_n hx hb dX11_read_96 rfl (lv_at hl 3 rfl) ?_
                        refine k_get K X 0 rfl fg_X11_36 (v := .ref (a 8)) rfl dX11_read_97 ?_
                        refine k_getN K X 8 rfl fg_X11_165 (v := .ref (a 14)) rfl dX11_read_100 ?_
                        refine lv_iload_n hx hb dX11_read_103 rfl (lv_at hl 6 rfl) ?_
                        refine lv_iload_n hx hb dX11_read_104 rfl (lv_at hl 5 rfl) ?_
                        refine k_callS K X gs_X11_168 (As := [.int (nI p), .int (nI q)]) (c_X6_wish l E p q) [] rfl (by decide +kernel) (fun _ => rfl) (by decide) rfl hl.1 (rest := [.ref (a 14)]) rfl (Nat.le_of_ble_eq_true rfl) dX11_read_105 (st1 := fun _ => [.int (nI (10 * p + q)), .ref (a 14)]) (fun _ => rfl) (fun _ H locs _ X => ?_)
                        have X : Wd E _ _ (clsW E a f (up2 f 4 p (nI i)) h ik one wo tp tl tk ts te tn rb rz rn td) _ _ := X
                        refine lv_iload hx hb dX11_read_108 (lv_at hl 0 rfl) ?_
                        refine k_iastN K X 14 rfl (k := 10 * p + q) (x := nI j) (by omega) (by decide) dX11_read_110 (fun H locs X => ?_)
                        have X : Wd E _ _ (clsW E a f (up2 (up2 f 4 p (nI i)) 6 (10 * p + q) (nI j)) h ik one wo tp tl tk ts te tn rb rz rn td) _ _ := X
                        refine lv_aload_n hx hb dX11_read_111 rfl (lv_at hl 3 rfl) ?_
                        refine lv_aload_n hx hb dX11_read_112 rfl (lv_at hl 3 rfl) ?_
                        refine k_get K X 0 rfl fg_X11_71 (v := .ref (a 26)) rfl dX11_read_113 ?_
                        refine lv_iload_n hx hb dX11_read_116 rfl (lv_at hl 4 rfl) ?_
                        refine k_aaldN (C := "SlipWall$Row") K X 26 3 rfl rfl (k := 0) (by omega) (by decide) (r := a 27) rfl dX11_read_117 ?_
                        refine lv_iload_n hx hb dX11_read_118 rfl (lv_at hl 5 rfl) ?_
                        refine k_callV K X gv_X11_261 (As := [.ref (a 27), .int (nI q)]) (c_X11_trialGoesAs0 l E a f (up2 (up2 f 4 p (nI i)) 6 (10 * p + q) (nI j)) h ik one wo tp tl tk ts te tn rb rz rn td T q (by omega) ((I.up4 p (by omega)).up6 _ (by omega)) (by omega) (by omega)) [0, 1, 2, 3, 4, 5, 6, 7, 8, 9, 10, 11, 12, 13, 14, 15, 16, 17, 18, 19, 20, 21, 22, 23, 24, 25, 26, 27, 28, 29, 30, 31, 32, 33, 34, 35, 36, 37, 38, 39, 40, 41, 42] clsW_idC (by decide +kernel) (fun _ => clsW_fst) 0 11 rfl rfl (by decide) rfl hl.1 (rest := []) rfl (Nat.le_of_ble_eq_true rfl) dX11_read_119 (st1 := fun _ => [.int (b2i (goL (rn 0) q (zR rz 0) 0 (up2 (up2 f 4 p (nI i)) 6 (10 * p + q) (nI j))))]) (fun _ => rfl) (fun u119 H locs _ X => ?_)
                        have X : Wd E _ _ (clsW E a f u119 h ik one wo tp tl tk ts te tn rb rz rn td) _ _ := X.eq clsW_idP
                        refine k_ifeqB (B := (goL (rn 0) q (zR rz 0) 0 (up2 (up2 f 4 p (nI i)) 6 (10 * p + q) (nI j)))) hx hb 128 dX11_read_122 (by decide) (fun c122 => ?_) (fun c122 => ?_)
                        · refine lv_iinc (v := nI (j + 1)) (lv' := [(6, .int (nI (j + 1))), (5, .int (nI i)), (4, .int (nI w2)), (0, .ref (a 0)), (1, .int 0), (2, .int (nI q)), (3, .int (nI p))]) hx hb dX11_read_128 hl (k := 0) rfl (nI_add j 1) (by decide) rfl (fun ls hl => ?_)
                          refine lv_goto (tgt := 68) hx hb dX11_read_131 (by decide) ?_
                          exact ih68 (j + 1) m w2 u119 (by omega) (by omega) (by rw [← hV, show m + 1 + 6 * n = (m + 6 * n) + 1 by omega, cntL, rdB_at (show j < 6 by omega), c122]; rfl) _ hl _ _ X
                        · refine lv_iinc (v := nI (w2 + 1)) (lv' := [(4, .int (nI (w2 + 1))), (6, .int (nI j)), (5, .int (nI i)), (0, .ref (a 0)), (1, .int 0), (2, .int (nI q)), (3, .int (nI p))]) hx hb dX11_read_125 hl (k := 2) rfl (nI_add w2 1) (by decide) rfl (fun ls hl => ?_)
                          refine lv_iinc (v := nI (j + 1)) (lv' := [(6, .int (nI (j + 1))), (4, .int (nI (w2 + 1))), (5, .int (nI i)), (0, .ref (a 0)), (1, .int 0), (2, .int (nI q)), (3, .int (nI p))]) hx hb dX11_read_128 hl (k := 1) rfl (nI_add j 1) (by decide) rfl (fun ls hl => ?_)
                          refine lv_goto (tgt := 68) hx hb dX11_read_131 (by decide) ?_
                          exact ih68 (j + 1) m (w2 + 1) u119 (by omega) (by omega) (by rw [← hV, show m + 1 + 6 * n = (m + 6 * n) + 1 by omega, cntL, rdB_at (show j < 6 by omega), c122]; rfl) _ (lv_sub hl [0, 2, 1, 3, 4, 5, 6] rfl) _ _ X
                  exact lp68 (6 + 1) 0 6 w g2 (by omega) (by omega) (by rw [← hR]; congr 1; omega) _ hl _ _ X
            exact lp59 (6 + 1) 0 6 0 g (by omega) (by omega) (rfl) _ hl _ _ X
          · have hp0 : isP f z = false := by simpa using c44
            refine lv_aload_n hx hb dX11_read_47 rfl (lv_at hl 0 rfl) ?_
            refine lv_iconst (v := 0) hx hb dX11_read_48 (by decide) ?_
            refine k_callV K X gv_X11_84 (As := [.int 0]) (c_X11_finding l E a f g h ik one wo tp tl tk ts te tn rb rz rn td 0 (by decide)) [0, 1, 2, 3, 4, 5, 6, 7, 8, 9, 10, 11, 12, 13, 14, 15, 16, 17, 18, 19, 20, 21, 22, 23, 24, 25, 26, 27, 28, 29, 30, 31, 32, 33, 34, 35, 36, 37, 38, 39, 40, 41, 42] clsW_idC (by decide +kernel) (fun _ => clsW_fst) 0 11 rfl rfl (by decide) rfl hl.1 (rest := []) rfl (Nat.le_of_ble_eq_true rfl) dX11_read_49 (st1 := fun _ => [.int (fnd 0)]) (fun _ => rfl) (fun _ H locs _ X => ?_)
            have X : Wd E _ _ (clsW E a f g h ik one wo tp tl tk ts te tn rb rz rn (fdU td 0)) _ _ := X.eq clsW_idP
            exact k_topi (x' := (oRead rb rz rn f td (nI 0) (nI q) z).1) (by simp [oRead, hx0, ek, c22, hy0, eq, hp0]) (fin (g) 52 _ _ _ trivial (X.eq (by simp [oRead, hx0, ek, c22, hy0, eq, hp0])) dX11_read_52)
      · refine lv_aload_n hx hb dX11_read_25 rfl (lv_at hl 0 rfl) ?_
        refine lv_iconst (v := 5) hx hb dX11_read_26 (by decide) ?_
        refine k_callV K X gv_X11_84 (As := [.int 5]) (c_X11_finding l E a f g h ik one wo tp tl tk ts te tn rb rz rn td 5 (by decide)) [0, 1, 2, 3, 4, 5, 6, 7, 8, 9, 10, 11, 12, 13, 14, 15, 16, 17, 18, 19, 20, 21, 22, 23, 24, 25, 26, 27, 28, 29, 30, 31, 32, 33, 34, 35, 36, 37, 38, 39, 40, 41, 42] clsW_idC (by decide +kernel) (fun _ => clsW_fst) 0 11 rfl rfl (by decide) rfl hl.1 (rest := []) rfl (Nat.le_of_ble_eq_true rfl) dX11_read_27 (st1 := fun _ => [.int (fnd 5)]) (fun _ => rfl) (fun _ H locs _ X => ?_)
        have X : Wd E _ _ (clsW E a f g h ik one wo tp tl tk ts te tn rb rz rn (fdU td 5)) _ _ := X.eq clsW_idP
        exact k_topi (x' := (oRead rb rz rn f td (nI 0) y z).1) (by simp [oRead, hx0, ek, c22]) (fin (g) 30 _ _ _ trivial (X.eq (by simp [oRead, hx0, ek, c22])) dX11_read_30)
    · have hz := (J 1 (by decide)).2
      refine lv_iload_n hx hb dX11_read_17 rfl (lv_at hl 1 rfl) ?_
      refine k_aaldN (C := "SlipWall$Row") K X 26 3 rfl rfl (k := 1) (by omega) (by decide) (r := a 29) rfl dX11_read_18 ?_
      refine k_callV K X gv_X11_236 (As := []) (c_X7_isMissing l E (fun j => a (29 + j)) (rb 1) (rz 1) (rn 1)) [29, 30] clsW_s15C (by decide +kernel) (fun _ => rowW_fst) 0 7 rfl rfl (by decide) rfl hl.1 (rest := []) rfl (Nat.le_of_ble_eq_true rfl) dX11_read_19 (st1 := fun _ => [.int (b2i (decide ((rb 1) = 0)))]) (fun _ => rfl) (fun _ H locs _ X => ?_)
      have X : Wd E _ _ (clsW E a f g h ik one wo tp tl tk ts te tn rb rz rn td) _ _ := X.eq clsW_s15P
      refine k_ifeqB (B := (decide ((rb 1) = 0))) hx hb 31 dX11_read_22 (by decide) (fun c22 => ?_) (fun c22 => ?_)
      · refine lv_aload_n hx hb dX11_read_31 rfl (lv_at hl 0 rfl) ?_
        refine lv_iload_n hx hb dX11_read_32 rfl (lv_at hl 2 rfl) ?_
        refine k_callV K X gv_X11_99 (As := [.int y]) (c_X11_noSlip l E a f g h ik one wo tp tl tk ts te tn rb rz rn td y) [0, 1, 2, 3, 4, 5, 6, 7, 8, 9, 10, 11, 12, 13, 14, 15, 16, 17, 18, 19, 20, 21, 22, 23, 24, 25, 26, 27, 28, 29, 30, 31, 32, 33, 34, 35, 36, 37, 38, 39, 40, 41, 42] clsW_idC (by decide +kernel) (fun _ => clsW_fst) 0 11 rfl rfl (by decide) rfl hl.1 (rest := []) rfl (Nat.le_of_ble_eq_true rfl) dX11_read_33 (st1 := fun _ => [.int (b2i (!isS f y))]) (fun _ => rfl) (fun _ H locs _ X => ?_)
        have X : Wd E _ _ (clsW E a f g h ik one wo tp tl tk ts te tn rb rz rn td) _ _ := X.eq clsW_idP
        refine k_ifneB (B := (!isS f y)) hx hb 47 dX11_read_36 (by decide) (fun c36 => ?_) (fun c36 => ?_)
        · have hy0 : isS f y = false := by simpa using c36
          refine lv_aload_n hx hb dX11_read_47 rfl (lv_at hl 0 rfl) ?_
          refine lv_iconst (v := 0) hx hb dX11_read_48 (by decide) ?_
          refine k_callV K X gv_X11_84 (As := [.int 0]) (c_X11_finding l E a f g h ik one wo tp tl tk ts te tn rb rz rn td 0 (by decide)) [0, 1, 2, 3, 4, 5, 6, 7, 8, 9, 10, 11, 12, 13, 14, 15, 16, 17, 18, 19, 20, 21, 22, 23, 24, 25, 26, 27, 28, 29, 30, 31, 32, 33, 34, 35, 36, 37, 38, 39, 40, 41, 42] clsW_idC (by decide +kernel) (fun _ => clsW_fst) 0 11 rfl rfl (by decide) rfl hl.1 (rest := []) rfl (Nat.le_of_ble_eq_true rfl) dX11_read_49 (st1 := fun _ => [.int (fnd 0)]) (fun _ => rfl) (fun _ H locs _ X => ?_)
          have X : Wd E _ _ (clsW E a f g h ik one wo tp tl tk ts te tn rb rz rn (fdU td 0)) _ _ := X.eq clsW_idP
          exact k_topi (x' := (oRead rb rz rn f td (nI 1) y z).1) (by simp [oRead, hx0, ek, c22, hy0]) (fin (g) 52 _ _ _ trivial (X.eq (by simp [oRead, hx0, ek, c22, hy0])) dX11_read_52)
        · have hy0 : isS f y = true := by simpa using c36
          obtain ⟨q, hq, rfl⟩ := isS_nat I hy0
          have eq : (nI q).toNatClampNeg = q := nI_clamp (by omega)
          refine lv_aload_n hx hb dX11_read_39 rfl (lv_at hl 0 rfl) ?_
          refine lv_iload_n hx hb dX11_read_40 rfl (lv_at hl 3 rfl) ?_
          refine k_callV K X gv_X11_147 (As := [.int z]) (c_X11_noPerson l E a f g h ik one wo tp tl tk ts te tn rb rz rn td z) [0, 1, 2, 3, 4, 5, 6, 7, 8, 9, 10, 11, 12, 13, 14, 15, 16, 17, 18, 19, 20, 21, 22, 23, 24, 25, 26, 27, 28, 29, 30, 31, 32, 33, 34, 35, 36, 37, 38, 39, 40, 41, 42] clsW_idC (by decide +kernel) (fun _ => clsW_fst) 0 11 rfl rfl (by decide) rfl hl.1 (rest := []) rfl (Nat.le_of_ble_eq_true rfl) dX11_read_41 (st1 := fun _ => [.int (b2i (!isP f z))]) (fun _ => rfl) (fun _ H locs _ X => ?_)
          have X : Wd E _ _ (clsW E a f g h ik one wo tp tl tk ts te tn rb rz rn td) _ _ := X.eq clsW_idP
          refine k_ifeqB (B := (!isP f z)) hx hb 53 dX11_read_44 (by decide) (fun c44 => ?_) (fun c44 => ?_)
          · have hp0 : isP f z = true := by simpa using c44
            obtain ⟨p, hp, rfl⟩ := isP_nat I hp0
            have ep : (nI p).toNatClampNeg = p := nI_clamp (by omega)
            refine lv_iconst (v := 0) hx hb dX11_read_53 (by decide) ?_
            refine lv_istore (lv' := [(4, .int 0), (0, .ref (a 0)), (1, .int 1), (2, .int (nI q)), (3, .int (nI p))]) hx hb dX11_read_54 hl (by decide) rfl (fun ls hl => ?_)
            refine lv_iconst (v := 0) hx hb dX11_read_56 (by decide) ?_
            refine lv_istore (lv' := [(5, .int 0), (4, .int 0), (0, .ref (a 0)), (1, .int 1), (2, .int (nI q)), (3, .int (nI p))]) hx hb dX11_read_57 hl (by decide) rfl (fun ls hl => ?_)
            have lp59 : ∀ (fu : Nat) (i : Nat) (n : Nat) (w : Nat) (g2 : St) (hfu : n < fu) (hin : i + n = 6) (hR : cntL (rdB (rn 1) (zR rz 1) f p q) (6 * n) (6 * i) w = cntL (rdB (rn 1) (zR rz 1) f p q) 36 0 0) (ls : Array Slot) (hl : lv_has ls 7 [(5, .int (nI i)), (4, .int (nI w)), (0, .ref (a 0)), (1, .int 1), (2, .int (nI q)), (3, .int (nI p))]) (H : Heap) (locs : List Loc) (X : Wd E (inW (clsW E a f g h ik one wo tp tl tk ts te tn rb rz rn td)) s0.heap (clsW E a f g2 h ik one wo tp tl tk ts te tn rb rz rn td) H locs), W pg l ev (rmK 6 141) s0 mm ([.ref (a 0), .int (nI 1), .int (nI q), .int (nI p)] : List Value).toArray below meth cd H locs 0 0 Q (F0 mm 59 ls []) := by
              intro fu
              induction fu with
              | zero => intro i n w g2 hfu; exact absurd hfu (Nat.not_lt_zero _)
              | succ fu ih59 =>
                intro i n w g2 hfu hin hR ls hl H locs X
                refine lv_iload hx hb dX11_read_59 (lv_at hl 0 rfl) ?_
                refine lv_iconst (v := 5) hx hb dX11_read_61 (by decide) ?_
                refine kN_gt (x := i) (y := 5) hx hb 140 dX11_read_62 (by decide) (by omega) (by omega) (fun c62 => ?_) (fun c62 => ?_)
                · obtain rfl : n = 0 := by omega
                  refine lv_iload hx hb dX11_read_140 (lv_at hl 1 rfl) ?_
                  exact k_topi (x' := (oRead rb rz rn f td (nI 1) (nI q) (nI p)).1) (by rw [oRead, hx0, cond_true, ek, c22, cond_false, hy0, hp0, Bool.true_and, cond_true, eq, ep, ← hR] <;> rfl) (fin (g2) 142 _ _ _ trivial (X.eq (by rw [oRead, hx0, cond_true, ek, c22, cond_false, hy0, hp0, Bool.true_and, cond_true] <;> rfl)) dX11_read_142)
                · obtain ⟨n, rfl⟩ : ∃ z, n = z + 1 := ⟨n - 1, by omega⟩
                  refine lv_iconst (v := 0) hx hb dX11_read_65 (by decide) ?_
                  refine lv_istore (lv' := [(6, .int 0), (5, .int (nI i)), (4, .int (nI w)), (0, .ref (a 0)), (1, .int 1), (2, .int (nI q)), (3, .int (nI p))]) hx hb dX11_read_66 hl (by decide) rfl (fun ls hl => ?_)
                  have lp68 : ∀ (fu : Nat) (j : Nat) (m : Nat) (w2 : Nat) (g3 : St) (hfu : m < fu) (hin2 : j + m = 6) (hV : cntL (rdB (rn 1) (zR rz 1) f p q) (m + 6 * n) (6 * i + j) w2 = cntL (rdB (rn 1) (zR rz 1) f p q) 36 0 0) (ls : Array Slot) (hl : lv_has ls 7 [(6, .int (nI j)), (5, .int (nI i)), (4, .int (nI w2)), (0, .ref (a 0)), (1, .int 1), (2, .int (nI q)), (3, .int (nI p))]) (H : Heap) (locs : List Loc) (X : Wd E (inW (clsW E a f g h ik one wo tp tl tk ts te tn rb rz rn td)) s0.heap (clsW E a f g3 h ik one wo tp tl tk ts te tn rb rz rn td) H locs), W pg l ev (rmK 6 141) s0 mm ([.ref (a 0), .int (nI 1), .int (nI q), .int (nI p)] : List Value).toArray below meth cd H locs 0 0 Q (F0 mm 68 ls []) := by
                    intro fu
                    induction fu with
                    | zero => intro j m w2 g3 hfu; exact absurd hfu (Nat.not_lt_zero _)
                    | succ fu ih68 =>
                      intro j m w2 g3 hfu hin2 hV ls hl H locs X
                      refine lv_iload hx hb dX11_read_68 (lv_at hl 0 rfl) ?_
                      refine lv_iconst (v := 5) hx hb dX11_read_70 (by decide) ?_
                      refine kN_gt (x := j) (y := 5) hx hb 134 dX11_read_71 (by decide) (by omega) (by omega) (fun c71 => ?_) (fun c71 => ?_)
                      · obtain rfl : m = 0 := by omega
                        rw [show 6 * i + j = 6 * (i + 1) by omega, Nat.zero_add] at hV
                        refine lv_iinc (v := nI (i + 1)) (lv' := [(5, .int (nI (i + 1))), (6, .int (nI j)), (4, .int (nI w2)), (0, .ref (a 0)), (1, .int 1), (2, .int (nI q)), (3, .int (nI p))]) hx hb dX11_read_134 hl (k := 1) rfl (nI_add i 1) (by decide) rfl (fun ls hl => ?_)
                        refine lv_goto (tgt := 59) hx hb dX11_read_137 (by decide) ?_
                        exact ih59 (i + 1) n w2 g3 (by omega) (by omega) (hV) _ (lv_sub hl [0, 2, 3, 4, 5, 6] rfl) _ _ X
                      · obtain ⟨m, rfl⟩ : ∃ z, m = z + 1 := ⟨m - 1, by omega⟩
                        refine lv_aload_n hx hb dX11_read_74 rfl (lv_at hl 3 rfl) ?_
                        refine k_get K X 0 rfl fg_X11_36 (v := .ref (a 8)) rfl dX11_read_75 ?_
                        refine lv_aload_n hx hb dX11_read_78 rfl (lv_at hl 3 rfl) ?_
                        refine k_get K X 0 rfl fg_X11_30 (v := .ref (a 1)) rfl dX11_read_79 ?_
                        refine k_callV K X gv_X11_189 (As := [.ref (a 1)]) (c_X6_copyFrom l E (fun j => a (8 + j)) (fun j => a (1 + j)) (fun j => a (36 + j)) g3 f) [8, 9, 10, 11, 12, 13, 14, 1, 2, 3, 4, 5, 6, 7] clsW_s8C (by decide +kernel) (fun _ => room2_fst) 0 6 rfl rfl (by decide) rfl hl.1 (rest := []) rfl (Nat.le_of_ble_eq_true rfl) dX11_read_82 (st1 := fun _ => []) (fun _ => rfl) (fun _ H locs _ X => ?_)
                        have X : Wd E _ _ (clsW E a f f h ik one wo tp tl tk ts te tn rb rz rn td) _ _ := X.eq clsW_s8P
                        refine lv_aload_n hx hb dX11_read_85 rfl (lv_at hl 3 rfl) ?_
                        refine k_get K X 0 rfl fg_X11_36 (v := .ref (a 8)) rfl dX11_read_86 ?_
                        refine k_getN K X 8 rfl fg_X11_150 (v := .ref (a 12)) rfl dX11_read_89 ?_
                        refine lv_iload_n hx hb dX11_read_92 rfl (lv_at hl 6 rfl) ?_
                        refine lv_iload hx hb dX11_read_93 (lv_at hl 1 rfl) ?_
                        refine k_iastN K X 12 rfl (k := p) (x := nI i) (by omega) (by decide) dX11_read_95 (fun H locs X => ?_)
                        have X : Wd E _ _ (clsW E a f (up2 f 4 p (nI i)) h ik one wo tp tl tk ts te tn rb rz rn td) _ _ := X
                        refine lv_aload_n hx hb dX11_read_96 rfl (lv_at hl 3 rfl) ?_
                        refine k_get K X 0 rfl fg_X11_36 (v := .ref (a 8)) rfl dX11_read_97 ?_
                        refine k_getN K X 8 rfl fg_X11_165 (v := .ref (a 14)) rfl dX11_read_100 ?_
                        refine lv_iload_n hx hb dX11_read_103 rfl (lv_at hl 6 rfl) ?_
                        refine lv_iload_n hx hb dX11_read_104 rfl (lv_at hl 5 rfl) ?_
                        refine k_callS K X gs_X11_168 (As := [.int (nI p), .int (nI q)]) (c_X6_wish l E p q) [] rfl (by decide +kernel) (fun _ => rfl) (by decide) rfl hl.1 (rest := [.ref (a 14)]) rfl (Nat.le_of_ble_eq_true rfl) dX11_read_105 (st1 := fun _ => [.int (nI (10 * p + q)), .ref (a 14)]) (fun _ => rfl) (fun _ H locs _ X => ?_)
                        have X : Wd E _ _ (clsW E a f (up2 f 4 p (nI i)) h ik one wo tp tl tk ts te tn rb rz rn td) _ _ := X
                        refine lv_iload hx hb dX11_read_108 (lv_at hl 0 rfl) ?_
                        refine k_iastN K X 14 rfl (k := 10 * p + q) (x := nI j) (by omega) (by decide) dX11_read_110 (fun H locs X => ?_)
                        have X : Wd E _ _ (clsW E a f (up2 (up2 f 4 p (nI i)) 6 (10 * p + q) (nI j)) h ik one wo tp tl tk ts te tn rb rz rn td) _ _ := X
                        refine lv_aload_n hx hb dX11_read_111 rfl (lv_at hl 3 rfl) ?_
                        refine lv_aload_n hx hb dX11_read_112 rfl (lv_at hl 3 rfl) ?_
                        refine k_get K X 0 rfl fg_X11_71 (v := .ref (a 26)) rfl dX11_read_113 ?_
                        refine lv_iload_n hx hb dX11_read_116 rfl (lv_at hl 4 rfl) ?_
                        refine k_aaldN (C := "SlipWall$Row") K X 26 3 rfl rfl (k := 1) (by omega) (by decide) (r := a 29) rfl dX11_read_117 ?_
                        refine lv_iload_n hx hb dX11_read_118 rfl (lv_at hl 5 rfl) ?_
                        refine k_callV K X gv_X11_261 (As := [.ref (a 29), .int (nI q)]) (c_X11_trialGoesAs1 l E a f (up2 (up2 f 4 p (nI i)) 6 (10 * p + q) (nI j)) h ik one wo tp tl tk ts te tn rb rz rn td T q (by omega) ((I.up4 p (by omega)).up6 _ (by omega)) (by omega) (by omega)) [0, 1, 2, 3, 4, 5, 6, 7, 8, 9, 10, 11, 12, 13, 14, 15, 16, 17, 18, 19, 20, 21, 22, 23, 24, 25, 26, 27, 28, 29, 30, 31, 32, 33, 34, 35, 36, 37, 38, 39, 40, 41, 42] clsW_idC (by decide +kernel) (fun _ => clsW_fst) 0 11 rfl rfl (by decide) rfl hl.1 (rest := []) rfl (Nat.le_of_ble_eq_true rfl) dX11_read_119 (st1 := fun _ => [.int (b2i (goL (rn 1) q (zR rz 1) 0 (up2 (up2 f 4 p (nI i)) 6 (10 * p + q) (nI j))))]) (fun _ => rfl) (fun u119 H locs _ X => ?_)
                        have X : Wd E _ _ (clsW E a f u119 h ik one wo tp tl tk ts te tn rb rz rn td) _ _ := X.eq clsW_idP
                        refine k_ifeqB (B := (goL (rn 1) q (zR rz 1) 0 (up2 (up2 f 4 p (nI i)) 6 (10 * p + q) (nI j)))) hx hb 128 dX11_read_122 (by decide) (fun c122 => ?_) (fun c122 => ?_)
                        · refine lv_iinc (v := nI (j + 1)) (lv' := [(6, .int (nI (j + 1))), (5, .int (nI i)), (4, .int (nI w2)), (0, .ref (a 0)), (1, .int 1), (2, .int (nI q)), (3, .int (nI p))]) hx hb dX11_read_128 hl (k := 0) rfl (nI_add j 1) (by decide) rfl (fun ls hl => ?_)
                          refine lv_goto (tgt := 68) hx hb dX11_read_131 (by decide) ?_
                          exact ih68 (j + 1) m w2 u119 (by omega) (by omega) (by rw [← hV, show m + 1 + 6 * n = (m + 6 * n) + 1 by omega, cntL, rdB_at (show j < 6 by omega), c122]; rfl) _ hl _ _ X
                        · refine lv_iinc (v := nI (w2 + 1)) (lv' := [(4, .int (nI (w2 + 1))), (6, .int (nI j)), (5, .int (nI i)), (0, .ref (a 0)), (1, .int 1), (2, .int (nI q)), (3, .int (nI p))]) hx hb dX11_read_125 hl (k := 2) rfl (nI_add w2 1) (by decide) rfl (fun ls hl => ?_)
                          refine lv_iinc (v := nI (j + 1)) (lv' := [(6, .int (nI (j + 1))), (4, .int (nI (w2 + 1))), (5, .int (nI i)), (0, .ref (a 0)), (1, .int 1), (2, .int (nI q)), (3, .int (nI p))]) hx hb dX11_read_128 hl (k := 1) rfl (nI_add j 1) (by decide) rfl (fun ls hl => ?_)
                          refine lv_goto (tgt := 68) hx hb dX11_read_131 (by decide) ?_
                          exact ih68 (j + 1) m (w2 + 1) u119 (by omega) (by omega) (by rw [← hV, show m + 1 + 6 * n = (m + 6 * n) + 1 by omega, cntL, rdB_at (show j < 6 by omega), c122]; rfl) _ (lv_sub hl [0, 2, 1, 3, 4, 5, 6] rfl) _ _ X
                  exact lp68 (6 + 1) 0 6 w g2 (by omega) (by omega) (by rw [← hR]; congr 1; omega) _ hl _ _ X
            exact lp59 (6 + 1) 0 6 0 g (by omega) (by omega) (rfl) _ hl _ _ X
          · have hp0 : isP f z = false := by simpa using c44
            refine lv_aload_n hx hb dX11_read_47 rfl (lv_at hl 0 rfl) ?_
            refine lv_iconst (v := 0) hx hb dX11_read_48 (by decide) ?_
            refine k_callV K X gv_X11_84 (As := [.int 0]) (c_X11_finding l E a f g h ik one wo tp tl tk ts te tn rb rz rn td 0 (by decide)) [0, 1, 2, 3, 4, 5, 6, 7, 8, 9, 10, 11, 12, 13, 14, 15, 16, 17, 18, 19, 20, 21, 22, 23, 24, 25, 26, 27, 28, 29, 30, 31, 32, 33, 34, 35, 36, 37, 38, 39, 40, 41, 42] clsW_idC (by decide +kernel) (fun _ => clsW_fst) 0 11 rfl rfl (by decide) rfl hl.1 (rest := []) rfl (Nat.le_of_ble_eq_true rfl) dX11_read_49 (st1 := fun _ => [.int (fnd 0)]) (fun _ => rfl) (fun _ H locs _ X => ?_)
            have X : Wd E _ _ (clsW E a f g h ik one wo tp tl tk ts te tn rb rz rn (fdU td 0)) _ _ := X.eq clsW_idP
            exact k_topi (x' := (oRead rb rz rn f td (nI 1) (nI q) z).1) (by simp [oRead, hx0, ek, c22, hy0, eq, hp0]) (fin (g) 52 _ _ _ trivial (X.eq (by simp [oRead, hx0, ek, c22, hy0, eq, hp0])) dX11_read_52)
      · refine lv_aload_n hx hb dX11_read_25 rfl (lv_at hl 0 rfl) ?_
        refine lv_iconst (v := 5) hx hb dX11_read_26 (by decide) ?_
        refine k_callV K X gv_X11_84 (As := [.int 5]) (c_X11_finding l E a f g h ik one wo tp tl tk ts te tn rb rz rn td 5 (by decide)) [0, 1, 2, 3, 4, 5, 6, 7, 8, 9, 10, 11, 12, 13, 14, 15, 16, 17, 18, 19, 20, 21, 22, 23, 24, 25, 26, 27, 28, 29, 30, 31, 32, 33, 34, 35, 36, 37, 38, 39, 40, 41, 42] clsW_idC (by decide +kernel) (fun _ => clsW_fst) 0 11 rfl rfl (by decide) rfl hl.1 (rest := []) rfl (Nat.le_of_ble_eq_true rfl) dX11_read_27 (st1 := fun _ => [.int (fnd 5)]) (fun _ => rfl) (fun _ H locs _ X => ?_)
        have X : Wd E _ _ (clsW E a f g h ik one wo tp tl tk ts te tn rb rz rn (fdU td 5)) _ _ := X.eq clsW_idP
        exact k_topi (x' := (oRead rb rz rn f td (nI 1) y z).1) (by simp [oRead, hx0, ek, c22]) (fin (g) 30 _ _ _ trivial (X.eq (by simp [oRead, hx0, ek, c22])) dX11_read_30)
    · have hz := (J 2 (by decide)).2
      refine lv_iload_n hx hb dX11_read_17 rfl (lv_at hl 1 rfl) ?_
      refine k_aaldN (C := "SlipWall$Row") K X 26 3 rfl rfl (k := 2) (by omega) (by decide) (r := a 31) rfl dX11_read_18 ?_
      refine k_callV K X gv_X11_236 (As := []) (c_X7_isMissing l E (fun j => a (31 + j)) (rb 2) (rz 2) (rn 2)) [31, 32] clsW_s16C (by decide +kernel) (fun _ => rowW_fst) 0 7 rfl rfl (by decide) rfl hl.1 (rest := []) rfl (Nat.le_of_ble_eq_true rfl) dX11_read_19 (st1 := fun _ => [.int (b2i (decide ((rb 2) = 0)))]) (fun _ => rfl) (fun _ H locs _ X => ?_)
      have X : Wd E _ _ (clsW E a f g h ik one wo tp tl tk ts te tn rb rz rn td) _ _ := X.eq clsW_s16P
      refine k_ifeqB (B := (decide ((rb 2) = 0))) hx hb 31 dX11_read_22 (by decide) (fun c22 => ?_) (fun c22 => ?_)
      · refine lv_aload_n hx hb dX11_read_31 rfl (lv_at hl 0 rfl) ?_
        refine lv_iload_n hx hb dX11_read_32 rfl (lv_at hl 2 rfl) ?_
        refine k_callV K X gv_X11_99 (As := [.int y]) (c_X11_noSlip l E a f g h ik one wo tp tl tk ts te tn rb rz rn td y) [0, 1, 2, 3, 4, 5, 6, 7, 8, 9, 10, 11, 12, 13, 14, 15, 16, 17, 18, 19, 20, 21, 22, 23, 24, 25, 26, 27, 28, 29, 30, 31, 32, 33, 34, 35, 36, 37, 38, 39, 40, 41, 42] clsW_idC (by decide +kernel) (fun _ => clsW_fst) 0 11 rfl rfl (by decide) rfl hl.1 (rest := []) rfl (Nat.le_of_ble_eq_true rfl) dX11_read_33 (st1 := fun _ => [.int (b2i (!isS f y))]) (fun _ => rfl) (fun _ H locs _ X => ?_)
        have X : Wd E _ _ (clsW E a f g h ik one wo tp tl tk ts te tn rb rz rn td) _ _ := X.eq clsW_idP
        refine k_ifneB (B := (!isS f y)) hx hb 47 dX11_read_36 (by decide) (fun c36 => ?_) (fun c36 => ?_)
        · have hy0 : isS f y = false := by simpa using c36
          refine lv_aload_n hx hb dX11_read_47 rfl (lv_at hl 0 rfl) ?_
          refine lv_iconst (v := 0) hx hb dX11_read_48 (by decide) ?_
          refine k_callV K X gv_X11_84 (As := [.int 0]) (c_X11_finding l E a f g h ik one wo tp tl tk ts te tn rb rz rn td 0 (by decide)) [0, 1, 2, 3, 4, 5, 6, 7, 8, 9, 10, 11, 12, 13, 14, 15, 16, 17, 18, 19, 20, 21, 22, 23, 24, 25, 26, 27, 28, 29, 30, 31, 32, 33, 34, 35, 36, 37, 38, 39, 40, 41, 42] clsW_idC (by decide +kernel) (fun _ => clsW_fst) 0 11 rfl rfl (by decide) rfl hl.1 (rest := []) rfl (Nat.le_of_ble_eq_true rfl) dX11_read_49 (st1 := fun _ => [.int (fnd 0)]) (fun _ => rfl) (fun _ H locs _ X => ?_)
          have X : Wd E _ _ (clsW E a f g h ik one wo tp tl tk ts te tn rb rz rn (fdU td 0)) _ _ := X.eq clsW_idP
          exact k_topi (x' := (oRead rb rz rn f td (nI 2) y z).1) (by simp [oRead, hx0, ek, c22, hy0]) (fin (g) 52 _ _ _ trivial (X.eq (by simp [oRead, hx0, ek, c22, hy0])) dX11_read_52)
        · have hy0 : isS f y = true := by simpa using c36
          obtain ⟨q, hq, rfl⟩ := isS_nat I hy0
          have eq : (nI q).toNatClampNeg = q := nI_clamp (by omega)
          refine lv_aload_n hx hb dX11_read_39 rfl (lv_at hl 0 rfl) ?_
          refine lv_iload_n hx hb dX11_read_40 rfl (lv_at hl 3 rfl) ?_
          refine k_callV K X gv_X11_147 (As := [.int z]) (c_X11_noPerson l E a f g h ik one wo tp tl tk ts te tn rb rz rn td z) [0, 1, 2, 3, 4, 5, 6, 7, 8, 9, 10, 11, 12, 13, 14, 15, 16, 17, 18, 19, 20, 21, 22, 23, 24, 25, 26, 27, 28, 29, 30, 31, 32, 33, 34, 35, 36, 37, 38, 39, 40, 41, 42] clsW_idC (by decide +kernel) (fun _ => clsW_fst) 0 11 rfl rfl (by decide) rfl hl.1 (rest := []) rfl (Nat.le_of_ble_eq_true rfl) dX11_read_41 (st1 := fun _ => [.int (b2i (!isP f z))]) (fun _ => rfl) (fun _ H locs _ X => ?_)
          have X : Wd E _ _ (clsW E a f g h ik one wo tp tl tk ts te tn rb rz rn td) _ _ := X.eq clsW_idP
          refine k_ifeqB (B := (!isP f z)) hx hb 53 dX11_read_44 (by decide) (fun c44 => ?_) (fun c44 => ?_)
          · have hp0 : isP f z = true := by simpa using c44
            obtain ⟨p, hp, rfl⟩ := isP_nat I hp0
            have ep : (nI p).toNatClampNeg = p := nI_clamp (by omega)
            refine lv_iconst (v := 0) hx hb dX11_read_53 (by decide) ?_
            refine lv_istore (lv' := [(4, .int 0), (0, .ref (a 0)), (1, .int 2), (2, .int (nI q)), (3, .int (nI p))]) hx hb dX11_read_54 hl (by decide) rfl (fun ls hl => ?_)
            refine lv_iconst (v := 0) hx hb dX11_read_56 (by decide) ?_
            refine lv_istore (lv' := [(5, .int 0), (4, .int 0), (0, .ref (a 0)), (1, .int 2), (2, .int (nI q)), (3, .int (nI p))]) hx hb dX11_read_57 hl (by decide) rfl (fun ls hl => ?_)
            have lp59 : ∀ (fu : Nat) (i : Nat) (n : Nat) (w : Nat) (g2 : St) (hfu : n < fu) (hin : i + n = 6) (hR : cntL (rdB (rn 2) (zR rz 2) f p q) (6 * n) (6 * i) w = cntL (rdB (rn 2) (zR rz 2) f p q) 36 0 0) (ls : Array Slot) (hl : lv_has ls 7 [(5, .int (nI i)), (4, .int (nI w)), (0, .ref (a 0)), (1, .int 2), (2, .int (nI q)), (3, .int (nI p))]) (H : Heap) (locs : List Loc) (X : Wd E (inW (clsW E a f g h ik one wo tp tl tk ts te tn rb rz rn td)) s0.heap (clsW E a f g2 h ik one wo tp tl tk ts te tn rb rz rn td) H locs), W pg l ev (rmK 6 141) s0 mm ([.ref (a 0), .int (nI 2), .int (nI q), .int (nI p)] : List Value).toArray below meth cd H locs 0 0 Q (F0 mm 59 ls []) := by
              intro fu
              induction fu with
              | zero => intro i n w g2 hfu; exact absurd hfu (Nat.not_lt_zero _)
              | succ fu ih59 =>
                intro i n w g2 hfu hin hR ls hl H locs X
                refine lv_iload hx hb dX11_read_59 (lv_at hl 0 rfl) ?_
                refine lv_iconst (v := 5) hx hb dX11_read_61 (by decide) ?_
                refine kN_gt (x := i) (y := 5) hx hb 140 dX11_read_62 (by decide) (by omega) (by omega) (fun c62 => ?_) (fun c62 => ?_)
                · obtain rfl : n = 0 := by omega
                  refine lv_iload hx hb dX11_read_140 (lv_at hl 1 rfl) ?_
                  exact k_topi (x' := (oRead rb rz rn f td (nI 2) (nI q) (nI p)).1) (by rw [oRead, hx0, cond_true, ek, c22, cond_false, hy0, hp0, Bool.true_and, cond_true, eq, ep, ← hR] <;> rfl) (fin (g2) 142 _ _ _ trivial (X.eq (by rw [oRead, hx0, cond_true, ek, c22, cond_false, hy0, hp0, Bool.true_and, cond_true] <;> rfl)) dX11_read_142)
                · obtain ⟨n, rfl⟩ : ∃ z, n = z + 1 := ⟨n - 1, by omega⟩
                  refine lv_iconst (v := 0) hx hb dX11_read_65 (by decide) ?_
                  refine lv_istore (lv' := [(6, .int 0), (5, .int (nI i)), (4, .int (nI w)), (0, .ref (a 0)), (1, .int 2), (2, .int (nI q)), (3, .int (nI p))]) hx hb dX11_read_66 hl (by decide) rfl (fun ls hl => ?_)
                  have lp68 : ∀ (fu : Nat) (j : Nat) (m : Nat) (w2 : Nat) (g3 : St) (hfu : m < fu) (hin2 : j + m = 6) (hV : cntL (rdB (rn 2) (zR rz 2) f p q) (m + 6 * n) (6 * i + j) w2 = cntL (rdB (rn 2) (zR rz 2) f p q) 36 0 0) (ls : Array Slot) (hl : lv_has ls 7 [(6, .int (nI j)), (5, .int (nI i)), (4, .int (nI w2)), (0, .ref (a 0)), (1, .int 2), (2, .int (nI q)), (3, .int (nI p))]) (H : Heap) (locs : List Loc) (X : Wd E (inW (clsW E a f g h ik one wo tp tl tk ts te tn rb rz rn td)) s0.heap (clsW E a f g3 h ik one wo tp tl tk ts te tn rb rz rn td) H locs), W pg l ev (rmK 6 141) s0 mm ([.ref (a 0), .int (nI 2), .int (nI q), .int (nI p)] : List Value).toArray below meth cd H locs 0 0 Q (F0 mm 68 ls []) := by
                    intro fu
                    induction fu with
                    | zero => intro j m w2 g3 hfu; exact absurd hfu (Nat.not_lt_zero _)
                    | succ fu ih68 =>
                      intro j m w2 g3 hfu hin2 hV ls hl H locs X
                      refine lv_iload hx hb dX11_read_68 (lv_at hl 0 rfl) ?_
                      refine lv_iconst (v := 5) hx hb dX11_read_70 (by decide) ?_
                      refine kN_gt (x := j) (y := 5) hx hb 134 dX11_read_71 (by decide) (by omega) (by omega) (fun c71 => ?_) (fun c71 => ?_)
                      · obtain rfl : m = 0 := by omega
                        rw [show 6 * i + j = 6 * (i + 1) by omega, Nat.zero_add] at hV
                        refine lv_iinc (v := nI (i + 1)) (lv' := [(5, .int (nI (i + 1))), (6, .int (nI j)), (4, .int (nI w2)), (0, .ref (a 0)), (1, .int 2), (2, .int (nI q)), (3, .int (nI p))]) hx hb dX11_read_134 hl (k := 1) rfl (nI_add i 1) (by decide) rfl (fun ls hl => ?_)
                        refine lv_goto (tgt := 59) hx hb dX11_read_137 (by decide) ?_
                        exact ih59 (i + 1) n w2 g3 (by omega) (by omega) (hV) _ (lv_sub hl [0, 2, 3, 4, 5, 6] rfl) _ _ X
                      · obtain ⟨m, rfl⟩ : ∃ z, m = z + 1 := ⟨m - 1, by omega⟩
                        refine lv_aload_n hx hb dX11_read_74 rfl (lv_at hl 3 rfl) ?_
                        refine k_get K X 0 rfl fg_X11_36 (v := .ref (a 8)) rfl dX11_read_75 ?_
                        refine lv_aload_n hx hb dX11_read_78 rfl (lv_at hl 3 rfl) ?_
                        refine k_get K X 0 rfl fg_X11_30 (v := .ref (a 1)) rfl dX11_read_79 ?_
                        refine k_callV K X gv_X11_189 (As := [.ref (a 1)]) (c_X6_copyFrom l E (fun j => a (8 + j)) (fun j => a (1 + j)) (fun j => a (36 + j)) g3 f) [8, 9, 10, 11, 12, 13, 14, 1, 2, 3, 4, 5, 6, 7] clsW_s8C (by decide +kernel) (fun _ => room2_fst) 0 6 rfl rfl (by decide) rfl hl.1 (rest := []) rfl (Nat.le_of_ble_eq_true rfl) dX11_read_82 (st1 := fun _ => []) (fun _ => rfl) (fun _ H locs _ X => ?_)
                        have X : Wd E _ _ (clsW E a f f h ik one wo tp tl tk ts te tn rb rz rn td) _ _ := X.eq clsW_s8P
                        refine lv_aload_n hx hb dX11_read_85 rfl (lv_at hl 3 rfl) ?_
                        refine k_get K X 0 rfl fg_X11_36 (v := .ref (a 8)) rfl dX11_read_86 ?_
                        refine k_getN K X 8 rfl fg_X11_150 (v := .ref (a 12)) rfl dX11_read_89 ?_
                        refine lv_iload_n hx hb dX11_read_92 rfl (lv_at hl 6 rfl) ?_
                        refine lv_iload hx hb dX11_read_93 (lv_at hl 1 rfl) ?_
                        refine k_iastN K X 12 rfl (k := p) (x := nI i) (by omega) (by decide) dX11_read_95 (fun H locs X => ?_)
                        have X : Wd E _ _ (clsW E a f (up2 f 4 p (nI i)) h ik one wo tp tl tk ts te tn rb rz rn td) _ _ := X
                        refine lv_aload_n hx hb dX11_read_96 rfl (lv_at hl 3 rfl) ?_
                        refine k_get K X 0 rfl fg_X11_36 (v := .ref (a 8)) rfl dX11_read_97 ?_
                        refine k_getN K X 8 rfl fg_X11_165 (v := .ref (a 14)) rfl dX11_read_100 ?_
                        refine lv_iload_n hx hb dX11_read_103 rfl (lv_at hl 6 rfl) ?_
                        refine lv_iload_n hx hb dX11_read_104 rfl (lv_at hl 5 rfl) ?_
                        refine k_callS K X gs_X11_168 (As := [.int (nI p), .int (nI q)]) (c_X6_wish l E p q) [] rfl (by decide +kernel) (fun _ => rfl) (by decide) rfl hl.1 (rest := [.ref (a 14)]) rfl (Nat.le_of_ble_eq_true rfl) dX11_read_105 (st1 := fun _ => [.int (nI (10 * p + q)), .ref (a 14)]) (fun _ => rfl) (fun _ H locs _ X => ?_)
                        have X : Wd E _ _ (clsW E a f (up2 f 4 p (nI i)) h ik one wo tp tl tk ts te tn rb rz rn td) _ _ := X
                        refine lv_iload hx hb dX11_read_108 (lv_at hl 0 rfl) ?_
                        refine k_iastN K X 14 rfl (k := 10 * p + q) (x := nI j) (by omega) (by decide) dX11_read_110 (fun H locs X => ?_)
                        have X : Wd E _ _ (clsW E a f (up2 (up2 f 4 p (nI i)) 6 (10 * p + q) (nI j)) h ik one wo tp tl tk ts te tn rb rz rn td) _ _ := X
                        refine lv_aload_n hx hb dX11_read_111 rfl (lv_at hl 3 rfl) ?_
                        refine lv_aload_n hx hb dX11_read_112 rfl (lv_at hl 3 rfl) ?_
                        refine k_get K X 0 rfl fg_X11_71 (v := .ref (a 26)) rfl dX11_read_113 ?_
                        refine lv_iload_n hx hb dX11_read_116 rfl (lv_at hl 4 rfl) ?_
                        refine k_aaldN (C := "SlipWall$Row") K X 26 3 rfl rfl (k := 2) (by omega) (by decide) (r := a 31) rfl dX11_read_117 ?_
                        refine lv_iload_n hx hb dX11_read_118 rfl (lv_at hl 5 rfl) ?_
                        refine k_callV K X gv_X11_261 (As := [.ref (a 31), .int (nI q)]) (c_X11_trialGoesAs2 l E a f (up2 (up2 f 4 p (nI i)) 6 (10 * p + q) (nI j)) h ik one wo tp tl tk ts te tn rb rz rn td T q (by omega) ((I.up4 p (by omega)).up6 _ (by omega)) (by omega) (by omega)) [0, 1, 2, 3, 4, 5, 6, 7, 8, 9, 10, 11, 12, 13, 14, 15, 16, 17, 18, 19, 20, 21, 22, 23, 24, 25, 26, 27, 28, 29, 30, 31, 32, 33, 34, 35, 36, 37, 38, 39, 40, 41, 42] clsW_idC (by decide +kernel) (fun _ => clsW_fst) 0 11 rfl rfl (by decide) rfl hl.1 (rest := []) rfl (Nat.le_of_ble_eq_true rfl) dX11_read_119 (st1 := fun _ => [.int (b2i (goL (rn 2) q (zR rz 2) 0 (up2 (up2 f 4 p (nI i)) 6 (10 * p + q) (nI j))))]) (fun _ => rfl) (fun u119 H locs _ X => ?_)
                        have X : Wd E _ _ (clsW E a f u119 h ik one wo tp tl tk ts te tn rb rz rn td) _ _ := X.eq clsW_idP
                        refine k_ifeqB (B := (goL (rn 2) q (zR rz 2) 0 (up2 (up2 f 4 p (nI i)) 6 (10 * p + q) (nI j)))) hx hb 128 dX11_read_122 (by decide) (fun c122 => ?_) (fun c122 => ?_)
                        · refine lv_iinc (v := nI (j + 1)) (lv' := [(6, .int (nI (j + 1))), (5, .int (nI i)), (4, .int (nI w2)), (0, .ref (a 0)), (1, .int 2), (2, .int (nI q)), (3, .int (nI p))]) hx hb dX11_read_128 hl (k := 0) rfl (nI_add j 1) (by decide) rfl (fun ls hl => ?_)
                          refine lv_goto (tgt := 68) hx hb dX11_read_131 (by decide) ?_
                          exact ih68 (j + 1) m w2 u119 (by omega) (by omega) (by rw [← hV, show m + 1 + 6 * n = (m + 6 * n) + 1 by omega, cntL, rdB_at (show j < 6 by omega), c122]; rfl) _ hl _ _ X
                        · refine lv_iinc (v := nI (w2 + 1)) (lv' := [(4, .int (nI (w2 + 1))), (6, .int (nI j)), (5, .int (nI i)), (0, .ref (a 0)), (1, .int 2), (2, .int (nI q)), (3, .int (nI p))]) hx hb dX11_read_125 hl (k := 2) rfl (nI_add w2 1) (by decide) rfl (fun ls hl => ?_)
                          refine lv_iinc (v := nI (j + 1)) (lv' := [(6, .int (nI (j + 1))), (4, .int (nI (w2 + 1))), (5, .int (nI i)), (0, .ref (a 0)), (1, .int 2), (2, .int (nI q)), (3, .int (nI p))]) hx hb dX11_read_128 hl (k := 1) rfl (nI_add j 1) (by decide) rfl (fun ls hl => ?_)
                          refine lv_goto (tgt := 68) hx hb dX11_read_131 (by decide) ?_
                          exact ih68 (j + 1) m (w2 + 1) u119 (by omega) (by omega) (by rw [← hV, show m + 1 + 6 * n = (m + 6 * n) + 1 by omega, cntL, rdB_at (show j < 6 by omega), c122]; rfl) _ (lv_sub hl [0, 2, 1, 3, 4, 5, 6] rfl) _ _ X
                  exact lp68 (6 + 1) 0 6 w g2 (by omega) (by omega) (by rw [← hR]; congr 1; omega) _ hl _ _ X
            exact lp59 (6 + 1) 0 6 0 g (by omega) (by omega) (rfl) _ hl _ _ X
          · have hp0 : isP f z = false := by simpa using c44
            refine lv_aload_n hx hb dX11_read_47 rfl (lv_at hl 0 rfl) ?_
            refine lv_iconst (v := 0) hx hb dX11_read_48 (by decide) ?_
            refine k_callV K X gv_X11_84 (As := [.int 0]) (c_X11_finding l E a f g h ik one wo tp tl tk ts te tn rb rz rn td 0 (by decide)) [0, 1, 2, 3, 4, 5, 6, 7, 8, 9, 10, 11, 12, 13, 14, 15, 16, 17, 18, 19, 20, 21, 22, 23, 24, 25, 26, 27, 28, 29, 30, 31, 32, 33, 34, 35, 36, 37, 38, 39, 40, 41, 42] clsW_idC (by decide +kernel) (fun _ => clsW_fst) 0 11 rfl rfl (by decide) rfl hl.1 (rest := []) rfl (Nat.le_of_ble_eq_true rfl) dX11_read_49 (st1 := fun _ => [.int (fnd 0)]) (fun _ => rfl) (fun _ H locs _ X => ?_)
            have X : Wd E _ _ (clsW E a f g h ik one wo tp tl tk ts te tn rb rz rn (fdU td 0)) _ _ := X.eq clsW_idP
            exact k_topi (x' := (oRead rb rz rn f td (nI 2) (nI q) z).1) (by simp [oRead, hx0, ek, c22, hy0, eq, hp0]) (fin (g) 52 _ _ _ trivial (X.eq (by simp [oRead, hx0, ek, c22, hy0, eq, hp0])) dX11_read_52)
      · refine lv_aload_n hx hb dX11_read_25 rfl (lv_at hl 0 rfl) ?_
        refine lv_iconst (v := 5) hx hb dX11_read_26 (by decide) ?_
        refine k_callV K X gv_X11_84 (As := [.int 5]) (c_X11_finding l E a f g h ik one wo tp tl tk ts te tn rb rz rn td 5 (by decide)) [0, 1, 2, 3, 4, 5, 6, 7, 8, 9, 10, 11, 12, 13, 14, 15, 16, 17, 18, 19, 20, 21, 22, 23, 24, 25, 26, 27, 28, 29, 30, 31, 32, 33, 34, 35, 36, 37, 38, 39, 40, 41, 42] clsW_idC (by decide +kernel) (fun _ => clsW_fst) 0 11 rfl rfl (by decide) rfl hl.1 (rest := []) rfl (Nat.le_of_ble_eq_true rfl) dX11_read_27 (st1 := fun _ => [.int (fnd 5)]) (fun _ => rfl) (fun _ H locs _ X => ?_)
        have X : Wd E _ _ (clsW E a f g h ik one wo tp tl tk ts te tn rb rz rn (fdU td 5)) _ _ := X.eq clsW_idP
        exact k_topi (x' := (oRead rb rz rn f td (nI 2) y z).1) (by simp [oRead, hx0, ek, c22]) (fin (g) 30 _ _ _ trivial (X.eq (by simp [oRead, hx0, ek, c22])) dX11_read_30)
    · have hz := (J 3 (by decide)).2
      refine lv_iload_n hx hb dX11_read_17 rfl (lv_at hl 1 rfl) ?_
      refine k_aaldN (C := "SlipWall$Row") K X 26 3 rfl rfl (k := 3) (by omega) (by decide) (r := a 33) rfl dX11_read_18 ?_
      refine k_callV K X gv_X11_236 (As := []) (c_X7_isMissing l E (fun j => a (33 + j)) (rb 3) (rz 3) (rn 3)) [33, 34] clsW_s17C (by decide +kernel) (fun _ => rowW_fst) 0 7 rfl rfl (by decide) rfl hl.1 (rest := []) rfl (Nat.le_of_ble_eq_true rfl) dX11_read_19 (st1 := fun _ => [.int (b2i (decide ((rb 3) = 0)))]) (fun _ => rfl) (fun _ H locs _ X => ?_)
      have X : Wd E _ _ (clsW E a f g h ik one wo tp tl tk ts te tn rb rz rn td) _ _ := X.eq clsW_s17P
      refine k_ifeqB (B := (decide ((rb 3) = 0))) hx hb 31 dX11_read_22 (by decide) (fun c22 => ?_) (fun c22 => ?_)
      · refine lv_aload_n hx hb dX11_read_31 rfl (lv_at hl 0 rfl) ?_
        refine lv_iload_n hx hb dX11_read_32 rfl (lv_at hl 2 rfl) ?_
        refine k_callV K X gv_X11_99 (As := [.int y]) (c_X11_noSlip l E a f g h ik one wo tp tl tk ts te tn rb rz rn td y) [0, 1, 2, 3, 4, 5, 6, 7, 8, 9, 10, 11, 12, 13, 14, 15, 16, 17, 18, 19, 20, 21, 22, 23, 24, 25, 26, 27, 28, 29, 30, 31, 32, 33, 34, 35, 36, 37, 38, 39, 40, 41, 42] clsW_idC (by decide +kernel) (fun _ => clsW_fst) 0 11 rfl rfl (by decide) rfl hl.1 (rest := []) rfl (Nat.le_of_ble_eq_true rfl) dX11_read_33 (st1 := fun _ => [.int (b2i (!isS f y))]) (fun _ => rfl) (fun _ H locs _ X => ?_)
        have X : Wd E _ _ (clsW E a f g h ik one wo tp tl tk ts te tn rb rz rn td) _ _ := X.eq clsW_idP
        refine k_ifneB (B := (!isS f y)) hx hb 47 dX11_read_36 (by decide) (fun c36 => ?_) (fun c36 => ?_)
        · have hy0 : isS f y = false := by simpa using c36
          refine lv_aload_n hx hb dX11_read_47 rfl (lv_at hl 0 rfl) ?_
          refine lv_iconst (v := 0) hx hb dX11_read_48 (by decide) ?_
          refine k_callV K X gv_X11_84 (As := [.int 0]) (c_X11_finding l E a f g h ik one wo tp tl tk ts te tn rb rz rn td 0 (by decide)) [0, 1, 2, 3, 4, 5, 6, 7, 8, 9, 10, 11, 12, 13, 14, 15, 16, 17, 18, 19, 20, 21, 22, 23, 24, 25, 26, 27, 28, 29, 30, 31, 32, 33, 34, 35, 36, 37, 38, 39, 40, 41, 42] clsW_idC (by decide +kernel) (fun _ => clsW_fst) 0 11 rfl rfl (by decide) rfl hl.1 (rest := []) rfl (Nat.le_of_ble_eq_true rfl) dX11_read_49 (st1 := fun _ => [.int (fnd 0)]) (fun _ => rfl) (fun _ H locs _ X => ?_)
          have X : Wd E _ _ (clsW E a f g h ik one wo tp tl tk ts te tn rb rz rn (fdU td 0)) _ _ := X.eq clsW_idP
          exact k_topi (x' := (oRead rb rz rn f td (nI 3) y z).1) (by simp [oRead, hx0, ek, c22, hy0]) (fin (g) 52 _ _ _ trivial (X.eq (by simp [oRead, hx0, ek, c22, hy0])) dX11_read_52)
        · have hy0 : isS f y = true := by simpa using c36
          obtain ⟨q, hq, rfl⟩ := isS_nat I hy0
          have eq : (nI q).toNatClampNeg = q := nI_clamp (by omega)
          refine lv_aload_n hx hb dX11_read_39 rfl (lv_at hl 0 rfl) ?_
          refine lv_iload_n hx hb dX11_read_40 rfl (lv_at hl 3 rfl) ?_
          refine k_callV K X gv_X11_147 (As := [.int z]) (c_X11_noPerson l E a f g h ik one wo tp tl tk ts te tn rb rz rn td z) [0, 1, 2, 3, 4, 5, 6, 7, 8, 9, 10, 11, 12, 13, 14, 15, 16, 17, 18, 19, 20, 21, 22, 23, 24, 25, 26, 27, 28, 29, 30, 31, 32, 33, 34, 35, 36, 37, 38, 39, 40, 41, 42] clsW_idC (by decide +kernel) (fun _ => clsW_fst) 0 11 rfl rfl (by decide) rfl hl.1 (rest := []) rfl (Nat.le_of_ble_eq_true rfl) dX11_read_41 (st1 := fun _ => [.int (b2i (!isP f z))]) (fun _ => rfl) (fun _ H locs _ X => ?_)
          have X : Wd E _ _ (clsW E a f g h ik one wo tp tl tk ts te tn rb rz rn td) _ _ := X.eq clsW_idP
          refine k_ifeqB (B := (!isP f z)) hx hb 53 dX11_read_44 (by decide) (fun c44 => ?_) (fun c44 => ?_)
          · have hp0 : isP f z = true := by simpa using c44
            obtain ⟨p, hp, rfl⟩ := isP_nat I hp0
            have ep : (nI p).toNatClampNeg = p := nI_clamp (by omega)
            refine lv_iconst (v := 0) hx hb dX11_read_53 (by decide) ?_
            refine lv_istore (lv' := [(4, .int 0), (0, .ref (a 0)), (1, .int 3), (2, .int (nI q)), (3, .int (nI p))]) hx hb dX11_read_54 hl (by decide) rfl (fun ls hl => ?_)
            refine lv_iconst (v := 0) hx hb dX11_read_56 (by decide) ?_
            refine lv_istore (lv' := [(5, .int 0), (4, .int 0), (0, .ref (a 0)), (1, .int 3), (2, .int (nI q)), (3, .int (nI p))]) hx hb dX11_read_57 hl (by decide) rfl (fun ls hl => ?_)
            have lp59 : ∀ (fu : Nat) (i : Nat) (n : Nat) (w : Nat) (g2 : St) (hfu : n < fu) (hin : i + n = 6) (hR : cntL (rdB (rn 3) (zR rz 3) f p q) (6 * n) (6 * i) w = cntL (rdB (rn 3) (zR rz 3) f p q) 36 0 0) (ls : Array Slot) (hl : lv_has ls 7 [(5, .int (nI i)), (4, .int (nI w)), (0, .ref (a 0)), (1, .int 3), (2, .int (nI q)), (3, .int (nI p))]) (H : Heap) (locs : List Loc) (X : Wd E (inW (clsW E a f g h ik one wo tp tl tk ts te tn rb rz rn td)) s0.heap (clsW E a f g2 h ik one wo tp tl tk ts te tn rb rz rn td) H locs), W pg l ev (rmK 6 141) s0 mm ([.ref (a 0), .int (nI 3), .int (nI q), .int (nI p)] : List Value).toArray below meth cd H locs 0 0 Q (F0 mm 59 ls []) := by
              intro fu
              induction fu with
              | zero => intro i n w g2 hfu; exact absurd hfu (Nat.not_lt_zero _)
              | succ fu ih59 =>
                intro i n w g2 hfu hin hR ls hl H locs X
                refine lv_iload hx hb dX11_read_59 (lv_at hl 0 rfl) ?_
                refine lv_iconst (v := 5) hx hb dX11_read_61 (by decide) ?_
                refine kN_gt (x := i) (y := 5) hx hb 140 dX11_read_62 (by decide) (by omega) (by omega) (fun c62 => ?_) (fun c62 => ?_)
                · obtain rfl : n = 0 := by omega
                  refine lv_iload hx hb dX11_read_140 (lv_at hl 1 rfl) ?_
                  exact k_topi (x' := (oRead rb rz rn f td (nI 3) (nI q) (nI p)).1) (by rw [oRead, hx0, cond_true, ek, c22, cond_false, hy0, hp0, Bool.true_and, cond_true, eq, ep, ← hR] <;> rfl) (fin (g2) 142 _ _ _ trivial (X.eq (by rw [oRead, hx0, cond_true, ek, c22, cond_false, hy0, hp0, Bool.true_and, cond_true] <;> rfl)) dX11_read_142)
                · obtain ⟨n, rfl⟩ : ∃ z, n = z + 1 := ⟨n - 1, by omega⟩
                  refine lv_iconst (v := 0) hx hb dX11_read_65 (by decide) ?_
                  refine lv_istore (lv' := [(6, .int 0), (5, .int (nI i)), (4, .int (nI w)), (0, .ref (a 0)), (1, .int 3), (2, .int (nI q)), (3, .int (nI p))]) hx hb dX11_read_66 hl (by decide) rfl (fun ls hl => ?_)
                  have lp68 : ∀ (fu : Nat) (j : Nat) (m : Nat) (w2 : Nat) (g3 : St) (hfu : m < fu) (hin2 : j + m = 6) (hV : cntL (rdB (rn 3) (zR rz 3) f p q) (m + 6 * n) (6 * i + j) w2 = cntL (rdB (rn 3) (zR rz 3) f p q) 36 0 0) (ls : Array Slot) (hl : lv_has ls 7 [(6, .int (nI j)), (5, .int (nI i)), (4, .int (nI w2)), (0, .ref (a 0)), (1, .int 3), (2, .int (nI q)), (3, .int (nI p))]) (H : Heap) (locs : List Loc) (X : Wd E (inW (clsW E a f g h ik one wo tp tl tk ts te tn rb rz rn td)) s0.heap (clsW E a f g3 h ik one wo tp tl tk ts te tn rb rz rn td) H locs), W pg l ev (rmK 6 141) s0 mm ([.ref (a 0), .int (nI 3), .int (nI q), .int (nI p)] : List Value).toArray below meth cd H locs 0 0 Q (F0 mm 68 ls []) := by
                    intro fu
                    induction fu with
                    | zero => intro j m w2 g3 hfu; exact absurd hfu (Nat.not_lt_zero _)
                    | succ fu ih68 =>
                      intro j m w2 g3 hfu hin2 hV ls hl H locs X
                      refine lv_iload hx hb dX11_read_68 (lv_at hl 0 rfl) ?_
                      refine lv_iconst (v := 5) hx hb dX11_read_70 (by decide) ?_
                      refine kN_gt (x := j) (y := 5) hx hb 134 dX11_read_71 (by decide) (by omega) (by omega) (fun c71 => ?_) (fun c71 => ?_)
                      · obtain rfl : m = 0 := by omega
                        rw [show 6 * i + j = 6 * (i + 1) by omega, Nat.zero_add] at hV
                        refine lv_iinc (v := nI (i + 1)) (lv' := [(5, .int (nI (i + 1))), (6, .int (nI j)), (4, .int (nI w2)), (0, .ref (a 0)), (1, .int 3), (2, .int (nI q)), (3, .int (nI p))]) hx hb dX11_read_134 hl (k := 1) rfl (nI_add i 1) (by decide) rfl (fun ls hl => ?_)
                        refine lv_goto (tgt := 59) hx hb dX11_read_137 (by decide) ?_
                        exact ih59 (i + 1) n w2 g3 (by omega) (by omega) (hV) _ (lv_sub hl [0, 2, 3, 4, 5, 6] rfl) _ _ X
                      · obtain ⟨m, rfl⟩ : ∃ z, m = z + 1 := ⟨m - 1, by omega⟩
                        refine lv_aload_n hx hb dX11_read_74 rfl (lv_at hl 3 rfl) ?_
                        refine k_get K X 0 rfl fg_X11_36 (v := .ref (a 8)) rfl dX11_read_75 ?_
                        refine lv_aload_n hx hb dX11_read_78 rfl (lv_at hl 3 rfl) ?_
                        refine k_get K X 0 rfl fg_X11_30 (v := .ref (a 1)) rfl dX11_read_79 ?_
                        refine k_callV K X gv_X11_189 (As := [.ref (a 1)]) (c_X6_copyFrom l E (fun j => a (8 + j)) (fun j => a (1 + j)) (fun j => a (36 + j)) g3 f) [8, 9, 10, 11, 12, 13, 14, 1, 2, 3, 4, 5, 6, 7] clsW_s8C (by decide +kernel) (fun _ => room2_fst) 0 6 rfl rfl (by decide) rfl hl.1 (rest := []) rfl (Nat.le_of_ble_eq_true rfl) dX11_read_82 (st1 := fun _ => []) (fun _ => rfl) (fun _ H locs _ X => ?_)
                        have X : Wd E _ _ (clsW E a f f h ik one wo tp tl tk ts te tn rb rz rn td) _ _ := X.eq clsW_s8P
                        refine lv_aload_n hx hb dX11_read_85 rfl (lv_at hl 3 rfl) ?_
                        refine k_get K X 0 rfl fg_X11_36 (v := .ref (a 8)) rfl dX11_read_86 ?_
                        refine k_getN K X 8 rfl fg_X11_150 (v := .ref (a 12)) rfl dX11_read_89 ?_
                        refine lv_iload_n hx hb dX11_read_92 rfl (lv_at hl 6 rfl) ?_
                        refine lv_iload hx hb dX11_read_93 (lv_at hl 1 rfl) ?_
                        refine k_iastN K X 12 rfl (k := p) (x := nI i) (by omega) (by decide) dX11_read_95 (fun H locs X => ?_)
                        have X : Wd E _ _ (clsW E a f (up2 f 4 p (nI i)) h ik one wo tp tl tk ts te tn rb rz rn td) _ _ := X
                        refine lv_aload_n hx hb dX11_read_96 rfl (lv_at hl 3 rfl) ?_
                        refine k_get K X 0 rfl fg_X11_36 (v := .ref (a 8)) rfl dX11_read_97 ?_
                        refine k_getN K X 8 rfl fg_X11_165 (v := .ref (a 14)) rfl dX11_read_100 ?_
                        refine lv_iload_n hx hb dX11_read_103 rfl (lv_at hl 6 rfl) ?_
                        refine lv_iload_n hx hb dX11_read_104 rfl (lv_at hl 5 rfl) ?_
                        refine k_callS K X gs_X11_168 (As := [.int (nI p), .int (nI q)]) (c_X6_wish l E p q) [] rfl (by decide +kernel) (fun _ => rfl) (by decide) rfl hl.1 (rest := [.ref (a 14)]) rfl (Nat.le_of_ble_eq_true rfl) dX11_read_105 (st1 := fun _ => [.int (nI (10 * p + q)), .ref (a 14)]) (fun _ => rfl) (fun _ H locs _ X => ?_)
                        have X : Wd E _ _ (clsW E a f (up2 f 4 p (nI i)) h ik one wo tp tl tk ts te tn rb rz rn td) _ _ := X
                        refine lv_iload hx hb dX11_read_108 (lv_at hl 0 rfl) ?_
                        refine k_iastN K X 14 rfl (k := 10 * p + q) (x := nI j) (by omega) (by decide) dX11_read_110 (fun H locs X => ?_)
                        have X : Wd E _ _ (clsW E a f (up2 (up2 f 4 p (nI i)) 6 (10 * p + q) (nI j)) h ik one wo tp tl tk ts te tn rb rz rn td) _ _ := X
                        refine lv_aload_n hx hb dX11_read_111 rfl (lv_at hl 3 rfl) ?_
                        refine lv_aload_n hx hb dX11_read_112 rfl (lv_at hl 3 rfl) ?_
                        refine k_get K X 0 rfl fg_X11_71 (v := .ref (a 26)) rfl dX11_read_113 ?_
                        refine lv_iload_n hx hb dX11_read_116 rfl (lv_at hl 4 rfl) ?_
                        refine k_aaldN (C := "SlipWall$Row") K X 26 3 rfl rfl (k := 3) (by omega) (by decide) (r := a 33) rfl dX11_read_117 ?_
                        refine lv_iload_n hx hb dX11_read_118 rfl (lv_at hl 5 rfl) ?_
                        refine k_callV K X gv_X11_261 (As := [.ref (a 33), .int (nI q)]) (c_X11_trialGoesAs3 l E a f (up2 (up2 f 4 p (nI i)) 6 (10 * p + q) (nI j)) h ik one wo tp tl tk ts te tn rb rz rn td T q (by omega) ((I.up4 p (by omega)).up6 _ (by omega)) (by omega) (by omega)) [0, 1, 2, 3, 4, 5, 6, 7, 8, 9, 10, 11, 12, 13, 14, 15, 16, 17, 18, 19, 20, 21, 22, 23, 24, 25, 26, 27, 28, 29, 30, 31, 32, 33, 34, 35, 36, 37, 38, 39, 40, 41, 42] clsW_idC (by decide +kernel) (fun _ => clsW_fst) 0 11 rfl rfl (by decide) rfl hl.1 (rest := []) rfl (Nat.le_of_ble_eq_true rfl) dX11_read_119 (st1 := fun _ => [.int (b2i (goL (rn 3) q (zR rz 3) 0 (up2 (up2 f 4 p (nI i)) 6 (10 * p + q) (nI j))))]) (fun _ => rfl) (fun u119 H locs _ X => ?_)
                        have X : Wd E _ _ (clsW E a f u119 h ik one wo tp tl tk ts te tn rb rz rn td) _ _ := X.eq clsW_idP
                        refine k_ifeqB (B := (goL (rn 3) q (zR rz 3) 0 (up2 (up2 f 4 p (nI i)) 6 (10 * p + q) (nI j)))) hx hb 128 dX11_read_122 (by decide) (fun c122 => ?_) (fun c122 => ?_)
                        · refine lv_iinc (v := nI (j + 1)) (lv' := [(6, .int (nI (j + 1))), (5, .int (nI i)), (4, .int (nI w2)), (0, .ref (a 0)), (1, .int 3), (2, .int (nI q)), (3, .int (nI p))]) hx hb dX11_read_128 hl (k := 0) rfl (nI_add j 1) (by decide) rfl (fun ls hl => ?_)
                          refine lv_goto (tgt := 68) hx hb dX11_read_131 (by decide) ?_
                          exact ih68 (j + 1) m w2 u119 (by omega) (by omega) (by rw [← hV, show m + 1 + 6 * n = (m + 6 * n) + 1 by omega, cntL, rdB_at (show j < 6 by omega), c122]; rfl) _ hl _ _ X
                        · refine lv_iinc (v := nI (w2 + 1)) (lv' := [(4, .int (nI (w2 + 1))), (6, .int (nI j)), (5, .int (nI i)), (0, .ref (a 0)), (1, .int 3), (2, .int (nI q)), (3, .int (nI p))]) hx hb dX11_read_125 hl (k := 2) rfl (nI_add w2 1) (by decide) rfl (fun ls hl => ?_)
                          refine lv_iinc (v := nI (j + 1)) (lv' := [(6, .int (nI (j + 1))), (4, .int (nI (w2 + 1))), (5, .int (nI i)), (0, .ref (a 0)), (1, .int 3), (2, .int (nI q)), (3, .int (nI p))]) hx hb dX11_read_128 hl (k := 1) rfl (nI_add j 1) (by decide) rfl (fun ls hl => ?_)
                          refine lv_goto (tgt := 68) hx hb dX11_read_131 (by decide) ?_
                          exact ih68 (j + 1) m (w2 + 1) u119 (by omega) (by omega) (by rw [← hV, show m + 1 + 6 * n = (m + 6 * n) + 1 by omega, cntL, rdB_at (show j < 6 by omega), c122]; rfl) _ (lv_sub hl [0, 2, 1, 3, 4, 5, 6] rfl) _ _ X
                  exact lp68 (6 + 1) 0 6 w g2 (by omega) (by omega) (by rw [← hR]; congr 1; omega) _ hl _ _ X
            exact lp59 (6 + 1) 0 6 0 g (by omega) (by omega) (rfl) _ hl _ _ X
          · have hp0 : isP f z = false := by simpa using c44
            refine lv_aload_n hx hb dX11_read_47 rfl (lv_at hl 0 rfl) ?_
            refine lv_iconst (v := 0) hx hb dX11_read_48 (by decide) ?_
            refine k_callV K X gv_X11_84 (As := [.int 0]) (c_X11_finding l E a f g h ik one wo tp tl tk ts te tn rb rz rn td 0 (by decide)) [0, 1, 2, 3, 4, 5, 6, 7, 8, 9, 10, 11, 12, 13, 14, 15, 16, 17, 18, 19, 20, 21, 22, 23, 24, 25, 26, 27, 28, 29, 30, 31, 32, 33, 34, 35, 36, 37, 38, 39, 40, 41, 42] clsW_idC (by decide +kernel) (fun _ => clsW_fst) 0 11 rfl rfl (by decide) rfl hl.1 (rest := []) rfl (Nat.le_of_ble_eq_true rfl) dX11_read_49 (st1 := fun _ => [.int (fnd 0)]) (fun _ => rfl) (fun _ H locs _ X => ?_)
            have X : Wd E _ _ (clsW E a f g h ik one wo tp tl tk ts te tn rb rz rn (fdU td 0)) _ _ := X.eq clsW_idP
            exact k_topi (x' := (oRead rb rz rn f td (nI 3) (nI q) z).1) (by simp [oRead, hx0, ek, c22, hy0, eq, hp0]) (fin (g) 52 _ _ _ trivial (X.eq (by simp [oRead, hx0, ek, c22, hy0, eq, hp0])) dX11_read_52)
      · refine lv_aload_n hx hb dX11_read_25 rfl (lv_at hl 0 rfl) ?_
        refine lv_iconst (v := 5) hx hb dX11_read_26 (by decide) ?_
        refine k_callV K X gv_X11_84 (As := [.int 5]) (c_X11_finding l E a f g h ik one wo tp tl tk ts te tn rb rz rn td 5 (by decide)) [0, 1, 2, 3, 4, 5, 6, 7, 8, 9, 10, 11, 12, 13, 14, 15, 16, 17, 18, 19, 20, 21, 22, 23, 24, 25, 26, 27, 28, 29, 30, 31, 32, 33, 34, 35, 36, 37, 38, 39, 40, 41, 42] clsW_idC (by decide +kernel) (fun _ => clsW_fst) 0 11 rfl rfl (by decide) rfl hl.1 (rest := []) rfl (Nat.le_of_ble_eq_true rfl) dX11_read_27 (st1 := fun _ => [.int (fnd 5)]) (fun _ => rfl) (fun _ H locs _ X => ?_)
        have X : Wd E _ _ (clsW E a f g h ik one wo tp tl tk ts te tn rb rz rn (fdU td 5)) _ _ := X.eq clsW_idP
        exact k_topi (x' := (oRead rb rz rn f td (nI 3) y z).1) (by simp [oRead, hx0, ek, c22]) (fin (g) 30 _ _ _ trivial (X.eq (by simp [oRead, hx0, ek, c22])) dX11_read_30)
  · have hx0 : inR x 0 3 = false := by simpa using c4
    refine lv_aload_n hx hb dX11_read_7 rfl (lv_at hl 0 rfl) ?_
    refine lv_iconst (v := 0) hx hb dX11_read_8 (by decide) ?_
    refine k_callV K X gv_X11_84 (As := [.int 0]) (c_X11_finding l E a f g h ik one wo tp tl tk ts te tn rb rz rn td 0 (by decide)) [0, 1, 2, 3, 4, 5, 6, 7, 8, 9, 10, 11, 12, 13, 14, 15, 16, 17, 18, 19, 20, 21, 22, 23, 24, 25, 26, 27, 28, 29, 30, 31, 32, 33, 34, 35, 36, 37, 38, 39, 40, 41, 42] clsW_idC (by decide +kernel) (fun _ => clsW_fst) 0 11 rfl rfl (by decide) rfl hl.1 (rest := []) rfl (Nat.le_of_ble_eq_true rfl) dX11_read_9 (st1 := fun _ => [.int (fnd 0)]) (fun _ => rfl) (fun _ H locs _ X => ?_)
    have X : Wd E _ _ (clsW E a f g h ik one wo tp tl tk ts te tn rb rz rn (fdU td 0)) _ _ := X.eq clsW_idP
    exact k_topi (x' := (oRead rb rz rn f td x y z).1) (by simp [oRead, hx0]) (fin (g) 12 _ _ _ trivial (X.eq (by simp [oRead, hx0])) dX11_read_12)
