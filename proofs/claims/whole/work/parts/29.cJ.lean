set_option maxRecDepth 100000 in
set_option maxHeartbeats 4000000 in
theorem c_X9_append (l : Launch) (E : EE) (t : Nat → Nat) (tp : Nat → Int32) (tk : Int32) (ts : Int32) (te : Int32) (tn : Int32) (n : Nat) (x : Int32) (hn : n < 120) : Kd l yX9_append cX9_append 2 none 0 0 E (tapeW E t tp (nI n) tk ts te tn) [.ref (t 0), .int x] none (tapeW E t (upd tp n x) (nI (n + 1)) tk ts te tn) := by
  refine Kn.ofWv (by decide +kernel) (Nat.le_of_ble_eq_true rfl) ?_
  intro pg ev s0 mm below meth cd Q K X fin ls hl
  have hx := K.1
  have hb := K.2.1
  have hl : lv_has ls 2 [(0, .ref (t 0)), (1, .int x)] := hl
  refine lv_aload_n hx hb dX9_append_0 rfl (lv_at hl 0 rfl) ?_
  refine k_get K X 0 rfl fg_X9_9 (v := .ref (t 1)) rfl dX9_append_1 ?_
  refine lv_aload_n hx hb dX9_append_4 rfl (lv_at hl 0 rfl) ?_
  refine k_get K X 0 rfl fg_X9_15 (v := .int (nI n)) rfl dX9_append_5 ?_
  refine lv_iload_n hx hb dX9_append_8 rfl (lv_at hl 1 rfl) ?_
  refine k_iastN K X 1 rfl (k := n) (x := x) (by omega) (by decide) dX9_append_9 (fun H locs X => ?_)
  have X : Wd E _ _ (tapeW E t (upd tp n x) (nI n) tk ts te tn) _ _ := X
  refine lv_aload_n hx hb dX9_append_10 rfl (lv_at hl 0 rfl) ?_
  refine lv_dup hx hb dX9_append_11 rfl ?_
  refine k_get K X 0 rfl fg_X9_15 (v := .int (nI n)) rfl dX9_append_12 ?_
  refine lv_iconst (v := 1) hx hb dX9_append_15 (by decide) ?_
  refine lv_iadd hx hb dX9_append_16 ?_
  refine k_topi (nI_add n 1) ?_
  refine k_put K X 0 rfl fp_X9_15 (v := .int (nI (n + 1))) rfl rfl (Nat.le_of_ble_eq_true rfl) dX9_append_17 (fun H locs X => ?_)
  have X : Wd E _ _ (tapeW E t (upd tp n x) (nI (n + 1)) tk ts te tn) _ _ := X
  exact fin () 20 _ _ _ trivial X dX9_append_20
set_option maxRecDepth 100000 in
set_option maxHeartbeats 4000000 in
theorem c_X9_takeWord (l : Launch) (E : EE) (t : Nat → Nat) (tp : Nat → Int32) (tk : Int32) (ts : Int32) (tn : Int32) (n : Nat) (e : Nat) (hn : n ≤ 120) (he : e ≤ n) : Kd l yX9_takeWord cX9_takeWord 1 none 2 42 E (tapeW E t tp (nI n) tk ts (nI e) tn) [.ref (t 0)] none (tapeW E t tp (nI n) 1 ts (nI (runF isLet tp n e)) tn) := by
  refine Kn.ofWv (by decide +kernel) (Nat.le_of_ble_eq_true rfl) ?_
  intro pg ev s0 mm below meth cd Q K X fin ls hl
  have hx := K.1
  have hb := K.2.1
  have hl : lv_has ls 1 [(0, .ref (t 0))] := hl
  refine lv_aload_n hx hb dX9_takeWord_0 rfl (lv_at hl 0 rfl) ?_
  refine lv_iconst (v := 1) hx hb dX9_takeWord_1 (by decide) ?_
  refine k_put K X 0 rfl fp_X9_19 (v := .int 1) rfl rfl (Nat.le_of_ble_eq_true rfl) dX9_takeWord_2 (fun H locs X => ?_)
  have X : Wd E _ _ (tapeW E t tp (nI n) 1 ts (nI e) tn) _ _ := X
  have lp5 : ∀ (fu : Nat) (i : Nat) (hfu : n - i < fu) (hi : i ≤ n) (hR : runF isLet tp n i = runF isLet tp n e) (ls : Array Slot) (hl : lv_has ls 1 [(0, .ref (t 0))]) (H : Heap) (locs : List Loc) (X : Wd E (inW (tapeW E t tp (nI n) tk ts (nI e) tn)) s0.heap (tapeW E t tp (nI n) 1 ts (nI i) tn) H locs), W pg l ev (rmK 2 42) s0 mm ([.ref (t 0)] : List Value).toArray below meth cd H locs 0 0 Q (F0 mm 5 ls []) := by
    intro fu
    induction fu with
    | zero => intro i hfu; exact absurd hfu (Nat.not_lt_zero _)
    | succ fu ih5 =>
      intro i hfu hi hR ls hl H locs X
      refine lv_aload_n hx hb dX9_takeWord_5 rfl (lv_at hl 0 rfl) ?_
      refine k_get K X 0 rfl fg_X9_25 (v := .int (nI i)) rfl dX9_takeWord_6 ?_
      refine lv_aload_n hx hb dX9_takeWord_9 rfl (lv_at hl 0 rfl) ?_
      refine k_get K X 0 rfl fg_X9_15 (v := .int (nI n)) rfl dX9_takeWord_10 ?_
      refine kN_ge (x := i) (y := n) hx hb 44 dX9_takeWord_13 (by decide) (by omega) (by omega) (fun c13 => ?_) (fun c13 => ?_)
      · exact fin () 44 _ _ _ trivial (X.eq (by rw [← hR, runF_end (fun z => absurd z (by omega))])) dX9_takeWord_44
      · refine lv_aload_n hx hb dX9_takeWord_16 rfl (lv_at hl 0 rfl) ?_
        refine k_get K X 0 rfl fg_X9_9 (v := .ref (t 1)) rfl dX9_takeWord_17 ?_
        refine lv_aload_n hx hb dX9_takeWord_20 rfl (lv_at hl 0 rfl) ?_
        refine k_get K X 0 rfl fg_X9_25 (v := .int (nI i)) rfl dX9_takeWord_21 ?_
        refine k_ialdN K X 1 rfl (k := i) (by omega) (by decide) dX9_takeWord_24 (v := tp i) rfl ?_
        refine k_callS K X gs_X9_34 (As := [.int (tp i)]) (c_X9_isLetter l E (tp i)) [] rfl (by decide +kernel) (fun _ => rfl) (by decide) rfl hl.1 (rest := []) rfl (Nat.le_of_ble_eq_true rfl) dX9_takeWord_25 (st1 := fun _ => [.int (b2i (inR (tp i) 97 122))]) (fun _ => rfl) (fun _ H locs _ X => ?_)
        have X : Wd E _ _ (tapeW E t tp (nI n) 1 ts (nI i) tn) _ _ := X
        refine k_ifeqB (B := (inR (tp i) 97 122)) hx hb 44 dX9_takeWord_28 (by decide) (fun c28 => ?_) (fun c28 => ?_)
        · exact fin () 44 _ _ _ trivial (X.eq (by rw [← hR, runF_end (fun _ => c28)])) dX9_takeWord_44
        · refine lv_aload_n hx hb dX9_takeWord_31 rfl (lv_at hl 0 rfl) ?_
          refine lv_dup hx hb dX9_takeWord_32 rfl ?_
          refine k_get K X 0 rfl fg_X9_25 (v := .int (nI i)) rfl dX9_takeWord_33 ?_
          refine lv_iconst (v := 1) hx hb dX9_takeWord_36 (by decide) ?_
          refine lv_iadd hx hb dX9_takeWord_37 ?_
          refine k_topi (nI_add i 1) ?_
          refine k_put K X 0 rfl fp_X9_25 (v := .int (nI (i + 1))) rfl rfl (Nat.le_of_ble_eq_true rfl) dX9_takeWord_38 (fun H locs X => ?_)
          have X : Wd E _ _ (tapeW E t tp (nI n) 1 ts (nI (i + 1)) tn) _ _ := X
          refine lv_goto (tgt := 5) hx hb dX9_takeWord_41 (by decide) ?_
          exact ih5 (i + 1) (by omega) (by omega) ((runF_go (by omega) c28).trans hR) _ hl _ _ X
  exact lp5 ((n - e) + 1) e (by omega) (by omega) (rfl) _ hl _ _ X
set_option maxRecDepth 100000 in
set_option maxHeartbeats 4000000 in
theorem c_X9_takeNumber (l : Launch) (E : EE) (t : Nat → Nat) (tp : Nat → Int32) (tk : Int32) (ts : Int32) (tn : Int32) (n : Nat) (e : Nat) (hn : n ≤ 120) (he : e ≤ n) : Kd l yX9_takeNumber cX9_takeNumber 1 none 2 42 E (tapeW E t tp (nI n) tk ts (nI e) tn) [.ref (t 0)] none (tapeW E t tp (nI n) 2 ts (nI (runF isDig tp n e)) (nI (min (numF tp n e) 1000))) := by
  refine Kn.ofWv (by decide +kernel) (Nat.le_of_ble_eq_true rfl) ?_
  intro pg ev s0 mm below meth cd Q K X fin ls hl
  have hx := K.1
  have hb := K.2.1
  have hl : lv_has ls 1 [(0, .ref (t 0))] := hl
  refine lv_aload_n hx hb dX9_takeNumber_0 rfl (lv_at hl 0 rfl) ?_
  refine lv_iconst (v := 2) hx hb dX9_takeNumber_1 (by decide) ?_
  refine k_put K X 0 rfl fp_X9_19 (v := .int 2) rfl rfl (Nat.le_of_ble_eq_true rfl) dX9_takeNumber_2 (fun H locs X => ?_)
  have X : Wd E _ _ (tapeW E t tp (nI n) 2 ts (nI e) tn) _ _ := X
  refine lv_aload_n hx hb dX9_takeNumber_5 rfl (lv_at hl 0 rfl) ?_
  refine lv_iconst (v := 0) hx hb dX9_takeNumber_6 (by decide) ?_
  refine k_put K X 0 rfl fp_X9_28 (v := .int 0) rfl rfl (Nat.le_of_ble_eq_true rfl) dX9_takeNumber_7 (fun H locs X => ?_)
  have X : Wd E _ _ (tapeW E t tp (nI n) 2 ts (nI e) 0) _ _ := X
  have lp10 : ∀ (fu : Nat) (i : Nat) (v : Nat) (hfu : n - i < fu) (hi : i ≤ n) (hR : runF isDig tp n i = runF isDig tp n e) (hV : numG tp n i v = numF tp n e) (ls : Array Slot) (hl : lv_has ls 1 [(0, .ref (t 0))]) (H : Heap) (locs : List Loc) (X : Wd E (inW (tapeW E t tp (nI n) tk ts (nI e) tn)) s0.heap (tapeW E t tp (nI n) 2 ts (nI i) (nI (min v 1000))) H locs), W pg l ev (rmK 2 42) s0 mm ([.ref (t 0)] : List Value).toArray below meth cd H locs 0 0 Q (F0 mm 10 ls []) := by
    intro fu
    induction fu with
    | zero => intro i v hfu; exact absurd hfu (Nat.not_lt_zero _)
    | succ fu ih10 =>
      intro i v hfu hi hR hV ls hl H locs X
      refine lv_aload_n hx hb dX9_takeNumber_10 rfl (lv_at hl 0 rfl) ?_
      refine k_get K X 0 rfl fg_X9_25 (v := .int (nI i)) rfl dX9_takeNumber_11 ?_
      refine lv_aload_n hx hb dX9_takeNumber_14 rfl (lv_at hl 0 rfl) ?_
      refine k_get K X 0 rfl fg_X9_15 (v := .int (nI n)) rfl dX9_takeNumber_15 ?_
      refine kN_ge (x := i) (y := n) hx hb 79 dX9_takeNumber_18 (by decide) (by omega) (by omega) (fun c18 => ?_) (fun c18 => ?_)
      · exact fin () 79 _ _ _ trivial (X.eq (by rw [← hR, runF_end (fun z => absurd z (by omega)), ← hV, numG_end (fun z => absurd z (by omega))])) dX9_takeNumber_79
      · refine lv_aload_n hx hb dX9_takeNumber_21 rfl (lv_at hl 0 rfl) ?_
        refine k_get K X 0 rfl fg_X9_9 (v := .ref (t 1)) rfl dX9_takeNumber_22 ?_
        refine lv_aload_n hx hb dX9_takeNumber_25 rfl (lv_at hl 0 rfl) ?_
        refine k_get K X 0 rfl fg_X9_25 (v := .int (nI i)) rfl dX9_takeNumber_26 ?_
        refine k_ialdN K X 1 rfl (k := i) (by omega) (by decide) dX9_takeNumber_29 (v := tp i) rfl ?_
        refine k_callS K X gs_X9_41 (As := [.int (tp i)]) (c_X9_isDigit l E (tp i)) [] rfl (by decide +kernel) (fun _ => rfl) (by decide) rfl hl.1 (rest := []) rfl (Nat.le_of_ble_eq_true rfl) dX9_takeNumber_30 (st1 := fun _ => [.int (b2i (inR (tp i) 48 57))]) (fun _ => rfl) (fun _ H locs _ X => ?_)
        have X : Wd E _ _ (tapeW E t tp (nI n) 2 ts (nI i) (nI (min v 1000))) _ _ := X
        refine k_ifeqB (B := (inR (tp i) 48 57)) hx hb 79 dX9_takeNumber_33 (by decide) (fun c33 => ?_) (fun c33 => ?_)
        · exact fin () 79 _ _ _ trivial (X.eq (by rw [← hR, runF_end (fun _ => c33), ← hV, numG_end (fun _ => c33)])) dX9_takeNumber_79
        · refine lv_aload_n hx hb dX9_takeNumber_36 rfl (lv_at hl 0 rfl) ?_
          refine lv_bipush (v := 10) hx hb dX9_takeNumber_37 (by decide) ?_
          refine lv_aload_n hx hb dX9_takeNumber_39 rfl (lv_at hl 0 rfl) ?_
          refine k_get K X 0 rfl fg_X9_28 (v := .int (nI (min v 1000))) rfl dX9_takeNumber_40 ?_
          refine lv_imul hx hb dX9_takeNumber_43 ?_
          refine k_topi (pk_mul 10 (min v 1000)) ?_
          refine lv_aload_n hx hb dX9_takeNumber_44 rfl (lv_at hl 0 rfl) ?_
          refine k_get K X 0 rfl fg_X9_9 (v := .ref (t 1)) rfl dX9_takeNumber_45 ?_
          refine lv_aload_n hx hb dX9_takeNumber_48 rfl (lv_at hl 0 rfl) ?_
          refine k_get K X 0 rfl fg_X9_25 (v := .int (nI i)) rfl dX9_takeNumber_49 ?_
          refine k_ialdN K X 1 rfl (k := i) (by omega) (by decide) dX9_takeNumber_52 (v := tp i) rfl ?_
          refine lv_iadd hx hb dX9_takeNumber_53 ?_
          refine lv_bipush (v := 48) hx hb dX9_takeNumber_54 (by decide) ?_
          refine lv_isub hx hb dX9_takeNumber_56 ?_
          refine lv_sipush (v := 1000) hx hb dX9_takeNumber_57 (by decide) ?_
          refine va_mmin (x := ((nI (10 * (min v 1000))) + (tp i)) - 48) (y := 1000) hx hb (K.2.2.1.trans hl.1.symm) K.2.2.2.1 (K.2.2.2.2.1 _ (Mw_at 669 (by decide +kernel) (by decide +kernel))) (K.2.2.2.2.1 _ (Mw_at 545 (by decide +kernel) (by decide +kernel))) (K.2.2.2.2.1 _ (Mw_at 76 (by decide +kernel) (by decide +kernel))) (K.2.2.2.2.1 _ (Mw_at 546 (by decide +kernel) (by decide +kernel))) (by decide) (Nat.le_of_ble_eq_true rfl) (Nat.le_refl _) (Nat.le_refl _) dX9_takeNumber_60 ?_
          refine k_topi (x' := nI (min (numA (tp i) v) 1000)) (num_min c33) ?_
          refine k_put K X 0 rfl fp_X9_28 (v := .int (nI (min (numA (tp i) v) 1000))) rfl rfl (Nat.le_of_ble_eq_true rfl) dX9_takeNumber_63 (fun H locs X => ?_)
          have X : Wd E _ _ (tapeW E t tp (nI n) 2 ts (nI i) (nI (min (numA (tp i) v) 1000))) _ _ := X
          refine lv_aload_n hx hb dX9_takeNumber_66 rfl (lv_at hl 0 rfl) ?_
          refine lv_dup hx hb dX9_takeNumber_67 rfl ?_
          refine k_get K X 0 rfl fg_X9_25 (v := .int (nI i)) rfl dX9_takeNumber_68 ?_
          refine lv_iconst (v := 1) hx hb dX9_takeNumber_71 (by decide) ?_
          refine lv_iadd hx hb dX9_takeNumber_72 ?_
          refine k_topi (nI_add i 1) ?_
          refine k_put K X 0 rfl fp_X9_25 (v := .int (nI (i + 1))) rfl rfl (Nat.le_of_ble_eq_true rfl) dX9_takeNumber_73 (fun H locs X => ?_)
          have X : Wd E _ _ (tapeW E t tp (nI n) 2 ts (nI (i + 1)) (nI (min (numA (tp i) v) 1000))) _ _ := X
          refine lv_goto (tgt := 10) hx hb dX9_takeNumber_76 (by decide) ?_
          exact ih10 (i + 1) (numA (tp i) v) (by omega) (by omega) ((runF_go (by omega) c33).trans hR) ((numG_go (by omega) c33).trans hV) _ hl _ _ X
  exact lp10 ((n - e) + 1) e 0 (by omega) (by omega) (rfl) (rfl) _ hl _ _ X
set_option maxRecDepth 100000 in
set_option maxHeartbeats 4000000 in
theorem c_X9_nextToken (l : Launch) (E : EE) (t : Nat → Nat) (tp : Nat → Int32) (tk : Int32) (ts : Int32) (tn : Int32) (n : Nat) (e : Nat) (hn : n ≤ 120) (he : e ≤ n) : Kd l yX9_nextToken cX9_nextToken 1 none 3 62 E (tapeW E t tp (nI n) tk ts (nI e) tn) [.ref (t 0)] none (tapeW E t tp (nI n) (nI (kdS tp n (skS tp n e))) (nI (skS tp n e)) (nI (enS tp n (skS tp n e))) (tnS tp n (skS tp n e) tn)) := by
  refine Kn.ofWv (by decide +kernel) (Nat.le_of_ble_eq_true rfl) ?_
  intro pg ev s0 mm below meth cd Q K X fin ls hl
  have hx := K.1
  have hb := K.2.1
  have hl : lv_has ls 1 [(0, .ref (t 0))] := hl
  refine lv_aload_n hx hb dX9_nextToken_0 rfl (lv_at hl 0 rfl) ?_
  refine lv_aload_n hx hb dX9_nextToken_1 rfl (lv_at hl 0 rfl) ?_
  refine k_get K X 0 rfl fg_X9_25 (v := .int (nI e)) rfl dX9_nextToken_2 ?_
  refine k_put K X 0 rfl fp_X9_22 (v := .int (nI e)) rfl rfl (Nat.le_of_ble_eq_true rfl) dX9_nextToken_5 (fun H locs X => ?_)
  have X : Wd E _ _ (tapeW E t tp (nI n) tk (nI e) (nI e) tn) _ _ := X
  have lp8 : ∀ (fu : Nat) (i : Nat) (hfu : n - i < fu) (hi : i ≤ n) (hR : runF isSp tp n i = runF isSp tp n e) (ls : Array Slot) (hl : lv_has ls 1 [(0, .ref (t 0))]) (H : Heap) (locs : List Loc) (X : Wd E (inW (tapeW E t tp (nI n) tk ts (nI e) tn)) s0.heap (tapeW E t tp (nI n) tk (nI i) (nI e) tn) H locs), W pg l ev (rmK 3 62) s0 mm ([.ref (t 0)] : List Value).toArray below meth cd H locs 0 0 Q (F0 mm 8 ls []) := by
    intro fu
    induction fu with
    | zero => intro i hfu; exact absurd hfu (Nat.not_lt_zero _)
    | succ fu ih8 =>
      intro i hfu hi hR ls hl H locs X
      refine lv_aload_n hx hb dX9_nextToken_8 rfl (lv_at hl 0 rfl) ?_
      refine k_get K X 0 rfl fg_X9_22 (v := .int (nI i)) rfl dX9_nextToken_9 ?_
      refine lv_aload_n hx hb dX9_nextToken_12 rfl (lv_at hl 0 rfl) ?_
      refine k_get K X 0 rfl fg_X9_15 (v := .int (nI n)) rfl dX9_nextToken_13 ?_
      refine kN_ge (x := i) (y := n) hx hb 46 dX9_nextToken_16 (by decide) (by omega) (by omega) (fun c16 => ?_) (fun c16 => ?_)
      · have hs : skS tp n e = i := by rw [skS, ← hR]; exact runF_end (fun z => absurd z (by omega))
        refine lv_aload_n hx hb dX9_nextToken_46 rfl (lv_at hl 0 rfl) ?_
        refine lv_aload_n hx hb dX9_nextToken_47 rfl (lv_at hl 0 rfl) ?_
        refine k_get K X 0 rfl fg_X9_22 (v := .int (nI i)) rfl dX9_nextToken_48 ?_
        refine k_put K X 0 rfl fp_X9_25 (v := .int (nI i)) rfl rfl (Nat.le_of_ble_eq_true rfl) dX9_nextToken_51 (fun H locs X => ?_)
        have X : Wd E _ _ (tapeW E t tp (nI n) tk (nI i) (nI i) tn) _ _ := X
        refine lv_aload_n hx hb dX9_nextToken_54 rfl (lv_at hl 0 rfl) ?_
        refine k_get K X 0 rfl fg_X9_22 (v := .int (nI i)) rfl dX9_nextToken_55 ?_
        refine lv_aload_n hx hb dX9_nextToken_58 rfl (lv_at hl 0 rfl) ?_
        refine k_get K X 0 rfl fg_X9_15 (v := .int (nI n)) rfl dX9_nextToken_59 ?_
        refine kN_lt (x := i) (y := n) hx hb 73 dX9_nextToken_62 (by decide) (by omega) (by omega) (fun c62 => ?_) (fun c62 => ?_)
        · exact absurd c62 (by omega)
        · have c62n : n ≤ i := by omega
          refine lv_aload_n hx hb dX9_nextToken_65 rfl (lv_at hl 0 rfl) ?_
          refine lv_iconst (v := 0) hx hb dX9_nextToken_66 (by decide) ?_
          refine k_put K X 0 rfl fp_X9_19 (v := .int 0) rfl rfl (Nat.le_of_ble_eq_true rfl) dX9_nextToken_67 (fun H locs X => ?_)
          have X : Wd E _ _ (tapeW E t tp (nI n) 0 (nI i) (nI i) tn) _ _ := X
          refine lv_goto (tgt := 150) hx hb dX9_nextToken_70 (by decide) ?_
          exact fin () 150 _ _ _ trivial (X.eq (by rw [hs]; simp [kdS, enS, tnS, isLet, isDig, nl0, nl1, nl2, nl3, nl4, show inR 59 97 122 = false from by decide, show inR 59 48 57 = false from by decide, c62n])) dX9_nextToken_150
      · refine lv_aload_n hx hb dX9_nextToken_19 rfl (lv_at hl 0 rfl) ?_
        refine k_get K X 0 rfl fg_X9_9 (v := .ref (t 1)) rfl dX9_nextToken_20 ?_
        refine lv_aload_n hx hb dX9_nextToken_23 rfl (lv_at hl 0 rfl) ?_
        refine k_get K X 0 rfl fg_X9_22 (v := .int (nI i)) rfl dX9_nextToken_24 ?_
        refine k_ialdN K X 1 rfl (k := i) (by omega) (by decide) dX9_nextToken_27 (v := tp i) rfl ?_
        refine lv_bipush (v := 32) hx hb dX9_nextToken_28 (by decide) ?_
        refine k_icmp_ne (x := tp i) (y := 32) hx hb 46 dX9_nextToken_30 (by decide) (fun c30 => ?_) (fun c30 => ?_)
        · have hs : skS tp n e = i := by rw [skS, ← hR]; exact runF_end (fun _ => by rw [isSp, inR_one]; simpa using c30)
          refine lv_aload_n hx hb dX9_nextToken_46 rfl (lv_at hl 0 rfl) ?_
          refine lv_aload_n hx hb dX9_nextToken_47 rfl (lv_at hl 0 rfl) ?_
          refine k_get K X 0 rfl fg_X9_22 (v := .int (nI i)) rfl dX9_nextToken_48 ?_
          refine k_put K X 0 rfl fp_X9_25 (v := .int (nI i)) rfl rfl (Nat.le_of_ble_eq_true rfl) dX9_nextToken_51 (fun H locs X => ?_)
          have X : Wd E _ _ (tapeW E t tp (nI n) tk (nI i) (nI i) tn) _ _ := X
          refine lv_aload_n hx hb dX9_nextToken_54 rfl (lv_at hl 0 rfl) ?_
          refine k_get K X 0 rfl fg_X9_22 (v := .int (nI i)) rfl dX9_nextToken_55 ?_
          refine lv_aload_n hx hb dX9_nextToken_58 rfl (lv_at hl 0 rfl) ?_
          refine k_get K X 0 rfl fg_X9_15 (v := .int (nI n)) rfl dX9_nextToken_59 ?_
          refine kN_lt (x := i) (y := n) hx hb 73 dX9_nextToken_62 (by decide) (by omega) (by omega) (fun c62 => ?_) (fun c62 => ?_)
          · have c62n : ¬ n ≤ i := by omega
            refine lv_aload_n hx hb dX9_nextToken_73 rfl (lv_at hl 0 rfl) ?_
            refine k_get K X 0 rfl fg_X9_9 (v := .ref (t 1)) rfl dX9_nextToken_74 ?_
            refine lv_aload_n hx hb dX9_nextToken_77 rfl (lv_at hl 0 rfl) ?_
            refine k_get K X 0 rfl fg_X9_22 (v := .int (nI i)) rfl dX9_nextToken_78 ?_
            refine k_ialdN K X 1 rfl (k := i) (by omega) (by decide) dX9_nextToken_81 (v := tp i) rfl ?_
            refine k_callS K X gs_X9_34 (As := [.int (tp i)]) (c_X9_isLetter l E (tp i)) [] rfl (by decide +kernel) (fun _ => rfl) (by decide) rfl hl.1 (rest := []) rfl (Nat.le_of_ble_eq_true rfl) dX9_nextToken_82 (st1 := fun _ => [.int (b2i (inR (tp i) 97 122))]) (fun _ => rfl) (fun _ H locs _ X => ?_)
            have X : Wd E _ _ (tapeW E t tp (nI n) tk (nI i) (nI i) tn) _ _ := X
            refine k_ifeqB (B := (inR (tp i) 97 122)) hx hb 95 dX9_nextToken_85 (by decide) (fun c85 => ?_) (fun c85 => ?_)
            · refine lv_aload_n hx hb dX9_nextToken_95 rfl (lv_at hl 0 rfl) ?_
              refine k_get K X 0 rfl fg_X9_9 (v := .ref (t 1)) rfl dX9_nextToken_96 ?_
              refine lv_aload_n hx hb dX9_nextToken_99 rfl (lv_at hl 0 rfl) ?_
              refine k_get K X 0 rfl fg_X9_22 (v := .int (nI i)) rfl dX9_nextToken_100 ?_
              refine k_ialdN K X 1 rfl (k := i) (by omega) (by decide) dX9_nextToken_103 (v := tp i) rfl ?_
              refine k_callS K X gs_X9_41 (As := [.int (tp i)]) (c_X9_isDigit l E (tp i)) [] rfl (by decide +kernel) (fun _ => rfl) (by decide) rfl hl.1 (rest := []) rfl (Nat.le_of_ble_eq_true rfl) dX9_nextToken_104 (st1 := fun _ => [.int (b2i (inR (tp i) 48 57))]) (fun _ => rfl) (fun _ H locs _ X => ?_)
              have X : Wd E _ _ (tapeW E t tp (nI n) tk (nI i) (nI i) tn) _ _ := X
              refine k_ifeqB (B := (inR (tp i) 48 57)) hx hb 117 dX9_nextToken_107 (by decide) (fun c107 => ?_) (fun c107 => ?_)
              · refine lv_aload_n hx hb dX9_nextToken_117 rfl (lv_at hl 0 rfl) ?_
                refine lv_aload_n hx hb dX9_nextToken_118 rfl (lv_at hl 0 rfl) ?_
                refine k_get K X 0 rfl fg_X9_9 (v := .ref (t 1)) rfl dX9_nextToken_119 ?_
                refine lv_aload_n hx hb dX9_nextToken_122 rfl (lv_at hl 0 rfl) ?_
                refine k_get K X 0 rfl fg_X9_22 (v := .int (nI i)) rfl dX9_nextToken_123 ?_
                refine k_ialdN K X 1 rfl (k := i) (by omega) (by decide) dX9_nextToken_126 (v := tp i) rfl ?_
                refine lv_bipush (v := 59) hx hb dX9_nextToken_127 (by decide) ?_
                refine k_icmp_ne (x := tp i) (y := 59) hx hb 136 dX9_nextToken_129 (by decide) (fun c129 => ?_) (fun c129 => ?_)
                · refine lv_iconst (v := 4) hx hb dX9_nextToken_136 (by decide) ?_
                  refine k_put K X 0 rfl fp_X9_19 (v := .int 4) rfl rfl (Nat.le_of_ble_eq_true rfl) dX9_nextToken_137 (fun H locs X => ?_)
                  have X : Wd E _ _ (tapeW E t tp (nI n) 4 (nI i) (nI i) tn) _ _ := X
                  refine lv_aload_n hx hb dX9_nextToken_140 rfl (lv_at hl 0 rfl) ?_
                  refine lv_dup hx hb dX9_nextToken_141 rfl ?_
                  refine k_get K X 0 rfl fg_X9_25 (v := .int (nI i)) rfl dX9_nextToken_142 ?_
                  refine lv_iconst (v := 1) hx hb dX9_nextToken_145 (by decide) ?_
                  refine lv_iadd hx hb dX9_nextToken_146 ?_
                  refine k_topi (nI_add i 1) ?_
                  refine k_put K X 0 rfl fp_X9_25 (v := .int (nI (i + 1))) rfl rfl (Nat.le_of_ble_eq_true rfl) dX9_nextToken_147 (fun H locs X => ?_)
                  have X : Wd E _ _ (tapeW E t tp (nI n) 4 (nI i) (nI (i + 1)) tn) _ _ := X
                  exact fin () 150 _ _ _ trivial (X.eq (by rw [hs]; simp [kdS, enS, tnS, isLet, isDig, nl0, nl1, nl2, nl3, nl4, show inR 59 97 122 = false from by decide, show inR 59 48 57 = false from by decide, c30, c62n, c85, c107, c129])) dX9_nextToken_150
                · refine lv_iconst (v := 3) hx hb dX9_nextToken_132 (by decide) ?_
                  refine lv_goto (tgt := 137) hx hb dX9_nextToken_133 (by decide) ?_
                  refine k_put K X 0 rfl fp_X9_19 (v := .int 3) rfl rfl (Nat.le_of_ble_eq_true rfl) dX9_nextToken_137 (fun H locs X => ?_)
                  have X : Wd E _ _ (tapeW E t tp (nI n) 3 (nI i) (nI i) tn) _ _ := X
                  refine lv_aload_n hx hb dX9_nextToken_140 rfl (lv_at hl 0 rfl) ?_
                  refine lv_dup hx hb dX9_nextToken_141 rfl ?_
                  refine k_get K X 0 rfl fg_X9_25 (v := .int (nI i)) rfl dX9_nextToken_142 ?_
                  refine lv_iconst (v := 1) hx hb dX9_nextToken_145 (by decide) ?_
                  refine lv_iadd hx hb dX9_nextToken_146 ?_
                  refine k_topi (nI_add i 1) ?_
                  refine k_put K X 0 rfl fp_X9_25 (v := .int (nI (i + 1))) rfl rfl (Nat.le_of_ble_eq_true rfl) dX9_nextToken_147 (fun H locs X => ?_)
                  have X : Wd E _ _ (tapeW E t tp (nI n) 3 (nI i) (nI (i + 1)) tn) _ _ := X
                  exact fin () 150 _ _ _ trivial (X.eq (by rw [hs]; simp [kdS, enS, tnS, isLet, isDig, nl0, nl1, nl2, nl3, nl4, show inR 59 97 122 = false from by decide, show inR 59 48 57 = false from by decide, c30, c62n, c85, c107, c129])) dX9_nextToken_150
              · refine lv_aload_n hx hb dX9_nextToken_110 rfl (lv_at hl 0 rfl) ?_
                refine k_callV K X gv_X9_44 (As := []) (c_X9_takeNumber l E t tp tk (nI i) tn n i (by omega) (by omega)) [0, 1] tapeW_idC (by decide +kernel) (fun _ => tapeW_fst) 0 9 rfl rfl (by decide) rfl hl.1 (rest := []) rfl (Nat.le_of_ble_eq_true rfl) dX9_nextToken_111 (st1 := fun _ => []) (fun _ => rfl) (fun _ H locs _ X => ?_)
                have X : Wd E _ _ (tapeW E t tp (nI n) 2 (nI i) (nI (runF isDig tp n i)) (nI (min (numF tp n i) 1000))) _ _ := X.eq tapeW_idP
                refine lv_goto (tgt := 150) hx hb dX9_nextToken_114 (by decide) ?_
                exact fin () 150 _ _ _ trivial (X.eq (by rw [hs]; simp [kdS, enS, tnS, isLet, isDig, nl0, nl1, nl2, nl3, nl4, show inR 59 97 122 = false from by decide, show inR 59 48 57 = false from by decide, c30, c62n, c85, c107])) dX9_nextToken_150
            · refine lv_aload_n hx hb dX9_nextToken_88 rfl (lv_at hl 0 rfl) ?_
              refine k_callV K X gv_X9_38 (As := []) (c_X9_takeWord l E t tp tk (nI i) tn n i (by omega) (by omega)) [0, 1] tapeW_idC (by decide +kernel) (fun _ => tapeW_fst) 0 9 rfl rfl (by decide) rfl hl.1 (rest := []) rfl (Nat.le_of_ble_eq_true rfl) dX9_nextToken_89 (st1 := fun _ => []) (fun _ => rfl) (fun _ H locs _ X => ?_)
              have X : Wd E _ _ (tapeW E t tp (nI n) 1 (nI i) (nI (runF isLet tp n i)) tn) _ _ := X.eq tapeW_idP
              refine lv_goto (tgt := 150) hx hb dX9_nextToken_92 (by decide) ?_
              exact fin () 150 _ _ _ trivial (X.eq (by rw [hs]; simp [kdS, enS, tnS, isLet, isDig, nl0, nl1, nl2, nl3, nl4, show inR 59 97 122 = false from by decide, show inR 59 48 57 = false from by decide, c30, c62n, c85])) dX9_nextToken_150
          · exact absurd c62 (by omega)
        · refine lv_aload_n hx hb dX9_nextToken_33 rfl (lv_at hl 0 rfl) ?_
          refine lv_dup hx hb dX9_nextToken_34 rfl ?_
          refine k_get K X 0 rfl fg_X9_22 (v := .int (nI i)) rfl dX9_nextToken_35 ?_
          refine lv_iconst (v := 1) hx hb dX9_nextToken_38 (by decide) ?_
          refine lv_iadd hx hb dX9_nextToken_39 ?_
          refine k_topi (nI_add i 1) ?_
          refine k_put K X 0 rfl fp_X9_22 (v := .int (nI (i + 1))) rfl rfl (Nat.le_of_ble_eq_true rfl) dX9_nextToken_40 (fun H locs X => ?_)
          have X : Wd E _ _ (tapeW E t tp (nI n) tk (nI (i + 1)) (nI e) tn) _ _ := X
          refine lv_goto (tgt := 8) hx hb dX9_nextToken_43 (by decide) ?_
          exact ih8 (i + 1) (by omega) (by omega) ((runF_go (by omega) (by rw [isSp, inR_one]; simpa using c30)).trans hR) _ hl _ _ X
  exact lp8 ((n - e) + 1) e (by omega) (by omega) (rfl) _ hl _ _ X
set_option maxRecDepth 100000 in
set_option maxHeartbeats 4000000 in
theorem c_X9_firstToken (l : Launch) (E : EE) (t : Nat → Nat) (tp : Nat → Int32) (tk : Int32) (ts : Int32) (te : Int32) (tn : Int32) (n : Nat) (hn : n ≤ 120) : Kd l yX9_firstToken cX9_firstToken 1 none 4 82 E (tapeW E t tp (nI n) tk ts te tn) [.ref (t 0)] none (tapeW E t tp (nI n) (nI (kdS tp n (skS tp n 0))) (nI (skS tp n 0)) (nI (enS tp n (skS tp n 0))) (tnS tp n (skS tp n 0) tn)) := by
  refine Kn.ofWv (by decide +kernel) (Nat.le_of_ble_eq_true rfl) ?_
  intro pg ev s0 mm below meth cd Q K X fin ls hl
  have hx := K.1
  have hb := K.2.1
  have hl : lv_has ls 1 [(0, .ref (t 0))] := hl
  refine lv_aload_n hx hb dX9_firstToken_0 rfl (lv_at hl 0 rfl) ?_
  refine lv_iconst (v := 0) hx hb dX9_firstToken_1 (by decide) ?_
  refine k_put K X 0 rfl fp_X9_25 (v := .int 0) rfl rfl (Nat.le_of_ble_eq_true rfl) dX9_firstToken_2 (fun H locs X => ?_)
  have X : Wd E _ _ (tapeW E t tp (nI n) tk ts 0 tn) _ _ := X
  refine lv_aload_n hx hb dX9_firstToken_5 rfl (lv_at hl 0 rfl) ?_
  refine k_callV K X gv_X9_31 (As := []) (c_X9_nextToken l E t tp tk ts tn n 0 (by omega) (by omega)) [0, 1] tapeW_idC (by decide +kernel) (fun _ => tapeW_fst) 0 9 rfl rfl (by decide) rfl hl.1 (rest := []) rfl (Nat.le_of_ble_eq_true rfl) dX9_firstToken_6 (st1 := fun _ => []) (fun _ => rfl) (fun _ H locs _ X => ?_)
  have X : Wd E _ _ (tapeW E t tp (nI n) (nI (kdS tp n (skS tp n 0))) (nI (skS tp n 0)) (nI (enS tp n (skS tp n 0))) (tnS tp n (skS tp n 0) tn)) _ _ := X.eq tapeW_idP
  exact fin () 9 _ _ _ trivial X dX9_firstToken_9
set_option maxRecDepth 100000 in
set_option maxHeartbeats 4000000 in
theorem c_X9_isAtEnd (l : Launch) (E : EE) (t : Nat → Nat) (tp : Nat → Int32) (tl : Int32) (ts : Int32) (te : Int32) (tn : Int32) (k : Nat) (hk : k < 5) : Kd l yX9_isAtEnd cX9_isAtEnd 1 (some .boolean) 0 0 E (tapeW E t tp tl (nI k) ts te tn) [.ref (t 0)] (some (.int (b2i (decide (k = 0))))) (tapeW E t tp tl (nI k) ts te tn) := by
  refine Kn.ofWi (by decide +kernel) (Nat.le_of_ble_eq_true rfl) (fun _ _ => b2i_nar _) ?_
  intro pg ev s0 mm below meth cd Q K X fin ls hl
  have hx := K.1
  have hb := K.2.1
  have hl : lv_has ls 1 [(0, .ref (t 0))] := hl
  refine lv_aload_n hx hb dX9_isAtEnd_0 rfl (lv_at hl 0 rfl) ?_
  refine k_get K X 0 rfl fg_X9_19 (v := .int (nI k)) rfl dX9_isAtEnd_1 ?_
  refine kN0_ne (x := k) hx hb 11 dX9_isAtEnd_4 (by decide) (by omega) (fun c4 => ?_) (fun c4 => ?_)
  · refine lv_iconst (v := 0) hx hb dX9_isAtEnd_11 (by decide) ?_
    exact k_topi (x' := b2i (decide (k = 0))) (by simp [b2i, c4]) (fin () 12 _ _ _ trivial X dX9_isAtEnd_12)
  · refine lv_iconst (v := 1) hx hb dX9_isAtEnd_7 (by decide) ?_
    refine lv_goto (tgt := 12) hx hb dX9_isAtEnd_8 (by decide) ?_
    exact k_topi (x' := b2i (decide (k = 0))) (by simp [b2i, c4]) (fin () 12 _ _ _ trivial X dX9_isAtEnd_12)
set_option maxRecDepth 100000 in
set_option maxHeartbeats 4000000 in
theorem c_X9_isSign (l : Launch) (E : EE) (t : Nat → Nat) (tp : Nat → Int32) (tl : Int32) (ts : Int32) (te : Int32) (tn : Int32) (k : Nat) (hk : k < 5) : Kd l yX9_isSign cX9_isSign 1 (some .boolean) 0 0 E (tapeW E t tp tl (nI k) ts te tn) [.ref (t 0)] (some (.int (b2i (decide (k = 3))))) (tapeW E t tp tl (nI k) ts te tn) := by
  refine Kn.ofWi (by decide +kernel) (Nat.le_of_ble_eq_true rfl) (fun _ _ => b2i_nar _) ?_
  intro pg ev s0 mm below meth cd Q K X fin ls hl
  have hx := K.1
  have hb := K.2.1
  have hl : lv_has ls 1 [(0, .ref (t 0))] := hl
  refine lv_aload_n hx hb dX9_isSign_0 rfl (lv_at hl 0 rfl) ?_
  refine k_get K X 0 rfl fg_X9_19 (v := .int (nI k)) rfl dX9_isSign_1 ?_
  refine lv_iconst (v := 3) hx hb dX9_isSign_4 (by decide) ?_
  refine kN_ne (x := k) (y := 3) hx hb 12 dX9_isSign_5 (by decide) (by omega) (by omega) (fun c5 => ?_) (fun c5 => ?_)
  · refine lv_iconst (v := 0) hx hb dX9_isSign_12 (by decide) ?_
    exact k_topi (x' := b2i (decide (k = 3))) (by simp [b2i, c5]) (fin () 13 _ _ _ trivial X dX9_isSign_13)
  · refine lv_iconst (v := 1) hx hb dX9_isSign_8 (by decide) ?_
    refine lv_goto (tgt := 13) hx hb dX9_isSign_9 (by decide) ?_
    exact k_topi (x' := b2i (decide (k = 3))) (by simp [b2i, c5]) (fin () 13 _ _ _ trivial X dX9_isSign_13)
set_option maxRecDepth 100000 in
set_option maxHeartbeats 4000000 in
theorem c_X9_isNumberUpTo (l : Launch) (E : EE) (t : Nat → Nat) (tp : Nat → Int32) (tl : Int32) (ts : Int32) (te : Int32) (tn : Int32) (k : Nat) (x : Int32) (hk : k < 5) : Kd l yX9_isNumberUpTo cX9_isNumberUpTo 2 (some .boolean) 0 0 E (tapeW E t tp tl (nI k) ts te tn) [.ref (t 0), .int x] (some (.int (b2i (decide (k = 2) && !decide (x < tn))))) (tapeW E t tp tl (nI k) ts te tn) := by
  refine Kn.ofWi (by decide +kernel) (Nat.le_of_ble_eq_true rfl) (fun _ _ => b2i_nar _) ?_
  intro pg ev s0 mm below meth cd Q K X fin ls hl
  have hx := K.1
  have hb := K.2.1
  have hl : lv_has ls 2 [(0, .ref (t 0)), (1, .int x)] := hl
  refine lv_aload_n hx hb dX9_isNumberUpTo_0 rfl (lv_at hl 0 rfl) ?_
  refine k_get K X 0 rfl fg_X9_19 (v := .int (nI k)) rfl dX9_isNumberUpTo_1 ?_
  refine lv_iconst (v := 2) hx hb dX9_isNumberUpTo_4 (by decide) ?_
  refine kN_ne (x := k) (y := 2) hx hb 20 dX9_isNumberUpTo_5 (by decide) (by omega) (by omega) (fun c5 => ?_) (fun c5 => ?_)
  · refine lv_iconst (v := 0) hx hb dX9_isNumberUpTo_20 (by decide) ?_
    exact k_topi (x' := b2i (decide (k = 2) && !decide (x < tn))) (by simp [b2i, c5]) (fin () 21 _ _ _ trivial X dX9_isNumberUpTo_21)
  · refine lv_aload_n hx hb dX9_isNumberUpTo_8 rfl (lv_at hl 0 rfl) ?_
    refine k_get K X 0 rfl fg_X9_28 (v := .int tn) rfl dX9_isNumberUpTo_9 ?_
    refine lv_iload_n hx hb dX9_isNumberUpTo_12 rfl (lv_at hl 1 rfl) ?_
    refine k_icmp_gt (x := tn) (y := x) hx hb 20 dX9_isNumberUpTo_13 (by decide) (fun c13 => ?_) (fun c13 => ?_)
    · refine lv_iconst (v := 0) hx hb dX9_isNumberUpTo_20 (by decide) ?_
      exact k_topi (x' := b2i (decide (k = 2) && !decide (x < tn))) (by simp [b2i, c5, c13]) (fin () 21 _ _ _ trivial X dX9_isNumberUpTo_21)
    · refine lv_iconst (v := 1) hx hb dX9_isNumberUpTo_16 (by decide) ?_
      refine lv_goto (tgt := 21) hx hb dX9_isNumberUpTo_17 (by decide) ?_
      exact k_topi (x' := b2i (decide (k = 2) && !decide (x < tn))) (by simp [b2i, c5, c13]) (fin () 21 _ _ _ trivial X dX9_isNumberUpTo_21)
