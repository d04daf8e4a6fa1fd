/-! the items of a text, as the class takes them: whether it is one, the token that it ends before, the wall -/
abbrev RI : Type := Bool × Nat × St
def numU (tp : Nat → Int32) (n s m : Nat) : Bool := decide (kdS tp n s = 2) && decide (numF tp n s ≤ m)
theorem isN_num {tp : Nat → Int32} {n s m : Nat} {u : Int32} (hm : m < 1000) : (decide (kdS tp n s = 2) && !decide (nI m < tnS tp n s u)) = numU tp n s m := by
  unfold numU
  by_cases h : kdS tp n s = 2
  · rw [tnS, if_pos h, decide_eq_true h, Bool.true_and, Bool.true_and]
    by_cases h2 : numF tp n s ≤ m
    · rw [decide_eq_true h2, decide_eq_false (show ¬ nI m < nI (min (numF tp n s) 1000) by rw [Int32.lt_iff_toInt_lt, nI_toInt (by omega), nI_toInt (by omega)]; omega), Bool.not_false]
    · rw [decide_eq_false h2, decide_eq_true (show nI m < nI (min (numF tp n s) 1000) by rw [Int32.lt_iff_toInt_lt, nI_toInt (by omega), nI_toInt (by omega)]; omega), Bool.not_true]
  · rw [decide_eq_false h, Bool.false_and, Bool.false_and]
theorem numU_tn {tp : Nat → Int32} {n s m : Nat} {u : Int32} (h : numU tp n s m = true) (hm : m < 1000) : tnS tp n s u = nI (numF tp n s) := by
  unfold numU at h
  rw [Bool.and_eq_true, decide_eq_true_eq, decide_eq_true_eq] at h
  rw [tnS, if_pos h.1, show min (numF tp n s) 1000 = numF tp n s by omega]
def itMoves (tp : Nat → Int32) (n : Nat) (f : St) (s : Nat) : RI := cond (numU tp n (skS tp n (enS tp n s)) 99) (true, skS tp n (enS tp n (skS tp n (enS tp n s))), up2 f 0 1 (nI (numF tp n (skS tp n (enS tp n s))))) (false, skS tp n (enS tp n s), f)
/-- once the group is read -/
def itFix (tp : Nat → Int32) (n : Nat) (f : St) (g : Int32) (s : Nat) : RI := cond (isWd tp (kdS tp n s) s (enS tp n s) 8) (true, skS tp n (enS tp n s), addS f g 1) (true, s, addS f g 0)
def itSlip (tp : Nat → Int32) (n : Nat) (f : St) (s : Nat) : RI := cond (decide (sl f < 10)) (cond (numU tp n (skS tp n (enS tp n s)) 5) (itFix tp n f (nI (numF tp n (skS tp n (enS tp n s)))) (skS tp n (enS tp n (skS tp n (enS tp n s))))) (cond (isWd tp (kdS tp n (skS tp n (enS tp n s))) (skS tp n (enS tp n s)) (enS tp n (skS tp n (enS tp n s))) 7) (itFix tp n f (-1) (skS tp n (enS tp n (skS tp n (enS tp n s))))) (false, skS tp n (enS tp n s), f))) (false, s, f)
def knS (tp : Nat → Int32) (n s : Nat) : Int32 := cond (isWd tp (kdS tp n s) s (enS tp n s) 0) 0 (cond (isWd tp (kdS tp n s) s (enS tp n s) 1) 1 (cond (isWd tp (kdS tp n s) s (enS tp n s) 2) 2 (cond (isWd tp (kdS tp n s) s (enS tp n s) 3) 3 (cond (isWd tp (kdS tp n s) s (enS tp n s) 4) 4 (cond (isWd tp (kdS tp n s) s (enS tp n s) 5) 5 (-1))))))
def wnL (tp : Nat → Int32) (n p : Nat) : Nat → Nat → Nat → St → Nat × Nat × St
  | 0, i, s, f => (i, s, f)
  | m + 1, i, s, f => cond (numU tp n s 5) (wnL tp n p m (i + 1) (skS tp n (enS tp n s)) (up2 f 6 (10 * p + i) (nI (numF tp n s)))) (i, s, f)
def itPerson (tp : Nat → Int32) (n : Nat) (f : St) (s : Nat) (x : Int32) : RI := cond (decide (pe f < 6)) (cond (isWd tp (kdS tp n (skS tp n (enS tp n s))) (skS tp n (enS tp n s)) (enS tp n (skS tp n (enS tp n s))) 9) (decide (0 < (wnL tp n (pe f) 5 0 (skS tp n (enS tp n (skS tp n (enS tp n s)))) (addP f x)).1), (wnL tp n (pe f) 5 0 (skS tp n (enS tp n (skS tp n (enS tp n s)))) (addP f x)).2.1, (wnL tp n (pe f) 5 0 (skS tp n (enS tp n (skS tp n (enS tp n s)))) (addP f x)).2.2) (true, skS tp n (enS tp n s), addP f x)) (false, s, f)
def itAny (tp : Nat → Int32) (n : Nat) (f : St) (s : Nat) : RI := cond (isWd tp (kdS tp n s) s (enS tp n s) 6) (itSlip tp n f s) (cond (isWd tp (kdS tp n s) s (enS tp n s) 10) (itMoves tp n f s) (cond (decide (knS tp n s = -1)) (false, s, f) (itPerson tp n f s (knS tp n s))))
set_option maxRecDepth 100000 in
set_option maxHeartbeats 4000000 in
theorem c_X10_takeMoves (l : Launch) (E : EE) (t : Nat → Nat) (a : Nat → Nat) (k : Nat → Nat) (tp : Nat → Int32) (f : St) (T : Nat) (n : Nat) (s : Nat) (u : Int32) (I : Inv T f) (hn : n ≤ 120) (hs : s ≤ n) : Kn l yX10_takeMoves cX10_takeMoves 2 (some .boolean) 4 82 E (textW E t a k tp (nI n) (nI (kdS tp n s)) (nI s) (nI (enS tp n s)) (tnS tp n s u) f) [.ref (t 2), .ref (a 0)] (S := Int32) (fun _ => True) (fun _ => (some (.int (b2i ((itMoves tp n f s).1))))) (fun uu => (textW E t a k tp (nI n) (nI (kdS tp n (itMoves tp n f s).2.1)) (nI (itMoves tp n f s).2.1) (nI (enS tp n (itMoves tp n f s).2.1)) (tnS tp n (itMoves tp n f s).2.1 uu) ((itMoves tp n f s).2.2))) := by
  refine Kn.ofWi (by decide +kernel) (Nat.le_of_ble_eq_true rfl) (fun _ _ => b2i_nar _) ?_
  intro pg ev s0 mm below meth cd Q K X fin ls hl
  have hx := K.1
  have hb := K.2.1
  have hs10 := I.s10
  have hp6 := I.p6
  have hen := enS_le tp hs
  have hkd := kdS_lt tp n s
  have hge := enS_ge tp n s
  have hl : lv_has ls 2 [(0, .ref (t 2)), (1, .ref (a 0))] := hl
  refine lv_aload_n hx hb dX10_takeMoves_0 rfl (lv_at hl 0 rfl) ?_
  refine k_get K X 9 rfl fg_X10_9 (v := .ref (t 0)) rfl dX10_takeMoves_1 ?_
  refine k_callV K X gv_X10_31 (As := []) (c_X9_nextToken l E t tp (nI (kdS tp n s)) (nI s) (tnS tp n s u) n (enS tp n s) (by omega) (by omega)) [7, 8] textW_s0C (by decide +kernel) (fun _ => tapeW_fst) 0 9 rfl rfl (by decide) rfl hl.1 (rest := []) rfl (Nat.le_of_ble_eq_true rfl) dX10_takeMoves_4 (st1 := fun _ => []) (fun _ => rfl) (fun _ H locs _ X => ?_)
  have X : Wd E _ _ (textW E t a k tp (nI n) (nI (kdS tp n (skS tp n (enS tp n s)))) (nI (skS tp n (enS tp n s))) (nI (enS tp n (skS tp n (enS tp n s)))) (tnS tp n (skS tp n (enS tp n s)) (tnS tp n s u)) f) _ _ := X.eq textW_s0P
  have hal : skS tp n (enS tp n s) ≤ n := skS_le tp (enS_le tp hs)
  have hae := enS_le tp hal
  have hak := kdS_lt tp n (skS tp n (enS tp n s))
  have hag := enS_ge tp n (skS tp n (enS tp n s))
  refine lv_aload_n hx hb dX10_takeMoves_7 rfl (lv_at hl 0 rfl) ?_
  refine k_get K X 9 rfl fg_X10_9 (v := .ref (t 0)) rfl dX10_takeMoves_8 ?_
  refine lv_bipush (v := 99) hx hb dX10_takeMoves_11 (by decide) ?_
  refine k_callV K X gv_X10_65 (As := [.int 99]) (c_X9_isNumberUpTo l E t tp (nI n) (nI (skS tp n (enS tp n s))) (nI (enS tp n (skS tp n (enS tp n s)))) (tnS tp n (skS tp n (enS tp n s)) (tnS tp n s u)) (kdS tp n (skS tp n (enS tp n s))) 99 (by omega)) [7, 8] textW_s0C (by decide +kernel) (fun _ => tapeW_fst) 0 9 rfl rfl (by decide) rfl hl.1 (rest := []) rfl (Nat.le_of_ble_eq_true rfl) dX10_takeMoves_13 (st1 := fun _ => [.int (b2i (decide ((kdS tp n (skS tp n (enS tp n s))) = 2) && !decide (99 < (tnS tp n (skS tp n (enS tp n s)) (tnS tp n s u)))))]) (fun _ => rfl) (fun _ H locs _ X => ?_)
  have X : Wd E _ _ (textW E t a k tp (nI n) (nI (kdS tp n (skS tp n (enS tp n s)))) (nI (skS tp n (enS tp n s))) (nI (enS tp n (skS tp n (enS tp n s)))) (tnS tp n (skS tp n (enS tp n s)) (tnS tp n s u)) f) _ _ := X.eq textW_s0P
  refine k_topi (congrArg b2i (isN_num (tp := tp) (n := n) (s := skS tp n (enS tp n s)) (m := 99) (by decide))) ?_
  refine k_ifneB (B := (numU tp n (skS tp n (enS tp n s)) 99)) hx hb 21 dX10_takeMoves_16 (by decide) (fun c16 => ?_) (fun c16 => ?_)
  · refine lv_aload_n hx hb dX10_takeMoves_21 rfl (lv_at hl 1 rfl) ?_
    refine lv_aload_n hx hb dX10_takeMoves_22 rfl (lv_at hl 0 rfl) ?_
    refine k_get K X 9 rfl fg_X10_9 (v := .ref (t 0)) rfl dX10_takeMoves_23 ?_
    refine k_getN K X 7 rfl fg_X10_69 (v := .int (tnS tp n (skS tp n (enS tp n s)) (tnS tp n s u))) rfl dX10_takeMoves_26 ?_
    refine k_topi (x' := nI (numF tp n (skS tp n (enS tp n s)))) (numU_tn (m := 99) c16 (by decide)) ?_
    refine k_putN K X 0 rfl fp_X10_80 (v := .int (nI (numF tp n (skS tp n (enS tp n s))))) rfl rfl (Nat.le_of_ble_eq_true rfl) dX10_takeMoves_29 (fun H locs X => ?_)
    have X : Wd E _ _ (textW E t a k tp (nI n) (nI (kdS tp n (skS tp n (enS tp n s)))) (nI (skS tp n (enS tp n s))) (nI (enS tp n (skS tp n (enS tp n s)))) (tnS tp n (skS tp n (enS tp n s)) (tnS tp n s u)) (up2 f 0 1 (nI (numF tp n (skS tp n (enS tp n s)))))) _ _ := X
    refine lv_aload_n hx hb dX10_takeMoves_32 rfl (lv_at hl 0 rfl) ?_
    refine k_get K X 9 rfl fg_X10_9 (v := .ref (t 0)) rfl dX10_takeMoves_33 ?_
    refine k_callV K X gv_X10_31 (As := []) (c_X9_nextToken l E t tp (nI (kdS tp n (skS tp n (enS tp n s)))) (nI (skS tp n (enS tp n s))) (tnS tp n (skS tp n (enS tp n s)) (tnS tp n s u)) n (enS tp n (skS tp n (enS tp n s))) (by omega) (by omega)) [7, 8] textW_s0C (by decide +kernel) (fun _ => tapeW_fst) 0 9 rfl rfl (by decide) rfl hl.1 (rest := []) rfl (Nat.le_of_ble_eq_true rfl) dX10_takeMoves_36 (st1 := fun _ => []) (fun _ => rfl) (fun _ H locs _ X => ?_)
    have X : Wd E _ _ (textW E t a k tp (nI n) (nI (kdS tp n (skS tp n (enS tp n (skS tp n (enS tp n s)))))) (nI (skS tp n (enS tp n (skS tp n (enS tp n s))))) (nI (enS tp n (skS tp n (enS tp n (skS tp n (enS tp n s)))))) (tnS tp n (skS tp n (enS tp n (skS tp n (enS tp n s)))) (tnS tp n (skS tp n (enS tp n s)) (tnS tp n s u))) (up2 f 0 1 (nI (numF tp n (skS tp n (enS tp n s)))))) _ _ := X.eq textW_s0P
    refine lv_iconst (v := 1) hx hb dX10_takeMoves_39 (by decide) ?_
    exact k_topi (x' := b2i ((itMoves tp n f s).1)) (by rw [itMoves, c16]; rfl) (fin (tnS tp n (skS tp n (enS tp n s)) (tnS tp n s u)) 40 _ _ _ trivial (X.eq (by rw [itMoves, c16]; rfl)) dX10_takeMoves_40)
  · refine lv_iconst (v := 0) hx hb dX10_takeMoves_19 (by decide) ?_
    exact k_topi (x' := b2i ((itMoves tp n f s).1)) (by rw [itMoves, c16]; rfl) (fin (tnS tp n s u) 20 _ _ _ trivial (X.eq (by rw [itMoves, c16]; rfl)) dX10_takeMoves_20)
set_option maxRecDepth 100000 in
set_option maxHeartbeats 4000000 in
theorem c_X10_takeSlip (l : Launch) (E : EE) (t : Nat → Nat) (a : Nat → Nat) (k : Nat → Nat) (tp : Nat → Int32) (f : St) (T : Nat) (n : Nat) (s : Nat) (u : Int32) (I : Inv T f) (hn : n ≤ 120) (hs : s ≤ n) : Kn l yX10_takeSlip cX10_takeSlip 4 (some .boolean) 7 158 E (textW E t a k tp (nI n) (nI (kdS tp n s)) (nI s) (nI (enS tp n s)) (tnS tp n s u) f) [.ref (t 2), .ref (a 0)] (S := Int32) (fun _ => True) (fun _ => (some (.int (b2i ((itSlip tp n f s).1))))) (fun uu => (textW E t a k tp (nI n) (nI (kdS tp n (itSlip tp n f s).2.1)) (nI (itSlip tp n f s).2.1) (nI (enS tp n (itSlip tp n f s).2.1)) (tnS tp n (itSlip tp n f s).2.1 uu) ((itSlip tp n f s).2.2))) := by
  refine Kn.ofWi (by decide +kernel) (Nat.le_of_ble_eq_true rfl) (fun _ _ => b2i_nar _) ?_
  intro pg ev s0 mm below meth cd Q K X fin ls hl
  have hx := K.1
  have hb := K.2.1
  have hs10 := I.s10
  have hp6 := I.p6
  have hen := enS_le tp hs
  have hkd := kdS_lt tp n s
  have hge := enS_ge tp n s
  have hl : lv_has ls 4 [(0, .ref (t 2)), (1, .ref (a 0))] := hl
  refine lv_aload_n hx hb dX10_takeSlip_0 rfl (lv_at hl 1 rfl) ?_
  refine k_getN K X 0 rfl fg_X10_60 (v := .int (f 0 2)) rfl dX10_takeSlip_1 ?_
  refine k_topi (I.hS) ?_
  refine lv_bipush (v := 10) hx hb dX10_takeSlip_4 (by decide) ?_
  refine kN_lt (x := sl f) (y := 10) hx hb 11 dX10_takeSlip_6 (by decide) (by omega) (by omega) (fun c6 => ?_) (fun c6 => ?_)
  · refine lv_aload_n hx hb dX10_takeSlip_11 rfl (lv_at hl 0 rfl) ?_
    refine k_get K X 9 rfl fg_X10_9 (v := .ref (t 0)) rfl dX10_takeSlip_12 ?_
    refine k_callV K X gv_X10_31 (As := []) (c_X9_nextToken l E t tp (nI (kdS tp n s)) (nI s) (tnS tp n s u) n (enS tp n s) (by omega) (by omega)) [7, 8] textW_s0C (by decide +kernel) (fun _ => tapeW_fst) 0 9 rfl rfl (by decide) rfl hl.1 (rest := []) rfl (Nat.le_of_ble_eq_true rfl) dX10_takeSlip_15 (st1 := fun _ => []) (fun _ => rfl) (fun _ H locs _ X => ?_)
    have X : Wd E _ _ (textW E t a k tp (nI n) (nI (kdS tp n (skS tp n (enS tp n s)))) (nI (skS tp n (enS tp n s))) (nI (enS tp n (skS tp n (enS tp n s)))) (tnS tp n (skS tp n (enS tp n s)) (tnS tp n s u)) f) _ _ := X.eq textW_s0P
    have hal : skS tp n (enS tp n s) ≤ n := skS_le tp (enS_le tp hs)
    have hae := enS_le tp hal
    have hak := kdS_lt tp n (skS tp n (enS tp n s))
    have hag := enS_ge tp n (skS tp n (enS tp n s))
    refine lv_iconst (v := (-1)) hx hb dX10_takeSlip_18 (by decide) ?_
    refine lv_istore_n (lv' := [(2, .int (-1)), (0, .ref (t 2)), (1, .ref (a 0))]) hx hb dX10_takeSlip_19 rfl hl (by decide) rfl (fun ls hl => ?_)
    refine lv_aload_n hx hb dX10_takeSlip_20 rfl (lv_at hl 1 rfl) ?_
    refine k_get K X 9 rfl fg_X10_9 (v := .ref (t 0)) rfl dX10_takeSlip_21 ?_
    refine lv_iconst (v := 5) hx hb dX10_takeSlip_24 (by decide) ?_
    refine k_callV K X gv_X10_65 (As := [.int 5]) (c_X9_isNumberUpTo l E t tp (nI n) (nI (skS tp n (enS tp n s))) (nI (enS tp n (skS tp n (enS tp n s)))) (tnS tp n (skS tp n (enS tp n s)) (tnS tp n s u)) (kdS tp n (skS tp n (enS tp n s))) 5 (by omega)) [7, 8] textW_s0C (by decide +kernel) (fun _ => tapeW_fst) 0 9 rfl rfl (by decide) rfl hl.1 (rest := []) rfl (Nat.le_of_ble_eq_true rfl) dX10_takeSlip_25 (st1 := fun _ => [.int (b2i (decide ((kdS tp n (skS tp n (enS tp n s))) = 2) && !decide (5 < (tnS tp n (skS tp n (enS tp n s)) (tnS tp n s u)))))]) (fun _ => rfl) (fun _ H locs _ X => ?_)
    have X : Wd E _ _ (textW E t a k tp (nI n) (nI (kdS tp n (skS tp n (enS tp n s)))) (nI (skS tp n (enS tp n s))) (nI (enS tp n (skS tp n (enS tp n s)))) (tnS tp n (skS tp n (enS tp n s)) (tnS tp n s u)) f) _ _ := X.eq textW_s0P
    refine k_topi (congrArg b2i (isN_num (tp := tp) (n := n) (s := skS tp n (enS tp n s)) (m := 5) (by decide))) ?_
    refine k_ifeqB (B := (numU tp n (skS tp n (enS tp n s)) 5)) hx hb 42 dX10_takeSlip_28 (by decide) (fun c28 => ?_) (fun c28 => ?_)
    · refine lv_aload_n hx hb dX10_takeSlip_42 rfl (lv_at hl 1 rfl) ?_
      refine k_get K X 9 rfl fg_X10_9 (v := .ref (t 0)) rfl dX10_takeSlip_43 ?_
      refine k_ldcZ K X (i := 7) (ix := 72) (by decide) rfl dX10_takeSlip_46 ?_
      refine k_callV K X gv_X10_40 (As := [.ref (eK E 7)]) (c_X9_isWord l E t tp (nI n) (tnS tp n (skS tp n (enS tp n s)) (tnS tp n s u)) 7 (kdS tp n (skS tp n (enS tp n s))) (skS tp n (enS tp n s)) (enS tp n (skS tp n (enS tp n s))) (by omega) (by omega) (by omega) (by omega)) [7, 8] textW_s0C (by decide +kernel) (fun _ => tapeW_fst) 0 9 rfl rfl (by decide) rfl hl.1 (rest := []) rfl (Nat.le_of_ble_eq_true rfl) dX10_takeSlip_48 (st1 := fun _ => [.int (b2i (isWd tp (kdS tp n (skS tp n (enS tp n s))) (skS tp n (enS tp n s)) (enS tp n (skS tp n (enS tp n s))) 7))]) (fun _ => rfl) (fun _ H locs _ X => ?_)
      have X : Wd E _ _ (textW E t a k tp (nI n) (nI (kdS tp n (skS tp n (enS tp n s)))) (nI (skS tp n (enS tp n s))) (nI (enS tp n (skS tp n (enS tp n s)))) (tnS tp n (skS tp n (enS tp n s)) (tnS tp n s u)) f) _ _ := X.eq textW_s0P
      refine k_ifneB (B := (isWd tp (kdS tp n (skS tp n (enS tp n s))) (skS tp n (enS tp n s)) (enS tp n (skS tp n (enS tp n s))) 7)) hx hb 56 dX10_takeSlip_51 (by decide) (fun c51 => ?_) (fun c51 => ?_)
      · refine lv_aload_n hx hb dX10_takeSlip_56 rfl (lv_at hl 1 rfl) ?_
        refine k_get K X 9 rfl fg_X10_9 (v := .ref (t 0)) rfl dX10_takeSlip_57 ?_
        refine k_callV K X gv_X10_31 (As := []) (c_X9_nextToken l E t tp (nI (kdS tp n (skS tp n (enS tp n s)))) (nI (skS tp n (enS tp n s))) (tnS tp n (skS tp n (enS tp n s)) (tnS tp n s u)) n (enS tp n (skS tp n (enS tp n s))) (by omega) (by omega)) [7, 8] textW_s0C (by decide +kernel) (fun _ => tapeW_fst) 0 9 rfl rfl (by decide) rfl hl.1 (rest := []) rfl (Nat.le_of_ble_eq_true rfl) dX10_takeSlip_60 (st1 := fun _ => []) (fun _ => rfl) (fun _ H locs _ X => ?_)
        have X : Wd E _ _ (textW E t a k tp (nI n) (nI (kdS tp n (skS tp n (enS tp n (skS tp n (enS tp n s)))))) (nI (skS tp n (enS tp n (skS tp n (enS tp n s))))) (nI (enS tp n (skS tp n (enS tp n (skS tp n (enS tp n s)))))) (tnS tp n (skS tp n (enS tp n (skS tp n (enS tp n s)))) (tnS tp n (skS tp n (enS tp n s)) (tnS tp n s u))) f) _ _ := X.eq textW_s0P
        have hbl : skS tp n (enS tp n (skS tp n (enS tp n s))) ≤ n := skS_le tp (enS_le tp hal)
        have hbe := enS_le tp hbl
        have hbk := kdS_lt tp n (skS tp n (enS tp n (skS tp n (enS tp n s))))
        have hbg := enS_ge tp n (skS tp n (enS tp n (skS tp n (enS tp n s))))
        refine lv_iconst (v := 0) hx hb dX10_takeSlip_63 (by decide) ?_
        refine lv_istore_n (lv' := [(3, .int 0), (2, .int (-1)), (0, .ref (t 2)), (1, .ref (a 0))]) hx hb dX10_takeSlip_64 rfl hl (by decide) rfl (fun ls hl => ?_)
        refine lv_aload_n hx hb dX10_takeSlip_65 rfl (lv_at hl 2 rfl) ?_
        refine k_get K X 9 rfl fg_X10_9 (v := .ref (t 0)) rfl dX10_takeSlip_66 ?_
        refine k_ldcZ K X (i := 8) (ix := 74) (by decide) rfl dX10_takeSlip_69 ?_
        refine k_callV K X gv_X10_40 (As := [.ref (eK E 8)]) (c_X9_isWord l E t tp (nI n) (tnS tp n (skS tp n (enS tp n (skS tp n (enS tp n s)))) (tnS tp n (skS tp n (enS tp n s)) (tnS tp n s u))) 8 (kdS tp n (skS tp n (enS tp n (skS tp n (enS tp n s))))) (skS tp n (enS tp n (skS tp n (enS tp n s)))) (enS tp n (skS tp n (enS tp n (skS tp n (enS tp n s))))) (by omega) (by omega) (by omega) (by omega)) [7, 8] textW_s0C (by decide +kernel) (fun _ => tapeW_fst) 0 9 rfl rfl (by decide) rfl hl.1 (rest := []) rfl (Nat.le_of_ble_eq_true rfl) dX10_takeSlip_71 (st1 := fun _ => [.int (b2i (isWd tp (kdS tp n (skS tp n (enS tp n (skS tp n (enS tp n s))))) (skS tp n (enS tp n (skS tp n (enS tp n s)))) (enS tp n (skS tp n (enS tp n (skS tp n (enS tp n s))))) 8))]) (fun _ => rfl) (fun _ H locs _ X => ?_)
        have X : Wd E _ _ (textW E t a k tp (nI n) (nI (kdS tp n (skS tp n (enS tp n (skS tp n (enS tp n s)))))) (nI (skS tp n (enS tp n (skS tp n (enS tp n s))))) (nI (enS tp n (skS tp n (enS tp n (skS tp n (enS tp n s)))))) (tnS tp n (skS tp n (enS tp n (skS tp n (enS tp n s)))) (tnS tp n (skS tp n (enS tp n s)) (tnS tp n s u))) f) _ _ := X.eq textW_s0P
        refine k_ifeqB (B := (isWd tp (kdS tp n (skS tp n (enS tp n (skS tp n (enS tp n s))))) (skS tp n (enS tp n (skS tp n (enS tp n s)))) (enS tp n (skS tp n (enS tp n (skS tp n (enS tp n s))))) 8)) hx hb 86 dX10_takeSlip_74 (by decide) (fun c74 => ?_) (fun c74 => ?_)
        · refine lv_aload_n hx hb dX10_takeSlip_86 rfl (lv_at hl 3 rfl) ?_
          refine lv_iload_n hx hb dX10_takeSlip_87 rfl (lv_at hl 1 rfl) ?_
          refine lv_iload_n hx hb dX10_takeSlip_88 rfl (lv_at hl 0 rfl) ?_
          refine k_callV K X gv_X10_76 (As := [.int (-1), .int 0]) (c_X6_addSlip l E a k f T (-1) 0 I (by omega)) [0, 1, 2, 3, 4, 5, 6] textW_s2C (by decide +kernel) (fun _ => roomW_fst) 0 6 rfl rfl (by decide) rfl hl.1 (rest := []) rfl (Nat.le_of_ble_eq_true rfl) dX10_takeSlip_89 (st1 := fun _ => [.int (nI (sl f))]) (fun _ => rfl) (fun _ H locs _ X => ?_)
          have X : Wd E _ _ (textW E t a k tp (nI n) (nI (kdS tp n (skS tp n (enS tp n (skS tp n (enS tp n s)))))) (nI (skS tp n (enS tp n (skS tp n (enS tp n s))))) (nI (enS tp n (skS tp n (enS tp n (skS tp n (enS tp n s)))))) (tnS tp n (skS tp n (enS tp n (skS tp n (enS tp n s)))) (tnS tp n (skS tp n (enS tp n s)) (tnS tp n s u))) (addS f (-1) 0)) _ _ := X.eq textW_s2P
          refine lv_pop hx hb dX10_takeSlip_92 rfl ?_
          refine lv_iconst (v := 1) hx hb dX10_takeSlip_93 (by decide) ?_
          exact k_topi (x' := b2i ((itSlip tp n f s).1)) (by rw [itSlip, decide_eq_true (show sl f < 10 by omega), cond_true, c28, cond_false, c51, cond_true, itFix, c74]; rfl) (fin (tnS tp n (skS tp n (enS tp n s)) (tnS tp n s u)) 94 _ _ _ trivial (X.eq (by rw [itSlip, decide_eq_true (show sl f < 10 by omega), cond_true, c28, cond_false, c51, cond_true, itFix, c74]; rfl)) dX10_takeSlip_94)
        · refine lv_iconst (v := 1) hx hb dX10_takeSlip_77 (by decide) ?_
          refine lv_istore_n (lv' := [(3, .int 1), (2, .int (-1)), (0, .ref (t 2)), (1, .ref (a 0))]) hx hb dX10_takeSlip_78 rfl hl (by decide) rfl (fun ls hl => ?_)
          refine lv_aload_n hx hb dX10_takeSlip_79 rfl (lv_at hl 2 rfl) ?_
          refine k_get K X 9 rfl fg_X10_9 (v := .ref (t 0)) rfl dX10_takeSlip_80 ?_
          refine k_callV K X gv_X10_31 (As := []) (c_X9_nextToken l E t tp (nI (kdS tp n (skS tp n (enS tp n (skS tp n (enS tp n s)))))) (nI (skS tp n (enS tp n (skS tp n (enS tp n s))))) (tnS tp n (skS tp n (enS tp n (skS tp n (enS tp n s)))) (tnS tp n (skS tp n (enS tp n s)) (tnS tp n s u))) n (enS tp n (skS tp n (enS tp n (skS tp n (enS tp n s))))) (by omega) (by omega)) [7, 8] textW_s0C (by decide +kernel) (fun _ => tapeW_fst) 0 9 rfl rfl (by decide) rfl hl.1 (rest := []) rfl (Nat.le_of_ble_eq_true rfl) dX10_takeSlip_83 (st1 := fun _ => []) (fun _ => rfl) (fun _ H locs _ X => ?_)
          have X : Wd E _ _ (textW E t a k tp (nI n) (nI (kdS tp n (skS tp n (enS tp n (skS tp n (enS tp n (skS tp n (enS tp n s)))))))) (nI (skS tp n (enS tp n (skS tp n (enS tp n (skS tp n (enS tp n s))))))) (nI (enS tp n (skS tp n (enS tp n (skS tp n (enS tp n (skS tp n (enS tp n s)))))))) (tnS tp n (skS tp n (enS tp n (skS tp n (enS tp n (skS tp n (enS tp n s)))))) (tnS tp n (skS tp n (enS tp n (skS tp n (enS tp n s)))) (tnS tp n (skS tp n (enS tp n s)) (tnS tp n s u)))) f) _ _ := X.eq textW_s0P
          refine lv_aload_n hx hb dX10_takeSlip_86 rfl (lv_at hl 3 rfl) ?_
          refine lv_iload_n hx hb dX10_takeSlip_87 rfl (lv_at hl 1 rfl) ?_
          refine lv_iload_n hx hb dX10_takeSlip_88 rfl (lv_at hl 0 rfl) ?_
          refine k_callV K X gv_X10_76 (As := [.int (-1), .int 1]) (c_X6_addSlip l E a k f T (-1) 1 I (by omega)) [0, 1, 2, 3, 4, 5, 6] textW_s2C (by decide +kernel) (fun _ => roomW_fst) 0 6 rfl rfl (by decide) rfl hl.1 (rest := []) rfl (Nat.le_of_ble_eq_true rfl) dX10_takeSlip_89 (st1 := fun _ => [.int (nI (sl f))]) (fun _ => rfl) (fun _ H locs _ X => ?_)
          have X : Wd E _ _ (textW E t a k tp (nI n) (nI (kdS tp n (skS tp n (enS tp n (skS tp n (enS tp n (skS tp n (enS tp n s)))))))) (nI (skS tp n (enS tp n (skS tp n (enS tp n (skS tp n (enS tp n s))))))) (nI (enS tp n (skS tp n (enS tp n (skS tp n (enS tp n (skS tp n (enS tp n s)))))))) (tnS tp n (skS tp n (enS tp n (skS tp n (enS tp n (skS tp n (enS tp n s)))))) (tnS tp n (skS tp n (enS tp n (skS tp n (enS tp n s)))) (tnS tp n (skS tp n (enS tp n s)) (tnS tp n s u)))) (addS f (-1) 1)) _ _ := X.eq textW_s2P
          refine lv_pop hx hb dX10_takeSlip_92 rfl ?_
          refine lv_iconst (v := 1) hx hb dX10_takeSlip_93 (by decide) ?_
          exact k_topi (x' := b2i ((itSlip tp n f s).1)) (by rw [itSlip, decide_eq_true (show sl f < 10 by omega), cond_true, c28, cond_false, c51, cond_true, itFix, c74]; rfl) (fin (tnS tp n (skS tp n (enS tp n (skS tp n (enS tp n s)))) (tnS tp n (skS tp n (enS tp n s)) (tnS tp n s u))) 94 _ _ _ trivial (X.eq (by rw [itSlip, decide_eq_true (show sl f < 10 by omega), cond_true, c28, cond_false, c51, cond_true, itFix, c74]; rfl)) dX10_takeSlip_94)
      · refine lv_iconst (v := 0) hx hb dX10_takeSlip_54 (by decide) ?_
        exact k_topi (x' := b2i ((itSlip tp n f s).1)) (by rw [itSlip, decide_eq_true (show sl f < 10 by omega), cond_true, c28, cond_false, c51]; rfl) (fin (tnS tp n s u) 55 _ _ _ trivial (X.eq (by rw [itSlip, decide_eq_true (show sl f < 10 by omega), cond_true, c28, cond_false, c51]; rfl)) dX10_takeSlip_55)
    · refine lv_aload_n hx hb dX10_takeSlip_31 rfl (lv_at hl 1 rfl) ?_
      refine k_get K X 9 rfl fg_X10_9 (v := .ref (t 0)) rfl dX10_takeSlip_32 ?_
      refine k_getN K X 7 rfl fg_X10_69 (v := .int (tnS tp n (skS tp n (enS tp n s)) (tnS tp n s u))) rfl dX10_takeSlip_35 ?_
      refine k_topi (x' := nI (numF tp n (skS tp n (enS tp n s)))) (numU_tn (m := 5) c28 (by decide)) ?_
      refine lv_istore_n (lv' := [(2, .int (nI (numF tp n (skS tp n (enS tp n s))))), (0, .ref (t 2)), (1, .ref (a 0))]) hx hb dX10_takeSlip_38 rfl hl (by decide) rfl (fun ls hl => ?_)
      refine lv_goto (tgt := 56) hx hb dX10_takeSlip_39 (by decide) ?_
      refine lv_aload_n hx hb dX10_takeSlip_56 rfl (lv_at hl 1 rfl) ?_
      refine k_get K X 9 rfl fg_X10_9 (v := .ref (t 0)) rfl dX10_takeSlip_57 ?_
      refine k_callV K X gv_X10_31 (As := []) (c_X9_nextToken l E t tp (nI (kdS tp n (skS tp n (enS tp n s)))) (nI (skS tp n (enS tp n s))) (tnS tp n (skS tp n (enS tp n s)) (tnS tp n s u)) n (enS tp n (skS tp n (enS tp n s))) (by omega) (by omega)) [7, 8] textW_s0C (by decide +kernel) (fun _ => tapeW_fst) 0 9 rfl rfl (by decide) rfl hl.1 (rest := []) rfl (Nat.le_of_ble_eq_true rfl) dX10_takeSlip_60 (st1 := fun _ => []) (fun _ => rfl) (fun _ H locs _ X => ?_)
      have X : Wd E _ _ (textW E t a k tp (nI n) (nI (kdS tp n (skS tp n (enS tp n (skS tp n (enS tp n s)))))) (nI (skS tp n (enS tp n (skS tp n (enS tp n s))))) (nI (enS tp n (skS tp n (enS tp n (skS tp n (enS tp n s)))))) (tnS tp n (skS tp n (enS tp n (skS tp n (enS tp n s)))) (tnS tp n (skS tp n (enS tp n s)) (tnS tp n s u))) f) _ _ := X.eq textW_s0P
      have hbl : skS tp n (enS tp n (skS tp n (enS tp n s))) ≤ n := skS_le tp (enS_le tp hal)
      have hbe := enS_le tp hbl
      have hbk := kdS_lt tp n (skS tp n (enS tp n (skS tp n (enS tp n s))))
      have hbg := enS_ge tp n (skS tp n (enS tp n (skS tp n (enS tp n s))))
      refine lv_iconst (v := 0) hx hb dX10_takeSlip_63 (by decide) ?_
      refine lv_istore_n (lv' := [(3, .int 0), (2, .int (nI (numF tp n (skS tp n (enS tp n s))))), (0, .ref (t 2)), (1, .ref (a 0))]) hx hb dX10_takeSlip_64 rfl hl (by decide) rfl (fun ls hl => ?_)
      refine lv_aload_n hx hb dX10_takeSlip_65 rfl (lv_at hl 2 rfl) ?_
      refine k_get K X 9 rfl fg_X10_9 (v := .ref (t 0)) rfl dX10_takeSlip_66 ?_
      refine k_ldcZ K X (i := 8) (ix := 74) (by decide) rfl dX10_takeSlip_69 ?_
      refine k_callV K X gv_X10_40 (As := [.ref (eK E 8)]) (c_X9_isWord l E t tp (nI n) (tnS tp n (skS tp n (enS tp n (skS tp n (enS tp n s)))) (tnS tp n (skS tp n (enS tp n s)) (tnS tp n s u))) 8 (kdS tp n (skS tp n (enS tp n (skS tp n (enS tp n s))))) (skS tp n (enS tp n (skS tp n (enS tp n s)))) (enS tp n (skS tp n (enS tp n (skS tp n (enS tp n s))))) (by omega) (by omega) (by omega) (by omega)) [7, 8] textW_s0C (by decide +kernel) (fun _ => tapeW_fst) 0 9 rfl rfl (by decide) rfl hl.1 (rest := []) rfl (Nat.le_of_ble_eq_true rfl) dX10_takeSlip_71 (st1 := fun _ => [.int (b2i (isWd tp (kdS tp n (skS tp n (enS tp n (skS tp n (enS tp n s))))) (skS tp n (enS tp n (skS tp n (enS tp n s)))) (enS tp n (skS tp n (enS tp n (skS tp n (enS tp n s))))) 8))]) (fun _ => rfl) (fun _ H locs _ X => ?_)
      have X : Wd E _ _ (textW E t a k tp (nI n) (nI (kdS tp n (skS tp n (enS tp n (skS tp n (enS tp n s)))))) (nI (skS tp n (enS tp n (skS tp n (enS tp n s))))) (nI (enS tp n (skS tp n (enS tp n (skS tp n (enS tp n s)))))) (tnS tp n (skS tp n (enS tp n (skS tp n (enS tp n s)))) (tnS tp n (skS tp n (enS tp n s)) (tnS tp n s u))) f) _ _ := X.eq textW_s0P
      refine k_ifeqB (B := (isWd tp (kdS tp n (skS tp n (enS tp n (skS tp n (enS tp n s))))) (skS tp n (enS tp n (skS tp n (enS tp n s)))) (enS tp n (skS tp n (enS tp n (skS tp n (enS tp n s))))) 8)) hx hb 86 dX10_takeSlip_74 (by decide) (fun c74 => ?_) (fun c74 => ?_)
      · refine lv_aload_n hx hb dX10_takeSlip_86 rfl (lv_at hl 3 rfl) ?_
        refine lv_iload_n hx hb dX10_takeSlip_87 rfl (lv_at hl 1 rfl) ?_
        refine lv_iload_n hx hb dX10_takeSlip_88 rfl (lv_at hl 0 rfl) ?_
        refine k_callV K X gv_X10_76 (As := [.int (nI (numF tp n (skS tp n (enS tp n s)))), .int 0]) (c_X6_addSlip l E a k f T (nI (numF tp n (skS tp n (enS tp n s)))) 0 I (by omega)) [0, 1, 2, 3, 4, 5, 6] textW_s2C (by decide +kernel) (fun _ => roomW_fst) 0 6 rfl rfl (by decide) rfl hl.1 (rest := []) rfl (Nat.le_of_ble_eq_true rfl) dX10_takeSlip_89 (st1 := fun _ => [.int (nI (sl f))]) (fun _ => rfl) (fun _ H locs _ X => ?_)
        have X : Wd E _ _ (textW E t a k tp (nI n) (nI (kdS tp n (skS tp n (enS tp n (skS tp n (enS tp n s)))))) (nI (skS tp n (enS tp n (skS tp n (enS tp n s))))) (nI (enS tp n (skS tp n (enS tp n (skS tp n (enS tp n s)))))) (tnS tp n (skS tp n (enS tp n (skS tp n (enS tp n s)))) (tnS tp n (skS tp n (enS tp n s)) (tnS tp n s u))) (addS f (nI (numF tp n (skS tp n (enS tp n s)))) 0)) _ _ := X.eq textW_s2P
        refine lv_pop hx hb dX10_takeSlip_92 rfl ?_
        refine lv_iconst (v := 1) hx hb dX10_takeSlip_93 (by decide) ?_
        exact k_topi (x' := b2i ((itSlip tp n f s).1)) (by rw [itSlip, decide_eq_true (show sl f < 10 by omega), cond_true, c28, cond_true, itFix, c74]; rfl) (fin (tnS tp n (skS tp n (enS tp n s)) (tnS tp n s u)) 94 _ _ _ trivial (X.eq (by rw [itSlip, decide_eq_true (show sl f < 10 by omega), cond_true, c28, cond_true, itFix, c74]; rfl)) dX10_takeSlip_94)
      · refine lv_iconst (v := 1) hx hb dX10_takeSlip_77 (by decide) ?_
        refine lv_istore_n (lv' := [(3, .int 1), (2, .int (nI (numF tp n (skS tp n (enS tp n s))))), (0, .ref (t 2)), (1, .ref (a 0))]) hx hb dX10_takeSlip_78 rfl hl (by decide) rfl (fun ls hl => ?_)
        refine lv_aload_n hx hb dX10_takeSlip_79 rfl (lv_at hl 2 rfl) ?_
        refine k_get K X 9 rfl fg_X10_9 (v := .ref (t 0)) rfl dX10_takeSlip_80 ?_
        refine k_callV K X gv_X10_31 (As := []) (c_X9_nextToken l E t tp (nI (kdS tp n (skS tp n (enS tp n (skS tp n (enS tp n s)))))) (nI (skS tp n (enS tp n (skS tp n (enS tp n s))))) (tnS tp n (skS tp n (enS tp n (skS tp n (enS tp n s)))) (tnS tp n (skS tp n (enS tp n s)) (tnS tp n s u))) n (enS tp n (skS tp n (enS tp n (skS tp n (enS tp n s))))) (by omega) (by omega)) [7, 8] textW_s0C (by decide +kernel) (fun _ => tapeW_fst) 0 9 rfl rfl (by decide) rfl hl.1 (rest := []) rfl (Nat.le_of_ble_eq_true rfl) dX10_takeSlip_83 (st1 := fun _ => []) (fun _ => rfl) (fun _ H locs _ X => ?_)
        have X : Wd E _ _ (textW E t a k tp (nI n) (nI (kdS tp n (skS tp n (enS tp n (skS tp n (enS tp n (skS tp n (enS tp n s)))))))) (nI (skS tp n (enS tp n (skS tp n (enS tp n (skS tp n (enS tp n s))))))) (nI (enS tp n (skS tp n (enS tp n (skS tp n (enS tp n (skS tp n (enS tp n s)))))))) (tnS tp n (skS tp n (enS tp n (skS tp n (enS tp n (skS tp n (enS tp n s)))))) (tnS tp n (skS tp n (enS tp n (skS tp n (enS tp n s)))) (tnS tp n (skS tp n (enS tp n s)) (tnS tp n s u)))) f) _ _ := X.eq textW_s0P
        refine lv_aload_n hx hb dX10_takeSlip_86 rfl (lv_at hl 3 rfl) ?_
        refine lv_iload_n hx hb dX10_takeSlip_87 rfl (lv_at hl 1 rfl) ?_
        refine lv_iload_n hx hb dX10_takeSlip_88 rfl (lv_at hl 0 rfl) ?_
        refine k_callV K X gv_X10_76 (As := [.int (nI (numF tp n (skS tp n (enS tp n s)))), .int 1]) (c_X6_addSlip l E a k f T (nI (numF tp n (skS tp n (enS tp n s)))) 1 I (by omega)) [0, 1, 2, 3, 4, 5, 6] textW_s2C (by decide +kernel) (fun _ => roomW_fst) 0 6 rfl rfl (by decide) rfl hl.1 (rest := []) rfl (Nat.le_of_ble_eq_true rfl) dX10_takeSlip_89 (st1 := fun _ => [.int (nI (sl f))]) (fun _ => rfl) (fun _ H locs _ X => ?_)
        have X : Wd E _ _ (textW E t a k tp (nI n) (nI (kdS tp n (skS tp n (enS tp n (skS tp n (enS tp n (skS tp n (enS tp n s)))))))) (nI (skS tp n (enS tp n (skS tp n (enS tp n (skS tp n (enS tp n s))))))) (nI (enS tp n (skS tp n (enS tp n (skS tp n (enS tp n (skS tp n (enS tp n s)))))))) (tnS tp n (skS tp n (enS tp n (skS tp n (enS tp n (skS tp n (enS tp n s)))))) (tnS tp n (skS tp n (enS tp n (skS tp n (enS tp n s)))) (tnS tp n (skS tp n (enS tp n s)) (tnS tp n s u)))) (addS f (nI (numF tp n (skS tp n (enS tp n s)))) 1)) _ _ := X.eq textW_s2P
        refine lv_pop hx hb dX10_takeSlip_92 rfl ?_
        refine lv_iconst (v := 1) hx hb dX10_takeSlip_93 (by decide) ?_
        exact k_topi (x' := b2i ((itSlip tp n f s).1)) (by rw [itSlip, decide_eq_true (show sl f < 10 by omega), cond_true, c28, cond_true, itFix, c74]; rfl) (fin (tnS tp n (skS tp n (enS tp n (skS tp n (enS tp n s)))) (tnS tp n (skS tp n (enS tp n s)) (tnS tp n s u))) 94 _ _ _ trivial (X.eq (by rw [itSlip, decide_eq_true (show sl f < 10 by omega), cond_true, c28, cond_true, itFix, c74]; rfl)) dX10_takeSlip_94)
  · refine lv_iconst (v := 0) hx hb dX10_takeSlip_9 (by decide) ?_
    exact k_topi (x' := b2i ((itSlip tp n f s).1)) (by rw [itSlip, decide_eq_false (show ¬ sl f < 10 by omega)]; rfl) (fin (u) 10 _ _ _ trivial (X.eq (by rw [itSlip, decide_eq_false (show ¬ sl f < 10 by omega)]; rfl)) dX10_takeSlip_10)
set_option maxRecDepth 100000 in
set_option maxHeartbeats 4000000 in
theorem c_X10_kindNamed (l : Launch) (E : EE) (t : Nat → Nat) (a : Nat → Nat) (k : Nat → Nat) (tp : Nat → Int32) (f : St) (n : Nat) (s : Nat) (u : Int32) (hn : n ≤ 120) (hs : s ≤ n) : Kd l yX10_kindNamed cX10_kindNamed 1 (some .int) 7 158 E (textW E t a k tp (nI n) (nI (kdS tp n s)) (nI s) (nI (enS tp n s)) (tnS tp n s u) f) [.ref (t 2)] (some (.int (knS tp n s))) (textW E t a k tp (nI n) (nI (kdS tp n s)) (nI s) (nI (enS tp n s)) (tnS tp n s u) f) := by
  refine Kn.ofWi (by decide +kernel) (Nat.le_of_ble_eq_true rfl) (fun _ _ => rfl) ?_
  intro pg ev s0 mm below meth cd Q K X fin ls hl
  have hx := K.1
  have hb := K.2.1
  have hen := enS_le tp hs
  have hkd := kdS_lt tp n s
  have hge := enS_ge tp n s
  have hl : lv_has ls 1 [(0, .ref (t 2))] := hl
  refine lv_aload_n hx hb dX10_kindNamed_0 rfl (lv_at hl 0 rfl) ?_
  refine k_get K X 9 rfl fg_X10_9 (v := .ref (t 0)) rfl dX10_kindNamed_1 ?_
  refine k_ldcZ K X (i := 0) (ix := 98) (by decide) rfl dX10_kindNamed_4 ?_
  refine k_callV K X gv_X10_40 (As := [.ref (eK E 0)]) (c_X9_isWord l E t tp (nI n) (tnS tp n s u) 0 (kdS tp n s) s (enS tp n s) (by omega) (by omega) (by omega) (by omega)) [7, 8] textW_s0C (by decide +kernel) (fun _ => tapeW_fst) 0 9 rfl rfl (by decide) rfl hl.1 (rest := []) rfl (Nat.le_of_ble_eq_true rfl) dX10_kindNamed_6 (st1 := fun _ => [.int (b2i (isWd tp (kdS tp n s) s (enS tp n s) 0))]) (fun _ => rfl) (fun _ H locs _ X => ?_)
  have X : Wd E _ _ (textW E t a k tp (nI n) (nI (kdS tp n s)) (nI s) (nI (enS tp n s)) (tnS tp n s u) f) _ _ := X.eq textW_s0P
  refine k_ifeqB (B := (isWd tp (kdS tp n s) s (enS tp n s) 0)) hx hb 14 dX10_kindNamed_9 (by decide) (fun c9 => ?_) (fun c9 => ?_)
  · refine lv_aload_n hx hb dX10_kindNamed_14 rfl (lv_at hl 0 rfl) ?_
    refine k_get K X 9 rfl fg_X10_9 (v := .ref (t 0)) rfl dX10_kindNamed_15 ?_
    refine k_ldcZ K X (i := 1) (ix := 100) (by decide) rfl dX10_kindNamed_18 ?_
    refine k_callV K X gv_X10_40 (As := [.ref (eK E 1)]) (c_X9_isWord l E t tp (nI n) (tnS tp n s u) 1 (kdS tp n s) s (enS tp n s) (by omega) (by omega) (by omega) (by omega)) [7, 8] textW_s0C (by decide +kernel) (fun _ => tapeW_fst) 0 9 rfl rfl (by decide) rfl hl.1 (rest := []) rfl (Nat.le_of_ble_eq_true rfl) dX10_kindNamed_20 (st1 := fun _ => [.int (b2i (isWd tp (kdS tp n s) s (enS tp n s) 1))]) (fun _ => rfl) (fun _ H locs _ X => ?_)
    have X : Wd E _ _ (textW E t a k tp (nI n) (nI (kdS tp n s)) (nI s) (nI (enS tp n s)) (tnS tp n s u) f) _ _ := X.eq textW_s0P
    refine k_ifeqB (B := (isWd tp (kdS tp n s) s (enS tp n s) 1)) hx hb 28 dX10_kindNamed_23 (by decide) (fun c23 => ?_) (fun c23 => ?_)
    · refine lv_aload_n hx hb dX10_kindNamed_28 rfl (lv_at hl 0 rfl) ?_
      refine k_get K X 9 rfl fg_X10_9 (v := .ref (t 0)) rfl dX10_kindNamed_29 ?_
      refine k_ldcZ K X (i := 2) (ix := 102) (by decide) rfl dX10_kindNamed_32 ?_
      refine k_callV K X gv_X10_40 (As := [.ref (eK E 2)]) (c_X9_isWord l E t tp (nI n) (tnS tp n s u) 2 (kdS tp n s) s (enS tp n s) (by omega) (by omega) (by omega) (by omega)) [7, 8] textW_s0C (by decide +kernel) (fun _ => tapeW_fst) 0 9 rfl rfl (by decide) rfl hl.1 (rest := []) rfl (Nat.le_of_ble_eq_true rfl) dX10_kindNamed_34 (st1 := fun _ => [.int (b2i (isWd tp (kdS tp n s) s (enS tp n s) 2))]) (fun _ => rfl) (fun _ H locs _ X => ?_)
      have X : Wd E _ _ (textW E t a k tp (nI n) (nI (kdS tp n s)) (nI s) (nI (enS tp n s)) (tnS tp n s u) f) _ _ := X.eq textW_s0P
      refine k_ifeqB (B := (isWd tp (kdS tp n s) s (enS tp n s) 2)) hx hb 42 dX10_kindNamed_37 (by decide) (fun c37 => ?_) (fun c37 => ?_)
      · refine lv_aload_n hx hb dX10_kindNamed_42 rfl (lv_at hl 0 rfl) ?_
        refine k_get K X 9 rfl fg_X10_9 (v := .ref (t 0)) rfl dX10_kindNamed_43 ?_
        refine k_ldcZ K X (i := 3) (ix := 104) (by decide) rfl dX10_kindNamed_46 ?_
        refine k_callV K X gv_X10_40 (As := [.ref (eK E 3)]) (c_X9_isWord l E t tp (nI n) (tnS tp n s u) 3 (kdS tp n s) s (enS tp n s) (by omega) (by omega) (by omega) (by omega)) [7, 8] textW_s0C (by decide +kernel) (fun _ => tapeW_fst) 0 9 rfl rfl (by decide) rfl hl.1 (rest := []) rfl (Nat.le_of_ble_eq_true rfl) dX10_kindNamed_48 (st1 := fun _ => [.int (b2i (isWd tp (kdS tp n s) s (enS tp n s) 3))]) (fun _ => rfl) (fun _ H locs _ X => ?_)
        have X : Wd E _ _ (textW E t a k tp (nI n) (nI (kdS tp n s)) (nI s) (nI (enS tp n s)) (tnS tp n s u) f) _ _ := X.eq textW_s0P
        refine k_ifeqB (B := (isWd tp (kdS tp n s) s (enS tp n s) 3)) hx hb 56 dX10_kindNamed_51 (by decide) (fun c51 => ?_) (fun c51 => ?_)
        · refine lv_aload_n hx hb dX10_kindNamed_56 rfl (lv_at hl 0 rfl) ?_
          refine k_get K X 9 rfl fg_X10_9 (v := .ref (t 0)) rfl dX10_kindNamed_57 ?_
          refine k_ldcZ K X (i := 4) (ix := 106) (by decide) rfl dX10_kindNamed_60 ?_
          refine k_callV K X gv_X10_40 (As := [.ref (eK E 4)]) (c_X9_isWord l E t tp (nI n) (tnS tp n s u) 4 (kdS tp n s) s (enS tp n s) (by omega) (by omega) (by omega) (by omega)) [7, 8] textW_s0C (by decide +kernel) (fun _ => tapeW_fst) 0 9 rfl rfl (by decide) rfl hl.1 (rest := []) rfl (Nat.le_of_ble_eq_true rfl) dX10_kindNamed_62 (st1 := fun _ => [.int (b2i (isWd tp (kdS tp n s) s (enS tp n s) 4))]) (fun _ => rfl) (fun _ H locs _ X => ?_)
          have X : Wd E _ _ (textW E t a k tp (nI n) (nI (kdS tp n s)) (nI s) (nI (enS tp n s)) (tnS tp n s u) f) _ _ := X.eq textW_s0P
          refine k_ifeqB (B := (isWd tp (kdS tp n s) s (enS tp n s) 4)) hx hb 70 dX10_kindNamed_65 (by decide) (fun c65 => ?_) (fun c65 => ?_)
          · refine lv_aload_n hx hb dX10_kindNamed_70 rfl (lv_at hl 0 rfl) ?_
            refine k_get K X 9 rfl fg_X10_9 (v := .ref (t 0)) rfl dX10_kindNamed_71 ?_
            refine k_ldcZ K X (i := 5) (ix := 108) (by decide) rfl dX10_kindNamed_74 ?_
            refine k_callV K X gv_X10_40 (As := [.ref (eK E 5)]) (c_X9_isWord l E t tp (nI n) (tnS tp n s u) 5 (kdS tp n s) s (enS tp n s) (by omega) (by omega) (by omega) (by omega)) [7, 8] textW_s0C (by decide +kernel) (fun _ => tapeW_fst) 0 9 rfl rfl (by decide) rfl hl.1 (rest := []) rfl (Nat.le_of_ble_eq_true rfl) dX10_kindNamed_76 (st1 := fun _ => [.int (b2i (isWd tp (kdS tp n s) s (enS tp n s) 5))]) (fun _ => rfl) (fun _ H locs _ X => ?_)
            have X : Wd E _ _ (textW E t a k tp (nI n) (nI (kdS tp n s)) (nI s) (nI (enS tp n s)) (tnS tp n s u) f) _ _ := X.eq textW_s0P
            refine k_ifeqB (B := (isWd tp (kdS tp n s) s (enS tp n s) 5)) hx hb 86 dX10_kindNamed_79 (by decide) (fun c79 => ?_) (fun c79 => ?_)
            · refine lv_iconst (v := (-1)) hx hb dX10_kindNamed_86 (by decide) ?_
              exact k_topi (x' := knS tp n s) (by simp [knS, c9, c23, c37, c51, c65, c79]) (fin () 87 _ _ _ trivial X dX10_kindNamed_87)
            · refine lv_iconst (v := 5) hx hb dX10_kindNamed_82 (by decide) ?_
              refine lv_goto (tgt := 87) hx hb dX10_kindNamed_83 (by decide) ?_
              exact k_topi (x' := knS tp n s) (by simp [knS, c9, c23, c37, c51, c65, c79]) (fin () 87 _ _ _ trivial X dX10_kindNamed_87)
          · refine lv_iconst (v := 4) hx hb dX10_kindNamed_68 (by decide) ?_
            exact k_topi (x' := knS tp n s) (by simp [knS, c9, c23, c37, c51, c65]) (fin () 69 _ _ _ trivial X dX10_kindNamed_69)
        · refine lv_iconst (v := 3) hx hb dX10_kindNamed_54 (by decide) ?_
          exact k_topi (x' := knS tp n s) (by simp [knS, c9, c23, c37, c51]) (fin () 55 _ _ _ trivial X dX10_kindNamed_55)
      · refine lv_iconst (v := 2) hx hb dX10_kindNamed_40 (by decide) ?_
        exact k_topi (x' := knS tp n s) (by simp [knS, c9, c23, c37]) (fin () 41 _ _ _ trivial X dX10_kindNamed_41)
    · refine lv_iconst (v := 1) hx hb dX10_kindNamed_26 (by decide) ?_
      exact k_topi (x' := knS tp n s) (by simp [knS, c9, c23]) (fin () 27 _ _ _ trivial X dX10_kindNamed_27)
  · refine lv_iconst (v := 0) hx hb dX10_kindNamed_12 (by decide) ?_
    exact k_topi (x' := knS tp n s) (by simp [knS, c9]) (fin () 13 _ _ _ trivial X dX10_kindNamed_13)
set_option maxRecDepth 100000 in
set_option maxHeartbeats 4000000 in
theorem c_X10_takePerson (l : Launch) (E : EE) (t : Nat → Nat) (a : Nat → Nat) (k : Nat → Nat) (tp : Nat → Int32) (f : St) (T : Nat) (n : Nat) (s : Nat) (u : Int32) (x : Int32) (I : Inv T f) (hn : n ≤ 120) (hs : s ≤ n) : Kn l yX10_takePerson cX10_takePerson 5 (some .boolean) 7 158 E (textW E t a k tp (nI n) (nI (kdS tp n s)) (nI s) (nI (enS tp n s)) (tnS tp n s u) f) [.ref (t 2), .ref (a 0), .int x] (S := Int32) (fun _ => True) (fun _ => (some (.int (b2i ((itPerson tp n f s x).1))))) (fun uu => (textW E t a k tp (nI n) (nI (kdS tp n (itPerson tp n f s x).2.1)) (nI (itPerson tp n f s x).2.1) (nI (enS tp n (itPerson tp n f s x).2.1)) (tnS tp n (itPerson tp n f s x).2.1 uu) ((itPerson tp n f s x).2.2))) := by
  refine Kn.ofWi (by decide +kernel) (Nat.le_of_ble_eq_true rfl) (fun _ _ => b2i_nar _) ?_
  intro pg ev s0 mm below meth cd Q K X fin ls hl
  have hx := K.1
  have hb := K.2.1
  have hs10 := I.s10
  have hp6 := I.p6
  have hen := enS_le tp hs
  have hkd := kdS_lt tp n s
  have hge := enS_ge tp n s
  have hl : lv_has ls 5 [(0, .ref (t 2)), (1, .ref (a 0)), (2, .int x)] := hl
  refine lv_aload_n hx hb dX10_takePerson_0 rfl (lv_at hl 1 rfl) ?_
  refine k_getN K X 0 rfl fg_X10_82 (v := .int (f 0 3)) rfl dX10_takePerson_1 ?_
  refine k_topi (I.hP) ?_
  refine lv_bipush (v := 6) hx hb dX10_takePerson_4 (by decide) ?_
  refine kN_lt (x := pe f) (y := 6) hx hb 11 dX10_takePerson_6 (by decide) (by omega) (by omega) (fun c6 => ?_) (fun c6 => ?_)
  · refine lv_aload_n hx hb dX10_takePerson_11 rfl (lv_at hl 1 rfl) ?_
    refine lv_iload_n hx hb dX10_takePerson_12 rfl (lv_at hl 2 rfl) ?_
    refine k_callV K X gv_X10_85 (As := [.int x]) (c_X6_addPerson l E a k f T x I (by omega)) [0, 1, 2, 3, 4, 5, 6] textW_s2C (by decide +kernel) (fun _ => roomW_fst) 0 6 rfl rfl (by decide) rfl hl.1 (rest := []) rfl (Nat.le_of_ble_eq_true rfl) dX10_takePerson_13 (st1 := fun _ => [.int (nI (pe f))]) (fun _ => rfl) (fun _ H locs _ X => ?_)
    have X : Wd E _ _ (textW E t a k tp (nI n) (nI (kdS tp n s)) (nI s) (nI (enS tp n s)) (tnS tp n s u) (addP f x)) _ _ := X.eq textW_s2P
    refine lv_istore_n (lv' := [(3, .int (nI (pe f))), (0, .ref (t 2)), (1, .ref (a 0)), (2, .int x)]) hx hb dX10_takePerson_16 rfl hl (by decide) rfl (fun ls hl => ?_)
    refine lv_aload_n hx hb dX10_takePerson_17 rfl (lv_at hl 1 rfl) ?_
    refine k_get K X 9 rfl fg_X10_9 (v := .ref (t 0)) rfl dX10_takePerson_18 ?_
    refine k_callV K X gv_X10_31 (As := []) (c_X9_nextToken l E t tp (nI (kdS tp n s)) (nI s) (tnS tp n s u) n (enS tp n s) (by omega) (by omega)) [7, 8] textW_s0C (by decide +kernel) (fun _ => tapeW_fst) 0 9 rfl rfl (by decide) rfl hl.1 (rest := []) rfl (Nat.le_of_ble_eq_true rfl) dX10_takePerson_21 (st1 := fun _ => []) (fun _ => rfl) (fun _ H locs _ X => ?_)
    have X : Wd E _ _ (textW E t a k tp (nI n) (nI (kdS tp n (skS tp n (enS tp n s)))) (nI (skS tp n (enS tp n s))) (nI (enS tp n (skS tp n (enS tp n s)))) (tnS tp n (skS tp n (enS tp n s)) (tnS tp n s u)) (addP f x)) _ _ := X.eq textW_s0P
    have hal : skS tp n (enS tp n s) ≤ n := skS_le tp (enS_le tp hs)
    have hae := enS_le tp hal
    have hak := kdS_lt tp n (skS tp n (enS tp n s))
    have hag := enS_ge tp n (skS tp n (enS tp n s))
    refine lv_aload_n hx hb dX10_takePerson_24 rfl (lv_at hl 1 rfl) ?_
    refine k_get K X 9 rfl fg_X10_9 (v := .ref (t 0)) rfl dX10_takePerson_25 ?_
    refine k_ldcZ K X (i := 9) (ix := 89) (by decide) rfl dX10_takePerson_28 ?_
    refine k_callV K X gv_X10_40 (As := [.ref (eK E 9)]) (c_X9_isWord l E t tp (nI n) (tnS tp n (skS tp n (enS tp n s)) (tnS tp n s u)) 9 (kdS tp n (skS tp n (enS tp n s))) (skS tp n (enS tp n s)) (enS tp n (skS tp n (enS tp n s))) (by omega) (by omega) (by omega) (by omega)) [7, 8] textW_s0C (by decide +kernel) (fun _ => tapeW_fst) 0 9 rfl rfl (by decide) rfl hl.1 (rest := []) rfl (Nat.le_of_ble_eq_true rfl) dX10_takePerson_30 (st1 := fun _ => [.int (b2i (isWd tp (kdS tp n (skS tp n (enS tp n s))) (skS tp n (enS tp n s)) (enS tp n (skS tp n (enS tp n s))) 9))]) (fun _ => rfl) (fun _ H locs _ X => ?_)
    have X : Wd E _ _ (textW E t a k tp (nI n) (nI (kdS tp n (skS tp n (enS tp n s)))) (nI (skS tp n (enS tp n s))) (nI (enS tp n (skS tp n (enS tp n s)))) (tnS tp n (skS tp n (enS tp n s)) (tnS tp n s u)) (addP f x)) _ _ := X.eq textW_s0P
    refine k_ifneB (B := (isWd tp (kdS tp n (skS tp n (enS tp n s))) (skS tp n (enS tp n s)) (enS tp n (skS tp n (enS tp n s))) 9)) hx hb 38 dX10_takePerson_33 (by decide) (fun c33 => ?_) (fun c33 => ?_)
    · refine lv_aload_n hx hb dX10_takePerson_38 rfl (lv_at hl 1 rfl) ?_
      refine k_get K X 9 rfl fg_X10_9 (v := .ref (t 0)) rfl dX10_takePerson_39 ?_
      refine k_callV K X gv_X10_31 (As := []) (c_X9_nextToken l E t tp (nI (kdS tp n (skS tp n (enS tp n s)))) (nI (skS tp n (enS tp n s))) (tnS tp n (skS tp n (enS tp n s)) (tnS tp n s u)) n (enS tp n (skS tp n (enS tp n s))) (by omega) (by omega)) [7, 8] textW_s0C (by decide +kernel) (fun _ => tapeW_fst) 0 9 rfl rfl (by decide) rfl hl.1 (rest := []) rfl (Nat.le_of_ble_eq_true rfl) dX10_takePerson_42 (st1 := fun _ => []) (fun _ => rfl) (fun _ H locs _ X => ?_)
      have X : Wd E _ _ (textW E t a k tp (nI n) (nI (kdS tp n (skS tp n (enS tp n (skS tp n (enS tp n s)))))) (nI (skS tp n (enS tp n (skS tp n (enS tp n s))))) (nI (enS tp n (skS tp n (enS tp n (skS tp n (enS tp n s)))))) (tnS tp n (skS tp n (enS tp n (skS tp n (enS tp n s)))) (tnS tp n (skS tp n (enS tp n s)) (tnS tp n s u))) (addP f x)) _ _ := X.eq textW_s0P
      have hbl : skS tp n (enS tp n (skS tp n (enS tp n s))) ≤ n := skS_le tp (enS_le tp hal)
      have hbe := enS_le tp hbl
      have hbk := kdS_lt tp n (skS tp n (enS tp n (skS tp n (enS tp n s))))
      have hbg := enS_ge tp n (skS tp n (enS tp n (skS tp n (enS tp n s))))
      refine lv_iconst (v := 0) hx hb dX10_takePerson_45 (by decide) ?_
      refine lv_istore (lv' := [(4, .int 0), (3, .int (nI (pe f))), (0, .ref (t 2)), (1, .ref (a 0)), (2, .int x)]) hx hb dX10_takePerson_46 hl (by decide) rfl (fun ls hl => ?_)
      have lp48 : ∀ (fu : Nat) (i : Nat) (m : Nat) (s3 : Nat) (u3 : Int32) (f3 : St) (hfu : m < fu) (hin : i + m = 5) (hs3 : s3 ≤ n) (hR : wnL tp n (pe f) m i s3 f3 = wnL tp n (pe f) 5 0 (skS tp n (enS tp n (skS tp n (enS tp n s)))) (addP f x)) (ls : Array Slot) (hl : lv_has ls 5 [(4, .int (nI i)), (3, .int (nI (pe f))), (0, .ref (t 2)), (1, .ref (a 0)), (2, .int x)]) (H : Heap) (locs : List Loc) (X : Wd E (inW (textW E t a k tp (nI n) (nI (kdS tp n s)) (nI s) (nI (enS tp n s)) (tnS tp n s u) f)) s0.heap (textW E t a k tp (nI n) (nI (kdS tp n s3)) (nI s3) (nI (enS tp n s3)) (tnS tp n s3 u3) f3) H locs), W pg l ev (rmK 7 158) s0 mm ([.ref (t 2), .ref (a 0), .int x] : List Value).toArray below meth cd H locs 0 0 Q (F0 mm 48 ls []) := by
        intro fu
        induction fu with
        | zero => intro i m s3 u3 f3 hfu; exact absurd hfu (Nat.not_lt_zero _)
        | succ fu ih48 =>
          intro i m s3 u3 f3 hfu hin hs3 hR ls hl H locs X
          refine lv_iload hx hb dX10_takePerson_48 (lv_at hl 0 rfl) ?_
          refine lv_iconst (v := 5) hx hb dX10_takePerson_50 (by decide) ?_
          refine kN_ge (x := i) (y := 5) hx hb 96 dX10_takePerson_51 (by decide) (by omega) (by omega) (fun c51 => ?_) (fun c51 => ?_)
          · obtain rfl : m = 0 := by omega
            refine lv_iload hx hb dX10_takePerson_96 (lv_at hl 0 rfl) ?_
            refine kN0_le (x := i) hx hb 105 dX10_takePerson_98 (by decide) (by omega) (fun c98 => ?_) (fun c98 => ?_)
            · refine lv_iconst (v := 0) hx hb dX10_takePerson_105 (by decide) ?_
              exact k_topi (x' := b2i ((itPerson tp n f s x).1)) (by rw [itPerson, decide_eq_true (show pe f < 6 by omega), cond_true, c33, cond_true, ← hR]; show _ = b2i (decide (0 < i)); rw [decide_eq_false (by omega)]; rfl) (fin (u3) 106 _ _ _ trivial (X.eq (by rw [itPerson, decide_eq_true (show pe f < 6 by omega), cond_true, c33, cond_true, ← hR]; rfl)) dX10_takePerson_106)
            · refine lv_iconst (v := 1) hx hb dX10_takePerson_101 (by decide) ?_
              refine lv_goto (tgt := 106) hx hb dX10_takePerson_102 (by decide) ?_
              exact k_topi (x' := b2i ((itPerson tp n f s x).1)) (by rw [itPerson, decide_eq_true (show pe f < 6 by omega), cond_true, c33, cond_true, ← hR]; show _ = b2i (decide (0 < i)); rw [decide_eq_true (by omega)]; rfl) (fin (u3) 106 _ _ _ trivial (X.eq (by rw [itPerson, decide_eq_true (show pe f < 6 by omega), cond_true, c33, cond_true, ← hR]; rfl)) dX10_takePerson_106)
          · obtain ⟨m, rfl⟩ : ∃ z, m = z + 1 := ⟨m - 1, by omega⟩
            have h3e := enS_le tp hs3
            have h3k := kdS_lt tp n s3
            have h3g := enS_ge tp n s3
            refine lv_aload_n hx hb dX10_takePerson_54 rfl (lv_at hl 2 rfl) ?_
            refine k_get K X 9 rfl fg_X10_9 (v := .ref (t 0)) rfl dX10_takePerson_55 ?_
            refine lv_iconst (v := 5) hx hb dX10_takePerson_58 (by decide) ?_
            refine k_callV K X gv_X10_65 (As := [.int 5]) (c_X9_isNumberUpTo l E t tp (nI n) (nI s3) (nI (enS tp n s3)) (tnS tp n s3 u3) (kdS tp n s3) 5 (by omega)) [7, 8] textW_s0C (by decide +kernel) (fun _ => tapeW_fst) 0 9 rfl rfl (by decide) rfl hl.1 (rest := []) rfl (Nat.le_of_ble_eq_true rfl) dX10_takePerson_59 (st1 := fun _ => [.int (b2i (decide ((kdS tp n s3) = 2) && !decide (5 < (tnS tp n s3 u3))))]) (fun _ => rfl) (fun _ H locs _ X => ?_)
            have X : Wd E _ _ (textW E t a k tp (nI n) (nI (kdS tp n s3)) (nI s3) (nI (enS tp n s3)) (tnS tp n s3 u3) f3) _ _ := X.eq textW_s0P
            refine k_topi (congrArg b2i (isN_num (tp := tp) (n := n) (s := s3) (m := 5) (by decide))) ?_
            refine k_ifeqB (B := (numU tp n s3 5)) hx hb 96 dX10_takePerson_62 (by decide) (fun c62 => ?_) (fun c62 => ?_)
            · refine lv_iload hx hb dX10_takePerson_96 (lv_at hl 0 rfl) ?_
              refine kN0_le (x := i) hx hb 105 dX10_takePerson_98 (by decide) (by omega) (fun c98 => ?_) (fun c98 => ?_)
              · refine lv_iconst (v := 0) hx hb dX10_takePerson_105 (by decide) ?_
                exact k_topi (x' := b2i ((itPerson tp n f s x).1)) (by rw [itPerson, decide_eq_true (show pe f < 6 by omega), cond_true, c33, cond_true, ← hR, wnL, c62]; show _ = b2i (decide (0 < i)); rw [decide_eq_false (by omega)]; rfl) (fin (u3) 106 _ _ _ trivial (X.eq (by rw [itPerson, decide_eq_true (show pe f < 6 by omega), cond_true, c33, cond_true, ← hR, wnL, c62]; rfl)) dX10_takePerson_106)
              · refine lv_iconst (v := 1) hx hb dX10_takePerson_101 (by decide) ?_
                refine lv_goto (tgt := 106) hx hb dX10_takePerson_102 (by decide) ?_
                exact k_topi (x' := b2i ((itPerson tp n f s x).1)) (by rw [itPerson, decide_eq_true (show pe f < 6 by omega), cond_true, c33, cond_true, ← hR, wnL, c62]; show _ = b2i (decide (0 < i)); rw [decide_eq_true (by omega)]; rfl) (fin (u3) 106 _ _ _ trivial (X.eq (by rw [itPerson, decide_eq_true (show pe f < 6 by omega), cond_true, c33, cond_true, ← hR, wnL, c62]; rfl)) dX10_takePerson_106)
            · refine lv_aload_n hx hb dX10_takePerson_65 rfl (lv_at hl 3 rfl) ?_
              refine k_getN K X 0 rfl fg_X10_91 (v := .ref (a 6)) rfl dX10_takePerson_66 ?_
              refine lv_iload_n hx hb dX10_takePerson_69 rfl (lv_at hl 1 rfl) ?_
              refine lv_iload hx hb dX10_takePerson_70 (lv_at hl 0 rfl) ?_
              refine k_callS K X gs_X10_95 (As := [.int (nI (pe f)), .int (nI i)]) (c_X6_wish l E (pe f) i) [] rfl (by decide +kernel) (fun _ => rfl) (by decide) rfl hl.1 (rest := [.ref (a 6)]) rfl (Nat.le_of_ble_eq_true rfl) dX10_takePerson_72 (st1 := fun _ => [.int (nI (10 * (pe f) + i)), .ref (a 6)]) (fun _ => rfl) (fun _ H locs _ X => ?_)
              have X : Wd E _ _ (textW E t a k tp (nI n) (nI (kdS tp n s3)) (nI s3) (nI (enS tp n s3)) (tnS tp n s3 u3) f3) _ _ := X
              refine lv_aload_n hx hb dX10_takePerson_75 rfl (lv_at hl 2 rfl) ?_
              refine k_get K X 9 rfl fg_X10_9 (v := .ref (t 0)) rfl dX10_takePerson_76 ?_
              refine k_getN K X 7 rfl fg_X10_69 (v := .int (tnS tp n s3 u3)) rfl dX10_takePerson_79 ?_
              refine k_topi (x' := nI (numF tp n s3)) (numU_tn (m := 5) c62 (by decide)) ?_
              refine k_iastN K X 6 rfl (k := 10 * (pe f) + i) (x := nI (numF tp n s3)) (by omega) (by decide) dX10_takePerson_82 (fun H locs X => ?_)
              have X : Wd E _ _ (textW E t a k tp (nI n) (nI (kdS tp n s3)) (nI s3) (nI (enS tp n s3)) (tnS tp n s3 u3) (up2 f3 6 (10 * (pe f) + i) (nI (numF tp n s3)))) _ _ := X
              refine lv_iinc (v := nI (i + 1)) (lv' := [(4, .int (nI (i + 1))), (3, .int (nI (pe f))), (0, .ref (t 2)), (1, .ref (a 0)), (2, .int x)]) hx hb dX10_takePerson_83 hl (k := 0) rfl (nI_add i 1) (by decide) rfl (fun ls hl => ?_)
              refine lv_aload_n hx hb dX10_takePerson_86 rfl (lv_at hl 2 rfl) ?_
              refine k_get K X 9 rfl fg_X10_9 (v := .ref (t 0)) rfl dX10_takePerson_87 ?_
              refine k_callV K X gv_X10_31 (As := []) (c_X9_nextToken l E t tp (nI (kdS tp n s3)) (nI s3) (tnS tp n s3 u3) n (enS tp n s3) (by omega) (by omega)) [7, 8] textW_s0C (by decide +kernel) (fun _ => tapeW_fst) 0 9 rfl rfl (by decide) rfl hl.1 (rest := []) rfl (Nat.le_of_ble_eq_true rfl) dX10_takePerson_90 (st1 := fun _ => []) (fun _ => rfl) (fun _ H locs _ X => ?_)
              have X : Wd E _ _ (textW E t a k tp (nI n) (nI (kdS tp n (skS tp n (enS tp n s3)))) (nI (skS tp n (enS tp n s3))) (nI (enS tp n (skS tp n (enS tp n s3)))) (tnS tp n (skS tp n (enS tp n s3)) (tnS tp n s3 u3)) (up2 f3 6 (10 * (pe f) + i) (nI (numF tp n s3)))) _ _ := X.eq textW_s0P
              refine lv_goto (tgt := 48) hx hb dX10_takePerson_93 (by decide) ?_
              exact ih48 (i + 1) m (skS tp n (enS tp n s3)) (tnS tp n s3 u3) (up2 f3 6 (10 * (pe f) + i) (nI (numF tp n s3))) (by omega) (by omega) (skS_le tp h3e) (by rw [← hR, wnL, c62, cond_true]) _ hl _ _ X
      exact lp48 (5 + 1) 0 5 (skS tp n (enS tp n (skS tp n (enS tp n s)))) (tnS tp n (skS tp n (enS tp n s)) (tnS tp n s u)) (addP f x) (by omega) (by omega) (by omega) (rfl) _ hl _ _ X
    · refine lv_iconst (v := 1) hx hb dX10_takePerson_36 (by decide) ?_
      exact k_topi (x' := b2i ((itPerson tp n f s x).1)) (by rw [itPerson, decide_eq_true (show pe f < 6 by omega), cond_true, c33]; rfl) (fin (tnS tp n s u) 37 _ _ _ trivial (X.eq (by rw [itPerson, decide_eq_true (show pe f < 6 by omega), cond_true, c33]; rfl)) dX10_takePerson_37)
  · refine lv_iconst (v := 0) hx hb dX10_takePerson_9 (by decide) ?_
    exact k_topi (x' := b2i ((itPerson tp n f s x).1)) (by rw [itPerson, decide_eq_false (show ¬ pe f < 6 by omega)]; rfl) (fin (u) 10 _ _ _ trivial (X.eq (by rw [itPerson, decide_eq_false (show ¬ pe f < 6 by omega)]; rfl)) dX10_takePerson_10)
set_option maxRecDepth 100000 in
set_option maxHeartbeats 4000000 in
theorem c_X10_takeItem (l : Launch) (E : EE) (t : Nat → Nat) (a : Nat → Nat) (k : Nat → Nat) (tp : Nat → Int32) (f : St) (T : Nat) (n : Nat) (s : Nat) (u : Int32) (I : Inv T f) (hn : n ≤ 120) (hs : s ≤ n) : Kn l yX10_takeItem cX10_takeItem 3 (some .boolean) 8 182 E (textW E t a k tp (nI n) (nI (kdS tp n s)) (nI s) (nI (enS tp n s)) (tnS tp n s u) f) [.ref (t 2), .ref (a 0)] (S := Int32) (fun _ => True) (fun _ => (some (.int (b2i ((itAny tp n f s).1))))) (fun uu => (textW E t a k tp (nI n) (nI (kdS tp n (itAny tp n f s).2.1)) (nI (itAny tp n f s).2.1) (nI (enS tp n (itAny tp n f s).2.1)) (tnS tp n (itAny tp n f s).2.1 uu) ((itAny tp n f s).2.2))) := by
  refine Kn.ofWi (by decide +kernel) (Nat.le_of_ble_eq_true rfl) (fun _ _ => b2i_nar _) ?_
  intro pg ev s0 mm below meth cd Q K X fin ls hl
  have hx := K.1
  have hb := K.2.1
  have hs10 := I.s10
  have hp6 := I.p6
  have hen := enS_le tp hs
  have hkd := kdS_lt tp n s
  have hge := enS_ge tp n s
  have hl : lv_has ls 3 [(0, .ref (t 2)), (1, .ref (a 0))] := hl
  refine lv_aload_n hx hb dX10_takeItem_0 rfl (lv_at hl 0 rfl) ?_
  refine k_get K X 9 rfl fg_X10_9 (v := .ref (t 0)) rfl dX10_takeItem_1 ?_
  refine k_ldcZ K X (i := 6) (ix := 38) (by decide) rfl dX10_takeItem_4 ?_
  refine k_callV K X gv_X10_40 (As := [.ref (eK E 6)]) (c_X9_isWord l E t tp (nI n) (tnS tp n s u) 6 (kdS tp n s) s (enS tp n s) (by omega) (by omega) (by omega) (by omega)) [7, 8] textW_s0C (by decide +kernel) (fun _ => tapeW_fst) 0 9 rfl rfl (by decide) rfl hl.1 (rest := []) rfl (Nat.le_of_ble_eq_true rfl) dX10_takeItem_6 (st1 := fun _ => [.int (b2i (isWd tp (kdS tp n s) s (enS tp n s) 6))]) (fun _ => rfl) (fun _ H locs _ X => ?_)
  have X : Wd E _ _ (textW E t a k tp (nI n) (nI (kdS tp n s)) (nI s) (nI (enS tp n s)) (tnS tp n s u) f) _ _ := X.eq textW_s0P
  refine k_ifeqB (B := (isWd tp (kdS tp n s) s (enS tp n s) 6)) hx hb 18 dX10_takeItem_9 (by decide) (fun c9 => ?_) (fun c9 => ?_)
  · refine lv_aload_n hx hb dX10_takeItem_18 rfl (lv_at hl 0 rfl) ?_
    refine k_get K X 9 rfl fg_X10_9 (v := .ref (t 0)) rfl dX10_takeItem_19 ?_
    refine k_ldcZ K X (i := 10) (ix := 47) (by decide) rfl dX10_takeItem_22 ?_
    refine k_callV K X gv_X10_40 (As := [.ref (eK E 10)]) (c_X9_isWord l E t tp (nI n) (tnS tp n s u) 10 (kdS tp n s) s (enS tp n s) (by omega) (by omega) (by omega) (by omega)) [7, 8] textW_s0C (by decide +kernel) (fun _ => tapeW_fst) 0 9 rfl rfl (by decide) rfl hl.1 (rest := []) rfl (Nat.le_of_ble_eq_true rfl) dX10_takeItem_24 (st1 := fun _ => [.int (b2i (isWd tp (kdS tp n s) s (enS tp n s) 10))]) (fun _ => rfl) (fun _ H locs _ X => ?_)
    have X : Wd E _ _ (textW E t a k tp (nI n) (nI (kdS tp n s)) (nI s) (nI (enS tp n s)) (tnS tp n s u) f) _ _ := X.eq textW_s0P
    refine k_ifeqB (B := (isWd tp (kdS tp n s) s (enS tp n s) 10)) hx hb 36 dX10_takeItem_27 (by decide) (fun c27 => ?_) (fun c27 => ?_)
    · refine lv_aload_n hx hb dX10_takeItem_36 rfl (lv_at hl 0 rfl) ?_
      refine k_callV K X gv_X10_52 (As := []) (c_X10_kindNamed l E t a k tp f n s u (by omega) (by omega)) [0, 1, 2, 3, 4, 5, 6, 7, 8, 9, 10, 11, 12, 13, 14, 15, 16] textW_idC (by decide +kernel) (fun _ => textW_fst) 9 10 rfl rfl (by decide) rfl hl.1 (rest := []) rfl (Nat.le_of_ble_eq_true rfl) dX10_takeItem_37 (st1 := fun _ => [.int (knS tp n s)]) (fun _ => rfl) (fun _ H locs _ X => ?_)
      have X : Wd E _ _ (textW E t a k tp (nI n) (nI (kdS tp n s)) (nI s) (nI (enS tp n s)) (tnS tp n s u) f) _ _ := X.eq textW_idP
      refine lv_istore_n (lv' := [(2, .int (knS tp n s)), (0, .ref (t 2)), (1, .ref (a 0))]) hx hb dX10_takeItem_40 rfl hl (by decide) rfl (fun ls hl => ?_)
      refine lv_iload_n hx hb dX10_takeItem_41 rfl (lv_at hl 0 rfl) ?_
      refine lv_iconst (v := (-1)) hx hb dX10_takeItem_42 (by decide) ?_
      refine k_icmp_eq (x := knS tp n s) (y := (-1)) hx hb 59 dX10_takeItem_43 (by decide) (fun c43 => ?_) (fun c43 => ?_)
      · refine lv_iconst (v := 0) hx hb dX10_takeItem_59 (by decide) ?_
        exact k_topi (x' := b2i ((itAny tp n f s).1)) (by rw [itAny, c9, cond_false, c27, cond_false, decide_eq_true c43, cond_true]; rfl) (fin (u) 60 _ _ _ trivial (X.eq (by rw [itAny, c9, cond_false, c27, cond_false, decide_eq_true c43, cond_true])) dX10_takeItem_60)
      · refine lv_aload_n hx hb dX10_takeItem_46 rfl (lv_at hl 1 rfl) ?_
        refine lv_aload_n hx hb dX10_takeItem_47 rfl (lv_at hl 2 rfl) ?_
        refine lv_iload_n hx hb dX10_takeItem_48 rfl (lv_at hl 0 rfl) ?_
        refine k_callV K X gv_X10_56 (As := [.ref (a 0), .int (knS tp n s)]) (c_X10_takePerson l E t a k tp f T n s u (knS tp n s) I (by omega) (by omega)) [0, 1, 2, 3, 4, 5, 6, 7, 8, 9, 10, 11, 12, 13, 14, 15, 16] textW_idC (by decide +kernel) (fun _ => textW_fst) 9 10 rfl rfl (by decide) rfl hl.1 (rest := []) rfl (Nat.le_of_ble_eq_true rfl) dX10_takeItem_49 (st1 := fun _ => [.int (b2i ((itPerson tp n f s (knS tp n s)).1))]) (fun _ => rfl) (fun u49 H locs _ X => ?_)
        have X : Wd E _ _ (textW E t a k tp (nI n) (nI (kdS tp n (itPerson tp n f s (knS tp n s)).2.1)) (nI (itPerson tp n f s (knS tp n s)).2.1) (nI (enS tp n (itPerson tp n f s (knS tp n s)).2.1)) (tnS tp n (itPerson tp n f s (knS tp n s)).2.1 u49) ((itPerson tp n f s (knS tp n s)).2.2)) _ _ := X.eq textW_idP
        refine k_ifeqB (B := ((itPerson tp n f s (knS tp n s)).1)) hx hb 59 dX10_takeItem_52 (by decide) (fun c52 => ?_) (fun c52 => ?_)
        · refine lv_iconst (v := 0) hx hb dX10_takeItem_59 (by decide) ?_
          exact k_topi (x' := b2i ((itAny tp n f s).1)) (by rw [itAny, c9, cond_false, c27, cond_false, decide_eq_false c43, cond_false]; rw [c52]; rfl) (fin (u49) 60 _ _ _ trivial (X.eq (by rw [itAny, c9, cond_false, c27, cond_false, decide_eq_false c43, cond_false])) dX10_takeItem_60)
        · refine lv_iconst (v := 1) hx hb dX10_takeItem_55 (by decide) ?_
          refine lv_goto (tgt := 60) hx hb dX10_takeItem_56 (by decide) ?_
          exact k_topi (x' := b2i ((itAny tp n f s).1)) (by rw [itAny, c9, cond_false, c27, cond_false, decide_eq_false c43, cond_false]; rw [c52]; rfl) (fin (u49) 60 _ _ _ trivial (X.eq (by rw [itAny, c9, cond_false, c27, cond_false, decide_eq_false c43, cond_false])) dX10_takeItem_60)
    · refine lv_aload_n hx hb dX10_takeItem_30 rfl (lv_at hl 0 rfl) ?_
      refine lv_aload_n hx hb dX10_takeItem_31 rfl (lv_at hl 1 rfl) ?_
      refine k_callV K X gv_X10_49 (As := [.ref (a 0)]) (c_X10_takeMoves l E t a k tp f T n s u I (by omega) (by omega)) [0, 1, 2, 3, 4, 5, 6, 7, 8, 9, 10, 11, 12, 13, 14, 15, 16] textW_idC (by decide +kernel) (fun _ => textW_fst) 9 10 rfl rfl (by decide) rfl hl.1 (rest := []) rfl (Nat.le_of_ble_eq_true rfl) dX10_takeItem_32 (st1 := fun _ => [.int (b2i ((itMoves tp n f s).1))]) (fun _ => rfl) (fun u32 H locs _ X => ?_)
      have X : Wd E _ _ (textW E t a k tp (nI n) (nI (kdS tp n (itMoves tp n f s).2.1)) (nI (itMoves tp n f s).2.1) (nI (enS tp n (itMoves tp n f s).2.1)) (tnS tp n (itMoves tp n f s).2.1 u32) ((itMoves tp n f s).2.2)) _ _ := X.eq textW_idP
      exact k_topi (x' := b2i ((itAny tp n f s).1)) (by rw [itAny, c9, cond_false, c27, cond_true]) (fin (u32) 35 _ _ _ trivial (X.eq (by rw [itAny, c9, cond_false, c27, cond_true])) dX10_takeItem_35)
  · refine lv_aload_n hx hb dX10_takeItem_12 rfl (lv_at hl 0 rfl) ?_
    refine lv_aload_n hx hb dX10_takeItem_13 rfl (lv_at hl 1 rfl) ?_
    refine k_callV K X gv_X10_44 (As := [.ref (a 0)]) (c_X10_takeSlip l E t a k tp f T n s u I (by omega) (by omega)) [0, 1, 2, 3, 4, 5, 6, 7, 8, 9, 10, 11, 12, 13, 14, 15, 16] textW_idC (by decide +kernel) (fun _ => textW_fst) 9 10 rfl rfl (by decide) rfl hl.1 (rest := []) rfl (Nat.le_of_ble_eq_true rfl) dX10_takeItem_14 (st1 := fun _ => [.int (b2i ((itSlip tp n f s).1))]) (fun _ => rfl) (fun u14 H locs _ X => ?_)
    have X : Wd E _ _ (textW E t a k tp (nI n) (nI (kdS tp n (itSlip tp n f s).2.1)) (nI (itSlip tp n f s).2.1) (nI (enS tp n (itSlip tp n f s).2.1)) (tnS tp n (itSlip tp n f s).2.1 u14) ((itSlip tp n f s).2.2)) _ _ := X.eq textW_idP
    exact k_topi (x' := b2i ((itAny tp n f s).1)) (by rw [itAny, c9, cond_true]) (fin (u14) 17 _ _ _ trivial (X.eq (by rw [itAny, c9, cond_true])) dX10_takeItem_17)
