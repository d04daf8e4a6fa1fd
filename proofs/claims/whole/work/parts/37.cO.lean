/-! the items of a text, as the class takes them: whether it is one, the token that it ends before, the wall -/
abbrev RI : Type := Bool × Nat × St
def isN (tp : Nat → Int32) (n s : Nat) (u x : Int32) : Bool := decide (kdS tp n s = 2) && !decide (x < tnS tp n s u)
def itMoves (tp : Nat → Int32) (n : Nat) (f : St) (s : Nat) : RI := cond (decide (kdS tp n (skS tp n (enS tp n s)) = 2) && !decide ((99 : Int32) < tnS tp n (skS tp n (enS tp n s)) 0)) (true, skS tp n (enS tp n (skS tp n (enS tp n s))), up2 f 0 1 (tnS tp n (skS tp n (enS tp n s)) 0)) (false, skS tp n (enS tp n s), f)
theorem tnS_u {tp : Nat → Int32} {n s : Nat} {u : Int32} (h : kdS tp n s = 2) : tnS tp n s u = tnS tp n s 0 := by
  rw [tnS, tnS, if_pos h, if_pos h]
theorem isN_u (tp : Nat → Int32) (n s : Nat) (u x : Int32) : (decide (kdS tp n s = 2) && !decide (x < tnS tp n s u)) = (decide (kdS tp n s = 2) && !decide (x < tnS tp n s 0)) := by
  by_cases h : kdS tp n s = 2
  · rw [tnS_u h]
  · rw [decide_eq_false h]
    rfl
set_option maxRecDepth 100000 in
set_option maxHeartbeats 4000000 in
theorem c_X10_takeMoves (l : Launch) (E : EE) (t : Nat → Nat) (a : Nat → Nat) (k : Nat → Nat) (tp : Nat → Int32) (f : St) (T : Nat) (n : Nat) (s : Nat) (u : Int32) (I : Inv T f) (hn : n ≤ 120) (hs : s ≤ n) : Kn l yX10_takeMoves cX10_takeMoves 2 (some .boolean) 4 82 E (textW E t a k tp (nI n) (nI (kdS tp n s)) (nI s) (nI (enS tp n s)) (tnS tp n s u) f) [.ref (t 2), .ref (a 0)] (S := Int32) (fun _ => True) (fun _ => (some (.int (b2i ((itMoves tp n f s).1))))) (fun uu => (textW E t a k tp (nI n) (nI (kdS tp n (itMoves tp n f s).2.1)) (nI (itMoves tp n f s).2.1) (nI (enS tp n (itMoves tp n f s).2.1)) (tnS tp n (itMoves tp n f s).2.1 uu) ((itMoves tp n f s).2.2))) := by
  refine Kn.ofWi (by decide +kernel) (Nat.le_of_ble_eq_true rfl) (fun _ _ => b2i_nar _) ?_
  intro pg ev s0 mm below meth cd Q K X fin ls hl
  have hx := K.1
  have hb := K.2.1
  have hs10 := I.s10
  have hp6 := I.p6
  have hen := enS_le tp hs
  have hkd := kdS_lt tp n s
  have hge := enS_ge tp n s
  have hl : lv_has ls 2 [(0, .ref (t 2)), (1, .ref (a 0))] := hl
  refine lv_aload_n hx hb dX10_takeMoves_0 rfl (lv_at hl 0 rfl) ?_
  refine k_get K X 9 rfl fg_X10_9 (v := .ref (t 0)) rfl dX10_takeMoves_1 ?_
  refine k_callV K X gv_X10_31 (As := []) (c_X9_nextToken l E t tp (nI (kdS tp n s)) (nI s) (tnS tp n s u) n (enS tp n s) (by omega) (by omega)) [7, 8] textW_s0C (by decide +kernel) (fun _ => tapeW_fst) 0 9 rfl rfl (by decide) rfl hl.1 (rest := []) rfl (Nat.le_of_ble_eq_true rfl) dX10_takeMoves_4 (st1 := fun _ => []) (fun _ => rfl) (fun _ H locs _ X => ?_)
  have X : Wd E _ _ (textW E t a k tp (nI n) (nI (kdS tp n (skS tp n (enS tp n s)))) (nI (skS tp n (enS tp n s))) (nI (enS tp n (skS tp n (enS tp n s)))) (tnS tp n (skS tp n (enS tp n s)) (tnS tp n s u)) f) _ _ := X.eq textW_s0P
  have hal : skS tp n (enS tp n s) ≤ n := skS_le tp (enS_le tp hs)
  have hae := enS_le tp hal
  have hak := kdS_lt tp n (skS tp n (enS tp n s))
  have hag := enS_ge tp n (skS tp n (enS tp n s))
  refine lv_aload_n hx hb dX10_takeMoves_7 rfl (lv_at hl 0 rfl) ?_
  refine k_get K X 9 rfl fg_X10_9 (v := .ref (t 0)) rfl dX10_takeMoves_8 ?_
  refine lv_bipush (v := 99) hx hb dX10_takeMoves_11 (by decide) ?_
  refine k_callV K X gv_X10_65 (As := [.int 99]) (c_X9_isNumberUpTo l E t tp (nI n) (nI (skS tp n (enS tp n s))) (nI (enS tp n (skS tp n (enS tp n s)))) (tnS tp n (skS tp n (enS tp n s)) (tnS tp n s u)) (kdS tp n (skS tp n (enS tp n s))) 99 (by omega)) [7, 8] textW_s0C (by decide +kernel) (fun _ => tapeW_fst) 0 9 rfl rfl (by decide) rfl hl.1 (rest := []) rfl (Nat.le_of_ble_eq_true rfl) dX10_takeMoves_13 (st1 := fun _ => [.int (b2i (decide ((kdS tp n (skS tp n (enS tp n s))) = 2) && !decide (99 < (tnS tp n (skS tp n (enS tp n s)) (tnS tp n s u)))))]) (fun _ => rfl) (fun _ H locs _ X => ?_)
  have X : Wd E _ _ (textW E t a k tp (nI n) (nI (kdS tp n (skS tp n (enS tp n s)))) (nI (skS tp n (enS tp n s))) (nI (enS tp n (skS tp n (enS tp n s)))) (tnS tp n (skS tp n (enS tp n s)) (tnS tp n s u)) f) _ _ := X.eq textW_s0P
  refine k_ifneB (B := (decide ((kdS tp n (skS tp n (enS tp n s))) = 2) && !decide (99 < (tnS tp n (skS tp n (enS tp n s)) (tnS tp n s u))))) hx hb 21 dX10_takeMoves_16 (by decide) (fun c16 => ?_) (fun c16 => ?_)
  · refine lv_aload_n hx hb dX10_takeMoves_21 rfl (lv_at hl 1 rfl) ?_
    refine lv_aload_n hx hb dX10_takeMoves_22 rfl (lv_at hl 0 rfl) ?_
    refine k_get K X 9 rfl fg_X10_9 (v := .ref (t 0)) rfl dX10_takeMoves_23 ?_
    refine k_getN K X 7 rfl fg_X10_69 (v := .int (tnS tp n (skS tp n (enS tp n s)) (tnS tp n s u))) rfl dX10_takeMoves_26 ?_
    refine k_putN K X 0 rfl fp_X10_80 (v := .int (tnS tp n (skS tp n (enS tp n s)) (tnS tp n s u))) rfl rfl (Nat.le_of_ble_eq_true rfl) dX10_takeMoves_29 (fun H locs X => ?_)
    have X : Wd E _ _ (textW E t a k tp (nI n) (nI (kdS tp n (skS tp n (enS tp n s)))) (nI (skS tp n (enS tp n s))) (nI (enS tp n (skS tp n (enS tp n s)))) (tnS tp n (skS tp n (enS tp n s)) (tnS tp n s u)) (up2 f 0 1 (tnS tp n (skS tp n (enS tp n s)) (tnS tp n s u)))) _ _ := X
    refine lv_aload_n hx hb dX10_takeMoves_32 rfl (lv_at hl 0 rfl) ?_
    refine k_get K X 9 rfl fg_X10_9 (v := .ref (t 0)) rfl dX10_takeMoves_33 ?_
    refine k_callV K X gv_X10_31 (As := []) (c_X9_nextToken l E t tp (nI (kdS tp n (skS tp n (enS tp n s)))) (nI (skS tp n (enS tp n s))) (tnS tp n (skS tp n (enS tp n s)) (tnS tp n s u)) n (enS tp n (skS tp n (enS tp n s))) (by omega) (by omega)) [7, 8] textW_s0C (by decide +kernel) (fun _ => tapeW_fst) 0 9 rfl rfl (by decide) rfl hl.1 (rest := []) rfl (Nat.le_of_ble_eq_true rfl) dX10_takeMoves_36 (st1 := fun _ => []) (fun _ => rfl) (fun _ H locs _ X => ?_)
    have X : Wd E _ _ (textW E t a k tp (nI n) (nI (kdS tp n (skS tp n (enS tp n (skS tp n (enS tp n s)))))) (nI (skS tp n (enS tp n (skS tp n (enS tp n s))))) (nI (enS tp n (skS tp n (enS tp n (skS tp n (enS tp n s)))))) (tnS tp n (skS tp n (enS tp n (skS tp n (enS tp n s)))) (tnS tp n (skS tp n (enS tp n s)) (tnS tp n s u))) (up2 f 0 1 (tnS tp n (skS tp n (enS tp n s)) (tnS tp n s u)))) _ _ := X.eq textW_s0P
    refine lv_iconst (v := 1) hx hb dX10_takeMoves_39 (by decide) ?_
    exact k_topi (x' := b2i ((itMoves tp n f s).1)) (by rw [itMoves, c16]; rfl) (fin (tnS tp n (skS tp n (enS tp n s)) (tnS tp n s u)) 40 _ _ _ trivial (X.eq (by rw [itMoves, c16]; rfl)) dX10_takeMoves_40)
  · refine lv_iconst (v := 0) hx hb dX10_takeMoves_19 (by decide) ?_
    exact k_topi (x' := b2i ((itMoves tp n f s).1)) (by rw [itMoves, c16]; rfl) (fin (tnS tp n s u) 20 _ _ _ trivial (X.eq (by rw [itMoves, c16]; rfl)) dX10_takeMoves_20)
