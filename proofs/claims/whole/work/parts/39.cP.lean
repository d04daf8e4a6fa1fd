/-! a text: what comes behind an item r, the next items being k -/
def afK (tp : Nat → Int32) (n : Nat) (k : Nat → St → RI) (i : Nat) (r : RI) : RI := cond r.1 (cond (decide (kdS tp n r.2.1 = 0)) (true, i, r.2.2) (cond (decide (kdS tp n r.2.1 = 3)) (k (skS tp n (enS tp n r.2.1)) r.2.2) (false, r.2.1, r.2.2))) (false, r.2.1, r.2.2)
/-- at most so many items more, i the next one: whether it is a wall; how many items, or where the fault is; the wall -/
def teL (tp : Nat → Int32) (n : Nat) : Nat → Nat → Nat → St → RI
  | 0, _, s, f => (false, s, f)
  | m + 1, i, s, f => afK tp n (teL tp n m (i + 1)) i (itAny tp n f s)
def ansT (r : RI) : Int32 := cond r.1 (nI r.2.1) (-1 - nI r.2.1)
def vwT (r : RI) (f : St) : Int32 × St := (ansT r, cond r.1 r.2.2 f)
def oWall (f : St) (tp : Nat → Int32) (n : Nat) : Int32 × St := vwT (teL tp n 120 1 (skS tp n 0) f) f
theorem te_okL {T n : Nat} (tp : Nat → Int32) (hn : n ≤ 120) : ∀ (m i s : Nat) (f : St), Inv T f → s ≤ n → i + m ≤ 121 → (teL tp n m i s f).2.1 ≤ 1000 ∧ ((teL tp n m i s f).1 = true → Inv T (teL tp n m i s f).2.2)
  | 0, i, s, f, I, hs, _ => ⟨show s ≤ 1000 by omega, fun h => absurd (show false = true from h) Bool.false_ne_true⟩
  | m + 1, i, s, f, I, hs, hi => by
    have hok := itAny_ok tp I hs
    rw [teL, afK]
    cases h1 : (itAny tp n f s).1
    · rw [cond_false]
      exact ⟨show (itAny tp n f s).2.1 ≤ 1000 by have := hok.2.1; omega, fun h => absurd (show false = true from h) Bool.false_ne_true⟩
    · rw [cond_true]
      cases decide (kdS tp n (itAny tp n f s).2.1 = 0)
      · rw [cond_false]
        cases decide (kdS tp n (itAny tp n f s).2.1 = 3)
        · rw [cond_false]
          exact ⟨show (itAny tp n f s).2.1 ≤ 1000 by have := hok.2.1; omega, fun h => absurd (show false = true from h) Bool.false_ne_true⟩
        · rw [cond_true]
          exact te_okL tp hn m (i + 1) _ _ (hok.2.2 h1) (nx_le tp hok.2.1) (by omega)
      · rw [cond_true]
        exact ⟨show i ≤ 1000 by omega, fun _ => hok.2.2 h1⟩
theorem te_ok {T n : Nat} {f : St} (tp : Nat → Int32) (I : Inv T f) (hn : n ≤ 120) : (teL tp n 120 1 (skS tp n 0) f).2.1 ≤ 1000 ∧ ((teL tp n 120 1 (skS tp n 0) f).1 = true → Inv T (teL tp n 120 1 (skS tp n 0) f).2.2) := te_okL tp hn 120 1 _ f I (skS_le tp (Nat.zero_le n)) (by decide)
theorem ans_neg {r : RI} (h : r.2.1 ≤ 1000) : ansT r < 0 ↔ r.1 = false := by
  unfold ansT
  cases r.1
  · rw [cond_false]
    refine ⟨fun _ => rfl, fun _ => ?_⟩
    have h0 : ((0 : Int32).toInt) = 0 := by decide
    have h1 : ((-1 : Int32).toInt) = -1 := by decide
    rw [Int32.lt_iff_toInt_lt, Int32.toInt_sub, nI_toInt (by omega), h0, h1]
    have h2 : Int.bmod (-1 - (r.2.1 : Int)) (2 ^ 32) = -1 - (r.2.1 : Int) := by
      rw [Int.bmod_eq_of_le] <;> omega
    omega
  · rw [cond_true]
    exact ⟨fun z => absurd z (nI_pos (by omega)), fun z => absurd z (by decide)⟩
theorem ans_pos {r : RI} (h : r.2.1 ≤ 1000) : ¬ ansT r < 0 ↔ r.1 = true := by
  rw [ans_neg h, Bool.not_eq_false]
set_option maxRecDepth 100000 in
set_option maxHeartbeats 4000000 in
theorem c_X10_tellTo (l : Launch) (E : EE) (t : Nat → Nat) (a : Nat → Nat) (k : Nat → Nat) (tp : Nat → Int32) (tk : Int32) (ts : Int32) (te : Int32) (tn : Int32) (f : St) (T : Nat) (n : Nat) (I : Inv T f) (hn : n ≤ 120) : Kn l yX10_tellTo cX10_tellTo 3 (some .int) 9 204 E (textW E t a k tp (nI n) tk ts te tn f) [.ref (t 2), .ref (a 0)] (S := Int32 × Int32 × Int32 × Int32) (fun _ => True) (fun _ => (some (.int (ansT (teL tp n 120 1 (skS tp n 0) f))))) (fun u => (textW E t a k tp (nI n) u.1 u.2.1 u.2.2.1 u.2.2.2 ((teL tp n 120 1 (skS tp n 0) f).2.2))) := by
  refine Kn.ofWi (by decide +kernel) (Nat.le_of_ble_eq_true rfl) (fun _ _ => rfl) ?_
  intro pg ev s0 mm below meth cd Q K X fin ls hl
  have hx := K.1
  have hb := K.2.1
  have hs10 := I.s10
  have hp6 := I.p6
  have hl : lv_has ls 3 [(0, .ref (t 2)), (1, .ref (a 0))] := hl
  refine lv_aload_n hx hb dX10_tellTo_0 rfl (lv_at hl 0 rfl) ?_
  refine k_get K X 9 rfl fg_X10_9 (v := .ref (t 0)) rfl dX10_tellTo_1 ?_
  refine k_callV K X gv_X10_15 (As := []) (c_X9_firstToken l E t tp tk ts te tn n (by omega)) [7, 8] textW_s0C (by decide +kernel) (fun _ => tapeW_fst) 0 9 rfl rfl (by decide) rfl hl.1 (rest := []) rfl (Nat.le_of_ble_eq_true rfl) dX10_tellTo_4 (st1 := fun _ => []) (fun _ => rfl) (fun _ H locs _ X => ?_)
  have X : Wd E _ _ (textW E t a k tp (nI n) (nI (kdS tp n (skS tp n 0))) (nI (skS tp n 0)) (nI (enS tp n (skS tp n 0))) (tnS tp n (skS tp n 0) tn) f) _ _ := X.eq textW_s0P
  refine lv_iconst (v := 1) hx hb dX10_tellTo_7 (by decide) ?_
  refine lv_istore_n (lv' := [(2, .int 1), (0, .ref (t 2)), (1, .ref (a 0))]) hx hb dX10_tellTo_8 rfl hl (by decide) rfl (fun ls hl => ?_)
  have lp9 : ∀ (fu : Nat) (i : Nat) (m : Nat) (s : Nat) (u : Int32) (f3 : St) (hfu : m < fu) (hin : i + m = 121) (hs : s ≤ n) (I3 : Inv T f3) (hR : teL tp n m i s f3 = teL tp n 120 1 (skS tp n 0) f) (ls : Array Slot) (hl : lv_has ls 3 [(2, .int (nI i)), (0, .ref (t 2)), (1, .ref (a 0))]) (H : Heap) (locs : List Loc) (X : Wd E (inW (textW E t a k tp (nI n) tk ts te tn f)) s0.heap (textW E t a k tp (nI n) (nI (kdS tp n s)) (nI s) (nI (enS tp n s)) (tnS tp n s u) f3) H locs), W pg l ev (rmK 9 204) s0 mm ([.ref (t 2), .ref (a 0)] : List Value).toArray below meth cd H locs 0 0 Q (F0 mm 9 ls []) := by
    intro fu
    induction fu with
    | zero => intro i m s u f3 hfu; exact absurd hfu (Nat.not_lt_zero _)
    | succ fu ih9 =>
      intro i m s u f3 hfu hin hs I3 hR ls hl H locs X
      refine lv_iload_n hx hb dX10_tellTo_9 rfl (lv_at hl 0 rfl) ?_
      refine lv_bipush (v := 120) hx hb dX10_tellTo_10 (by decide) ?_
      refine kN_gt (x := i) (y := 120) hx hb 64 dX10_tellTo_12 (by decide) (by omega) (by omega) (fun c12 => ?_) (fun c12 => ?_)
      · obtain rfl : m = 0 := by omega
        refine lv_iconst (v := (-1)) hx hb dX10_tellTo_64 (by decide) ?_
        refine lv_aload_n hx hb dX10_tellTo_65 rfl (lv_at hl 1 rfl) ?_
        refine k_get K X 9 rfl fg_X10_9 (v := .ref (t 0)) rfl dX10_tellTo_66 ?_
        refine k_getN K X 7 rfl fg_X10_34 (v := .int (nI s)) rfl dX10_tellTo_69 ?_
        refine lv_isub hx hb dX10_tellTo_72 ?_
        exact k_topi (x' := ansT (teL tp n 120 1 (skS tp n 0) f)) (by rw [← hR] <;> rfl) (fin ((nI (kdS tp n s)), (nI s), (nI (enS tp n s)), (tnS tp n s u)) 73 _ _ _ trivial (X.eq (by rw [← hR] <;> rfl)) dX10_tellTo_73)
      · obtain ⟨m, rfl⟩ : ∃ z, m = z + 1 := ⟨m - 1, by omega⟩
        refine lv_aload_n hx hb dX10_tellTo_15 rfl (lv_at hl 1 rfl) ?_
        refine lv_aload_n hx hb dX10_tellTo_16 rfl (lv_at hl 2 rfl) ?_
        refine k_callV K X gv_X10_20 (As := [.ref (a 0)]) (c_X10_takeItem l E t a k tp f3 T n s u I3 (by omega) (by omega)) [0, 1, 2, 3, 4, 5, 6, 7, 8, 9, 10, 11, 12, 13, 14, 15, 16] textW_idC (by decide +kernel) (fun _ => textW_fst) 9 10 rfl rfl (by decide) rfl hl.1 (rest := []) rfl (Nat.le_of_ble_eq_true rfl) dX10_tellTo_17 (st1 := fun _ => [.int (b2i ((itAny tp n f3 s).1))]) (fun _ => rfl) (fun u17 H locs _ X => ?_)
        have X : Wd E _ _ (textW E t a k tp (nI n) (nI (kdS tp n (itAny tp n f3 s).2.1)) (nI (itAny tp n f3 s).2.1) (nI (enS tp n (itAny tp n f3 s).2.1)) (tnS tp n (itAny tp n f3 s).2.1 u17) ((itAny tp n f3 s).2.2)) _ _ := X.eq textW_idP
        have hok := itAny_ok tp I3 hs
        have h4l := hok.2.1
        have h4e := enS_le tp h4l
        have h4k := kdS_lt tp n (itAny tp n f3 s).2.1
        refine k_ifneB (B := ((itAny tp n f3 s).1)) hx hb 26 dX10_tellTo_20 (by decide) (fun c20 => ?_) (fun c20 => ?_)
        · refine lv_aload_n hx hb dX10_tellTo_26 rfl (lv_at hl 1 rfl) ?_
          refine k_get K X 9 rfl fg_X10_9 (v := .ref (t 0)) rfl dX10_tellTo_27 ?_
          refine k_callV K X gv_X10_24 (As := []) (c_X9_isAtEnd l E t tp (nI n) (nI (itAny tp n f3 s).2.1) (nI (enS tp n (itAny tp n f3 s).2.1)) (tnS tp n (itAny tp n f3 s).2.1 u17) (kdS tp n (itAny tp n f3 s).2.1) (by omega)) [7, 8] textW_s0C (by decide +kernel) (fun _ => tapeW_fst) 0 9 rfl rfl (by decide) rfl hl.1 (rest := []) rfl (Nat.le_of_ble_eq_true rfl) dX10_tellTo_30 (st1 := fun _ => [.int (b2i (decide ((kdS tp n (itAny tp n f3 s).2.1) = 0)))]) (fun _ => rfl) (fun _ H locs _ X => ?_)
          have X : Wd E _ _ (textW E t a k tp (nI n) (nI (kdS tp n (itAny tp n f3 s).2.1)) (nI (itAny tp n f3 s).2.1) (nI (enS tp n (itAny tp n f3 s).2.1)) (tnS tp n (itAny tp n f3 s).2.1 u17) ((itAny tp n f3 s).2.2)) _ _ := X.eq textW_s0P
          refine k_ifeqB (B := (decide ((kdS tp n (itAny tp n f3 s).2.1) = 0))) hx hb 38 dX10_tellTo_33 (by decide) (fun c33 => ?_) (fun c33 => ?_)
          · refine lv_aload_n hx hb dX10_tellTo_38 rfl (lv_at hl 1 rfl) ?_
            refine k_get K X 9 rfl fg_X10_9 (v := .ref (t 0)) rfl dX10_tellTo_39 ?_
            refine k_callV K X gv_X10_28 (As := []) (c_X9_isSign l E t tp (nI n) (nI (itAny tp n f3 s).2.1) (nI (enS tp n (itAny tp n f3 s).2.1)) (tnS tp n (itAny tp n f3 s).2.1 u17) (kdS tp n (itAny tp n f3 s).2.1) (by omega)) [7, 8] textW_s0C (by decide +kernel) (fun _ => tapeW_fst) 0 9 rfl rfl (by decide) rfl hl.1 (rest := []) rfl (Nat.le_of_ble_eq_true rfl) dX10_tellTo_42 (st1 := fun _ => [.int (b2i (decide ((kdS tp n (itAny tp n f3 s).2.1) = 3)))]) (fun _ => rfl) (fun _ H locs _ X => ?_)
            have X : Wd E _ _ (textW E t a k tp (nI n) (nI (kdS tp n (itAny tp n f3 s).2.1)) (nI (itAny tp n f3 s).2.1) (nI (enS tp n (itAny tp n f3 s).2.1)) (tnS tp n (itAny tp n f3 s).2.1 u17) ((itAny tp n f3 s).2.2)) _ _ := X.eq textW_s0P
            refine k_ifneB (B := (decide ((kdS tp n (itAny tp n f3 s).2.1) = 3))) hx hb 51 dX10_tellTo_45 (by decide) (fun c45 => ?_) (fun c45 => ?_)
            · refine lv_aload_n hx hb dX10_tellTo_51 rfl (lv_at hl 1 rfl) ?_
              refine k_get K X 9 rfl fg_X10_9 (v := .ref (t 0)) rfl dX10_tellTo_52 ?_
              refine k_callV K X gv_X10_31 (As := []) (c_X9_nextToken l E t tp (nI (kdS tp n (itAny tp n f3 s).2.1)) (nI (itAny tp n f3 s).2.1) (tnS tp n (itAny tp n f3 s).2.1 u17) n (enS tp n (itAny tp n f3 s).2.1) (by omega) (by omega)) [7, 8] textW_s0C (by decide +kernel) (fun _ => tapeW_fst) 0 9 rfl rfl (by decide) rfl hl.1 (rest := []) rfl (Nat.le_of_ble_eq_true rfl) dX10_tellTo_55 (st1 := fun _ => []) (fun _ => rfl) (fun _ H locs _ X => ?_)
              have X : Wd E _ _ (textW E t a k tp (nI n) (nI (kdS tp n (skS tp n (enS tp n (itAny tp n f3 s).2.1)))) (nI (skS tp n (enS tp n (itAny tp n f3 s).2.1))) (nI (enS tp n (skS tp n (enS tp n (itAny tp n f3 s).2.1)))) (tnS tp n (skS tp n (enS tp n (itAny tp n f3 s).2.1)) (tnS tp n (itAny tp n f3 s).2.1 u17)) ((itAny tp n f3 s).2.2)) _ _ := X.eq textW_s0P
              refine lv_iinc (v := nI (i + 1)) (lv' := [(2, .int (nI (i + 1))), (0, .ref (t 2)), (1, .ref (a 0))]) hx hb dX10_tellTo_58 hl (k := 0) rfl (nI_add i 1) (by decide) rfl (fun ls hl => ?_)
              refine lv_goto (tgt := 9) hx hb dX10_tellTo_61 (by decide) ?_
              exact ih9 (i + 1) m (skS tp n (enS tp n (itAny tp n f3 s).2.1)) (tnS tp n (itAny tp n f3 s).2.1 u17) ((itAny tp n f3 s).2.2) (by omega) (by omega) (skS_le tp h4e) (hok.2.2 c20) (by rw [← hR, teL, afK, c20, cond_true, c33, cond_false, c45, cond_true]) _ hl _ _ X
            · refine lv_goto (tgt := 64) hx hb dX10_tellTo_48 (by decide) ?_
              refine lv_iconst (v := (-1)) hx hb dX10_tellTo_64 (by decide) ?_
              refine lv_aload_n hx hb dX10_tellTo_65 rfl (lv_at hl 1 rfl) ?_
              refine k_get K X 9 rfl fg_X10_9 (v := .ref (t 0)) rfl dX10_tellTo_66 ?_
              refine k_getN K X 7 rfl fg_X10_34 (v := .int (nI (itAny tp n f3 s).2.1)) rfl dX10_tellTo_69 ?_
              refine lv_isub hx hb dX10_tellTo_72 ?_
              exact k_topi (x' := ansT (teL tp n 120 1 (skS tp n 0) f)) (by rw [← hR, teL, afK, c20, cond_true, c33, cond_false, c45, cond_false] <;> rfl) (fin ((nI (kdS tp n (itAny tp n f3 s).2.1)), (nI (itAny tp n f3 s).2.1), (nI (enS tp n (itAny tp n f3 s).2.1)), (tnS tp n (itAny tp n f3 s).2.1 u17)) 73 _ _ _ trivial (X.eq (by rw [← hR, teL, afK, c20, cond_true, c33, cond_false, c45, cond_false] <;> rfl)) dX10_tellTo_73)
          · refine lv_iload_n hx hb dX10_tellTo_36 rfl (lv_at hl 0 rfl) ?_
            exact k_topi (x' := ansT (teL tp n 120 1 (skS tp n 0) f)) (by rw [← hR, teL, afK, c20, cond_true, c33, cond_true] <;> rfl) (fin ((nI (kdS tp n (itAny tp n f3 s).2.1)), (nI (itAny tp n f3 s).2.1), (nI (enS tp n (itAny tp n f3 s).2.1)), (tnS tp n (itAny tp n f3 s).2.1 u17)) 37 _ _ _ trivial (X.eq (by rw [← hR, teL, afK, c20, cond_true, c33, cond_true] <;> rfl)) dX10_tellTo_37)
        · refine lv_goto (tgt := 64) hx hb dX10_tellTo_23 (by decide) ?_
          refine lv_iconst (v := (-1)) hx hb dX10_tellTo_64 (by decide) ?_
          refine lv_aload_n hx hb dX10_tellTo_65 rfl (lv_at hl 1 rfl) ?_
          refine k_get K X 9 rfl fg_X10_9 (v := .ref (t 0)) rfl dX10_tellTo_66 ?_
          refine k_getN K X 7 rfl fg_X10_34 (v := .int (nI (itAny tp n f3 s).2.1)) rfl dX10_tellTo_69 ?_
          refine lv_isub hx hb dX10_tellTo_72 ?_
          exact k_topi (x' := ansT (teL tp n 120 1 (skS tp n 0) f)) (by rw [← hR, teL, afK, c20, cond_false] <;> rfl) (fin ((nI (kdS tp n (itAny tp n f3 s).2.1)), (nI (itAny tp n f3 s).2.1), (nI (enS tp n (itAny tp n f3 s).2.1)), (tnS tp n (itAny tp n f3 s).2.1 u17)) 73 _ _ _ trivial (X.eq (by rw [← hR, teL, afK, c20, cond_false] <;> rfl)) dX10_tellTo_73)
  exact lp9 (120 + 1) 1 120 (skS tp n 0) tn f (by omega) (by omega) (skS_le tp (Nat.zero_le n)) (I) (rfl) _ hl _ _ X
set_option maxRecDepth 100000 in
set_option maxHeartbeats 4000000 in
theorem c_X11_wall (l : Launch) (E : EE) (a : Nat → Nat) (f : St) (g : St) (h : St) (ik : Int32) (one : Int32) (wo : Int32) (tp : Nat → Int32) (tk : Int32) (ts : Int32) (te : Int32) (tn : Int32) (rb : Nat → Int32) (rz : Nat → Int32) (rn : Nat → Nat → Int64) (td : Nat → Int32) (T : Nat) (n : Nat) (I : Inv T f) (hn : n ≤ 120) : Kn l yX11_wall cX11_wall 2 (some .int) 10 226 E (clsW E a f g h ik one wo tp (nI n) tk ts te tn rb rz rn td) [.ref (a 0)] (S := St × Int32 × Int32 × Int32 × Int32) (fun _ => True) (fun _ => (some (.int ((oWall f tp n).1)))) (fun u => (clsW E a ((oWall f tp n).2) u.1 h ik one wo tp 0 u.2.1 u.2.2.1 u.2.2.2.1 u.2.2.2.2 rb rz rn td)) := by
  refine Kn.ofWi (by decide +kernel) (Nat.le_of_ble_eq_true rfl) (fun _ _ => rfl) ?_
  intro pg ev s0 mm below meth cd Q K X fin ls hl
  have hx := K.1
  have hb := K.2.1
  have hs10 := I.s10
  have hp6 := I.p6
  have hl : lv_has ls 2 [(0, .ref (a 0))] := hl
  refine lv_aload_n hx hb dX11_wall_0 rfl (lv_at hl 0 rfl) ?_
  refine k_get K X 0 rfl fg_X11_36 (v := .ref (a 8)) rfl dX11_wall_1 ?_
  refine lv_aload_n hx hb dX11_wall_4 rfl (lv_at hl 0 rfl) ?_
  refine k_get K X 0 rfl fg_X11_30 (v := .ref (a 1)) rfl dX11_wall_5 ?_
  refine k_callV K X gv_X11_189 (As := [.ref (a 1)]) (c_X6_copyFrom l E (fun j => a (8 + j)) (fun j => a (1 + j)) (fun j => a (36 + j)) g f) [8, 9, 10, 11, 12, 13, 14, 1, 2, 3, 4, 5, 6, 7] clsW_s8C (by decide +kernel) (fun _ => room2_fst) 0 6 rfl rfl (by decide) rfl hl.1 (rest := []) rfl (Nat.le_of_ble_eq_true rfl) dX11_wall_8 (st1 := fun _ => []) (fun _ => rfl) (fun _ H locs _ X => ?_)
  have X : Wd E _ _ (clsW E a f f h ik one wo tp (nI n) tk ts te tn rb rz rn td) _ _ := X.eq clsW_s8P
  refine lv_aload_n hx hb dX11_wall_11 rfl (lv_at hl 0 rfl) ?_
  refine k_get K X 0 rfl fg_X11_65 (v := .ref (a 25)) rfl dX11_wall_12 ?_
  refine lv_aload_n hx hb dX11_wall_15 rfl (lv_at hl 0 rfl) ?_
  refine k_get K X 0 rfl fg_X11_36 (v := .ref (a 8)) rfl dX11_wall_16 ?_
  refine k_callV K X gv_X11_223 (As := [.ref (a 8)]) (c_X10_tellTo l E (fun j => a (23 + j)) (fun j => a (8 + j)) (fun j => a (36 + j)) tp tk ts te tn f T n I (by omega)) [8, 9, 10, 11, 12, 13, 14, 23, 24, 25, 36, 37, 38, 39, 40, 41, 42] clsW_s18C (by decide +kernel) (fun _ => textW_fst) 9 10 rfl rfl (by decide) rfl hl.1 (rest := []) rfl (Nat.le_of_ble_eq_true rfl) dX11_wall_19 (st1 := fun _ => [.int (ansT (teL tp n 120 1 (skS tp n 0) f))]) (fun _ => rfl) (fun u19 H locs _ X => ?_)
  have X : Wd E _ _ (clsW E a f ((teL tp n 120 1 (skS tp n 0) f).2.2) h ik one wo tp (nI n) u19.1 u19.2.1 u19.2.2.1 u19.2.2.2 rb rz rn td) _ _ := X.eq clsW_s18P
  refine lv_istore_n (lv' := [(1, .int (ansT (teL tp n 120 1 (skS tp n 0) f))), (0, .ref (a 0))]) hx hb dX11_wall_22 rfl hl (by decide) rfl (fun ls hl => ?_)
  refine lv_iload_n hx hb dX11_wall_23 rfl (lv_at hl 0 rfl) ?_
  have hte := te_ok tp I hn
  refine k_if_lt (x := ansT (teL tp n 120 1 (skS tp n 0) f)) hx hb 38 dX11_wall_24 (by decide) (fun c24 => ?_) (fun c24 => ?_)
  · have hr := (ans_neg hte.1).mp c24
    refine lv_aload_n hx hb dX11_wall_38 rfl (lv_at hl 1 rfl) ?_
    refine k_get K X 0 rfl fg_X11_56 (v := .ref (a 23)) rfl dX11_wall_39 ?_
    refine lv_iconst (v := 0) hx hb dX11_wall_42 (by decide) ?_
    refine k_putN K X 23 rfl fp_X11_217 (v := .int 0) rfl rfl (Nat.le_of_ble_eq_true rfl) dX11_wall_43 (fun H locs X => ?_)
    have X : Wd E _ _ (clsW E a f ((teL tp n 120 1 (skS tp n 0) f).2.2) h ik one wo tp 0 u19.1 u19.2.1 u19.2.2.1 u19.2.2.2 rb rz rn td) _ _ := X
    refine lv_iload_n hx hb dX11_wall_46 rfl (lv_at hl 0 rfl) ?_
    exact k_topi (x' := (oWall f tp n).1) (rfl) (fin ((teL tp n 120 1 (skS tp n 0) f).2.2, u19.1, u19.2.1, u19.2.2.1, u19.2.2.2) 47 _ _ _ trivial (X.eq (by rw [oWall, vwT, hr]; rfl)) dX11_wall_47)
  · have hr := (ans_pos hte.1).mp c24
    have I2 := hte.2 hr
    refine lv_aload_n hx hb dX11_wall_27 rfl (lv_at hl 1 rfl) ?_
    refine k_get K X 0 rfl fg_X11_30 (v := .ref (a 1)) rfl dX11_wall_28 ?_
    refine lv_aload_n hx hb dX11_wall_31 rfl (lv_at hl 1 rfl) ?_
    refine k_get K X 0 rfl fg_X11_36 (v := .ref (a 8)) rfl dX11_wall_32 ?_
    refine k_callV K X gv_X11_189 (As := [.ref (a 8)]) (c_X6_copyFrom l E (fun j => a (1 + j)) (fun j => a (8 + j)) (fun j => a (36 + j)) f ((teL tp n 120 1 (skS tp n 0) f).2.2)) [1, 2, 3, 4, 5, 6, 7, 8, 9, 10, 11, 12, 13, 14] clsW_s6C (by decide +kernel) (fun _ => room2_fst) 0 6 rfl rfl (by decide) rfl hl.1 (rest := []) rfl (Nat.le_of_ble_eq_true rfl) dX11_wall_35 (st1 := fun _ => []) (fun _ => rfl) (fun _ H locs _ X => ?_)
    have X : Wd E _ _ (clsW E a ((teL tp n 120 1 (skS tp n 0) f).2.2) ((teL tp n 120 1 (skS tp n 0) f).2.2) h ik one wo tp (nI n) u19.1 u19.2.1 u19.2.2.1 u19.2.2.2 rb rz rn td) _ _ := X.eq clsW_s6P
    refine lv_aload_n hx hb dX11_wall_38 rfl (lv_at hl 1 rfl) ?_
    refine k_get K X 0 rfl fg_X11_56 (v := .ref (a 23)) rfl dX11_wall_39 ?_
    refine lv_iconst (v := 0) hx hb dX11_wall_42 (by decide) ?_
    refine k_putN K X 23 rfl fp_X11_217 (v := .int 0) rfl rfl (Nat.le_of_ble_eq_true rfl) dX11_wall_43 (fun H locs X => ?_)
    have X : Wd E _ _ (clsW E a ((teL tp n 120 1 (skS tp n 0) f).2.2) ((teL tp n 120 1 (skS tp n 0) f).2.2) h ik one wo tp 0 u19.1 u19.2.1 u19.2.2.1 u19.2.2.2 rb rz rn td) _ _ := X
    refine lv_iload_n hx hb dX11_wall_46 rfl (lv_at hl 0 rfl) ?_
    exact k_topi (x' := (oWall f tp n).1) (rfl) (fin ((teL tp n 120 1 (skS tp n 0) f).2.2, u19.1, u19.2.1, u19.2.2.1, u19.2.2.2) 47 _ _ _ trivial (X.eq (by rw [oWall, vwT, hr]; rfl)) dX11_wall_47)
