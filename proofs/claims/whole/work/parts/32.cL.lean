theorem m1_lt {i : Nat} (h : i < 1000) (c : nI i + (-1) < 0) : i = 0 := by
  cases i with
  | zero => rfl
  | succ z => rw [pk_m1] at c; exact absurd c (nI_pos (by omega))
theorem m1_ge {i : Nat} (c : ¬ nI i + (-1) < 0) : ∃ z, i = z + 1 := by
  cases i with
  | zero => exact absurd (by decide) c
  | succ z => exact ⟨z, rfl⟩
/-- feeding: answer, findings, the tape and its length -/
abbrev R4 : Type := Int32 × (Nat → Int32) × (Nat → Int32) × Nat
def fdL (x : Int32) : Nat → (Nat → Int32) → Nat → (Nat → Int32) × Nat
  | 0, tp, n => (tp, n)
  | i + 1, tp, n => fdL x i (upd tp n ((x >>> (nI (8 * i) &&& 31)) &&& 255)) (n + 1)
def oFeed (td tp : Nat → Int32) (n : Nat) (x y : Int32) : R4 := cond (inR y 1 4) (cond (decide (n + y.toNatClampNeg ≤ 120)) (nI (fdL x y.toNatClampNeg tp n).2, td, (fdL x y.toNatClampNeg tp n).1, (fdL x y.toNatClampNeg tp n).2) (fnd 1, fdU td 1, tp, n)) (fnd 0, fdU td 0, tp, n)
set_option maxRecDepth 100000 in
set_option maxHeartbeats 4000000 in
theorem c_X9_isWord (l : Launch) (E : EE) (t : Nat → Nat) (tp : Nat → Int32) (tl : Int32) (tn : Int32) (i : Nat) (k : Nat) (s : Nat) (e : Nat) (hi : i < 11) (hk : k < 5) (hse : s ≤ e) (he : e ≤ 120) : Kd l yX9_isWord cX9_isWord 3 (some .boolean) 6 136 E (tapeW E t tp tl (nI k) (nI s) (nI e) tn) [.ref (t 0), .ref (eK E i)] (some (.int (b2i (isWd tp k s e i)))) (tapeW E t tp tl (nI k) (nI s) (nI e) tn) := by
  refine Kn.ofWi (by decide +kernel) (Nat.le_of_ble_eq_true rfl) (fun _ _ => b2i_nar _) ?_
  intro pg ev s0 mm below meth cd Q K X fin ls hl
  have hx := K.1
  have hb := K.2.1
  have hk7 := kLen_le i hi
  have hl : lv_has ls 3 [(0, .ref (t 0)), (1, .ref (eK E i))] := hl
  refine lv_aload_n hx hb dX9_isWord_0 rfl (lv_at hl 0 rfl) ?_
  refine k_get K X 0 rfl fg_X9_19 (v := .int (nI k)) rfl dX9_isWord_1 ?_
  refine lv_iconst (v := 1) hx hb dX9_isWord_4 (by decide) ?_
  refine kN_ne (x := k) (y := 1) hx hb 24 dX9_isWord_5 (by decide) (by omega) (by omega) (fun c5 => ?_) (fun c5 => ?_)
  · refine lv_iconst (v := 0) hx hb dX9_isWord_24 (by decide) ?_
    exact k_topi (x' := b2i (isWd tp k s e i)) (by rw [isWd, decide_eq_false c5]; rfl) (fin () 25 _ _ _ trivial X dX9_isWord_25)
  · refine lv_aload_n hx hb dX9_isWord_8 rfl (lv_at hl 0 rfl) ?_
    refine k_get K X 0 rfl fg_X9_25 (v := .int (nI e)) rfl dX9_isWord_9 ?_
    refine lv_aload_n hx hb dX9_isWord_12 rfl (lv_at hl 0 rfl) ?_
    refine k_get K X 0 rfl fg_X9_22 (v := .int (nI s)) rfl dX9_isWord_13 ?_
    refine lv_isub hx hb dX9_isWord_16 ?_
    refine k_topi (x' := nI (e - s)) (pk_sub (a := e) (b := s) hse) ?_
    refine lv_aload_n hx hb dX9_isWord_17 rfl (lv_at hl 1 rfl) ?_
    refine k_callZ K X gv_X9_57 (As := []) (c_J0_length_8abf5 l E i (by omega)) [] rfl (by decide +kernel) (fun _ => rfl) hi (by decide) rfl hl.1 (rest := [.int (nI (e - s))]) rfl (Nat.le_of_ble_eq_true rfl) dX9_isWord_18 (st1 := fun _ => [.int (nI (kLen.getD i 0)), .int (nI (e - s))]) (fun _ => rfl) (fun _ H locs _ X => ?_)
    have X : Wd E _ _ (tapeW E t tp tl (nI k) (nI s) (nI e) tn) _ _ := X
    refine kN_eq (x := e - s) (y := kLen.getD i 0) hx hb 26 dX9_isWord_21 (by decide) (by omega) (by omega) (fun c21 => ?_) (fun c21 => ?_)
    · refine lv_iconst (v := 0) hx hb dX9_isWord_26 (by decide) ?_
      refine lv_istore_n (lv' := [(2, .int 0), (0, .ref (t 0)), (1, .ref (eK E i))]) hx hb dX9_isWord_27 rfl hl (by decide) rfl (fun ls hl => ?_)
      have lp28 : ∀ (fu : Nat) (j : Nat) (n2 : Nat) (hfu : n2 < fu) (hin : j + n2 = kLen.getD i 0) (hR : mtL tp s i n2 j = mtL tp s i (kLen.getD i 0) 0) (ls : Array Slot) (hl : lv_has ls 3 [(2, .int (nI j)), (0, .ref (t 0)), (1, .ref (eK E i))]) (H : Heap) (locs : List Loc) (X : Wd E (inW (tapeW E t tp tl (nI k) (nI s) (nI e) tn)) s0.heap (tapeW E t tp tl (nI k) (nI s) (nI e) tn) H locs), W pg l ev (rmK 6 136) s0 mm ([.ref (t 0), .ref (eK E i)] : List Value).toArray below meth cd H locs 0 0 Q (F0 mm 28 ls []) := by
        intro fu
        induction fu with
        | zero => intro j n2 hfu; exact absurd hfu (Nat.not_lt_zero _)
        | succ fu ih28 =>
          intro j n2 hfu hin hR ls hl H locs X
          refine lv_iload_n hx hb dX9_isWord_28 rfl (lv_at hl 0 rfl) ?_
          refine lv_aload_n hx hb dX9_isWord_29 rfl (lv_at hl 2 rfl) ?_
          refine k_callZ K X gv_X9_57 (As := []) (c_J0_length_8abf5 l E i (by omega)) [] rfl (by decide +kernel) (fun _ => rfl) hi (by decide) rfl hl.1 (rest := [.int (nI j)]) rfl (Nat.le_of_ble_eq_true rfl) dX9_isWord_30 (st1 := fun _ => [.int (nI (kLen.getD i 0)), .int (nI j)]) (fun _ => rfl) (fun _ H locs _ X => ?_)
          have X : Wd E _ _ (tapeW E t tp tl (nI k) (nI s) (nI e) tn) _ _ := X
          refine kN_ge (x := j) (y := kLen.getD i 0) hx hb 63 dX9_isWord_33 (by decide) (by omega) (by omega) (fun c33 => ?_) (fun c33 => ?_)
          · obtain rfl : n2 = 0 := by omega
            refine lv_iconst (v := 1) hx hb dX9_isWord_63 (by decide) ?_
            exact k_topi (x' := b2i (isWd tp k s e i)) (by rw [isWd, decide_eq_true c5, decide_eq_true c21, ← hR]; rfl) (fin () 64 _ _ _ trivial X dX9_isWord_64)
          · obtain ⟨n2, rfl⟩ : ∃ z, n2 = z + 1 := ⟨n2 - 1, by omega⟩
            refine lv_aload_n hx hb dX9_isWord_36 rfl (lv_at hl 1 rfl) ?_
            refine k_get K X 0 rfl fg_X9_9 (v := .ref (t 1)) rfl dX9_isWord_37 ?_
            refine lv_aload_n hx hb dX9_isWord_40 rfl (lv_at hl 1 rfl) ?_
            refine k_get K X 0 rfl fg_X9_22 (v := .int (nI s)) rfl dX9_isWord_41 ?_
            refine lv_iload_n hx hb dX9_isWord_44 rfl (lv_at hl 0 rfl) ?_
            refine lv_iadd hx hb dX9_isWord_45 ?_
            refine k_topi (nI_add s j) ?_
            refine k_ialdN K X 1 rfl (k := s + j) (by omega) (by decide) dX9_isWord_46 (v := tp (s + j)) rfl ?_
            refine lv_aload_n hx hb dX9_isWord_47 rfl (lv_at hl 2 rfl) ?_
            refine lv_iload_n hx hb dX9_isWord_48 rfl (lv_at hl 0 rfl) ?_
            refine k_callZ K X gv_X9_62 (As := [.int (nI j)]) (c_J0_charAt_5068e l E i j (by omega) (by omega)) [] rfl (by decide +kernel) (fun _ => rfl) hi (by decide) rfl hl.1 (rest := [.int (tp (s + j))]) rfl (Nat.le_of_ble_eq_true rfl) dX9_isWord_49 (st1 := fun _ => [.int ((kByt.getD i []).getD j 0), .int (tp (s + j))]) (fun _ => rfl) (fun _ H locs _ X => ?_)
            have X : Wd E _ _ (tapeW E t tp tl (nI k) (nI s) (nI e) tn) _ _ := X
            refine k_icmp_eq (x := tp (s + j)) (y := (kByt.getD i []).getD j 0) hx hb 57 dX9_isWord_52 (by decide) (fun c52 => ?_) (fun c52 => ?_)
            · refine lv_iinc (v := nI (j + 1)) (lv' := [(2, .int (nI (j + 1))), (0, .ref (t 0)), (1, .ref (eK E i))]) hx hb dX9_isWord_57 hl (k := 0) rfl (nI_add j 1) (by decide) rfl (fun ls hl => ?_)
              refine lv_goto (tgt := 28) hx hb dX9_isWord_60 (by decide) ?_
              exact ih28 (j + 1) n2 (by omega) (by omega) (by rw [← hR, mtL, decide_eq_true c52, cond_true]) _ hl _ _ X
            · refine lv_iconst (v := 0) hx hb dX9_isWord_55 (by decide) ?_
              exact k_topi (x' := b2i (isWd tp k s e i)) (by rw [isWd, decide_eq_true c5, decide_eq_true c21, ← hR, mtL, decide_eq_false c52]; rfl) (fin () 56 _ _ _ trivial X dX9_isWord_56)
      exact lp28 ((kLen.getD i 0) + 1) 0 (kLen.getD i 0) (by omega) (by omega) (rfl) _ hl _ _ X
    · refine lv_iconst (v := 0) hx hb dX9_isWord_24 (by decide) ?_
      exact k_topi (x' := b2i (isWd tp k s e i)) (by rw [isWd, decide_eq_true c5, decide_eq_false c21]; rfl) (fin () 25 _ _ _ trivial X dX9_isWord_25)
set_option maxRecDepth 100000 in
set_option maxHeartbeats 4000000 in
theorem c_X11_feed (l : Launch) (E : EE) (a : Nat → Nat) (f : St) (g : St) (h : St) (ik : Int32) (one : Int32) (wo : Int32) (tp : Nat → Int32) (tk : Int32) (ts : Int32) (te : Int32) (tn : Int32) (rb : Nat → Int32) (rz : Nat → Int32) (rn : Nat → Nat → Int64) (td : Nat → Int32) (n : Nat) (x : Int32) (y : Int32) (hn : n ≤ 120) : Kd l yX11_feed cX11_feed 4 (some .int) 1 22 E (clsW E a f g h ik one wo tp (nI n) tk ts te tn rb rz rn td) [.ref (a 0), .int x, .int y] (some (.int ((oFeed td tp n x y).1))) (clsW E a f g h ik one wo ((oFeed td tp n x y).2.2.1) (nI (oFeed td tp n x y).2.2.2) tk ts te tn rb rz rn ((oFeed td tp n x y).2.1)) := by
  refine Kn.ofWi (by decide +kernel) (Nat.le_of_ble_eq_true rfl) (fun _ _ => rfl) ?_
  intro pg ev s0 mm below meth cd Q K X fin ls hl
  have hx := K.1
  have hb := K.2.1
  have hl : lv_has ls 4 [(0, .ref (a 0)), (1, .int x), (2, .int y)] := hl
  refine lv_iload_n hx hb dX11_feed_0 rfl (lv_at hl 2 rfl) ?_
  refine lv_iconst (v := 1) hx hb dX11_feed_1 (by decide) ?_
  refine lv_iconst (v := 4) hx hb dX11_feed_2 (by decide) ?_
  refine k_callS K X gs_X11_80 (As := [.int y, .int 1, .int 4]) (c_X11_within l E y 1 4) [] rfl (by decide +kernel) (fun _ => rfl) (by decide) rfl hl.1 (rest := []) rfl (Nat.le_of_ble_eq_true rfl) dX11_feed_3 (st1 := fun _ => [.int (b2i (inR y 1 4))]) (fun _ => rfl) (fun _ H locs _ X => ?_)
  have X : Wd E _ _ (clsW E a f g h ik one wo tp (nI n) tk ts te tn rb rz rn td) _ _ := X
  refine k_ifneB (B := (inR y 1 4)) hx hb 15 dX11_feed_6 (by decide) (fun c6 => ?_) (fun c6 => ?_)
  · obtain ⟨u, hu, rfl, hul, huh⟩ := inR_nat (n := 5) (by decide) (by decide) c6
    have hul : 1 ≤ u := by have h0 : ((1 : Int32).toInt) = 1 := (by decide); omega
    have eu : (nI u).toNatClampNeg = u := nI_clamp (by omega)
    refine lv_aload_n hx hb dX11_feed_15 rfl (lv_at hl 0 rfl) ?_
    refine k_get K X 0 rfl fg_X11_56 (v := .ref (a 23)) rfl dX11_feed_16 ?_
    refine k_getN K X 23 rfl fg_X11_217 (v := .int (nI n)) rfl dX11_feed_19 ?_
    refine lv_bipush (v := 120) hx hb dX11_feed_22 (by decide) ?_
    refine lv_iload_n hx hb dX11_feed_24 rfl (lv_at hl 2 rfl) ?_
    refine lv_isub hx hb dX11_feed_25 ?_
    refine k_topi (x' := nI (120 - u)) (pk_sub (a := 120) (b := u) (by omega)) ?_
    refine kN_le (x := n) (y := 120 - u) hx hb 35 dX11_feed_26 (by decide) (by omega) (by omega) (fun c26 => ?_) (fun c26 => ?_)
    · refine lv_iload_n hx hb dX11_feed_35 rfl (lv_at hl 2 rfl) ?_
      refine lv_iconst (v := 1) hx hb dX11_feed_36 (by decide) ?_
      refine lv_isub hx hb dX11_feed_37 ?_
      refine k_topi (x' := nI u + (-1)) (Int32.sub_eq_add_neg _ _) ?_
      refine lv_istore_n (lv' := [(3, .int (nI u + (-1))), (0, .ref (a 0)), (1, .int x), (2, .int (nI u))]) hx hb dX11_feed_38 rfl hl (by decide) rfl (fun ls hl => ?_)
      have lp39 : ∀ (fu : Nat) (i : Nat) (n1 : Nat) (tp1 : Nat → Int32) (hfu : i < fu) (hin : n1 + i ≤ 120) (hR : fdL x i tp1 n1 = fdL x u tp n) (ls : Array Slot) (hl : lv_has ls 4 [(3, .int (nI i + (-1))), (0, .ref (a 0)), (1, .int x), (2, .int (nI u))]) (H : Heap) (locs : List Loc) (X : Wd E (inW (clsW E a f g h ik one wo tp (nI n) tk ts te tn rb rz rn td)) s0.heap (clsW E a f g h ik one wo tp1 (nI n1) tk ts te tn rb rz rn td) H locs), W pg l ev (rmK 1 22) s0 mm ([.ref (a 0), .int x, .int (nI u)] : List Value).toArray below meth cd H locs 0 0 Q (F0 mm 39 ls []) := by
        intro fu
        induction fu with
        | zero => intro i n1 tp1 hfu; exact absurd hfu (Nat.not_lt_zero _)
        | succ fu ih39 =>
          intro i n1 tp1 hfu hin hR ls hl H locs X
          refine lv_iload_n hx hb dX11_feed_39 rfl (lv_at hl 0 rfl) ?_
          refine k_if_lt (x := nI i + (-1)) hx hb 66 dX11_feed_40 (by decide) (fun c40 => ?_) (fun c40 => ?_)
          · obtain rfl : i = 0 := m1_lt (by omega) c40
            refine lv_aload_n hx hb dX11_feed_66 rfl (lv_at hl 1 rfl) ?_
            refine k_get K X 0 rfl fg_X11_56 (v := .ref (a 23)) rfl dX11_feed_67 ?_
            refine k_getN K X 23 rfl fg_X11_217 (v := .int (nI n1)) rfl dX11_feed_70 ?_
            exact k_topi (x' := (oFeed td tp n x (nI u)).1) (by rw [oFeed, c6, cond_true, eu, decide_eq_true (show n + u ≤ 120 by omega), cond_true, ← hR]; rfl) (fin () 73 _ _ _ trivial (X.eq (by rw [oFeed, c6, cond_true, eu, decide_eq_true (show n + u ≤ 120 by omega), cond_true, ← hR]; rfl)) dX11_feed_73)
          · obtain ⟨i, rfl⟩ : ∃ z, i = z + 1 := m1_ge c40
            rw [pk_m1] at hl
            refine lv_aload_n hx hb dX11_feed_43 rfl (lv_at hl 1 rfl) ?_
            refine k_get K X 0 rfl fg_X11_56 (v := .ref (a 23)) rfl dX11_feed_44 ?_
            refine lv_iload_n hx hb dX11_feed_47 rfl (lv_at hl 2 rfl) ?_
            refine lv_bipush (v := 8) hx hb dX11_feed_48 (by decide) ?_
            refine lv_iload_n hx hb dX11_feed_50 rfl (lv_at hl 0 rfl) ?_
            refine lv_imul hx hb dX11_feed_51 ?_
            refine k_topi (pk_mul 8 i) ?_
            refine lv_ishr hx hb dX11_feed_52 ?_
            refine lv_sipush (v := 255) hx hb dX11_feed_53 (by decide) ?_
            refine lv_iand hx hb dX11_feed_56 ?_
            refine k_callV K X gv_X11_220 (As := [.int ((x >>> ((nI (8 * i)) &&& 31)) &&& 255)]) (c_X9_append l E (fun j => a (23 + j)) tp1 tk ts te tn n1 ((x >>> ((nI (8 * i)) &&& 31)) &&& 255) (by omega)) [23, 24] clsW_s13C (by decide +kernel) (fun _ => tapeW_fst) 0 9 rfl rfl (by decide) rfl hl.1 (rest := []) rfl (Nat.le_of_ble_eq_true rfl) dX11_feed_57 (st1 := fun _ => []) (fun _ => rfl) (fun _ H locs _ X => ?_)
            have X : Wd E _ _ (clsW E a f g h ik one wo (upd tp1 n1 ((x >>> ((nI (8 * i)) &&& 31)) &&& 255)) (nI (n1 + 1)) tk ts te tn rb rz rn td) _ _ := X.eq clsW_s13P
            refine lv_iinc (v := (nI i) + (-1)) (lv' := [(3, .int ((nI i) + (-1))), (0, .ref (a 0)), (1, .int x), (2, .int (nI u))]) hx hb dX11_feed_60 hl (k := 0) rfl (rfl) (by decide) rfl (fun ls hl => ?_)
            refine lv_goto (tgt := 39) hx hb dX11_feed_63 (by decide) ?_
            exact ih39 i (n1 + 1) (upd tp1 n1 ((x >>> ((nI (8 * i)) &&& 31)) &&& 255)) (by omega) (by omega) (by rw [← hR, fdL]) _ hl _ _ X
      exact lp39 (u + 1) u n tp (by omega) (by omega) (rfl) _ hl _ _ X
    · refine lv_aload_n hx hb dX11_feed_29 rfl (lv_at hl 0 rfl) ?_
      refine lv_iconst (v := 1) hx hb dX11_feed_30 (by decide) ?_
      refine k_callV K X gv_X11_84 (As := [.int 1]) (c_X11_finding l E a f g h ik one wo tp (nI n) tk ts te tn rb rz rn td 1 (by decide)) [0, 1, 2, 3, 4, 5, 6, 7, 8, 9, 10, 11, 12, 13, 14, 15, 16, 17, 18, 19, 20, 21, 22, 23, 24, 25, 26, 27, 28, 29, 30, 31, 32, 33, 34, 35, 36, 37, 38, 39, 40, 41, 42] clsW_idC (by decide +kernel) (fun _ => clsW_fst) 0 11 rfl rfl (by decide) rfl hl.1 (rest := []) rfl (Nat.le_of_ble_eq_true rfl) dX11_feed_31 (st1 := fun _ => [.int (fnd 1)]) (fun _ => rfl) (fun _ H locs _ X => ?_)
      have X : Wd E _ _ (clsW E a f g h ik one wo tp (nI n) tk ts te tn rb rz rn (fdU td 1)) _ _ := X.eq clsW_idP
      exact k_topi (x' := (oFeed td tp n x (nI u)).1) (by rw [oFeed, c6, cond_true, eu, decide_eq_false (show ¬ n + u ≤ 120 by omega)]; rfl) (fin () 34 _ _ _ trivial (X.eq (by rw [oFeed, c6, cond_true, eu, decide_eq_false (show ¬ n + u ≤ 120 by omega)]; rfl)) dX11_feed_34)
  · refine lv_aload_n hx hb dX11_feed_9 rfl (lv_at hl 0 rfl) ?_
    refine lv_iconst (v := 0) hx hb dX11_feed_10 (by decide) ?_
    refine k_callV K X gv_X11_84 (As := [.int 0]) (c_X11_finding l E a f g h ik one wo tp (nI n) tk ts te tn rb rz rn td 0 (by decide)) [0, 1, 2, 3, 4, 5, 6, 7, 8, 9, 10, 11, 12, 13, 14, 15, 16, 17, 18, 19, 20, 21, 22, 23, 24, 25, 26, 27, 28, 29, 30, 31, 32, 33, 34, 35, 36, 37, 38, 39, 40, 41, 42] clsW_idC (by decide +kernel) (fun _ => clsW_fst) 0 11 rfl rfl (by decide) rfl hl.1 (rest := []) rfl (Nat.le_of_ble_eq_true rfl) dX11_feed_11 (st1 := fun _ => [.int (fnd 0)]) (fun _ => rfl) (fun _ H locs _ X => ?_)
    have X : Wd E _ _ (clsW E a f g h ik one wo tp (nI n) tk ts te tn rb rz rn (fdU td 0)) _ _ := X.eq clsW_idP
    exact k_topi (x' := (oFeed td tp n x y).1) (by rw [oFeed, c6]; rfl) (fin () 14 _ _ _ trivial (X.eq (by rw [oFeed, c6]; rfl)) dX11_feed_14)
set_option maxRecDepth 100000 in
set_option maxHeartbeats 4000000 in
theorem c_X11_wipe (l : Launch) (E : EE) (a : Nat → Nat) (f : St) (g : St) (h : St) (ik : Int32) (one : Int32) (wo : Int32) (tp : Nat → Int32) (tk : Int32) (ts : Int32) (te : Int32) (tn : Int32) (rb : Nat → Int32) (rz : Nat → Int32) (rn : Nat → Nat → Int64) (td : Nat → Int32) (n : Nat) : Kd l yX11_wipe cX11_wipe 2 (some .int) 0 0 E (clsW E a f g h ik one wo tp (nI n) tk ts te tn rb rz rn td) [.ref (a 0)] (some (.int (nI n))) (clsW E a f g h ik one wo tp 0 tk ts te tn rb rz rn td) := by
  refine Kn.ofWi (by decide +kernel) (Nat.le_of_ble_eq_true rfl) (fun _ _ => rfl) ?_
  intro pg ev s0 mm below meth cd Q K X fin ls hl
  have hx := K.1
  have hb := K.2.1
  have hl : lv_has ls 2 [(0, .ref (a 0))] := hl
  refine lv_aload_n hx hb dX11_wipe_0 rfl (lv_at hl 0 rfl) ?_
  refine k_get K X 0 rfl fg_X11_56 (v := .ref (a 23)) rfl dX11_wipe_1 ?_
  refine k_getN K X 23 rfl fg_X11_217 (v := .int (nI n)) rfl dX11_wipe_4 ?_
  refine lv_istore_n (lv' := [(1, .int (nI n)), (0, .ref (a 0))]) hx hb dX11_wipe_7 rfl hl (by decide) rfl (fun ls hl => ?_)
  refine lv_aload_n hx hb dX11_wipe_8 rfl (lv_at hl 1 rfl) ?_
  refine k_get K X 0 rfl fg_X11_56 (v := .ref (a 23)) rfl dX11_wipe_9 ?_
  refine lv_iconst (v := 0) hx hb dX11_wipe_12 (by decide) ?_
  refine k_putN K X 23 rfl fp_X11_217 (v := .int 0) rfl rfl (Nat.le_of_ble_eq_true rfl) dX11_wipe_13 (fun H locs X => ?_)
  have X : Wd E _ _ (clsW E a f g h ik one wo tp 0 tk ts te tn rb rz rn td) _ _ := X
  refine lv_iload_n hx hb dX11_wipe_16 rfl (lv_at hl 0 rfl) ?_
  exact fin () 17 _ _ _ trivial X dX11_wipe_17
