theorem wantF_zero {T : Nat} {f : St} (I : Inv T f) {q : Nat} (h : pe f = 0) : wantF f q = -1 := by
  have hm : ∀ g, manyF f q g = 0 := fun g => by rw [manyF, h]; rfl
  simp [wantF, wmL, hm]
theorem wm_bm (f : St) (q : Nat) : ∀ (n i : Nat) (b : Int32) (m : Nat), m < 1000 → (∀ g, manyF f q g < 1000) → wmL f q n i b m = (bmL (fun _ => true) (fun g => nI (manyF f q (nI g))) (fun g => nI g) n i b (nI m)).1
  | 0, _, _, _, _, _ => rfl
  | n + 1, i, b, m, hm, hb => by
    rw [wmL, bmL]
    have h1 := hb (nI i)
    by_cases h : m < manyF f q (nI i)
    · rw [if_pos h, decide_eq_true ((nI_ltI (by omega) (by omega)).mpr h)]
      exact wm_bm f q n (i + 1) _ _ h1 hb
    · rw [if_neg h, decide_eq_false (fun z => h ((nI_ltI (by omega) (by omega)).mp z))]
      exact wm_bm f q n (i + 1) _ _ hm hb
/-- from worth 0 on instead of -1: the same, if one has more than 0 -/
theorem bm_zero (c v : Nat → Int32) : ∀ (n i : Nat) (b b' : Int32), (∀ j, i ≤ j → j < i + n → c j = 0 ∨ 0 < c j) → (∃ j, i ≤ j ∧ j < i + n ∧ 0 < c j) → (bmL (fun _ => true) c v n i b 0).1 = (bmL (fun _ => true) c v n i b' (-1)).1
  | 0, i, b, b', _, h => by obtain ⟨j, h1, h2, -⟩ := h; omega
  | n + 1, i, b, b', hc, h => by
    rw [bmL, bmL]
    rcases hc i (Nat.le_refl _) (by omega) with e | e
    · have h0 : ¬ (0 : Int32) < c i := by rw [e]; decide
      have h1 : (-1 : Int32) < c i := by rw [e]; decide
      rw [decide_eq_false h0, decide_eq_true h1]
      simp only [Bool.true_and, cond_false, cond_true]
      rw [e]
      have key : ∀ (n i : Nat) (b b' : Int32), (∃ j, i ≤ j ∧ j < i + n ∧ 0 < c j) → (bmL (fun _ => true) c v n i b 0).1 = (bmL (fun _ => true) c v n i b' 0).1 := by
        intro n
        induction n with
        | zero => intro i b b' h; obtain ⟨j, h1, h2, -⟩ := h; omega
        | succ n ih =>
          intro i b b' h
          rw [bmL, bmL]
          by_cases z : (0 : Int32) < c i
          · rw [decide_eq_true z]; rfl
          · rw [decide_eq_false z]
            exact ih (i + 1) b b' (by
              obtain ⟨j, h1, h2, h3⟩ := h
              have : j ≠ i := fun e => z (e ▸ h3)
              exact ⟨j, by omega, by omega, h3⟩)
      refine key n (i + 1) b (v i) ?_
      obtain ⟨j, h1, h2, h3⟩ := h
      have : j ≠ i := fun z => h0 (z ▸ h3)
      exact ⟨j, by omega, by omega, h3⟩
    · have h1 : (-1 : Int32) < c i := by
        rw [Int32.lt_iff_toInt_lt] at e ⊢
        have h2 : (-1 : Int32).toInt = -1 := by decide
        have h3 : (0 : Int32).toInt = 0 := by decide
        omega
      rw [decide_eq_true e, decide_eq_true h1]
      rfl
theorem cntL_ge (c : Nat → Bool) : ∀ (n i a : Nat), a ≤ cntL c n i a
  | 0, _, _ => Nat.le_refl _
  | n + 1, i, a => by
    rw [cntL]
    cases c i
    · exact cntL_ge c n (i + 1) a
    · exact Nat.le_trans (Nat.le_succ a) (cntL_ge c n (i + 1) (a + 1))
theorem wantF_bs {T : Nat} {f : St} (I : Inv T f) {q : Nat} (h : ¬ pe f = 0) (hq : q < 10) : (bsL (fun _ => true) (fun g => nI (manyF f q (nI g))) (fun g => nI g) 6 0 (-1) 0).1 = wantF f q := by
  have hb : ∀ g, manyF f q g < 1000 := fun g => by have := manyF_le I q g; omega
  rw [wantF, wm_bm f q 6 0 (-1) 0 (by decide) hb]
  rw [← bm_bs (fun _ => true) (fun g => nI (manyF f q (nI g))) (fun g => nI g) 6 0 (-1) 0 (-1) (-1) (fun j _ hj => ⟨nI_ne_m1 (by omega), nI_gt_m1 (by have := hb (nI j); omega)⟩) (Or.inl ⟨rfl, rfl, rfl⟩)]
  refine (bm_zero _ _ 6 0 (-1) (-1) (fun j _ _ => ?_) ?_).symm
  · rcases Nat.eq_zero_or_pos (manyF f q (nI j)) with e | e
    · exact Or.inl (by show nI _ = 0; rw [e]; rfl)
    · exact Or.inr ((nI_ltI (a := 0) (by decide) (by have := hb (nI j); omega)).mpr e)
  · obtain ⟨v, hv, ev⟩ := I.wn (j := 10 * 0 + q) (by omega)
    refine ⟨v, Nat.zero_le _, by omega, (nI_ltI (a := 0) (by decide) (by have := hb (nI v); omega)).mpr ?_⟩
    obtain ⟨m, hm⟩ : ∃ m, pe f = m + 1 := ⟨pe f - 1, by omega⟩
    rw [manyF, hm, cntL, ev, decide_eq_true rfl]
    exact cntL_ge _ m 1 1
set_option maxRecDepth 100000 in
set_option maxHeartbeats 4000000 in
theorem c_X11_finding (l : Launch) (E : EE) (a : Nat → Nat) (f : St) (g : St) (h : St) (ik : Int32) (one : Int32) (wo : Int32) (tp : Nat → Int32) (tl : Int32) (tk : Int32) (ts : Int32) (te : Int32) (tn : Int32) (rb : Nat → Int32) (rz : Nat → Int32) (rn : Nat → Nat → Int64) (td : Nat → Int32) (k : Nat) (hk : k < 7) : Kd l yX11_finding cX11_finding 2 (some .int) 0 0 E (clsW E a f g h ik one wo tp tl tk ts te tn rb rz rn td) [.ref (a 0), .int (nI k)] (some (.int (fnd k))) (clsW E a f g h ik one wo tp tl tk ts te tn rb rz rn (fdU td k)) := by
  refine Kn.ofWi (by decide +kernel) (Nat.le_of_ble_eq_true rfl) (fun _ _ => rfl) ?_
  intro pg ev s0 mm below meth cd Q K X fin ls hl
  have hx := K.1
  have hb := K.2.1
  have hl : lv_has ls 2 [(0, .ref (a 0)), (1, .int (nI k))] := hl
  refine lv_aload_n hx hb dX11_finding_0 rfl (lv_at hl 0 rfl) ?_
  refine k_get K X 0 rfl fg_X11_76 (v := .ref (a 35)) rfl dX11_finding_1 ?_
  refine lv_iload_n hx hb dX11_finding_4 rfl (lv_at hl 1 rfl) ?_
  refine lv_dup2_11 hx hb dX11_finding_5 rfl rfl ?_
  refine k_ialdN K X 35 rfl (k := k) (by omega) (by decide) dX11_finding_6 (v := td k) rfl ?_
  refine lv_iconst (v := 1) hx hb dX11_finding_7 (by decide) ?_
  refine lv_iadd hx hb dX11_finding_8 ?_
  refine k_iastN K X 35 rfl (k := k) (x := (td k) + 1) (by omega) (by decide) dX11_finding_9 (fun H locs X => ?_)
  have X : Wd E _ _ (clsW E a f g h ik one wo tp tl tk ts te tn rb rz rn (upd td k ((td k) + 1))) _ _ := X
  refine lv_ldcw (v := (-1000000001)) hx hb K.2.2.2.1 (K.2.2.2.2.1 _ (Mw_at 300 (by decide +kernel) (by decide +kernel))) dX11_finding_10 ?_
  refine lv_iload_n hx hb dX11_finding_13 rfl (lv_at hl 1 rfl) ?_
  refine lv_isub hx hb dX11_finding_14 ?_
  exact k_topi (x' := fnd k) (rfl) (fin () 15 _ _ _ trivial (X.eq (rfl)) dX11_finding_15)
set_option maxRecDepth 100000 in
set_option maxHeartbeats 4000000 in
theorem c_X11_noSlip (l : Launch) (E : EE) (a : Nat → Nat) (f : St) (g : St) (h : St) (ik : Int32) (one : Int32) (wo : Int32) (tp : Nat → Int32) (tl : Int32) (tk : Int32) (ts : Int32) (te : Int32) (tn : Int32) (rb : Nat → Int32) (rz : Nat → Int32) (rn : Nat → Nat → Int64) (td : Nat → Int32) (x : Int32) : Kd l yX11_noSlip cX11_noSlip 2 (some .boolean) 1 22 E (clsW E a f g h ik one wo tp tl tk ts te tn rb rz rn td) [.ref (a 0), .int x] (some (.int (b2i (!isS f x)))) (clsW E a f g h ik one wo tp tl tk ts te tn rb rz rn td) := by
  refine Kn.ofWi (by decide +kernel) (Nat.le_of_ble_eq_true rfl) (fun _ _ => b2i_nar _) ?_
  intro pg ev s0 mm below meth cd Q K X fin ls hl
  have hx := K.1
  have hb := K.2.1
  have hl : lv_has ls 2 [(0, .ref (a 0)), (1, .int x)] := hl
  refine lv_iload_n hx hb dX11_noSlip_0 rfl (lv_at hl 1 rfl) ?_
  refine lv_iconst (v := 0) hx hb dX11_noSlip_1 (by decide) ?_
  refine lv_aload_n hx hb dX11_noSlip_2 rfl (lv_at hl 0 rfl) ?_
  refine k_get K X 0 rfl fg_X11_30 (v := .ref (a 1)) rfl dX11_noSlip_3 ?_
  refine k_getN K X 1 rfl fg_X11_92 (v := .int (f 0 2)) rfl dX11_noSlip_6 ?_
  refine lv_iconst (v := 1) hx hb dX11_noSlip_9 (by decide) ?_
  refine lv_isub hx hb dX11_noSlip_10 ?_
  refine k_callS K X gs_X11_80 (As := [.int x, .int 0, .int ((f 0 2) - 1)]) (c_X11_within l E x 0 ((f 0 2) - 1)) [] rfl (by decide +kernel) (fun _ => rfl) (by decide) rfl hl.1 (rest := []) rfl (Nat.le_of_ble_eq_true rfl) dX11_noSlip_11 (st1 := fun _ => [.int (b2i (inR x 0 ((f 0 2) - 1)))]) (fun _ => rfl) (fun _ H locs _ X => ?_)
  have X : Wd E _ _ (clsW E a f g h ik one wo tp tl tk ts te tn rb rz rn td) _ _ := X
  refine k_ifneB (B := (inR x 0 ((f 0 2) - 1))) hx hb 21 dX11_noSlip_14 (by decide) (fun c14 => ?_) (fun c14 => ?_)
  · refine lv_iconst (v := 0) hx hb dX11_noSlip_21 (by decide) ?_
    exact k_topi (x' := b2i (!isS f x)) (by simp [isS, b2i, c14]) (fin () 22 _ _ _ trivial X dX11_noSlip_22)
  · refine lv_iconst (v := 1) hx hb dX11_noSlip_17 (by decide) ?_
    refine lv_goto (tgt := 22) hx hb dX11_noSlip_18 (by decide) ?_
    exact k_topi (x' := b2i (!isS f x)) (by simp [isS, b2i, c14]) (fin () 22 _ _ _ trivial X dX11_noSlip_22)
set_option maxRecDepth 100000 in
set_option maxHeartbeats 4000000 in
theorem c_X11_noPerson (l : Launch) (E : EE) (a : Nat → Nat) (f : St) (g : St) (h : St) (ik : Int32) (one : Int32) (wo : Int32) (tp : Nat → Int32) (tl : Int32) (tk : Int32) (ts : Int32) (te : Int32) (tn : Int32) (rb : Nat → Int32) (rz : Nat → Int32) (rn : Nat → Nat → Int64) (td : Nat → Int32) (x : Int32) : Kd l yX11_noPerson cX11_noPerson 2 (some .boolean) 1 22 E (clsW E a f g h ik one wo tp tl tk ts te tn rb rz rn td) [.ref (a 0), .int x] (some (.int (b2i (!isP f x)))) (clsW E a f g h ik one wo tp tl tk ts te tn rb rz rn td) := by
  refine Kn.ofWi (by decide +kernel) (Nat.le_of_ble_eq_true rfl) (fun _ _ => b2i_nar _) ?_
  intro pg ev s0 mm below meth cd Q K X fin ls hl
  have hx := K.1
  have hb := K.2.1
  have hl : lv_has ls 2 [(0, .ref (a 0)), (1, .int x)] := hl
  refine lv_iload_n hx hb dX11_noPerson_0 rfl (lv_at hl 1 rfl) ?_
  refine lv_iconst (v := 0) hx hb dX11_noPerson_1 (by decide) ?_
  refine lv_aload_n hx hb dX11_noPerson_2 rfl (lv_at hl 0 rfl) ?_
  refine k_get K X 0 rfl fg_X11_30 (v := .ref (a 1)) rfl dX11_noPerson_3 ?_
  refine k_getN K X 1 rfl fg_X11_141 (v := .int (f 0 3)) rfl dX11_noPerson_6 ?_
  refine lv_iconst (v := 1) hx hb dX11_noPerson_9 (by decide) ?_
  refine lv_isub hx hb dX11_noPerson_10 ?_
  refine k_callS K X gs_X11_80 (As := [.int x, .int 0, .int ((f 0 3) - 1)]) (c_X11_within l E x 0 ((f 0 3) - 1)) [] rfl (by decide +kernel) (fun _ => rfl) (by decide) rfl hl.1 (rest := []) rfl (Nat.le_of_ble_eq_true rfl) dX11_noPerson_11 (st1 := fun _ => [.int (b2i (inR x 0 ((f 0 3) - 1)))]) (fun _ => rfl) (fun _ H locs _ X => ?_)
  have X : Wd E _ _ (clsW E a f g h ik one wo tp tl tk ts te tn rb rz rn td) _ _ := X
  refine k_ifneB (B := (inR x 0 ((f 0 3) - 1))) hx hb 21 dX11_noPerson_14 (by decide) (fun c14 => ?_) (fun c14 => ?_)
  · refine lv_iconst (v := 0) hx hb dX11_noPerson_21 (by decide) ?_
    exact k_topi (x' := b2i (!isP f x)) (by simp [isP, b2i, c14]) (fin () 22 _ _ _ trivial X dX11_noPerson_22)
  · refine lv_iconst (v := 1) hx hb dX11_noPerson_17 (by decide) ?_
    refine lv_goto (tgt := 22) hx hb dX11_noPerson_18 (by decide) ?_
    exact k_topi (x' := b2i (!isP f x)) (by simp [isP, b2i, c14]) (fin () 22 _ _ _ trivial X dX11_noPerson_22)
set_option maxRecDepth 100000 in
set_option maxHeartbeats 4000000 in
theorem c_X11_put1 (l : Launch) (E : EE) (a : Nat → Nat) (f : St) (g : St) (h : St) (ik : Int32) (one : Int32) (wo : Int32) (tp : Nat → Int32) (tl : Int32) (tk : Int32) (ts : Int32) (te : Int32) (tn : Int32) (rb : Nat → Int32) (rz : Nat → Int32) (rn : Nat → Nat → Int64) (td : Nat → Int32) (k : Nat) (x : Int32) (y : Int32) (z : Int32) (hk : k < 10) : Kd l yX11_put cX11_put 7 (some .int) 1 22 E (clsW E a f g h ik one wo tp tl tk ts te tn rb rz rn td) [.ref (a 0), .ref (a 2), .int (nI k), .int x, .int y, .int z] (some (.int (cond (inR x y z) (f 1 k) (fnd 0)))) (clsW E a (cond (inR x y z) (up2 f 1 k x) f) g h ik one wo tp tl tk ts te tn rb rz rn (cond (inR x y z) td (fdU td 0))) := by
  refine Kn.ofWi (by decide +kernel) (Nat.le_of_ble_eq_true rfl) (fun _ _ => rfl) ?_
  intro pg ev s0 mm below meth cd Q K X fin ls hl
  have hx := K.1
  have hb := K.2.1
  have hl : lv_has ls 7 [(0, .ref (a 0)), (1, .ref (a 2)), (2, .int (nI k)), (3, .int x), (4, .int y), (5, .int z)] := hl
  refine lv_iload_n hx hb dX11_put_0 rfl (lv_at hl 3 rfl) ?_
  refine lv_iload hx hb dX11_put_1 (lv_at hl 4 rfl) ?_
  refine lv_iload hx hb dX11_put_3 (lv_at hl 5 rfl) ?_
  refine k_callS K X gs_X11_80 (As := [.int x, .int y, .int z]) (c_X11_within l E x y z) [] rfl (by decide +kernel) (fun _ => rfl) (by decide) rfl hl.1 (rest := []) rfl (Nat.le_of_ble_eq_true rfl) dX11_put_5 (st1 := fun _ => [.int (b2i (inR x y z))]) (fun _ => rfl) (fun _ H locs _ X => ?_)
  have X : Wd E _ _ (clsW E a f g h ik one wo tp tl tk ts te tn rb rz rn td) _ _ := X
  refine k_ifneB (B := (inR x y z)) hx hb 17 dX11_put_8 (by decide) (fun c8 => ?_) (fun c8 => ?_)
  · refine lv_aload_n hx hb dX11_put_17 rfl (lv_at hl 1 rfl) ?_
    refine lv_iload_n hx hb dX11_put_18 rfl (lv_at hl 2 rfl) ?_
    refine k_ialdN K X 2 rfl (k := k) (by omega) (by decide) dX11_put_19 (v := f 1 k) rfl ?_
    refine lv_istore (lv' := [(6, .int (f 1 k)), (0, .ref (a 0)), (1, .ref (a 2)), (2, .int (nI k)), (3, .int x), (4, .int y), (5, .int z)]) hx hb dX11_put_20 hl (by decide) rfl (fun ls hl => ?_)
    refine lv_aload_n hx hb dX11_put_22 rfl (lv_at hl 2 rfl) ?_
    refine lv_iload_n hx hb dX11_put_23 rfl (lv_at hl 3 rfl) ?_
    refine lv_iload_n hx hb dX11_put_24 rfl (lv_at hl 4 rfl) ?_
    refine k_iastN K X 2 rfl (k := k) (x := x) (by omega) (by decide) dX11_put_25 (fun H locs X => ?_)
    have X : Wd E _ _ (clsW E a (up2 f 1 k x) g h ik one wo tp tl tk ts te tn rb rz rn td) _ _ := X
    refine lv_iload hx hb dX11_put_26 (lv_at hl 0 rfl) ?_
    exact k_topi (x' := cond (inR x y z) (f 1 k) (fnd 0)) (by simp [c8]) (fin () 28 _ _ _ trivial (X.eq (by simp [c8])) dX11_put_28)
  · refine lv_aload_n hx hb dX11_put_11 rfl (lv_at hl 0 rfl) ?_
    refine lv_iconst (v := 0) hx hb dX11_put_12 (by decide) ?_
    refine k_callV K X gv_X11_84 (As := [.int 0]) (c_X11_finding l E a f g h ik one wo tp tl tk ts te tn rb rz rn td 0 (by decide)) [0, 1, 2, 3, 4, 5, 6, 7, 8, 9, 10, 11, 12, 13, 14, 15, 16, 17, 18, 19, 20, 21, 22, 23, 24, 25, 26, 27, 28, 29, 30, 31, 32, 33, 34, 35, 36, 37, 38, 39, 40, 41, 42] clsW_idC (by decide +kernel) (fun _ => clsW_fst) 0 11 rfl rfl (by decide) rfl hl.1 (rest := []) rfl (Nat.le_of_ble_eq_true rfl) dX11_put_13 (st1 := fun _ => [.int (fnd 0)]) (fun _ => rfl) (fun _ H locs _ X => ?_)
    have X : Wd E _ _ (clsW E a f g h ik one wo tp tl tk ts te tn rb rz rn (fdU td 0)) _ _ := X.eq clsW_idP
    exact k_topi (x' := cond (inR x y z) (f 1 k) (fnd 0)) (by simp [c8]) (fin () 16 _ _ _ trivial (X.eq (by simp [c8])) dX11_put_16)
set_option maxRecDepth 100000 in
set_option maxHeartbeats 4000000 in
theorem c_X11_put2 (l : Launch) (E : EE) (a : Nat → Nat) (f : St) (g : St) (h : St) (ik : Int32) (one : Int32) (wo : Int32) (tp : Nat → Int32) (tl : Int32) (tk : Int32) (ts : Int32) (te : Int32) (tn : Int32) (rb : Nat → Int32) (rz : Nat → Int32) (rn : Nat → Nat → Int64) (td : Nat → Int32) (k : Nat) (x : Int32) (y : Int32) (z : Int32) (hk : k < 10) : Kd l yX11_put cX11_put 7 (some .int) 1 22 E (clsW E a f g h ik one wo tp tl tk ts te tn rb rz rn td) [.ref (a 0), .ref (a 3), .int (nI k), .int x, .int y, .int z] (some (.int (cond (inR x y z) (f 2 k) (fnd 0)))) (clsW E a (cond (inR x y z) (up2 f 2 k x) f) g h ik one wo tp tl tk ts te tn rb rz rn (cond (inR x y z) td (fdU td 0))) := by
  refine Kn.ofWi (by decide +kernel) (Nat.le_of_ble_eq_true rfl) (fun _ _ => rfl) ?_
  intro pg ev s0 mm below meth cd Q K X fin ls hl
  have hx := K.1
  have hb := K.2.1
  have hl : lv_has ls 7 [(0, .ref (a 0)), (1, .ref (a 3)), (2, .int (nI k)), (3, .int x), (4, .int y), (5, .int z)] := hl
  refine lv_iload_n hx hb dX11_put_0 rfl (lv_at hl 3 rfl) ?_
  refine lv_iload hx hb dX11_put_1 (lv_at hl 4 rfl) ?_
  refine lv_iload hx hb dX11_put_3 (lv_at hl 5 rfl) ?_
  refine k_callS K X gs_X11_80 (As := [.int x, .int y, .int z]) (c_X11_within l E x y z) [] rfl (by decide +kernel) (fun _ => rfl) (by decide) rfl hl.1 (rest := []) rfl (Nat.le_of_ble_eq_true rfl) dX11_put_5 (st1 := fun _ => [.int (b2i (inR x y z))]) (fun _ => rfl) (fun _ H locs _ X => ?_)
  have X : Wd E _ _ (clsW E a f g h ik one wo tp tl tk ts te tn rb rz rn td) _ _ := X
  refine k_ifneB (B := (inR x y z)) hx hb 17 dX11_put_8 (by decide) (fun c8 => ?_) (fun c8 => ?_)
  · refine lv_aload_n hx hb dX11_put_17 rfl (lv_at hl 1 rfl) ?_
    refine lv_iload_n hx hb dX11_put_18 rfl (lv_at hl 2 rfl) ?_
    refine k_ialdN K X 3 rfl (k := k) (by omega) (by decide) dX11_put_19 (v := f 2 k) rfl ?_
    refine lv_istore (lv' := [(6, .int (f 2 k)), (0, .ref (a 0)), (1, .ref (a 3)), (2, .int (nI k)), (3, .int x), (4, .int y), (5, .int z)]) hx hb dX11_put_20 hl (by decide) rfl (fun ls hl => ?_)
    refine lv_aload_n hx hb dX11_put_22 rfl (lv_at hl 2 rfl) ?_
    refine lv_iload_n hx hb dX11_put_23 rfl (lv_at hl 3 rfl) ?_
    refine lv_iload_n hx hb dX11_put_24 rfl (lv_at hl 4 rfl) ?_
    refine k_iastN K X 3 rfl (k := k) (x := x) (by omega) (by decide) dX11_put_25 (fun H locs X => ?_)
    have X : Wd E _ _ (clsW E a (up2 f 2 k x) g h ik one wo tp tl tk ts te tn rb rz rn td) _ _ := X
    refine lv_iload hx hb dX11_put_26 (lv_at hl 0 rfl) ?_
    exact k_topi (x' := cond (inR x y z) (f 2 k) (fnd 0)) (by simp [c8]) (fin () 28 _ _ _ trivial (X.eq (by simp [c8])) dX11_put_28)
  · refine lv_aload_n hx hb dX11_put_11 rfl (lv_at hl 0 rfl) ?_
    refine lv_iconst (v := 0) hx hb dX11_put_12 (by decide) ?_
    refine k_callV K X gv_X11_84 (As := [.int 0]) (c_X11_finding l E a f g h ik one wo tp tl tk ts te tn rb rz rn td 0 (by decide)) [0, 1, 2, 3, 4, 5, 6, 7, 8, 9, 10, 11, 12, 13, 14, 15, 16, 17, 18, 19, 20, 21, 22, 23, 24, 25, 26, 27, 28, 29, 30, 31, 32, 33, 34, 35, 36, 37, 38, 39, 40, 41, 42] clsW_idC (by decide +kernel) (fun _ => clsW_fst) 0 11 rfl rfl (by decide) rfl hl.1 (rest := []) rfl (Nat.le_of_ble_eq_true rfl) dX11_put_13 (st1 := fun _ => [.int (fnd 0)]) (fun _ => rfl) (fun _ H locs _ X => ?_)
    have X : Wd E _ _ (clsW E a f g h ik one wo tp tl tk ts te tn rb rz rn (fdU td 0)) _ _ := X.eq clsW_idP
    exact k_topi (x' := cond (inR x y z) (f 2 k) (fnd 0)) (by simp [c8]) (fin () 16 _ _ _ trivial (X.eq (by simp [c8])) dX11_put_16)
set_option maxRecDepth 100000 in
set_option maxHeartbeats 4000000 in
theorem c_X11_put3 (l : Launch) (E : EE) (a : Nat → Nat) (f : St) (g : St) (h : St) (ik : Int32) (one : Int32) (wo : Int32) (tp : Nat → Int32) (tl : Int32) (tk : Int32) (ts : Int32) (te : Int32) (tn : Int32) (rb : Nat → Int32) (rz : Nat → Int32) (rn : Nat → Nat → Int64) (td : Nat → Int32) (k : Nat) (x : Int32) (y : Int32) (z : Int32) (hk : k < 10) : Kd l yX11_put cX11_put 7 (some .int) 1 22 E (clsW E a f g h ik one wo tp tl tk ts te tn rb rz rn td) [.ref (a 0), .ref (a 4), .int (nI k), .int x, .int y, .int z] (some (.int (cond (inR x y z) (f 3 k) (fnd 0)))) (clsW E a (cond (inR x y z) (up2 f 3 k x) f) g h ik one wo tp tl tk ts te tn rb rz rn (cond (inR x y z) td (fdU td 0))) := by
  refine Kn.ofWi (by decide +kernel) (Nat.le_of_ble_eq_true rfl) (fun _ _ => rfl) ?_
  intro pg ev s0 mm below meth cd Q K X fin ls hl
  have hx := K.1
  have hb := K.2.1
  have hl : lv_has ls 7 [(0, .ref (a 0)), (1, .ref (a 4)), (2, .int (nI k)), (3, .int x), (4, .int y), (5, .int z)] := hl
  refine lv_iload_n hx hb dX11_put_0 rfl (lv_at hl 3 rfl) ?_
  refine lv_iload hx hb dX11_put_1 (lv_at hl 4 rfl) ?_
  refine lv_iload hx hb dX11_put_3 (lv_at hl 5 rfl) ?_
  refine k_callS K X gs_X11_80 (As := [.int x, .int y, .int z]) (c_X11_within l E x y z) [] rfl (by decide +kernel) (fun _ => rfl) (by decide) rfl hl.1 (rest := []) rfl (Nat.le_of_ble_eq_true rfl) dX11_put_5 (st1 := fun _ => [.int (b2i (inR x y z))]) (fun _ => rfl) (fun _ H locs _ X => ?_)
  have X : Wd E _ _ (clsW E a f g h ik one wo tp tl tk ts te tn rb rz rn td) _ _ := X
  refine k_ifneB (B := (inR x y z)) hx hb 17 dX11_put_8 (by decide) (fun c8 => ?_) (fun c8 => ?_)
  · refine lv_aload_n hx hb dX11_put_17 rfl (lv_at hl 1 rfl) ?_
    refine lv_iload_n hx hb dX11_put_18 rfl (lv_at hl 2 rfl) ?_
    refine k_ialdN K X 4 rfl (k := k) (by omega) (by decide) dX11_put_19 (v := f 3 k) rfl ?_
    refine lv_istore (lv' := [(6, .int (f 3 k)), (0, .ref (a 0)), (1, .ref (a 4)), (2, .int (nI k)), (3, .int x), (4, .int y), (5, .int z)]) hx hb dX11_put_20 hl (by decide) rfl (fun ls hl => ?_)
    refine lv_aload_n hx hb dX11_put_22 rfl (lv_at hl 2 rfl) ?_
    refine lv_iload_n hx hb dX11_put_23 rfl (lv_at hl 3 rfl) ?_
    refine lv_iload_n hx hb dX11_put_24 rfl (lv_at hl 4 rfl) ?_
    refine k_iastN K X 4 rfl (k := k) (x := x) (by omega) (by decide) dX11_put_25 (fun H locs X => ?_)
    have X : Wd E _ _ (clsW E a (up2 f 3 k x) g h ik one wo tp tl tk ts te tn rb rz rn td) _ _ := X
    refine lv_iload hx hb dX11_put_26 (lv_at hl 0 rfl) ?_
    exact k_topi (x' := cond (inR x y z) (f 3 k) (fnd 0)) (by simp [c8]) (fin () 28 _ _ _ trivial (X.eq (by simp [c8])) dX11_put_28)
  · refine lv_aload_n hx hb dX11_put_11 rfl (lv_at hl 0 rfl) ?_
    refine lv_iconst (v := 0) hx hb dX11_put_12 (by decide) ?_
    refine k_callV K X gv_X11_84 (As := [.int 0]) (c_X11_finding l E a f g h ik one wo tp tl tk ts te tn rb rz rn td 0 (by decide)) [0, 1, 2, 3, 4, 5, 6, 7, 8, 9, 10, 11, 12, 13, 14, 15, 16, 17, 18, 19, 20, 21, 22, 23, 24, 25, 26, 27, 28, 29, 30, 31, 32, 33, 34, 35, 36, 37, 38, 39, 40, 41, 42] clsW_idC (by decide +kernel) (fun _ => clsW_fst) 0 11 rfl rfl (by decide) rfl hl.1 (rest := []) rfl (Nat.le_of_ble_eq_true rfl) dX11_put_13 (st1 := fun _ => [.int (fnd 0)]) (fun _ => rfl) (fun _ H locs _ X => ?_)
    have X : Wd E _ _ (clsW E a f g h ik one wo tp tl tk ts te tn rb rz rn (fdU td 0)) _ _ := X.eq clsW_idP
    exact k_topi (x' := cond (inR x y z) (f 3 k) (fnd 0)) (by simp [c8]) (fin () 16 _ _ _ trivial (X.eq (by simp [c8])) dX11_put_16)
set_option maxRecDepth 100000 in
set_option maxHeartbeats 4000000 in
theorem c_X11_put4 (l : Launch) (E : EE) (a : Nat → Nat) (f : St) (g : St) (h : St) (ik : Int32) (one : Int32) (wo : Int32) (tp : Nat → Int32) (tl : Int32) (tk : Int32) (ts : Int32) (te : Int32) (tn : Int32) (rb : Nat → Int32) (rz : Nat → Int32) (rn : Nat → Nat → Int64) (td : Nat → Int32) (k : Nat) (x : Int32) (y : Int32) (z : Int32) (hk : k < 6) : Kd l yX11_put cX11_put 7 (some .int) 1 22 E (clsW E a f g h ik one wo tp tl tk ts te tn rb rz rn td) [.ref (a 0), .ref (a 5), .int (nI k), .int x, .int y, .int z] (some (.int (cond (inR x y z) (f 4 k) (fnd 0)))) (clsW E a (cond (inR x y z) (up2 f 4 k x) f) g h ik one wo tp tl tk ts te tn rb rz rn (cond (inR x y z) td (fdU td 0))) := by
  refine Kn.ofWi (by decide +kernel) (Nat.le_of_ble_eq_true rfl) (fun _ _ => rfl) ?_
  intro pg ev s0 mm below meth cd Q K X fin ls hl
  have hx := K.1
  have hb := K.2.1
  have hl : lv_has ls 7 [(0, .ref (a 0)), (1, .ref (a 5)), (2, .int (nI k)), (3, .int x), (4, .int y), (5, .int z)] := hl
  refine lv_iload_n hx hb dX11_put_0 rfl (lv_at hl 3 rfl) ?_
  refine lv_iload hx hb dX11_put_1 (lv_at hl 4 rfl) ?_
  refine lv_iload hx hb dX11_put_3 (lv_at hl 5 rfl) ?_
  refine k_callS K X gs_X11_80 (As := [.int x, .int y, .int z]) (c_X11_within l E x y z) [] rfl (by decide +kernel) (fun _ => rfl) (by decide) rfl hl.1 (rest := []) rfl (Nat.le_of_ble_eq_true rfl) dX11_put_5 (st1 := fun _ => [.int (b2i (inR x y z))]) (fun _ => rfl) (fun _ H locs _ X => ?_)
  have X : Wd E _ _ (clsW E a f g h ik one wo tp tl tk ts te tn rb rz rn td) _ _ := X
  refine k_ifneB (B := (inR x y z)) hx hb 17 dX11_put_8 (by decide) (fun c8 => ?_) (fun c8 => ?_)
  · refine lv_aload_n hx hb dX11_put_17 rfl (lv_at hl 1 rfl) ?_
    refine lv_iload_n hx hb dX11_put_18 rfl (lv_at hl 2 rfl) ?_
    refine k_ialdN K X 5 rfl (k := k) (by omega) (by decide) dX11_put_19 (v := f 4 k) rfl ?_
    refine lv_istore (lv' := [(6, .int (f 4 k)), (0, .ref (a 0)), (1, .ref (a 5)), (2, .int (nI k)), (3, .int x), (4, .int y), (5, .int z)]) hx hb dX11_put_20 hl (by decide) rfl (fun ls hl => ?_)
    refine lv_aload_n hx hb dX11_put_22 rfl (lv_at hl 2 rfl) ?_
    refine lv_iload_n hx hb dX11_put_23 rfl (lv_at hl 3 rfl) ?_
    refine lv_iload_n hx hb dX11_put_24 rfl (lv_at hl 4 rfl) ?_
    refine k_iastN K X 5 rfl (k := k) (x := x) (by omega) (by decide) dX11_put_25 (fun H locs X => ?_)
    have X : Wd E _ _ (clsW E a (up2 f 4 k x) g h ik one wo tp tl tk ts te tn rb rz rn td) _ _ := X
    refine lv_iload hx hb dX11_put_26 (lv_at hl 0 rfl) ?_
    exact k_topi (x' := cond (inR x y z) (f 4 k) (fnd 0)) (by simp [c8]) (fin () 28 _ _ _ trivial (X.eq (by simp [c8])) dX11_put_28)
  · refine lv_aload_n hx hb dX11_put_11 rfl (lv_at hl 0 rfl) ?_
    refine lv_iconst (v := 0) hx hb dX11_put_12 (by decide) ?_
    refine k_callV K X gv_X11_84 (As := [.int 0]) (c_X11_finding l E a f g h ik one wo tp tl tk ts te tn rb rz rn td 0 (by decide)) [0, 1, 2, 3, 4, 5, 6, 7, 8, 9, 10, 11, 12, 13, 14, 15, 16, 17, 18, 19, 20, 21, 22, 23, 24, 25, 26, 27, 28, 29, 30, 31, 32, 33, 34, 35, 36, 37, 38, 39, 40, 41, 42] clsW_idC (by decide +kernel) (fun _ => clsW_fst) 0 11 rfl rfl (by decide) rfl hl.1 (rest := []) rfl (Nat.le_of_ble_eq_true rfl) dX11_put_13 (st1 := fun _ => [.int (fnd 0)]) (fun _ => rfl) (fun _ H locs _ X => ?_)
    have X : Wd E _ _ (clsW E a f g h ik one wo tp tl tk ts te tn rb rz rn (fdU td 0)) _ _ := X.eq clsW_idP
    exact k_topi (x' := cond (inR x y z) (f 4 k) (fnd 0)) (by simp [c8]) (fin () 16 _ _ _ trivial (X.eq (by simp [c8])) dX11_put_16)
set_option maxRecDepth 100000 in
set_option maxHeartbeats 4000000 in
theorem c_X11_put5 (l : Launch) (E : EE) (a : Nat → Nat) (f : St) (g : St) (h : St) (ik : Int32) (one : Int32) (wo : Int32) (tp : Nat → Int32) (tl : Int32) (tk : Int32) (ts : Int32) (te : Int32) (tn : Int32) (rb : Nat → Int32) (rz : Nat → Int32) (rn : Nat → Nat → Int64) (td : Nat → Int32) (k : Nat) (x : Int32) (y : Int32) (z : Int32) (hk : k < 6) : Kd l yX11_put cX11_put 7 (some .int) 1 22 E (clsW E a f g h ik one wo tp tl tk ts te tn rb rz rn td) [.ref (a 0), .ref (a 6), .int (nI k), .int x, .int y, .int z] (some (.int (cond (inR x y z) (f 5 k) (fnd 0)))) (clsW E a (cond (inR x y z) (up2 f 5 k x) f) g h ik one wo tp tl tk ts te tn rb rz rn (cond (inR x y z) td (fdU td 0))) := by
  refine Kn.ofWi (by decide +kernel) (Nat.le_of_ble_eq_true rfl) (fun _ _ => rfl) ?_
  intro pg ev s0 mm below meth cd Q K X fin ls hl
  have hx := K.1
  have hb := K.2.1
  have hl : lv_has ls 7 [(0, .ref (a 0)), (1, .ref (a 6)), (2, .int (nI k)), (3, .int x), (4, .int y), (5, .int z)] := hl
  refine lv_iload_n hx hb dX11_put_0 rfl (lv_at hl 3 rfl) ?_
  refine lv_iload hx hb dX11_put_1 (lv_at hl 4 rfl) ?_
  refine lv_iload hx hb dX11_put_3 (lv_at hl 5 rfl) ?_
  refine k_callS K X gs_X11_80 (As := [.int x, .int y, .int z]) (c_X11_within l E x y z) [] rfl (by decide +kernel) (fun _ => rfl) (by decide) rfl hl.1 (rest := []) rfl (Nat.le_of_ble_eq_true rfl) dX11_put_5 (st1 := fun _ => [.int (b2i (inR x y z))]) (fun _ => rfl) (fun _ H locs _ X => ?_)
  have X : Wd E _ _ (clsW E a f g h ik one wo tp tl tk ts te tn rb rz rn td) _ _ := X
  refine k_ifneB (B := (inR x y z)) hx hb 17 dX11_put_8 (by decide) (fun c8 => ?_) (fun c8 => ?_)
  · refine lv_aload_n hx hb dX11_put_17 rfl (lv_at hl 1 rfl) ?_
    refine lv_iload_n hx hb dX11_put_18 rfl (lv_at hl 2 rfl) ?_
    refine k_ialdN K X 6 rfl (k := k) (by omega) (by decide) dX11_put_19 (v := f 5 k) rfl ?_
    refine lv_istore (lv' := [(6, .int (f 5 k)), (0, .ref (a 0)), (1, .ref (a 6)), (2, .int (nI k)), (3, .int x), (4, .int y), (5, .int z)]) hx hb dX11_put_20 hl (by decide) rfl (fun ls hl => ?_)
    refine lv_aload_n hx hb dX11_put_22 rfl (lv_at hl 2 rfl) ?_
    refine lv_iload_n hx hb dX11_put_23 rfl (lv_at hl 3 rfl) ?_
    refine lv_iload_n hx hb dX11_put_24 rfl (lv_at hl 4 rfl) ?_
    refine k_iastN K X 6 rfl (k := k) (x := x) (by omega) (by decide) dX11_put_25 (fun H locs X => ?_)
    have X : Wd E _ _ (clsW E a (up2 f 5 k x) g h ik one wo tp tl tk ts te tn rb rz rn td) _ _ := X
    refine lv_iload hx hb dX11_put_26 (lv_at hl 0 rfl) ?_
    exact k_topi (x' := cond (inR x y z) (f 5 k) (fnd 0)) (by simp [c8]) (fin () 28 _ _ _ trivial (X.eq (by simp [c8])) dX11_put_28)
  · refine lv_aload_n hx hb dX11_put_11 rfl (lv_at hl 0 rfl) ?_
    refine lv_iconst (v := 0) hx hb dX11_put_12 (by decide) ?_
    refine k_callV K X gv_X11_84 (As := [.int 0]) (c_X11_finding l E a f g h ik one wo tp tl tk ts te tn rb rz rn td 0 (by decide)) [0, 1, 2, 3, 4, 5, 6, 7, 8, 9, 10, 11, 12, 13, 14, 15, 16, 17, 18, 19, 20, 21, 22, 23, 24, 25, 26, 27, 28, 29, 30, 31, 32, 33, 34, 35, 36, 37, 38, 39, 40, 41, 42] clsW_idC (by decide +kernel) (fun _ => clsW_fst) 0 11 rfl rfl (by decide) rfl hl.1 (rest := []) rfl (Nat.le_of_ble_eq_true rfl) dX11_put_13 (st1 := fun _ => [.int (fnd 0)]) (fun _ => rfl) (fun _ H locs _ X => ?_)
    have X : Wd E _ _ (clsW E a f g h ik one wo tp tl tk ts te tn rb rz rn (fdU td 0)) _ _ := X.eq clsW_idP
    exact k_topi (x' := cond (inR x y z) (f 5 k) (fnd 0)) (by simp [c8]) (fin () 16 _ _ _ trivial (X.eq (by simp [c8])) dX11_put_16)
set_option maxRecDepth 100000 in
set_option maxHeartbeats 4000000 in
theorem c_X11_put6 (l : Launch) (E : EE) (a : Nat → Nat) (f : St) (g : St) (h : St) (ik : Int32) (one : Int32) (wo : Int32) (tp : Nat → Int32) (tl : Int32) (tk : Int32) (ts : Int32) (te : Int32) (tn : Int32) (rb : Nat → Int32) (rz : Nat → Int32) (rn : Nat → Nat → Int64) (td : Nat → Int32) (k : Nat) (x : Int32) (y : Int32) (z : Int32) (hk : k < 60) : Kd l yX11_put cX11_put 7 (some .int) 1 22 E (clsW E a f g h ik one wo tp tl tk ts te tn rb rz rn td) [.ref (a 0), .ref (a 7), .int (nI k), .int x, .int y, .int z] (some (.int (cond (inR x y z) (f 6 k) (fnd 0)))) (clsW E a (cond (inR x y z) (up2 f 6 k x) f) g h ik one wo tp tl tk ts te tn rb rz rn (cond (inR x y z) td (fdU td 0))) := by
  refine Kn.ofWi (by decide +kernel) (Nat.le_of_ble_eq_true rfl) (fun _ _ => rfl) ?_
  intro pg ev s0 mm below meth cd Q K X fin ls hl
  have hx := K.1
  have hb := K.2.1
  have hl : lv_has ls 7 [(0, .ref (a 0)), (1, .ref (a 7)), (2, .int (nI k)), (3, .int x), (4, .int y), (5, .int z)] := hl
  refine lv_iload_n hx hb dX11_put_0 rfl (lv_at hl 3 rfl) ?_
  refine lv_iload hx hb dX11_put_1 (lv_at hl 4 rfl) ?_
  refine lv_iload hx hb dX11_put_3 (lv_at hl 5 rfl) ?_
  refine k_callS K X gs_X11_80 (As := [.int x, .int y, .int z]) (c_X11_within l E x y z) [] rfl (by decide +kernel) (fun _ => rfl) (by decide) rfl hl.1 (rest := []) rfl (Nat.le_of_ble_eq_true rfl) dX11_put_5 (st1 := fun _ => [.int (b2i (inR x y z))]) (fun _ => rfl) (fun _ H locs _ X => ?_)
  have X : Wd E _ _ (clsW E a f g h ik one wo tp tl tk ts te tn rb rz rn td) _ _ := X
  refine k_ifneB (B := (inR x y z)) hx hb 17 dX11_put_8 (by decide) (fun c8 => ?_) (fun c8 => ?_)
  · refine lv_aload_n hx hb dX11_put_17 rfl (lv_at hl 1 rfl) ?_
    refine lv_iload_n hx hb dX11_put_18 rfl (lv_at hl 2 rfl) ?_
    refine k_ialdN K X 7 rfl (k := k) (by omega) (by decide) dX11_put_19 (v := f 6 k) rfl ?_
    refine lv_istore (lv' := [(6, .int (f 6 k)), (0, .ref (a 0)), (1, .ref (a 7)), (2, .int (nI k)), (3, .int x), (4, .int y), (5, .int z)]) hx hb dX11_put_20 hl (by decide) rfl (fun ls hl => ?_)
    refine lv_aload_n hx hb dX11_put_22 rfl (lv_at hl 2 rfl) ?_
    refine lv_iload_n hx hb dX11_put_23 rfl (lv_at hl 3 rfl) ?_
    refine lv_iload_n hx hb dX11_put_24 rfl (lv_at hl 4 rfl) ?_
    refine k_iastN K X 7 rfl (k := k) (x := x) (by omega) (by decide) dX11_put_25 (fun H locs X => ?_)
    have X : Wd E _ _ (clsW E a (up2 f 6 k x) g h ik one wo tp tl tk ts te tn rb rz rn td) _ _ := X
    refine lv_iload hx hb dX11_put_26 (lv_at hl 0 rfl) ?_
    exact k_topi (x' := cond (inR x y z) (f 6 k) (fnd 0)) (by simp [c8]) (fin () 28 _ _ _ trivial (X.eq (by simp [c8])) dX11_put_28)
  · refine lv_aload_n hx hb dX11_put_11 rfl (lv_at hl 0 rfl) ?_
    refine lv_iconst (v := 0) hx hb dX11_put_12 (by decide) ?_
    refine k_callV K X gv_X11_84 (As := [.int 0]) (c_X11_finding l E a f g h ik one wo tp tl tk ts te tn rb rz rn td 0 (by decide)) [0, 1, 2, 3, 4, 5, 6, 7, 8, 9, 10, 11, 12, 13, 14, 15, 16, 17, 18, 19, 20, 21, 22, 23, 24, 25, 26, 27, 28, 29, 30, 31, 32, 33, 34, 35, 36, 37, 38, 39, 40, 41, 42] clsW_idC (by decide +kernel) (fun _ => clsW_fst) 0 11 rfl rfl (by decide) rfl hl.1 (rest := []) rfl (Nat.le_of_ble_eq_true rfl) dX11_put_13 (st1 := fun _ => [.int (fnd 0)]) (fun _ => rfl) (fun _ H locs _ X => ?_)
    have X : Wd E _ _ (clsW E a f g h ik one wo tp tl tk ts te tn rb rz rn (fdU td 0)) _ _ := X.eq clsW_idP
    exact k_topi (x' := cond (inR x y z) (f 6 k) (fnd 0)) (by simp [c8]) (fin () 16 _ _ _ trivial (X.eq (by simp [c8])) dX11_put_16)
set_option maxRecDepth 100000 in
set_option maxHeartbeats 4000000 in
theorem c_X11_tryOn (l : Launch) (E : EE) (a : Nat → Nat) (f : St) (g : St) (h : St) (ik : Int32) (one : Int32) (wo : Int32) (tp : Nat → Int32) (tl : Int32) (tk : Int32) (ts : Int32) (te : Int32) (tn : Int32) (rb : Nat → Int32) (rz : Nat → Int32) (rn : Nat → Nat → Int64) (td : Nat → Int32) (T : Nat) (u : Nat) (I : Inv T f) (hT : T + u < 1000000) : Kd l yX11_tryOn cX11_tryOn 2 none 6 140 E (clsW E a f g h ik one wo tp tl tk ts te tn rb rz rn td) [.ref (a 0), .int (nI u)] none (clsW E a f (goN u f) h ik one wo tp tl tk ts te tn rb rz rn td) := by
  refine Kn.ofWv (by decide +kernel) (Nat.le_of_ble_eq_true rfl) ?_
  intro pg ev s0 mm below meth cd Q K X fin ls hl
  have hx := K.1
  have hb := K.2.1
  have hs10 := I.s10
  have hp6 := I.p6
  have hl : lv_has ls 2 [(0, .ref (a 0)), (1, .int (nI u))] := hl
  refine lv_aload_n hx hb dX11_tryOn_0 rfl (lv_at hl 0 rfl) ?_
  refine k_get K X 0 rfl fg_X11_36 (v := .ref (a 8)) rfl dX11_tryOn_1 ?_
  refine lv_aload_n hx hb dX11_tryOn_4 rfl (lv_at hl 0 rfl) ?_
  refine k_get K X 0 rfl fg_X11_30 (v := .ref (a 1)) rfl dX11_tryOn_5 ?_
  refine k_callV K X gv_X11_189 (As := [.ref (a 1)]) (c_X6_copyFrom l E (fun j => a (8 + j)) (fun j => a (1 + j)) (fun j => a (36 + j)) g f) [8, 9, 10, 11, 12, 13, 14, 1, 2, 3, 4, 5, 6, 7] clsW_s8C (by decide +kernel) (fun _ => room2_fst) 0 6 rfl rfl (by decide) rfl hl.1 (rest := []) rfl (Nat.le_of_ble_eq_true rfl) dX11_tryOn_8 (st1 := fun _ => []) (fun _ => rfl) (fun _ H locs _ X => ?_)
  have X : Wd E _ _ (clsW E a f f h ik one wo tp tl tk ts te tn rb rz rn td) _ _ := X.eq clsW_s8P
  refine lv_aload_n hx hb dX11_tryOn_11 rfl (lv_at hl 0 rfl) ?_
  refine k_get K X 0 rfl fg_X11_36 (v := .ref (a 8)) rfl dX11_tryOn_12 ?_
  refine lv_iload_n hx hb dX11_tryOn_15 rfl (lv_at hl 1 rfl) ?_
  refine k_callV K X gv_X11_182 (As := [.int (nI u)]) (c_X6_passMinutes l E (fun j => a (8 + j)) (fun j => a (36 + j)) f T u I (by omega)) [8, 9, 10, 11, 12, 13, 14, 36, 37, 38, 39, 40, 41, 42] clsW_s1C (by decide +kernel) (fun _ => roomK_fst) 0 6 rfl rfl (by decide) rfl hl.1 (rest := []) rfl (Nat.le_of_ble_eq_true rfl) dX11_tryOn_16 (st1 := fun _ => []) (fun _ => rfl) (fun _ H locs _ X => ?_)
  have X : Wd E _ _ (clsW E a f (goN u f) h ik one wo tp tl tk ts te tn rb rz rn td) _ _ := X.eq clsW_s1P
  exact fin () 19 _ _ _ trivial X dX11_tryOn_19
set_option maxRecDepth 100000 in
set_option maxHeartbeats 4000000 in
theorem c_X11_wayOfTrial (l : Launch) (E : EE) (a : Nat → Nat) (f : St) (g : St) (h : St) (ik : Int32) (one : Int32) (wo : Int32) (tp : Nat → Int32) (tl : Int32) (tk : Int32) (ts : Int32) (te : Int32) (tn : Int32) (rb : Nat → Int32) (rz : Nat → Int32) (rn : Nat → Nat → Int64) (td : Nat → Int32) (T : Nat) (p : Nat) (u : Nat) (Ig : Inv T g) (hp : p < 6) (hT : T + u < 1000000) : Kd l yX11_wayOfTrial cX11_wayOfTrial 3 (some .int) 6 140 E (clsW E a f g h ik one wo tp tl tk ts te tn rb rz rn td) [.ref (a 0), .int (nI p), .int (nI u)] (some (.int (bcF (wayF (goN u g) p)))) (clsW E a f (goN u g) h ik one wo tp tl tk ts te tn rb rz rn td) := by
  refine Kn.ofWi (by decide +kernel) (Nat.le_of_ble_eq_true rfl) (fun _ _ => rfl) ?_
  intro pg ev s0 mm below meth cd Q K X fin ls hl
  have hx := K.1
  have hb := K.2.1
  have hl : lv_has ls 3 [(0, .ref (a 0)), (1, .int (nI p)), (2, .int (nI u))] := hl
  refine lv_aload_n hx hb dX11_wayOfTrial_0 rfl (lv_at hl 0 rfl) ?_
  refine k_get K X 0 rfl fg_X11_36 (v := .ref (a 8)) rfl dX11_wayOfTrial_1 ?_
  refine lv_iload_n hx hb dX11_wayOfTrial_4 rfl (lv_at hl 2 rfl) ?_
  refine k_callV K X gv_X11_182 (As := [.int (nI u)]) (c_X6_passMinutes l E (fun j => a (8 + j)) (fun j => a (36 + j)) g T u Ig (by omega)) [8, 9, 10, 11, 12, 13, 14, 36, 37, 38, 39, 40, 41, 42] clsW_s1C (by decide +kernel) (fun _ => roomK_fst) 0 6 rfl rfl (by decide) rfl hl.1 (rest := []) rfl (Nat.le_of_ble_eq_true rfl) dX11_wayOfTrial_5 (st1 := fun _ => []) (fun _ => rfl) (fun _ H locs _ X => ?_)
  have X : Wd E _ _ (clsW E a f (goN u g) h ik one wo tp tl tk ts te tn rb rz rn td) _ _ := X.eq clsW_s1P
  refine lv_aload_n hx hb dX11_wayOfTrial_8 rfl (lv_at hl 0 rfl) ?_
  refine k_get K X 0 rfl fg_X11_36 (v := .ref (a 8)) rfl dX11_wayOfTrial_9 ?_
  refine lv_iload_n hx hb dX11_wayOfTrial_12 rfl (lv_at hl 1 rfl) ?_
  refine k_callV K X gv_X11_175 (As := [.int (nI p)]) (c_X6_wayCount l E (fun j => a (8 + j)) (fun j => a (36 + j)) (goN u g) (T + u) p (Ig.more u (by omega)) (by omega)) [8, 9, 10, 11, 12, 13, 14] clsW_s4C (by decide +kernel) (fun _ => roomW_fst) 0 6 rfl rfl (by decide) rfl hl.1 (rest := []) rfl (Nat.le_of_ble_eq_true rfl) dX11_wayOfTrial_13 (st1 := fun _ => [.int (bcF (wayF (goN u g) p))]) (fun _ => rfl) (fun _ H locs _ X => ?_)
  have X : Wd E _ _ (clsW E a f (goN u g) h ik one wo tp tl tk ts te tn rb rz rn td) _ _ := X.eq clsW_s4P
  exact fin () 16 _ _ _ trivial X dX11_wayOfTrial_16
set_option maxRecDepth 100000 in
set_option maxHeartbeats 4000000 in
theorem c_X11_bestOrNone (l : Launch) (E : EE) (a : Nat → Nat) (f : St) (g : St) (h : St) (ik : Int32) (one : Int32) (wo : Int32) (tp : Nat → Int32) (tl : Int32) (tk : Int32) (ts : Int32) (te : Int32) (tn : Int32) (rb : Nat → Int32) (rz : Nat → Int32) (rn : Nat → Nat → Int64) (td : Nat → Int32) : Kd l yX11_bestOrNone cX11_bestOrNone 1 (some .int) 1 21 E (clsW E a f g h ik one wo tp tl tk ts te tn rb rz rn td) [.ref (a 0)] (some (.int (if one = -1 then fnd 3 else one))) (clsW E a f g h ik one wo tp tl tk ts te tn rb rz rn (if one = -1 then fdU td 3 else td)) := by
  refine Kn.ofWi (by decide +kernel) (Nat.le_of_ble_eq_true rfl) (fun _ _ => rfl) ?_
  intro pg ev s0 mm below meth cd Q K X fin ls hl
  have hx := K.1
  have hb := K.2.1
  have hl : lv_has ls 1 [(0, .ref (a 0))] := hl
  refine lv_aload_n hx hb dX11_bestOrNone_0 rfl (lv_at hl 0 rfl) ?_
  refine k_get K X 0 rfl fg_X11_49 (v := .ref (a 22)) rfl dX11_bestOrNone_1 ?_
  refine k_getN K X 22 rfl fg_X11_206 (v := .int one) rfl dX11_bestOrNone_4 ?_
  refine lv_iconst (v := (-1)) hx hb dX11_bestOrNone_7 (by decide) ?_
  refine k_icmp_ne (x := one) (y := (-1)) hx hb 19 dX11_bestOrNone_8 (by decide) (fun c8 => ?_) (fun c8 => ?_)
  · refine lv_aload_n hx hb dX11_bestOrNone_19 rfl (lv_at hl 0 rfl) ?_
    refine k_get K X 0 rfl fg_X11_49 (v := .ref (a 22)) rfl dX11_bestOrNone_20 ?_
    refine k_getN K X 22 rfl fg_X11_206 (v := .int one) rfl dX11_bestOrNone_23 ?_
    exact k_topi (x' := if one = -1 then fnd 3 else one) (by simp [c8]) (fin () 26 _ _ _ trivial (X.eq (by simp [c8])) dX11_bestOrNone_26)
  · refine lv_aload_n hx hb dX11_bestOrNone_11 rfl (lv_at hl 0 rfl) ?_
    refine lv_iconst (v := 3) hx hb dX11_bestOrNone_12 (by decide) ?_
    refine k_callV K X gv_X11_84 (As := [.int 3]) (c_X11_finding l E a f g h ik one wo tp tl tk ts te tn rb rz rn td 3 (by decide)) [0, 1, 2, 3, 4, 5, 6, 7, 8, 9, 10, 11, 12, 13, 14, 15, 16, 17, 18, 19, 20, 21, 22, 23, 24, 25, 26, 27, 28, 29, 30, 31, 32, 33, 34, 35, 36, 37, 38, 39, 40, 41, 42] clsW_idC (by decide +kernel) (fun _ => clsW_fst) 0 11 rfl rfl (by decide) rfl hl.1 (rest := []) rfl (Nat.le_of_ble_eq_true rfl) dX11_bestOrNone_13 (st1 := fun _ => [.int (fnd 3)]) (fun _ => rfl) (fun _ H locs _ X => ?_)
    have X : Wd E _ _ (clsW E a f g h ik one wo tp tl tk ts te tn rb rz rn (fdU td 3)) _ _ := X.eq clsW_idP
    refine lv_goto (tgt := 26) hx hb dX11_bestOrNone_16 (by decide) ?_
    exact k_topi (x' := if one = -1 then fnd 3 else one) (by simp [c8]) (fin () 26 _ _ _ trivial (X.eq (by simp [c8])) dX11_bestOrNone_26)
set_option maxRecDepth 100000 in
set_option maxHeartbeats 4000000 in
theorem c_X11_groupMostWanted (l : Launch) (E : EE) (a : Nat → Nat) (f : St) (g : St) (h : St) (ik : Int32) (one : Int32) (wo : Int32) (tp : Nat → Int32) (tl : Int32) (tk : Int32) (ts : Int32) (te : Int32) (tn : Int32) (rb : Nat → Int32) (rz : Nat → Int32) (rn : Nat → Nat → Int64) (td : Nat → Int32) (T : Nat) (q : Nat) (I : Inv T f) (hq : q < 10) : Kn l yX11_groupMostWanted cX11_groupMostWanted 3 (some .int) 2 45 E (clsW E a f g h ik one wo tp tl tk ts te tn rb rz rn td) [.ref (a 0), .int (nI q)] (S := Int32 × Int32) (fun _ => True) (fun _ => (some (.int (wantF f q)))) (fun u => (clsW E a f g h ik u.1 u.2 tp tl tk ts te tn rb rz rn td)) := by
  refine Kn.ofWi (by decide +kernel) (Nat.le_of_ble_eq_true rfl) (fun _ _ => rfl) ?_
  intro pg ev s0 mm below meth cd Q K X fin ls hl
  have hx := K.1
  have hb := K.2.1
  have hs10 := I.s10
  have hp6 := I.p6
  have hl : lv_has ls 3 [(0, .ref (a 0)), (1, .int (nI q))] := hl
  refine lv_aload_n hx hb dX11_groupMostWanted_0 rfl (lv_at hl 0 rfl) ?_
  refine k_get K X 0 rfl fg_X11_30 (v := .ref (a 1)) rfl dX11_groupMostWanted_1 ?_
  refine k_getN K X 1 rfl fg_X11_141 (v := .int (f 0 3)) rfl dX11_groupMostWanted_4 ?_
  refine k_topi (I.hP) ?_
  refine kN0_ne (x := pe f) hx hb 12 dX11_groupMostWanted_7 (by decide) (by omega) (fun c7 => ?_) (fun c7 => ?_)
  · refine lv_aload_n hx hb dX11_groupMostWanted_12 rfl (lv_at hl 0 rfl) ?_
    refine k_get K X 0 rfl fg_X11_49 (v := .ref (a 22)) rfl dX11_groupMostWanted_13 ?_
    refine k_callV K X gv_X11_199 (As := []) (c_X0_forget l E (a 22) one wo) [22] clsW_s12C (by decide +kernel) (fun _ => bestW_fst) 0 0 rfl rfl (by decide) rfl hl.1 (rest := []) rfl (Nat.le_of_ble_eq_true rfl) dX11_groupMostWanted_16 (st1 := fun _ => []) (fun _ => rfl) (fun _ H locs _ X => ?_)
    have X : Wd E _ _ (clsW E a f g h ik (-1) 0 tp tl tk ts te tn rb rz rn td) _ _ := X.eq clsW_s12P
    refine lv_iconst (v := 0) hx hb dX11_groupMostWanted_19 (by decide) ?_
    refine lv_istore_n (lv' := [(2, .int 0), (0, .ref (a 0)), (1, .int (nI q))]) hx hb dX11_groupMostWanted_20 rfl hl (by decide) rfl (fun ls hl => ?_)
    have lp21 : ∀ (fu : Nat) (i : Nat) (n : Nat) (o1 : Int32) (w1 : Int32) (hfu : n < fu) (hin : i + n = 6) (hR : bsL (fun _ => true) (fun g => nI (manyF f q (nI g))) (fun g => nI g) n i o1 w1 = bsL (fun _ => true) (fun g => nI (manyF f q (nI g))) (fun g => nI g) 6 0 (-1) 0) (ls : Array Slot) (hl : lv_has ls 3 [(2, .int (nI i)), (0, .ref (a 0)), (1, .int (nI q))]) (H : Heap) (locs : List Loc) (X : Wd E (inW (clsW E a f g h ik one wo tp tl tk ts te tn rb rz rn td)) s0.heap (clsW E a f g h ik o1 w1 tp tl tk ts te tn rb rz rn td) H locs), W pg l ev (rmK 2 45) s0 mm ([.ref (a 0), .int (nI q)] : List Value).toArray below meth cd H locs 0 0 Q (F0 mm 21 ls []) := by
      intro fu
      induction fu with
      | zero => intro i n o1 w1 hfu; exact absurd hfu (Nat.not_lt_zero _)
      | succ fu ih21 =>
        intro i n o1 w1 hfu hin hR ls hl H locs X
        refine lv_iload_n hx hb dX11_groupMostWanted_21 rfl (lv_at hl 0 rfl) ?_
        refine lv_iconst (v := 5) hx hb dX11_groupMostWanted_22 (by decide) ?_
        refine kN_gt (x := i) (y := 5) hx hb 49 dX11_groupMostWanted_23 (by decide) (by omega) (by omega) (fun c23 => ?_) (fun c23 => ?_)
        · obtain rfl : n = 0 := by omega
          refine lv_aload_n hx hb dX11_groupMostWanted_49 rfl (lv_at hl 1 rfl) ?_
          refine k_get K X 0 rfl fg_X11_49 (v := .ref (a 22)) rfl dX11_groupMostWanted_50 ?_
          refine k_getN K X 22 rfl fg_X11_206 (v := .int o1) rfl dX11_groupMostWanted_53 ?_
          exact k_topi (x' := wantF f q) ((congrArg Prod.fst hR).trans (wantF_bs I c7 hq)) (fin (o1, w1) 56 _ _ _ trivial X dX11_groupMostWanted_56)
        · obtain ⟨n, rfl⟩ : ∃ z, n = z + 1 := ⟨n - 1, by omega⟩
          refine lv_aload_n hx hb dX11_groupMostWanted_26 rfl (lv_at hl 1 rfl) ?_
          refine k_get K X 0 rfl fg_X11_49 (v := .ref (a 22)) rfl dX11_groupMostWanted_27 ?_
          refine lv_iload_n hx hb dX11_groupMostWanted_30 rfl (lv_at hl 0 rfl) ?_
          refine lv_aload_n hx hb dX11_groupMostWanted_31 rfl (lv_at hl 1 rfl) ?_
          refine k_get K X 0 rfl fg_X11_30 (v := .ref (a 1)) rfl dX11_groupMostWanted_32 ?_
          refine lv_iload_n hx hb dX11_groupMostWanted_35 rfl (lv_at hl 2 rfl) ?_
          refine lv_iload_n hx hb dX11_groupMostWanted_36 rfl (lv_at hl 0 rfl) ?_
          refine k_callV K X gv_X11_266 (As := [.int (nI q), .int (nI i)]) (c_X6_howManyWant l E (fun j => a (1 + j)) (fun j => a (36 + j)) f T q (nI i) I (by omega)) [1, 2, 3, 4, 5, 6, 7] clsW_s3C (by decide +kernel) (fun _ => roomW_fst) 0 6 rfl rfl (by decide) rfl hl.1 (rest := [.int (nI i), .ref (a 22)]) rfl (Nat.le_of_ble_eq_true rfl) dX11_groupMostWanted_37 (st1 := fun _ => [.int (nI (manyF f q (nI i))), .int (nI i), .ref (a 22)]) (fun _ => rfl) (fun _ H locs _ X => ?_)
          have X : Wd E _ _ (clsW E a f g h ik o1 w1 tp tl tk ts te tn rb rz rn td) _ _ := X.eq clsW_s3P
          refine k_callV K X gv_X11_202 (As := [.int (nI i), .int (nI (manyF f q (nI i)))]) (c_X0_offer l E (a 22) o1 w1 (nI i) (nI (manyF f q (nI i)))) [22] clsW_s12C (by decide +kernel) (fun _ => bestW_fst) 0 0 rfl rfl (by decide) rfl hl.1 (rest := []) rfl (Nat.le_of_ble_eq_true rfl) dX11_groupMostWanted_40 (st1 := fun _ => []) (fun _ => rfl) (fun _ H locs _ X => ?_)
          have X : Wd E _ _ (clsW E a f g h ik ((bestO o1 w1 (nI i) (nI (manyF f q (nI i)))).1) ((bestO o1 w1 (nI i) (nI (manyF f q (nI i)))).2) tp tl tk ts te tn rb rz rn td) _ _ := X.eq clsW_s12P
          refine lv_iinc (v := nI (i + 1)) (lv' := [(2, .int (nI (i + 1))), (0, .ref (a 0)), (1, .int (nI q))]) hx hb dX11_groupMostWanted_43 hl (k := 0) rfl (nI_add i 1) (by decide) rfl (fun ls hl => ?_)
          refine lv_goto (tgt := 21) hx hb dX11_groupMostWanted_46 (by decide) ?_
          exact ih21 (i + 1) n ((bestO o1 w1 (nI i) (nI (manyF f q (nI i)))).1) ((bestO o1 w1 (nI i) (nI (manyF f q (nI i)))).2) (by omega) (by omega) (by rw [← hR]; simp [bsL, c7, c23]) _ hl _ _ X
    exact lp21 (6 + 1) 0 6 (-1) 0 (by omega) (by omega) (rfl) _ hl _ _ X
  · have hz : wantF f q = -1 := wantF_zero I c7
    refine lv_iconst (v := (-1)) hx hb dX11_groupMostWanted_10 (by decide) ?_
    exact k_topi (x' := wantF f q) (hz.symm) (fin (one, wo) 11 _ _ _ trivial X dX11_groupMostWanted_11)
set_option maxRecDepth 100000 in
set_option maxHeartbeats 4000000 in
theorem c_X11_moves (l : Launch) (E : EE) (a : Nat → Nat) (f : St) (g : St) (h : St) (ik : Int32) (one : Int32) (wo : Int32) (tp : Nat → Int32) (tl : Int32) (tk : Int32) (ts : Int32) (te : Int32) (tn : Int32) (rb : Nat → Int32) (rz : Nat → Int32) (rn : Nat → Nat → Int64) (td : Nat → Int32) (T : Nat) (x : Int32) (I : Inv T f) : Kd l yX11_moves cX11_moves 3 (some .int) 1 22 E (clsW E a f g h ik one wo tp tl tk ts te tn rb rz rn td) [.ref (a 0), .int x] (some (.int ((oMoves f td x).1))) (clsW E a ((oMoves f td x).2.1) g h ik one wo tp tl tk ts te tn rb rz rn ((oMoves f td x).2.2)) := by
  refine Kn.ofWi (by decide +kernel) (Nat.le_of_ble_eq_true rfl) (fun _ _ => rfl) ?_
  intro pg ev s0 mm below meth cd Q K X fin ls hl
  have hx := K.1
  have hb := K.2.1
  have hs10 := I.s10
  have hp6 := I.p6
  have hl : lv_has ls 3 [(0, .ref (a 0)), (1, .int x)] := hl
  refine lv_iload_n hx hb dX11_moves_0 rfl (lv_at hl 1 rfl) ?_
  refine lv_iconst (v := 0) hx hb dX11_moves_1 (by decide) ?_
  refine lv_bipush (v := 99) hx hb dX11_moves_2 (by decide) ?_
  refine k_callS K X gs_X11_80 (As := [.int x, .int 0, .int 99]) (c_X11_within l E x 0 99) [] rfl (by decide +kernel) (fun _ => rfl) (by decide) rfl hl.1 (rest := []) rfl (Nat.le_of_ble_eq_true rfl) dX11_moves_4 (st1 := fun _ => [.int (b2i (inR x 0 99))]) (fun _ => rfl) (fun _ H locs _ X => ?_)
  have X : Wd E _ _ (clsW E a f g h ik one wo tp tl tk ts te tn rb rz rn td) _ _ := X
  refine k_ifneB (B := (inR x 0 99)) hx hb 16 dX11_moves_7 (by decide) (fun c7 => ?_) (fun c7 => ?_)
  · refine lv_aload_n hx hb dX11_moves_16 rfl (lv_at hl 0 rfl) ?_
    refine k_get K X 0 rfl fg_X11_30 (v := .ref (a 1)) rfl dX11_moves_17 ?_
    refine k_getN K X 1 rfl fg_X11_88 (v := .int (f 0 1)) rfl dX11_moves_20 ?_
    refine lv_istore_n (lv' := [(2, .int (f 0 1)), (0, .ref (a 0)), (1, .int x)]) hx hb dX11_moves_23 rfl hl (by decide) rfl (fun ls hl => ?_)
    refine lv_aload_n hx hb dX11_moves_24 rfl (lv_at hl 1 rfl) ?_
    refine k_get K X 0 rfl fg_X11_30 (v := .ref (a 1)) rfl dX11_moves_25 ?_
    refine lv_iload_n hx hb dX11_moves_28 rfl (lv_at hl 2 rfl) ?_
    refine k_putN K X 1 rfl fp_X11_88 (v := .int x) rfl rfl (Nat.le_of_ble_eq_true rfl) dX11_moves_29 (fun H locs X => ?_)
    have X : Wd E _ _ (clsW E a (up2 f 0 1 x) g h ik one wo tp tl tk ts te tn rb rz rn td) _ _ := X
    refine lv_iload_n hx hb dX11_moves_32 rfl (lv_at hl 0 rfl) ?_
    exact k_topi (x' := (oMoves f td x).1) (by simp [oMoves, bad3, c7]) (fin () 33 _ _ _ trivial (X.eq (by simp [oMoves, bad3, c7])) dX11_moves_33)
  · refine lv_aload_n hx hb dX11_moves_10 rfl (lv_at hl 0 rfl) ?_
    refine lv_iconst (v := 0) hx hb dX11_moves_11 (by decide) ?_
    refine k_callV K X gv_X11_84 (As := [.int 0]) (c_X11_finding l E a f g h ik one wo tp tl tk ts te tn rb rz rn td 0 (by decide)) [0, 1, 2, 3, 4, 5, 6, 7, 8, 9, 10, 11, 12, 13, 14, 15, 16, 17, 18, 19, 20, 21, 22, 23, 24, 25, 26, 27, 28, 29, 30, 31, 32, 33, 34, 35, 36, 37, 38, 39, 40, 41, 42] clsW_idC (by decide +kernel) (fun _ => clsW_fst) 0 11 rfl rfl (by decide) rfl hl.1 (rest := []) rfl (Nat.le_of_ble_eq_true rfl) dX11_moves_12 (st1 := fun _ => [.int (fnd 0)]) (fun _ => rfl) (fun _ H locs _ X => ?_)
    have X : Wd E _ _ (clsW E a f g h ik one wo tp tl tk ts te tn rb rz rn (fdU td 0)) _ _ := X.eq clsW_idP
    exact k_topi (x' := (oMoves f td x).1) (by simp [oMoves, bad3, c7]) (fin () 15 _ _ _ trivial (X.eq (by simp [oMoves, bad3, c7])) dX11_moves_15)
set_option maxRecDepth 100000 in
set_option maxHeartbeats 4000000 in
theorem c_X11_slip (l : Launch) (E : EE) (a : Nat → Nat) (f : St) (g : St) (h : St) (ik : Int32) (one : Int32) (wo : Int32) (tp : Nat → Int32) (tl : Int32) (tk : Int32) (ts : Int32) (te : Int32) (tn : Int32) (rb : Nat → Int32) (rz : Nat → Int32) (rn : Nat → Nat → Int64) (td : Nat → Int32) (T : Nat) (x : Int32) (I : Inv T f) : Kd l yX11_slip cX11_slip 2 (some .int) 1 22 E (clsW E a f g h ik one wo tp tl tk ts te tn rb rz rn td) [.ref (a 0), .int x] (some (.int ((oSlip f td x).1))) (clsW E a ((oSlip f td x).2.1) g h ik one wo tp tl tk ts te tn rb rz rn ((oSlip f td x).2.2)) := by
  refine Kn.ofWi (by decide +kernel) (Nat.le_of_ble_eq_true rfl) (fun _ _ => rfl) ?_
  intro pg ev s0 mm below meth cd Q K X fin ls hl
  have hx := K.1
  have hb := K.2.1
  have hs10 := I.s10
  have hp6 := I.p6
  have hl : lv_has ls 2 [(0, .ref (a 0)), (1, .int x)] := hl
  refine lv_iload_n hx hb dX11_slip_0 rfl (lv_at hl 1 rfl) ?_
  refine lv_iconst (v := (-1)) hx hb dX11_slip_1 (by decide) ?_
  refine lv_iconst (v := 5) hx hb dX11_slip_2 (by decide) ?_
  refine k_callS K X gs_X11_80 (As := [.int x, .int (-1), .int 5]) (c_X11_within l E x (-1) 5) [] rfl (by decide +kernel) (fun _ => rfl) (by decide) rfl hl.1 (rest := []) rfl (Nat.le_of_ble_eq_true rfl) dX11_slip_3 (st1 := fun _ => [.int (b2i (inR x (-1) 5))]) (fun _ => rfl) (fun _ H locs _ X => ?_)
  have X : Wd E _ _ (clsW E a f g h ik one wo tp tl tk ts te tn rb rz rn td) _ _ := X
  refine k_ifneB (B := (inR x (-1) 5)) hx hb 15 dX11_slip_6 (by decide) (fun c6 => ?_) (fun c6 => ?_)
  · refine lv_aload_n hx hb dX11_slip_15 rfl (lv_at hl 0 rfl) ?_
    refine k_get K X 0 rfl fg_X11_30 (v := .ref (a 1)) rfl dX11_slip_16 ?_
    refine k_getN K X 1 rfl fg_X11_92 (v := .int (f 0 2)) rfl dX11_slip_19 ?_
    refine k_topi (I.hS) ?_
    refine lv_bipush (v := 10) hx hb dX11_slip_22 (by decide) ?_
    refine kN_lt (x := sl f) (y := 10) hx hb 33 dX11_slip_24 (by decide) (by omega) (by omega) (fun c24 => ?_) (fun c24 => ?_)
    · have hb1 : decide (sl f < 10) = true := by simp; omega
      refine lv_aload_n hx hb dX11_slip_33 rfl (lv_at hl 0 rfl) ?_
      refine k_get K X 0 rfl fg_X11_30 (v := .ref (a 1)) rfl dX11_slip_34 ?_
      refine lv_iload_n hx hb dX11_slip_37 rfl (lv_at hl 1 rfl) ?_
      refine lv_iconst (v := 0) hx hb dX11_slip_38 (by decide) ?_
      refine k_callV K X gv_X11_95 (As := [.int x, .int 0]) (c_X6_addSlip l E (fun j => a (1 + j)) (fun j => a (36 + j)) f T x 0 I (by omega)) [1, 2, 3, 4, 5, 6, 7] clsW_s3C (by decide +kernel) (fun _ => roomW_fst) 0 6 rfl rfl (by decide) rfl hl.1 (rest := []) rfl (Nat.le_of_ble_eq_true rfl) dX11_slip_39 (st1 := fun _ => [.int (nI (sl f))]) (fun _ => rfl) (fun _ H locs _ X => ?_)
      have X : Wd E _ _ (clsW E a (addS f x 0) g h ik one wo tp tl tk ts te tn rb rz rn td) _ _ := X.eq clsW_s3P
      exact k_topi (x' := (oSlip f td x).1) (by simp [oSlip, bad3, c6, hb1]) (fin () 42 _ _ _ trivial (X.eq (by simp [oSlip, bad3, c6, hb1])) dX11_slip_42)
    · have hb1 : decide (sl f < 10) = false := by simp; omega
      refine lv_aload_n hx hb dX11_slip_27 rfl (lv_at hl 0 rfl) ?_
      refine lv_iconst (v := 1) hx hb dX11_slip_28 (by decide) ?_
      refine k_callV K X gv_X11_84 (As := [.int 1]) (c_X11_finding l E a f g h ik one wo tp tl tk ts te tn rb rz rn td 1 (by decide)) [0, 1, 2, 3, 4, 5, 6, 7, 8, 9, 10, 11, 12, 13, 14, 15, 16, 17, 18, 19, 20, 21, 22, 23, 24, 25, 26, 27, 28, 29, 30, 31, 32, 33, 34, 35, 36, 37, 38, 39, 40, 41, 42] clsW_idC (by decide +kernel) (fun _ => clsW_fst) 0 11 rfl rfl (by decide) rfl hl.1 (rest := []) rfl (Nat.le_of_ble_eq_true rfl) dX11_slip_29 (st1 := fun _ => [.int (fnd 1)]) (fun _ => rfl) (fun _ H locs _ X => ?_)
      have X : Wd E _ _ (clsW E a f g h ik one wo tp tl tk ts te tn rb rz rn (fdU td 1)) _ _ := X.eq clsW_idP
      exact k_topi (x' := (oSlip f td x).1) (by simp [oSlip, bad3, c6, hb1]) (fin () 32 _ _ _ trivial (X.eq (by simp [oSlip, bad3, c6, hb1])) dX11_slip_32)
  · refine lv_aload_n hx hb dX11_slip_9 rfl (lv_at hl 0 rfl) ?_
    refine lv_iconst (v := 0) hx hb dX11_slip_10 (by decide) ?_
    refine k_callV K X gv_X11_84 (As := [.int 0]) (c_X11_finding l E a f g h ik one wo tp tl tk ts te tn rb rz rn td 0 (by decide)) [0, 1, 2, 3, 4, 5, 6, 7, 8, 9, 10, 11, 12, 13, 14, 15, 16, 17, 18, 19, 20, 21, 22, 23, 24, 25, 26, 27, 28, 29, 30, 31, 32, 33, 34, 35, 36, 37, 38, 39, 40, 41, 42] clsW_idC (by decide +kernel) (fun _ => clsW_fst) 0 11 rfl rfl (by decide) rfl hl.1 (rest := []) rfl (Nat.le_of_ble_eq_true rfl) dX11_slip_11 (st1 := fun _ => [.int (fnd 0)]) (fun _ => rfl) (fun _ H locs _ X => ?_)
    have X : Wd E _ _ (clsW E a f g h ik one wo tp tl tk ts te tn rb rz rn (fdU td 0)) _ _ := X.eq clsW_idP
    exact k_topi (x' := (oSlip f td x).1) (by simp [oSlip, bad3, c6]) (fin () 14 _ _ _ trivial (X.eq (by simp [oSlip, bad3, c6])) dX11_slip_14)
set_option maxRecDepth 100000 in
set_option maxHeartbeats 4000000 in
theorem c_X11_slipOf (l : Launch) (E : EE) (a : Nat → Nat) (f : St) (g : St) (h : St) (ik : Int32) (one : Int32) (wo : Int32) (tp : Nat → Int32) (tl : Int32) (tk : Int32) (ts : Int32) (te : Int32) (tn : Int32) (rb : Nat → Int32) (rz : Nat → Int32) (rn : Nat → Nat → Int64) (td : Nat → Int32) (T : Nat) (x : Int32) (y : Int32) (I : Inv T f) : Kn l yX11_slipOf cX11_slipOf 3 (some .int) 3 67 E (clsW E a f g h ik one wo tp tl tk ts te tn rb rz rn td) [.ref (a 0), .int x, .int y] (S := Int32 × Int32) (fun _ => True) (fun _ => (some (.int ((oSlipOf f td x y).1)))) (fun u => (clsW E a ((oSlipOf f td x y).2.1) g h ik u.1 u.2 tp tl tk ts te tn rb rz rn ((oSlipOf f td x y).2.2))) := by
  refine Kn.ofWi (by decide +kernel) (Nat.le_of_ble_eq_true rfl) (fun _ _ => rfl) ?_
  intro pg ev s0 mm below meth cd Q K X fin ls hl
  have hx := K.1
  have hb := K.2.1
  have hs10 := I.s10
  have hp6 := I.p6
  have hl : lv_has ls 3 [(0, .ref (a 0)), (1, .int x), (2, .int y)] := hl
  refine lv_aload_n hx hb dX11_slipOf_0 rfl (lv_at hl 0 rfl) ?_
  refine lv_iload_n hx hb dX11_slipOf_1 rfl (lv_at hl 1 rfl) ?_
  refine k_callV K X gv_X11_99 (As := [.int x]) (c_X11_noSlip l E a f g h ik one wo tp tl tk ts te tn rb rz rn td x) [0, 1, 2, 3, 4, 5, 6, 7, 8, 9, 10, 11, 12, 13, 14, 15, 16, 17, 18, 19, 20, 21, 22, 23, 24, 25, 26, 27, 28, 29, 30, 31, 32, 33, 34, 35, 36, 37, 38, 39, 40, 41, 42] clsW_idC (by decide +kernel) (fun _ => clsW_fst) 0 11 rfl rfl (by decide) rfl hl.1 (rest := []) rfl (Nat.le_of_ble_eq_true rfl) dX11_slipOf_2 (st1 := fun _ => [.int (b2i (!isS f x))]) (fun _ => rfl) (fun _ H locs _ X => ?_)
  have X : Wd E _ _ (clsW E a f g h ik one wo tp tl tk ts te tn rb rz rn td) _ _ := X.eq clsW_idP
  refine k_ifeqB (B := (!isS f x)) hx hb 14 dX11_slipOf_5 (by decide) (fun c5 => ?_) (fun c5 => ?_)
  · have hx0 : isS f x = true := by simpa using c5
    obtain ⟨k, hk, rfl⟩ := isS_nat I hx0
    have ek : (nI k).toNatClampNeg = k := nI_clamp (by omega)
    refine lv_iload_n hx hb dX11_slipOf_14 rfl (lv_at hl 2 rfl) ?_
    by_cases c15_0 : y = 0
    · refine k_topi (x' := 0) c15_0 ?_
      refine lv_tableIn (off := 33) (tgt := 48) hx hb dX11_slipOf_15 (by decide) (by decide) rfl (by decide) ?_
      refine lv_aload_n hx hb dX11_slipOf_48 rfl (lv_at hl 0 rfl) ?_
      refine k_get K X 0 rfl fg_X11_30 (v := .ref (a 1)) rfl dX11_slipOf_49 ?_
      refine k_getN K X 1 rfl fg_X11_103 (v := .ref (a 2)) rfl dX11_slipOf_52 ?_
      refine lv_iload_n hx hb dX11_slipOf_55 rfl (lv_at hl 1 rfl) ?_
      refine k_ialdN K X 2 rfl (k := k) (by omega) (by decide) dX11_slipOf_56 (v := f 1 k) rfl ?_
      exact k_topi (x' := (oSlipOf f td (nI k) y).1) (by simp [oSlipOf, bad3, hx0, ek, c15_0]) (fin (one, wo) 57 _ _ _ trivial (X.eq (by simp [oSlipOf, bad3, hx0, ek, c15_0])) dX11_slipOf_57)
    · by_cases c15_1 : y = 1
      · refine k_topi (x' := 1) c15_1 ?_
        refine lv_tableIn (off := 43) (tgt := 58) hx hb dX11_slipOf_15 (by decide) (by decide) rfl (by decide) ?_
        refine lv_aload_n hx hb dX11_slipOf_58 rfl (lv_at hl 0 rfl) ?_
        refine k_get K X 0 rfl fg_X11_30 (v := .ref (a 1)) rfl dX11_slipOf_59 ?_
        refine k_getN K X 1 rfl fg_X11_106 (v := .ref (a 3)) rfl dX11_slipOf_62 ?_
        refine lv_iload_n hx hb dX11_slipOf_65 rfl (lv_at hl 1 rfl) ?_
        refine k_ialdN K X 3 rfl (k := k) (by omega) (by decide) dX11_slipOf_66 (v := f 2 k) rfl ?_
        exact k_topi (x' := (oSlipOf f td (nI k) y).1) (by simp [oSlipOf, bad3, hx0, ek, c15_0, c15_1]) (fin (one, wo) 67 _ _ _ trivial (X.eq (by simp [oSlipOf, bad3, hx0, ek, c15_0, c15_1])) dX11_slipOf_67)
      · by_cases c15_2 : y = 2
        · refine k_topi (x' := 2) c15_2 ?_
          refine lv_tableIn (off := 53) (tgt := 68) hx hb dX11_slipOf_15 (by decide) (by decide) rfl (by decide) ?_
          refine lv_aload_n hx hb dX11_slipOf_68 rfl (lv_at hl 0 rfl) ?_
          refine k_get K X 0 rfl fg_X11_30 (v := .ref (a 1)) rfl dX11_slipOf_69 ?_
          refine k_getN K X 1 rfl fg_X11_109 (v := .ref (a 4)) rfl dX11_slipOf_72 ?_
          refine lv_iload_n hx hb dX11_slipOf_75 rfl (lv_at hl 1 rfl) ?_
          refine k_ialdN K X 4 rfl (k := k) (by omega) (by decide) dX11_slipOf_76 (v := f 3 k) rfl ?_
          exact k_topi (x' := (oSlipOf f td (nI k) y).1) (by simp [oSlipOf, bad3, hx0, ek, c15_0, c15_1, c15_2]) (fin (one, wo) 77 _ _ _ trivial (X.eq (by simp [oSlipOf, bad3, hx0, ek, c15_0, c15_1, c15_2])) dX11_slipOf_77)
        · by_cases c15_3 : y = 3
          · refine k_topi (x' := 3) c15_3 ?_
            refine lv_tableIn (off := 63) (tgt := 78) hx hb dX11_slipOf_15 (by decide) (by decide) rfl (by decide) ?_
            refine lv_aload_n hx hb dX11_slipOf_78 rfl (lv_at hl 0 rfl) ?_
            refine k_get K X 0 rfl fg_X11_30 (v := .ref (a 1)) rfl dX11_slipOf_79 ?_
            refine lv_iload_n hx hb dX11_slipOf_82 rfl (lv_at hl 1 rfl) ?_
            refine k_callV K X gv_X11_112 (As := [.int (nI k)]) (c_X6_peopleContentWith l E (fun j => a (1 + j)) (fun j => a (36 + j)) f T k I (by omega)) [1, 2, 3, 4, 5, 6, 7] clsW_s3C (by decide +kernel) (fun _ => roomW_fst) 0 6 rfl rfl (by decide) rfl hl.1 (rest := []) rfl (Nat.le_of_ble_eq_true rfl) dX11_slipOf_83 (st1 := fun _ => [.int (happyF f k)]) (fun _ => rfl) (fun _ H locs _ X => ?_)
            have X : Wd E _ _ (clsW E a f g h ik one wo tp tl tk ts te tn rb rz rn td) _ _ := X.eq clsW_s3P
            exact k_topi (x' := (oSlipOf f td (nI k) y).1) (by simp [oSlipOf, bad3, hx0, ek, c15_0, c15_1, c15_2, c15_3]) (fin (one, wo) 86 _ _ _ trivial (X.eq (by simp [oSlipOf, bad3, hx0, ek, c15_0, c15_1, c15_2, c15_3])) dX11_slipOf_86)
          · by_cases c15_4 : y = 4
            · refine k_topi (x' := 4) c15_4 ?_
              refine lv_tableIn (off := 72) (tgt := 87) hx hb dX11_slipOf_15 (by decide) (by decide) rfl (by decide) ?_
              refine lv_aload_n hx hb dX11_slipOf_87 rfl (lv_at hl 0 rfl) ?_
              refine lv_iload_n hx hb dX11_slipOf_88 rfl (lv_at hl 1 rfl) ?_
              refine k_callV K X gv_X11_115 (As := [.int (nI k)]) (c_X11_groupMostWanted l E a f g h ik one wo tp tl tk ts te tn rb rz rn td T k I (by omega)) [0, 1, 2, 3, 4, 5, 6, 7, 8, 9, 10, 11, 12, 13, 14, 15, 16, 17, 18, 19, 20, 21, 22, 23, 24, 25, 26, 27, 28, 29, 30, 31, 32, 33, 34, 35, 36, 37, 38, 39, 40, 41, 42] clsW_idC (by decide +kernel) (fun _ => clsW_fst) 0 11 rfl rfl (by decide) rfl hl.1 (rest := []) rfl (Nat.le_of_ble_eq_true rfl) dX11_slipOf_89 (st1 := fun _ => [.int (wantF f k)]) (fun _ => rfl) (fun u89 H locs _ X => ?_)
              have X : Wd E _ _ (clsW E a f g h ik u89.1 u89.2 tp tl tk ts te tn rb rz rn td) _ _ := X.eq clsW_idP
              exact k_topi (x' := (oSlipOf f td (nI k) y).1) (by simp [oSlipOf, bad3, hx0, ek, c15_0, c15_1, c15_2, c15_3, c15_4]) (fin (u89.1, u89.2) 92 _ _ _ trivial (X.eq (by simp [oSlipOf, bad3, hx0, ek, c15_0, c15_1, c15_2, c15_3, c15_4])) dX11_slipOf_92)
            · refine lv_tableOut (tgt := 93) hx hb dX11_slipOf_15 (by have h0 := sw_ne (n := 0) (by decide) c15_0; have h1 := sw_ne (n := 1) (by decide) c15_1; have h2 := sw_ne (n := 2) (by decide) c15_2; have h3 := sw_ne (n := 3) (by decide) c15_3; have h4 := sw_ne (n := 4) (by decide) c15_4; omega) (by decide) ?_
              refine lv_aload_n hx hb dX11_slipOf_93 rfl (lv_at hl 0 rfl) ?_
              refine lv_iconst (v := 0) hx hb dX11_slipOf_94 (by decide) ?_
              refine k_callV K X gv_X11_84 (As := [.int 0]) (c_X11_finding l E a f g h ik one wo tp tl tk ts te tn rb rz rn td 0 (by decide)) [0, 1, 2, 3, 4, 5, 6, 7, 8, 9, 10, 11, 12, 13, 14, 15, 16, 17, 18, 19, 20, 21, 22, 23, 24, 25, 26, 27, 28, 29, 30, 31, 32, 33, 34, 35, 36, 37, 38, 39, 40, 41, 42] clsW_idC (by decide +kernel) (fun _ => clsW_fst) 0 11 rfl rfl (by decide) rfl hl.1 (rest := []) rfl (Nat.le_of_ble_eq_true rfl) dX11_slipOf_95 (st1 := fun _ => [.int (fnd 0)]) (fun _ => rfl) (fun _ H locs _ X => ?_)
              have X : Wd E _ _ (clsW E a f g h ik one wo tp tl tk ts te tn rb rz rn (fdU td 0)) _ _ := X.eq clsW_idP
              exact k_topi (x' := (oSlipOf f td (nI k) y).1) (by simp [oSlipOf, bad3, hx0, ek, c15_0, c15_1, c15_2, c15_3, c15_4]) (fin (one, wo) 98 _ _ _ trivial (X.eq (by simp [oSlipOf, bad3, hx0, ek, c15_0, c15_1, c15_2, c15_3, c15_4])) dX11_slipOf_98)
  · have hx0 : isS f x = false := by simpa using c5
    refine lv_aload_n hx hb dX11_slipOf_8 rfl (lv_at hl 0 rfl) ?_
    refine lv_iconst (v := 0) hx hb dX11_slipOf_9 (by decide) ?_
    refine k_callV K X gv_X11_84 (As := [.int 0]) (c_X11_finding l E a f g h ik one wo tp tl tk ts te tn rb rz rn td 0 (by decide)) [0, 1, 2, 3, 4, 5, 6, 7, 8, 9, 10, 11, 12, 13, 14, 15, 16, 17, 18, 19, 20, 21, 22, 23, 24, 25, 26, 27, 28, 29, 30, 31, 32, 33, 34, 35, 36, 37, 38, 39, 40, 41, 42] clsW_idC (by decide +kernel) (fun _ => clsW_fst) 0 11 rfl rfl (by decide) rfl hl.1 (rest := []) rfl (Nat.le_of_ble_eq_true rfl) dX11_slipOf_10 (st1 := fun _ => [.int (fnd 0)]) (fun _ => rfl) (fun _ H locs _ X => ?_)
    have X : Wd E _ _ (clsW E a f g h ik one wo tp tl tk ts te tn rb rz rn (fdU td 0)) _ _ := X.eq clsW_idP
    exact k_topi (x' := (oSlipOf f td x y).1) (by simp [oSlipOf, bad3, hx0]) (fin (one, wo) 13 _ _ _ trivial (X.eq (by simp [oSlipOf, bad3, hx0])) dX11_slipOf_13)
set_option maxRecDepth 100000 in
set_option maxHeartbeats 4000000 in
theorem c_X11_stick (l : Launch) (E : EE) (a : Nat → Nat) (f : St) (g : St) (h : St) (ik : Int32) (one : Int32) (wo : Int32) (tp : Nat → Int32) (tl : Int32) (tk : Int32) (ts : Int32) (te : Int32) (tn : Int32) (rb : Nat → Int32) (rz : Nat → Int32) (rn : Nat → Nat → Int64) (td : Nat → Int32) (T : Nat) (x : Int32) (y : Int32) (z : Int32) (I : Inv T f) : Kd l yX11_stick cX11_stick 4 (some .int) 2 48 E (clsW E a f g h ik one wo tp tl tk ts te tn rb rz rn td) [.ref (a 0), .int x, .int y, .int z] (some (.int ((oStick f td x y z).1))) (clsW E a ((oStick f td x y z).2.1) g h ik one wo tp tl tk ts te tn rb rz rn ((oStick f td x y z).2.2)) := by
  refine Kn.ofWi (by decide +kernel) (Nat.le_of_ble_eq_true rfl) (fun _ _ => rfl) ?_
  intro pg ev s0 mm below meth cd Q K X fin ls hl
  have hx := K.1
  have hb := K.2.1
  have hs10 := I.s10
  have hp6 := I.p6
  have hl : lv_has ls 4 [(0, .ref (a 0)), (1, .int x), (2, .int y), (3, .int z)] := hl
  refine lv_aload_n hx hb dX11_stick_0 rfl (lv_at hl 0 rfl) ?_
  refine lv_iload_n hx hb dX11_stick_1 rfl (lv_at hl 1 rfl) ?_
  refine k_callV K X gv_X11_99 (As := [.int x]) (c_X11_noSlip l E a f g h ik one wo tp tl tk ts te tn rb rz rn td x) [0, 1, 2, 3, 4, 5, 6, 7, 8, 9, 10, 11, 12, 13, 14, 15, 16, 17, 18, 19, 20, 21, 22, 23, 24, 25, 26, 27, 28, 29, 30, 31, 32, 33, 34, 35, 36, 37, 38, 39, 40, 41, 42] clsW_idC (by decide +kernel) (fun _ => clsW_fst) 0 11 rfl rfl (by decide) rfl hl.1 (rest := []) rfl (Nat.le_of_ble_eq_true rfl) dX11_stick_2 (st1 := fun _ => [.int (b2i (!isS f x))]) (fun _ => rfl) (fun _ H locs _ X => ?_)
  have X : Wd E _ _ (clsW E a f g h ik one wo tp tl tk ts te tn rb rz rn td) _ _ := X.eq clsW_idP
  refine k_ifeqB (B := (!isS f x)) hx hb 14 dX11_stick_5 (by decide) (fun c5 => ?_) (fun c5 => ?_)
  · have hx0 : isS f x = true := by simpa using c5
    obtain ⟨k, hk, rfl⟩ := isS_nat I hx0
    have ek : (nI k).toNatClampNeg = k := nI_clamp (by omega)
    refine lv_iload_n hx hb dX11_stick_14 rfl (lv_at hl 2 rfl) ?_
    by_cases c15_0 : y = 0
    · refine k_topi (x' := 0) c15_0 ?_
      refine lv_tableIn (off := 25) (tgt := 40) hx hb dX11_stick_15 (by decide) (by decide) rfl (by decide) ?_
      refine lv_aload_n hx hb dX11_stick_40 rfl (lv_at hl 0 rfl) ?_
      refine lv_aload_n hx hb dX11_stick_41 rfl (lv_at hl 0 rfl) ?_
      refine k_get K X 0 rfl fg_X11_30 (v := .ref (a 1)) rfl dX11_stick_42 ?_
      refine k_getN K X 1 rfl fg_X11_103 (v := .ref (a 2)) rfl dX11_stick_45 ?_
      refine lv_iload_n hx hb dX11_stick_48 rfl (lv_at hl 1 rfl) ?_
      refine lv_iload_n hx hb dX11_stick_49 rfl (lv_at hl 3 rfl) ?_
      refine lv_iconst (v := (-1)) hx hb dX11_stick_50 (by decide) ?_
      refine lv_iconst (v := 5) hx hb dX11_stick_51 (by decide) ?_
      refine k_callV K X gv_X11_118 (As := [.ref (a 2), .int (nI k), .int z, .int (-1), .int 5]) (c_X11_put1 l E a f g h ik one wo tp tl tk ts te tn rb rz rn td k z (-1) 5 (by omega)) [0, 1, 2, 3, 4, 5, 6, 7, 8, 9, 10, 11, 12, 13, 14, 15, 16, 17, 18, 19, 20, 21, 22, 23, 24, 25, 26, 27, 28, 29, 30, 31, 32, 33, 34, 35, 36, 37, 38, 39, 40, 41, 42] clsW_idC (by decide +kernel) (fun _ => clsW_fst) 0 11 rfl rfl (by decide) rfl hl.1 (rest := []) rfl (Nat.le_of_ble_eq_true rfl) dX11_stick_52 (st1 := fun _ => [.int (cond (inR z (-1) 5) (f 1 k) (fnd 0))]) (fun _ => rfl) (fun _ H locs _ X => ?_)
      have X : Wd E _ _ (clsW E a (cond (inR z (-1) 5) (up2 f 1 k z) f) g h ik one wo tp tl tk ts te tn rb rz rn (cond (inR z (-1) 5) td (fdU td 0))) _ _ := X.eq clsW_idP
      exact k_topi (x' := (oStick f td (nI k) y z).1) (by cases hb0 : inR z (-1) 5 <;> cases hb1 : inR z 0 999 <;> cases hb2 : inR z 0 1 <;> simp [oStick, bad3, hb0, hb1, hb2, hx0, ek, c15_0]) (fin () 55 _ _ _ trivial (X.eq (by cases hb0 : inR z (-1) 5 <;> cases hb1 : inR z 0 999 <;> cases hb2 : inR z 0 1 <;> simp [oStick, bad3, hb0, hb1, hb2, hx0, ek, c15_0])) dX11_stick_55)
    · by_cases c15_1 : y = 1
      · refine k_topi (x' := 1) c15_1 ?_
        refine lv_tableIn (off := 41) (tgt := 56) hx hb dX11_stick_15 (by decide) (by decide) rfl (by decide) ?_
        refine lv_aload_n hx hb dX11_stick_56 rfl (lv_at hl 0 rfl) ?_
        refine lv_aload_n hx hb dX11_stick_57 rfl (lv_at hl 0 rfl) ?_
        refine k_get K X 0 rfl fg_X11_30 (v := .ref (a 1)) rfl dX11_stick_58 ?_
        refine k_getN K X 1 rfl fg_X11_106 (v := .ref (a 3)) rfl dX11_stick_61 ?_
        refine lv_iload_n hx hb dX11_stick_64 rfl (lv_at hl 1 rfl) ?_
        refine lv_iload_n hx hb dX11_stick_65 rfl (lv_at hl 3 rfl) ?_
        refine lv_iconst (v := 0) hx hb dX11_stick_66 (by decide) ?_
        refine lv_sipush (v := 999) hx hb dX11_stick_67 (by decide) ?_
        refine k_callV K X gv_X11_118 (As := [.ref (a 3), .int (nI k), .int z, .int 0, .int 999]) (c_X11_put2 l E a f g h ik one wo tp tl tk ts te tn rb rz rn td k z 0 999 (by omega)) [0, 1, 2, 3, 4, 5, 6, 7, 8, 9, 10, 11, 12, 13, 14, 15, 16, 17, 18, 19, 20, 21, 22, 23, 24, 25, 26, 27, 28, 29, 30, 31, 32, 33, 34, 35, 36, 37, 38, 39, 40, 41, 42] clsW_idC (by decide +kernel) (fun _ => clsW_fst) 0 11 rfl rfl (by decide) rfl hl.1 (rest := []) rfl (Nat.le_of_ble_eq_true rfl) dX11_stick_70 (st1 := fun _ => [.int (cond (inR z 0 999) (f 2 k) (fnd 0))]) (fun _ => rfl) (fun _ H locs _ X => ?_)
        have X : Wd E _ _ (clsW E a (cond (inR z 0 999) (up2 f 2 k z) f) g h ik one wo tp tl tk ts te tn rb rz rn (cond (inR z 0 999) td (fdU td 0))) _ _ := X.eq clsW_idP
        exact k_topi (x' := (oStick f td (nI k) y z).1) (by cases hb0 : inR z (-1) 5 <;> cases hb1 : inR z 0 999 <;> cases hb2 : inR z 0 1 <;> simp [oStick, bad3, hb0, hb1, hb2, hx0, ek, c15_0, c15_1]) (fin () 73 _ _ _ trivial (X.eq (by cases hb0 : inR z (-1) 5 <;> cases hb1 : inR z 0 999 <;> cases hb2 : inR z 0 1 <;> simp [oStick, bad3, hb0, hb1, hb2, hx0, ek, c15_0, c15_1])) dX11_stick_73)
      · by_cases c15_2 : y = 2
        · refine k_topi (x' := 2) c15_2 ?_
          refine lv_tableIn (off := 59) (tgt := 74) hx hb dX11_stick_15 (by decide) (by decide) rfl (by decide) ?_
          refine lv_aload_n hx hb dX11_stick_74 rfl (lv_at hl 0 rfl) ?_
          refine lv_aload_n hx hb dX11_stick_75 rfl (lv_at hl 0 rfl) ?_
          refine k_get K X 0 rfl fg_X11_30 (v := .ref (a 1)) rfl dX11_stick_76 ?_
          refine k_getN K X 1 rfl fg_X11_109 (v := .ref (a 4)) rfl dX11_stick_79 ?_
          refine lv_iload_n hx hb dX11_stick_82 rfl (lv_at hl 1 rfl) ?_
          refine lv_iload_n hx hb dX11_stick_83 rfl (lv_at hl 3 rfl) ?_
          refine lv_iconst (v := 0) hx hb dX11_stick_84 (by decide) ?_
          refine lv_iconst (v := 1) hx hb dX11_stick_85 (by decide) ?_
          refine k_callV K X gv_X11_118 (As := [.ref (a 4), .int (nI k), .int z, .int 0, .int 1]) (c_X11_put3 l E a f g h ik one wo tp tl tk ts te tn rb rz rn td k z 0 1 (by omega)) [0, 1, 2, 3, 4, 5, 6, 7, 8, 9, 10, 11, 12, 13, 14, 15, 16, 17, 18, 19, 20, 21, 22, 23, 24, 25, 26, 27, 28, 29, 30, 31, 32, 33, 34, 35, 36, 37, 38, 39, 40, 41, 42] clsW_idC (by decide +kernel) (fun _ => clsW_fst) 0 11 rfl rfl (by decide) rfl hl.1 (rest := []) rfl (Nat.le_of_ble_eq_true rfl) dX11_stick_86 (st1 := fun _ => [.int (cond (inR z 0 1) (f 3 k) (fnd 0))]) (fun _ => rfl) (fun _ H locs _ X => ?_)
          have X : Wd E _ _ (clsW E a (cond (inR z 0 1) (up2 f 3 k z) f) g h ik one wo tp tl tk ts te tn rb rz rn (cond (inR z 0 1) td (fdU td 0))) _ _ := X.eq clsW_idP
          exact k_topi (x' := (oStick f td (nI k) y z).1) (by cases hb0 : inR z (-1) 5 <;> cases hb1 : inR z 0 999 <;> cases hb2 : inR z 0 1 <;> simp [oStick, bad3, hb0, hb1, hb2, hx0, ek, c15_0, c15_1, c15_2]) (fin () 89 _ _ _ trivial (X.eq (by cases hb0 : inR z (-1) 5 <;> cases hb1 : inR z 0 999 <;> cases hb2 : inR z 0 1 <;> simp [oStick, bad3, hb0, hb1, hb2, hx0, ek, c15_0, c15_1, c15_2])) dX11_stick_89)
        · refine lv_tableOut (tgt := 90) hx hb dX11_stick_15 (by have h0 := sw_ne (n := 0) (by decide) c15_0; have h1 := sw_ne (n := 1) (by decide) c15_1; have h2 := sw_ne (n := 2) (by decide) c15_2; omega) (by decide) ?_
          refine lv_aload_n hx hb dX11_stick_90 rfl (lv_at hl 0 rfl) ?_
          refine lv_iconst (v := 0) hx hb dX11_stick_91 (by decide) ?_
          refine k_callV K X gv_X11_84 (As := [.int 0]) (c_X11_finding l E a f g h ik one wo tp tl tk ts te tn rb rz rn td 0 (by decide)) [0, 1, 2, 3, 4, 5, 6, 7, 8, 9, 10, 11, 12, 13, 14, 15, 16, 17, 18, 19, 20, 21, 22, 23, 24, 25, 26, 27, 28, 29, 30, 31, 32, 33, 34, 35, 36, 37, 38, 39, 40, 41, 42] clsW_idC (by decide +kernel) (fun _ => clsW_fst) 0 11 rfl rfl (by decide) rfl hl.1 (rest := []) rfl (Nat.le_of_ble_eq_true rfl) dX11_stick_92 (st1 := fun _ => [.int (fnd 0)]) (fun _ => rfl) (fun _ H locs _ X => ?_)
          have X : Wd E _ _ (clsW E a f g h ik one wo tp tl tk ts te tn rb rz rn (fdU td 0)) _ _ := X.eq clsW_idP
          exact k_topi (x' := (oStick f td (nI k) y z).1) (by cases hb0 : inR z (-1) 5 <;> cases hb1 : inR z 0 999 <;> cases hb2 : inR z 0 1 <;> simp [oStick, bad3, hb0, hb1, hb2, hx0, ek, c15_0, c15_1, c15_2]) (fin () 95 _ _ _ trivial (X.eq (by cases hb0 : inR z (-1) 5 <;> cases hb1 : inR z 0 999 <;> cases hb2 : inR z 0 1 <;> simp [oStick, bad3, hb0, hb1, hb2, hx0, ek, c15_0, c15_1, c15_2])) dX11_stick_95)
  · have hx0 : isS f x = false := by simpa using c5
    refine lv_aload_n hx hb dX11_stick_8 rfl (lv_at hl 0 rfl) ?_
    refine lv_iconst (v := 0) hx hb dX11_stick_9 (by decide) ?_
    refine k_callV K X gv_X11_84 (As := [.int 0]) (c_X11_finding l E a f g h ik one wo tp tl tk ts te tn rb rz rn td 0 (by decide)) [0, 1, 2, 3, 4, 5, 6, 7, 8, 9, 10, 11, 12, 13, 14, 15, 16, 17, 18, 19, 20, 21, 22, 23, 24, 25, 26, 27, 28, 29, 30, 31, 32, 33, 34, 35, 36, 37, 38, 39, 40, 41, 42] clsW_idC (by decide +kernel) (fun _ => clsW_fst) 0 11 rfl rfl (by decide) rfl hl.1 (rest := []) rfl (Nat.le_of_ble_eq_true rfl) dX11_stick_10 (st1 := fun _ => [.int (fnd 0)]) (fun _ => rfl) (fun _ H locs _ X => ?_)
    have X : Wd E _ _ (clsW E a f g h ik one wo tp tl tk ts te tn rb rz rn (fdU td 0)) _ _ := X.eq clsW_idP
    exact k_topi (x' := (oStick f td x y z).1) (by cases hb0 : inR z (-1) 5 <;> cases hb1 : inR z 0 999 <;> cases hb2 : inR z 0 1 <;> simp [oStick, bad3, hb0, hb1, hb2, hx0]) (fin () 13 _ _ _ trivial (X.eq (by cases hb0 : inR z (-1) 5 <;> cases hb1 : inR z 0 999 <;> cases hb2 : inR z 0 1 <;> simp [oStick, bad3, hb0, hb1, hb2, hx0])) dX11_stick_13)
set_option maxRecDepth 100000 in
set_option maxHeartbeats 4000000 in
theorem c_X11_group (l : Launch) (E : EE) (a : Nat → Nat) (f : St) (g : St) (h : St) (ik : Int32) (one : Int32) (wo : Int32) (tp : Nat → Int32) (tl : Int32) (tk : Int32) (ts : Int32) (te : Int32) (tn : Int32) (rb : Nat → Int32) (rz : Nat → Int32) (rn : Nat → Nat → Int64) (td : Nat → Int32) (T : Nat) (x : Int32) (I : Inv T f) : Kd l yX11_group cX11_group 2 (some .int) 1 23 E (clsW E a f g h ik one wo tp tl tk ts te tn rb rz rn td) [.ref (a 0), .int x] (some (.int ((oGroup f td x).1))) (clsW E a ((oGroup f td x).2.1) g h ik one wo tp tl tk ts te tn rb rz rn ((oGroup f td x).2.2)) := by
  refine Kn.ofWi (by decide +kernel) (Nat.le_of_ble_eq_true rfl) (fun _ _ => rfl) ?_
  intro pg ev s0 mm below meth cd Q K X fin ls hl
  have hx := K.1
  have hb := K.2.1
  have hs10 := I.s10
  have hp6 := I.p6
  have hl : lv_has ls 2 [(0, .ref (a 0)), (1, .int x)] := hl
  refine lv_iload_n hx hb dX11_group_0 rfl (lv_at hl 1 rfl) ?_
  refine lv_iconst (v := (-1)) hx hb dX11_group_1 (by decide) ?_
  refine lv_iconst (v := 5) hx hb dX11_group_2 (by decide) ?_
  refine k_callS K X gs_X11_80 (As := [.int x, .int (-1), .int 5]) (c_X11_within l E x (-1) 5) [] rfl (by decide +kernel) (fun _ => rfl) (by decide) rfl hl.1 (rest := []) rfl (Nat.le_of_ble_eq_true rfl) dX11_group_3 (st1 := fun _ => [.int (b2i (inR x (-1) 5))]) (fun _ => rfl) (fun _ H locs _ X => ?_)
  have X : Wd E _ _ (clsW E a f g h ik one wo tp tl tk ts te tn rb rz rn td) _ _ := X
  refine k_ifneB (B := (inR x (-1) 5)) hx hb 15 dX11_group_6 (by decide) (fun c6 => ?_) (fun c6 => ?_)
  · refine lv_aload_n hx hb dX11_group_15 rfl (lv_at hl 0 rfl) ?_
    refine k_get K X 0 rfl fg_X11_30 (v := .ref (a 1)) rfl dX11_group_16 ?_
    refine lv_iload_n hx hb dX11_group_19 rfl (lv_at hl 1 rfl) ?_
    refine k_callV K X gv_X11_122 (As := [.int x]) (c_X6_slipsIn l E (fun j => a (1 + j)) (fun j => a (36 + j)) f T x I) [1, 2, 3, 4, 5, 6, 7] clsW_s3C (by decide +kernel) (fun _ => roomW_fst) 0 6 rfl rfl (by decide) rfl hl.1 (rest := []) rfl (Nat.le_of_ble_eq_true rfl) dX11_group_20 (st1 := fun _ => [.int (inF f x)]) (fun _ => rfl) (fun _ H locs _ X => ?_)
    have X : Wd E _ _ (clsW E a f g h ik one wo tp tl tk ts te tn rb rz rn td) _ _ := X.eq clsW_s3P
    exact k_topi (x' := (oGroup f td x).1) (by simp [oGroup, bad3, c6]) (fin () 23 _ _ _ trivial (X.eq (by simp [oGroup, bad3, c6])) dX11_group_23)
  · refine lv_aload_n hx hb dX11_group_9 rfl (lv_at hl 0 rfl) ?_
    refine lv_iconst (v := 0) hx hb dX11_group_10 (by decide) ?_
    refine k_callV K X gv_X11_84 (As := [.int 0]) (c_X11_finding l E a f g h ik one wo tp tl tk ts te tn rb rz rn td 0 (by decide)) [0, 1, 2, 3, 4, 5, 6, 7, 8, 9, 10, 11, 12, 13, 14, 15, 16, 17, 18, 19, 20, 21, 22, 23, 24, 25, 26, 27, 28, 29, 30, 31, 32, 33, 34, 35, 36, 37, 38, 39, 40, 41, 42] clsW_idC (by decide +kernel) (fun _ => clsW_fst) 0 11 rfl rfl (by decide) rfl hl.1 (rest := []) rfl (Nat.le_of_ble_eq_true rfl) dX11_group_11 (st1 := fun _ => [.int (fnd 0)]) (fun _ => rfl) (fun _ H locs _ X => ?_)
    have X : Wd E _ _ (clsW E a f g h ik one wo tp tl tk ts te tn rb rz rn (fdU td 0)) _ _ := X.eq clsW_idP
    exact k_topi (x' := (oGroup f td x).1) (by simp [oGroup, bad3, c6]) (fin () 14 _ _ _ trivial (X.eq (by simp [oGroup, bad3, c6])) dX11_group_14)
set_option maxRecDepth 100000 in
set_option maxHeartbeats 4000000 in
theorem c_X11_now (l : Launch) (E : EE) (a : Nat → Nat) (f : St) (g : St) (h : St) (ik : Int32) (one : Int32) (wo : Int32) (tp : Nat → Int32) (tl : Int32) (tk : Int32) (ts : Int32) (te : Int32) (tn : Int32) (rb : Nat → Int32) (rz : Nat → Int32) (rn : Nat → Nat → Int64) (td : Nat → Int32) (T : Nat) (x : Int32) (I : Inv T f) (hT : T < 1000000) : Kd l yX11_now cX11_now 2 (some .int) 1 22 E (clsW E a f g h ik one wo tp tl tk ts te tn rb rz rn td) [.ref (a 0), .int x] (some (.int ((oNow f td x).1))) (clsW E a ((oNow f td x).2.1) g h ik one wo tp tl tk ts te tn rb rz rn ((oNow f td x).2.2)) := by
  refine Kn.ofWi (by decide +kernel) (Nat.le_of_ble_eq_true rfl) (fun _ _ => rfl) ?_
  intro pg ev s0 mm below meth cd Q K X fin ls hl
  have hx := K.1
  have hb := K.2.1
  have hs10 := I.s10
  have hp6 := I.p6
  have hl : lv_has ls 2 [(0, .ref (a 0)), (1, .int x)] := hl
  refine lv_iload_n hx hb dX11_now_0 rfl (lv_at hl 1 rfl) ?_
  by_cases c1_0 : x = 0
  · refine k_topi (x' := 0) c1_0 ?_
    refine lv_tableIn (off := 39) (tgt := 40) hx hb dX11_now_1 (by decide) (by decide) rfl (by decide) ?_
    refine lv_aload_n hx hb dX11_now_40 rfl (lv_at hl 0 rfl) ?_
    refine k_get K X 0 rfl fg_X11_30 (v := .ref (a 1)) rfl dX11_now_41 ?_
    refine k_getN K X 1 rfl fg_X11_125 (v := .int (f 0 0)) rfl dX11_now_44 ?_
    exact k_topi (x' := (oNow f td x).1) (by simp [oNow, bad3, c1_0]) (fin () 47 _ _ _ trivial (X.eq (by simp [oNow, bad3, c1_0])) dX11_now_47)
  · by_cases c1_1 : x = 1
    · refine k_topi (x' := 1) c1_1 ?_
      refine lv_tableIn (off := 47) (tgt := 48) hx hb dX11_now_1 (by decide) (by decide) rfl (by decide) ?_
      refine lv_aload_n hx hb dX11_now_48 rfl (lv_at hl 0 rfl) ?_
      refine k_get K X 0 rfl fg_X11_30 (v := .ref (a 1)) rfl dX11_now_49 ?_
      refine k_getN K X 1 rfl fg_X11_88 (v := .int (f 0 1)) rfl dX11_now_52 ?_
      exact k_topi (x' := (oNow f td x).1) (by simp [oNow, bad3, c1_0, c1_1]) (fin () 55 _ _ _ trivial (X.eq (by simp [oNow, bad3, c1_0, c1_1])) dX11_now_55)
    · by_cases c1_2 : x = 2
      · refine k_topi (x' := 2) c1_2 ?_
        refine lv_tableIn (off := 55) (tgt := 56) hx hb dX11_now_1 (by decide) (by decide) rfl (by decide) ?_
        refine lv_aload_n hx hb dX11_now_56 rfl (lv_at hl 0 rfl) ?_
        refine k_get K X 0 rfl fg_X11_30 (v := .ref (a 1)) rfl dX11_now_57 ?_
        refine k_callV K X gv_X11_128 (As := []) (c_X6_whoseTurn l E (fun j => a (1 + j)) (fun j => a (36 + j)) f T I (by omega)) [1, 2, 3, 4, 5, 6, 7] clsW_s3C (by decide +kernel) (fun _ => roomW_fst) 0 6 rfl rfl (by decide) rfl hl.1 (rest := []) rfl (Nat.le_of_ble_eq_true rfl) dX11_now_60 (st1 := fun _ => [.int (whoF f)]) (fun _ => rfl) (fun _ H locs _ X => ?_)
        have X : Wd E _ _ (clsW E a f g h ik one wo tp tl tk ts te tn rb rz rn td) _ _ := X.eq clsW_s3P
        exact k_topi (x' := (oNow f td x).1) (by simp [oNow, bad3, c1_0, c1_1, c1_2]) (fin () 63 _ _ _ trivial (X.eq (by simp [oNow, bad3, c1_0, c1_1, c1_2])) dX11_now_63)
      · by_cases c1_3 : x = 3
        · refine k_topi (x' := 3) c1_3 ?_
          refine lv_tableIn (off := 63) (tgt := 64) hx hb dX11_now_1 (by decide) (by decide) rfl (by decide) ?_
          refine lv_aload_n hx hb dX11_now_64 rfl (lv_at hl 0 rfl) ?_
          refine k_get K X 0 rfl fg_X11_30 (v := .ref (a 1)) rfl dX11_now_65 ?_
          refine k_callV K X gv_X11_132 (As := []) (c_X6_groupsWithSlips l E (fun j => a (1 + j)) (fun j => a (36 + j)) f T I) [1, 2, 3, 4, 5, 6, 7] clsW_s3C (by decide +kernel) (fun _ => roomW_fst) 0 6 rfl rfl (by decide) rfl hl.1 (rest := []) rfl (Nat.le_of_ble_eq_true rfl) dX11_now_68 (st1 := fun _ => [.int (groupsF f)]) (fun _ => rfl) (fun _ H locs _ X => ?_)
          have X : Wd E _ _ (clsW E a f g h ik one wo tp tl tk ts te tn rb rz rn td) _ _ := X.eq clsW_s3P
          exact k_topi (x' := (oNow f td x).1) (by simp [oNow, bad3, c1_0, c1_1, c1_2, c1_3]) (fin () 71 _ _ _ trivial (X.eq (by simp [oNow, bad3, c1_0, c1_1, c1_2, c1_3])) dX11_now_71)
        · by_cases c1_4 : x = 4
          · refine k_topi (x' := 4) c1_4 ?_
            refine lv_tableIn (off := 71) (tgt := 72) hx hb dX11_now_1 (by decide) (by decide) rfl (by decide) ?_
            refine lv_aload_n hx hb dX11_now_72 rfl (lv_at hl 0 rfl) ?_
            refine k_get K X 0 rfl fg_X11_30 (v := .ref (a 1)) rfl dX11_now_73 ?_
            refine k_callV K X gv_X11_135 (As := []) (c_X6_fixedSlips l E (fun j => a (1 + j)) (fun j => a (36 + j)) f T I) [1, 2, 3, 4, 5, 6, 7] clsW_s3C (by decide +kernel) (fun _ => roomW_fst) 0 6 rfl rfl (by decide) rfl hl.1 (rest := []) rfl (Nat.le_of_ble_eq_true rfl) dX11_now_76 (st1 := fun _ => [.int (fixedF f)]) (fun _ => rfl) (fun _ H locs _ X => ?_)
            have X : Wd E _ _ (clsW E a f g h ik one wo tp tl tk ts te tn rb rz rn td) _ _ := X.eq clsW_s3P
            exact k_topi (x' := (oNow f td x).1) (by simp [oNow, bad3, c1_0, c1_1, c1_2, c1_3, c1_4]) (fin () 79 _ _ _ trivial (X.eq (by simp [oNow, bad3, c1_0, c1_1, c1_2, c1_3, c1_4])) dX11_now_79)
          · by_cases c1_5 : x = 5
            · refine k_topi (x' := 5) c1_5 ?_
              refine lv_tableIn (off := 79) (tgt := 80) hx hb dX11_now_1 (by decide) (by decide) rfl (by decide) ?_
              refine lv_aload_n hx hb dX11_now_80 rfl (lv_at hl 0 rfl) ?_
              refine k_get K X 0 rfl fg_X11_30 (v := .ref (a 1)) rfl dX11_now_81 ?_
              refine k_callV K X gv_X11_138 (As := []) (c_X6_movedTogether l E (fun j => a (1 + j)) (fun j => a (36 + j)) f T I) [1, 2, 3, 4, 5, 6, 7] clsW_s3C (by decide +kernel) (fun _ => roomW_fst) 0 6 rfl rfl (by decide) rfl hl.1 (rest := []) rfl (Nat.le_of_ble_eq_true rfl) dX11_now_84 (st1 := fun _ => [.int (allF f)]) (fun _ => rfl) (fun _ H locs _ X => ?_)
              have X : Wd E _ _ (clsW E a f g h ik one wo tp tl tk ts te tn rb rz rn td) _ _ := X.eq clsW_s3P
              exact k_topi (x' := (oNow f td x).1) (by simp [oNow, bad3, c1_0, c1_1, c1_2, c1_3, c1_4, c1_5]) (fin () 87 _ _ _ trivial (X.eq (by simp [oNow, bad3, c1_0, c1_1, c1_2, c1_3, c1_4, c1_5])) dX11_now_87)
            · refine lv_tableOut (tgt := 88) hx hb dX11_now_1 (by have h0 := sw_ne (n := 0) (by decide) c1_0; have h1 := sw_ne (n := 1) (by decide) c1_1; have h2 := sw_ne (n := 2) (by decide) c1_2; have h3 := sw_ne (n := 3) (by decide) c1_3; have h4 := sw_ne (n := 4) (by decide) c1_4; have h5 := sw_ne (n := 5) (by decide) c1_5; omega) (by decide) ?_
              refine lv_aload_n hx hb dX11_now_88 rfl (lv_at hl 0 rfl) ?_
              refine lv_iconst (v := 0) hx hb dX11_now_89 (by decide) ?_
              refine k_callV K X gv_X11_84 (As := [.int 0]) (c_X11_finding l E a f g h ik one wo tp tl tk ts te tn rb rz rn td 0 (by decide)) [0, 1, 2, 3, 4, 5, 6, 7, 8, 9, 10, 11, 12, 13, 14, 15, 16, 17, 18, 19, 20, 21, 22, 23, 24, 25, 26, 27, 28, 29, 30, 31, 32, 33, 34, 35, 36, 37, 38, 39, 40, 41, 42] clsW_idC (by decide +kernel) (fun _ => clsW_fst) 0 11 rfl rfl (by decide) rfl hl.1 (rest := []) rfl (Nat.le_of_ble_eq_true rfl) dX11_now_90 (st1 := fun _ => [.int (fnd 0)]) (fun _ => rfl) (fun _ H locs _ X => ?_)
              have X : Wd E _ _ (clsW E a f g h ik one wo tp tl tk ts te tn rb rz rn (fdU td 0)) _ _ := X.eq clsW_idP
              exact k_topi (x' := (oNow f td x).1) (by simp [oNow, bad3, c1_0, c1_1, c1_2, c1_3, c1_4, c1_5]) (fin () 93 _ _ _ trivial (X.eq (by simp [oNow, bad3, c1_0, c1_1, c1_2, c1_3, c1_4, c1_5])) dX11_now_93)
set_option maxRecDepth 100000 in
set_option maxHeartbeats 4000000 in
theorem c_X11_person (l : Launch) (E : EE) (a : Nat → Nat) (f : St) (g : St) (h : St) (ik : Int32) (one : Int32) (wo : Int32) (tp : Nat → Int32) (tl : Int32) (tk : Int32) (ts : Int32) (te : Int32) (tn : Int32) (rb : Nat → Int32) (rz : Nat → Int32) (rn : Nat → Nat → Int64) (td : Nat → Int32) (T : Nat) (x : Int32) (I : Inv T f) : Kd l yX11_person cX11_person 2 (some .int) 2 43 E (clsW E a f g h ik one wo tp tl tk ts te tn rb rz rn td) [.ref (a 0), .int x] (some (.int ((oPerson f td x).1))) (clsW E a ((oPerson f td x).2.1) g h ik one wo tp tl tk ts te tn rb rz rn ((oPerson f td x).2.2)) := by
  refine Kn.ofWi (by decide +kernel) (Nat.le_of_ble_eq_true rfl) (fun _ _ => rfl) ?_
  intro pg ev s0 mm below meth cd Q K X fin ls hl
  have hx := K.1
  have hb := K.2.1
  have hs10 := I.s10
  have hp6 := I.p6
  have hl : lv_has ls 2 [(0, .ref (a 0)), (1, .int x)] := hl
  refine lv_iload_n hx hb dX11_person_0 rfl (lv_at hl 1 rfl) ?_
  refine lv_iconst (v := 0) hx hb dX11_person_1 (by decide) ?_
  refine lv_iconst (v := 5) hx hb dX11_person_2 (by decide) ?_
  refine k_callS K X gs_X11_80 (As := [.int x, .int 0, .int 5]) (c_X11_within l E x 0 5) [] rfl (by decide +kernel) (fun _ => rfl) (by decide) rfl hl.1 (rest := []) rfl (Nat.le_of_ble_eq_true rfl) dX11_person_3 (st1 := fun _ => [.int (b2i (inR x 0 5))]) (fun _ => rfl) (fun _ H locs _ X => ?_)
  have X : Wd E _ _ (clsW E a f g h ik one wo tp tl tk ts te tn rb rz rn td) _ _ := X
  refine k_ifneB (B := (inR x 0 5)) hx hb 15 dX11_person_6 (by decide) (fun c6 => ?_) (fun c6 => ?_)
  · refine lv_aload_n hx hb dX11_person_15 rfl (lv_at hl 0 rfl) ?_
    refine k_get K X 0 rfl fg_X11_30 (v := .ref (a 1)) rfl dX11_person_16 ?_
    refine k_getN K X 1 rfl fg_X11_141 (v := .int (f 0 3)) rfl dX11_person_19 ?_
    refine k_topi (I.hP) ?_
    refine lv_bipush (v := 6) hx hb dX11_person_22 (by decide) ?_
    refine kN_lt (x := pe f) (y := 6) hx hb 33 dX11_person_24 (by decide) (by omega) (by omega) (fun c24 => ?_) (fun c24 => ?_)
    · have hb1 : decide (pe f < 6) = true := by simp; omega
      refine lv_aload_n hx hb dX11_person_33 rfl (lv_at hl 0 rfl) ?_
      refine k_get K X 0 rfl fg_X11_30 (v := .ref (a 1)) rfl dX11_person_34 ?_
      refine lv_iload_n hx hb dX11_person_37 rfl (lv_at hl 1 rfl) ?_
      refine k_callV K X gv_X11_144 (As := [.int x]) (c_X6_addPerson l E (fun j => a (1 + j)) (fun j => a (36 + j)) f T x I (by omega)) [1, 2, 3, 4, 5, 6, 7] clsW_s3C (by decide +kernel) (fun _ => roomW_fst) 0 6 rfl rfl (by decide) rfl hl.1 (rest := []) rfl (Nat.le_of_ble_eq_true rfl) dX11_person_38 (st1 := fun _ => [.int (nI (pe f))]) (fun _ => rfl) (fun _ H locs _ X => ?_)
      have X : Wd E _ _ (clsW E a (addP f x) g h ik one wo tp tl tk ts te tn rb rz rn td) _ _ := X.eq clsW_s3P
      exact k_topi (x' := (oPerson f td x).1) (by simp [oPerson, bad3, c6, hb1]) (fin () 41 _ _ _ trivial (X.eq (by simp [oPerson, bad3, c6, hb1])) dX11_person_41)
    · have hb1 : decide (pe f < 6) = false := by simp; omega
      refine lv_aload_n hx hb dX11_person_27 rfl (lv_at hl 0 rfl) ?_
      refine lv_iconst (v := 1) hx hb dX11_person_28 (by decide) ?_
      refine k_callV K X gv_X11_84 (As := [.int 1]) (c_X11_finding l E a f g h ik one wo tp tl tk ts te tn rb rz rn td 1 (by decide)) [0, 1, 2, 3, 4, 5, 6, 7, 8, 9, 10, 11, 12, 13, 14, 15, 16, 17, 18, 19, 20, 21, 22, 23, 24, 25, 26, 27, 28, 29, 30, 31, 32, 33, 34, 35, 36, 37, 38, 39, 40, 41, 42] clsW_idC (by decide +kernel) (fun _ => clsW_fst) 0 11 rfl rfl (by decide) rfl hl.1 (rest := []) rfl (Nat.le_of_ble_eq_true rfl) dX11_person_29 (st1 := fun _ => [.int (fnd 1)]) (fun _ => rfl) (fun _ H locs _ X => ?_)
      have X : Wd E _ _ (clsW E a f g h ik one wo tp tl tk ts te tn rb rz rn (fdU td 1)) _ _ := X.eq clsW_idP
      exact k_topi (x' := (oPerson f td x).1) (by simp [oPerson, bad3, c6, hb1]) (fin () 32 _ _ _ trivial (X.eq (by simp [oPerson, bad3, c6, hb1])) dX11_person_32)
  · refine lv_aload_n hx hb dX11_person_9 rfl (lv_at hl 0 rfl) ?_
    refine lv_iconst (v := 0) hx hb dX11_person_10 (by decide) ?_
    refine k_callV K X gv_X11_84 (As := [.int 0]) (c_X11_finding l E a f g h ik one wo tp tl tk ts te tn rb rz rn td 0 (by decide)) [0, 1, 2, 3, 4, 5, 6, 7, 8, 9, 10, 11, 12, 13, 14, 15, 16, 17, 18, 19, 20, 21, 22, 23, 24, 25, 26, 27, 28, 29, 30, 31, 32, 33, 34, 35, 36, 37, 38, 39, 40, 41, 42] clsW_idC (by decide +kernel) (fun _ => clsW_fst) 0 11 rfl rfl (by decide) rfl hl.1 (rest := []) rfl (Nat.le_of_ble_eq_true rfl) dX11_person_11 (st1 := fun _ => [.int (fnd 0)]) (fun _ => rfl) (fun _ H locs _ X => ?_)
    have X : Wd E _ _ (clsW E a f g h ik one wo tp tl tk ts te tn rb rz rn (fdU td 0)) _ _ := X.eq clsW_idP
    exact k_topi (x' := (oPerson f td x).1) (by simp [oPerson, bad3, c6]) (fin () 14 _ _ _ trivial (X.eq (by simp [oPerson, bad3, c6])) dX11_person_14)
set_option maxRecDepth 100000 in
set_option maxHeartbeats 4000000 in
theorem c_X11_of (l : Launch) (E : EE) (a : Nat → Nat) (f : St) (g : St) (h : St) (ik : Int32) (one : Int32) (wo : Int32) (tp : Nat → Int32) (tl : Int32) (tk : Int32) (ts : Int32) (te : Int32) (tn : Int32) (rb : Nat → Int32) (rz : Nat → Int32) (rn : Nat → Nat → Int64) (td : Nat → Int32) (T : Nat) (x : Int32) (y : Int32) (I : Inv T f) : Kd l yX11_of cX11_of 3 (some .int) 4 93 E (clsW E a f g h ik one wo tp tl tk ts te tn rb rz rn td) [.ref (a 0), .int x, .int y] (some (.int ((oOf f td x y).1))) (clsW E a ((oOf f td x y).2.1) g h ik one wo tp tl tk ts te tn rb rz rn ((oOf f td x y).2.2)) := by
  refine Kn.ofWi (by decide +kernel) (Nat.le_of_ble_eq_true rfl) (fun _ _ => rfl) ?_
  intro pg ev s0 mm below meth cd Q K X fin ls hl
  have hx := K.1
  have hb := K.2.1
  have hs10 := I.s10
  have hp6 := I.p6
  have hl : lv_has ls 3 [(0, .ref (a 0)), (1, .int x), (2, .int y)] := hl
  refine lv_aload_n hx hb dX11_of_0 rfl (lv_at hl 0 rfl) ?_
  refine lv_iload_n hx hb dX11_of_1 rfl (lv_at hl 1 rfl) ?_
  refine k_callV K X gv_X11_147 (As := [.int x]) (c_X11_noPerson l E a f g h ik one wo tp tl tk ts te tn rb rz rn td x) [0, 1, 2, 3, 4, 5, 6, 7, 8, 9, 10, 11, 12, 13, 14, 15, 16, 17, 18, 19, 20, 21, 22, 23, 24, 25, 26, 27, 28, 29, 30, 31, 32, 33, 34, 35, 36, 37, 38, 39, 40, 41, 42] clsW_idC (by decide +kernel) (fun _ => clsW_fst) 0 11 rfl rfl (by decide) rfl hl.1 (rest := []) rfl (Nat.le_of_ble_eq_true rfl) dX11_of_2 (st1 := fun _ => [.int (b2i (!isP f x))]) (fun _ => rfl) (fun _ H locs _ X => ?_)
  have X : Wd E _ _ (clsW E a f g h ik one wo tp tl tk ts te tn rb rz rn td) _ _ := X.eq clsW_idP
  refine k_ifeqB (B := (!isP f x)) hx hb 14 dX11_of_5 (by decide) (fun c5 => ?_) (fun c5 => ?_)
  · have hx0 : isP f x = true := by simpa using c5
    obtain ⟨k, hk, rfl⟩ := isP_nat I hx0
    have ek : (nI k).toNatClampNeg = k := nI_clamp (by omega)
    refine lv_iload_n hx hb dX11_of_14 rfl (lv_at hl 2 rfl) ?_
    by_cases c15_0 : y = 0
    · refine k_topi (x' := 0) c15_0 ?_
      refine lv_tableIn (off := 33) (tgt := 48) hx hb dX11_of_15 (by decide) (by decide) rfl (by decide) ?_
      refine lv_aload_n hx hb dX11_of_48 rfl (lv_at hl 0 rfl) ?_
      refine k_get K X 0 rfl fg_X11_30 (v := .ref (a 1)) rfl dX11_of_49 ?_
      refine k_getN K X 1 rfl fg_X11_150 (v := .ref (a 5)) rfl dX11_of_52 ?_
      refine lv_iload_n hx hb dX11_of_55 rfl (lv_at hl 1 rfl) ?_
      refine k_ialdN K X 5 rfl (k := k) (by omega) (by decide) dX11_of_56 (v := f 4 k) rfl ?_
      exact k_topi (x' := (oOf f td (nI k) y).1) (by simp [oOf, bad3, hx0, ek, c15_0]) (fin () 57 _ _ _ trivial (X.eq (by simp [oOf, bad3, hx0, ek, c15_0])) dX11_of_57)
    · by_cases c15_1 : y = 1
      · refine k_topi (x' := 1) c15_1 ?_
        refine lv_tableIn (off := 43) (tgt := 58) hx hb dX11_of_15 (by decide) (by decide) rfl (by decide) ?_
        refine lv_aload_n hx hb dX11_of_58 rfl (lv_at hl 0 rfl) ?_
        refine k_get K X 0 rfl fg_X11_30 (v := .ref (a 1)) rfl dX11_of_59 ?_
        refine k_getN K X 1 rfl fg_X11_153 (v := .ref (a 6)) rfl dX11_of_62 ?_
        refine lv_iload_n hx hb dX11_of_65 rfl (lv_at hl 1 rfl) ?_
        refine k_ialdN K X 6 rfl (k := k) (by omega) (by decide) dX11_of_66 (v := f 5 k) rfl ?_
        exact k_topi (x' := (oOf f td (nI k) y).1) (by simp [oOf, bad3, hx0, ek, c15_0, c15_1]) (fin () 67 _ _ _ trivial (X.eq (by simp [oOf, bad3, hx0, ek, c15_0, c15_1])) dX11_of_67)
      · by_cases c15_2 : y = 2
        · refine k_topi (x' := 2) c15_2 ?_
          refine lv_tableIn (off := 53) (tgt := 68) hx hb dX11_of_15 (by decide) (by decide) rfl (by decide) ?_
          refine lv_aload_n hx hb dX11_of_68 rfl (lv_at hl 0 rfl) ?_
          refine k_get K X 0 rfl fg_X11_30 (v := .ref (a 1)) rfl dX11_of_69 ?_
          refine lv_iload_n hx hb dX11_of_72 rfl (lv_at hl 1 rfl) ?_
          refine k_callV K X gv_X11_156 (As := [.int (nI k)]) (c_X6_slipsPleasing l E (fun j => a (1 + j)) (fun j => a (36 + j)) f T k I (by omega)) [1, 2, 3, 4, 5, 6, 7] clsW_s3C (by decide +kernel) (fun _ => roomW_fst) 0 6 rfl rfl (by decide) rfl hl.1 (rest := []) rfl (Nat.le_of_ble_eq_true rfl) dX11_of_73 (st1 := fun _ => [.int (wayF f k)]) (fun _ => rfl) (fun _ H locs _ X => ?_)
          have X : Wd E _ _ (clsW E a f g h ik one wo tp tl tk ts te tn rb rz rn td) _ _ := X.eq clsW_s3P
          exact k_topi (x' := (oOf f td (nI k) y).1) (by simp [oOf, bad3, hx0, ek, c15_0, c15_1, c15_2]) (fin () 76 _ _ _ trivial (X.eq (by simp [oOf, bad3, hx0, ek, c15_0, c15_1, c15_2])) dX11_of_76)
        · by_cases c15_3 : y = 3
          · refine k_topi (x' := 3) c15_3 ?_
            refine lv_tableIn (off := 62) (tgt := 77) hx hb dX11_of_15 (by decide) (by decide) rfl (by decide) ?_
            refine lv_aload_n hx hb dX11_of_77 rfl (lv_at hl 0 rfl) ?_
            refine k_get K X 0 rfl fg_X11_30 (v := .ref (a 1)) rfl dX11_of_78 ?_
            refine lv_iload_n hx hb dX11_of_81 rfl (lv_at hl 1 rfl) ?_
            refine k_callV K X gv_X11_159 (As := [.int (nI k)]) (c_X6_pickOf l E (fun j => a (1 + j)) (fun j => a (36 + j)) f T k I (by omega)) [1, 2, 3, 4, 5, 6, 7, 36, 37, 38, 39, 40, 41, 42] clsW_s0C (by decide +kernel) (fun _ => roomK_fst) 0 6 rfl rfl (by decide) rfl hl.1 (rest := []) rfl (Nat.le_of_ble_eq_true rfl) dX11_of_82 (st1 := fun _ => [.int (pickF f k)]) (fun _ => rfl) (fun _ H locs _ X => ?_)
            have X : Wd E _ _ (clsW E a f g h ik one wo tp tl tk ts te tn rb rz rn td) _ _ := X.eq clsW_s0P
            exact k_topi (x' := (oOf f td (nI k) y).1) (by simp [oOf, bad3, hx0, ek, c15_0, c15_1, c15_2, c15_3]) (fin () 85 _ _ _ trivial (X.eq (by simp [oOf, bad3, hx0, ek, c15_0, c15_1, c15_2, c15_3])) dX11_of_85)
          · by_cases c15_4 : y = 4
            · refine k_topi (x' := 4) c15_4 ?_
              refine lv_tableIn (off := 71) (tgt := 86) hx hb dX11_of_15 (by decide) (by decide) rfl (by decide) ?_
              refine lv_aload_n hx hb dX11_of_86 rfl (lv_at hl 0 rfl) ?_
              refine k_get K X 0 rfl fg_X11_30 (v := .ref (a 1)) rfl dX11_of_87 ?_
              refine lv_iload_n hx hb dX11_of_90 rfl (lv_at hl 1 rfl) ?_
              refine k_callV K X gv_X11_162 (As := [.int (nI k)]) (c_X6_turnsOf l E (fun j => a (1 + j)) (fun j => a (36 + j)) f T k I (by omega)) [1, 2, 3, 4, 5, 6, 7, 36, 37, 38, 39, 40, 41, 42] clsW_s0C (by decide +kernel) (fun _ => roomK_fst) 0 6 rfl rfl (by decide) rfl hl.1 (rest := []) rfl (Nat.le_of_ble_eq_true rfl) dX11_of_91 (st1 := fun _ => [.int (nI (turnS (kn f k)))]) (fun _ => rfl) (fun _ H locs _ X => ?_)
              have X : Wd E _ _ (clsW E a f g h ik one wo tp tl tk ts te tn rb rz rn td) _ _ := X.eq clsW_s0P
              exact k_topi (x' := (oOf f td (nI k) y).1) (by simp [oOf, bad3, hx0, ek, c15_0, c15_1, c15_2, c15_3, c15_4]) (fin () 94 _ _ _ trivial (X.eq (by simp [oOf, bad3, hx0, ek, c15_0, c15_1, c15_2, c15_3, c15_4])) dX11_of_94)
            · refine lv_tableOut (tgt := 95) hx hb dX11_of_15 (by have h0 := sw_ne (n := 0) (by decide) c15_0; have h1 := sw_ne (n := 1) (by decide) c15_1; have h2 := sw_ne (n := 2) (by decide) c15_2; have h3 := sw_ne (n := 3) (by decide) c15_3; have h4 := sw_ne (n := 4) (by decide) c15_4; omega) (by decide) ?_
              refine lv_aload_n hx hb dX11_of_95 rfl (lv_at hl 0 rfl) ?_
              refine lv_iconst (v := 0) hx hb dX11_of_96 (by decide) ?_
              refine k_callV K X gv_X11_84 (As := [.int 0]) (c_X11_finding l E a f g h ik one wo tp tl tk ts te tn rb rz rn td 0 (by decide)) [0, 1, 2, 3, 4, 5, 6, 7, 8, 9, 10, 11, 12, 13, 14, 15, 16, 17, 18, 19, 20, 21, 22, 23, 24, 25, 26, 27, 28, 29, 30, 31, 32, 33, 34, 35, 36, 37, 38, 39, 40, 41, 42] clsW_idC (by decide +kernel) (fun _ => clsW_fst) 0 11 rfl rfl (by decide) rfl hl.1 (rest := []) rfl (Nat.le_of_ble_eq_true rfl) dX11_of_97 (st1 := fun _ => [.int (fnd 0)]) (fun _ => rfl) (fun _ H locs _ X => ?_)
              have X : Wd E _ _ (clsW E a f g h ik one wo tp tl tk ts te tn rb rz rn (fdU td 0)) _ _ := X.eq clsW_idP
              exact k_topi (x' := (oOf f td (nI k) y).1) (by simp [oOf, bad3, hx0, ek, c15_0, c15_1, c15_2, c15_3, c15_4]) (fin () 100 _ _ _ trivial (X.eq (by simp [oOf, bad3, hx0, ek, c15_0, c15_1, c15_2, c15_3, c15_4])) dX11_of_100)
  · have hx0 : isP f x = false := by simpa using c5
    refine lv_aload_n hx hb dX11_of_8 rfl (lv_at hl 0 rfl) ?_
    refine lv_iconst (v := 0) hx hb dX11_of_9 (by decide) ?_
    refine k_callV K X gv_X11_84 (As := [.int 0]) (c_X11_finding l E a f g h ik one wo tp tl tk ts te tn rb rz rn td 0 (by decide)) [0, 1, 2, 3, 4, 5, 6, 7, 8, 9, 10, 11, 12, 13, 14, 15, 16, 17, 18, 19, 20, 21, 22, 23, 24, 25, 26, 27, 28, 29, 30, 31, 32, 33, 34, 35, 36, 37, 38, 39, 40, 41, 42] clsW_idC (by decide +kernel) (fun _ => clsW_fst) 0 11 rfl rfl (by decide) rfl hl.1 (rest := []) rfl (Nat.le_of_ble_eq_true rfl) dX11_of_10 (st1 := fun _ => [.int (fnd 0)]) (fun _ => rfl) (fun _ H locs _ X => ?_)
    have X : Wd E _ _ (clsW E a f g h ik one wo tp tl tk ts te tn rb rz rn (fdU td 0)) _ _ := X.eq clsW_idP
    exact k_topi (x' := (oOf f td x y).1) (by simp [oOf, bad3, hx0]) (fin () 13 _ _ _ trivial (X.eq (by simp [oOf, bad3, hx0])) dX11_of_13)
set_option maxRecDepth 100000 in
set_option maxHeartbeats 4000000 in
theorem c_X11_wants (l : Launch) (E : EE) (a : Nat → Nat) (f : St) (g : St) (h : St) (ik : Int32) (one : Int32) (wo : Int32) (tp : Nat → Int32) (tl : Int32) (tk : Int32) (ts : Int32) (te : Int32) (tn : Int32) (rb : Nat → Int32) (rz : Nat → Int32) (rn : Nat → Nat → Int64) (td : Nat → Int32) (T : Nat) (x : Int32) (y : Int32) (z : Int32) (I : Inv T f) : Kd l yX11_wants cX11_wants 4 (some .int) 2 48 E (clsW E a f g h ik one wo tp tl tk ts te tn rb rz rn td) [.ref (a 0), .int x, .int y, .int z] (some (.int ((oWants f td x y z).1))) (clsW E a ((oWants f td x y z).2.1) g h ik one wo tp tl tk ts te tn rb rz rn ((oWants f td x y z).2.2)) := by
  refine Kn.ofWi (by decide +kernel) (Nat.le_of_ble_eq_true rfl) (fun _ _ => rfl) ?_
  intro pg ev s0 mm below meth cd Q K X fin ls hl
  have hx := K.1
  have hb := K.2.1
  have hs10 := I.s10
  have hp6 := I.p6
  have hl : lv_has ls 4 [(0, .ref (a 0)), (1, .int x), (2, .int y), (3, .int z)] := hl
  refine lv_aload_n hx hb dX11_wants_0 rfl (lv_at hl 0 rfl) ?_
  refine lv_iload_n hx hb dX11_wants_1 rfl (lv_at hl 1 rfl) ?_
  refine k_callV K X gv_X11_147 (As := [.int x]) (c_X11_noPerson l E a f g h ik one wo tp tl tk ts te tn rb rz rn td x) [0, 1, 2, 3, 4, 5, 6, 7, 8, 9, 10, 11, 12, 13, 14, 15, 16, 17, 18, 19, 20, 21, 22, 23, 24, 25, 26, 27, 28, 29, 30, 31, 32, 33, 34, 35, 36, 37, 38, 39, 40, 41, 42] clsW_idC (by decide +kernel) (fun _ => clsW_fst) 0 11 rfl rfl (by decide) rfl hl.1 (rest := []) rfl (Nat.le_of_ble_eq_true rfl) dX11_wants_2 (st1 := fun _ => [.int (b2i (!isP f x))]) (fun _ => rfl) (fun _ H locs _ X => ?_)
  have X : Wd E _ _ (clsW E a f g h ik one wo tp tl tk ts te tn rb rz rn td) _ _ := X.eq clsW_idP
  refine k_ifneB (B := (!isP f x)) hx hb 18 dX11_wants_5 (by decide) (fun c5 => ?_) (fun c5 => ?_)
  · have hx0 : isP f x = false := by simpa using c5
    refine lv_aload_n hx hb dX11_wants_18 rfl (lv_at hl 0 rfl) ?_
    refine lv_iconst (v := 0) hx hb dX11_wants_19 (by decide) ?_
    refine k_callV K X gv_X11_84 (As := [.int 0]) (c_X11_finding l E a f g h ik one wo tp tl tk ts te tn rb rz rn td 0 (by decide)) [0, 1, 2, 3, 4, 5, 6, 7, 8, 9, 10, 11, 12, 13, 14, 15, 16, 17, 18, 19, 20, 21, 22, 23, 24, 25, 26, 27, 28, 29, 30, 31, 32, 33, 34, 35, 36, 37, 38, 39, 40, 41, 42] clsW_idC (by decide +kernel) (fun _ => clsW_fst) 0 11 rfl rfl (by decide) rfl hl.1 (rest := []) rfl (Nat.le_of_ble_eq_true rfl) dX11_wants_20 (st1 := fun _ => [.int (fnd 0)]) (fun _ => rfl) (fun _ H locs _ X => ?_)
    have X : Wd E _ _ (clsW E a f g h ik one wo tp tl tk ts te tn rb rz rn (fdU td 0)) _ _ := X.eq clsW_idP
    exact k_topi (x' := (oWants f td x y z).1) (by cases hb0 : inR z 0 5 <;> simp [oWants, bad3, hb0, hx0]) (fin () 23 _ _ _ trivial (X.eq (by cases hb0 : inR z 0 5 <;> simp [oWants, bad3, hb0, hx0])) dX11_wants_23)
  · have hx0 : isP f x = true := by simpa using c5
    obtain ⟨k, hk, rfl⟩ := isP_nat I hx0
    have ek : (nI k).toNatClampNeg = k := nI_clamp (by omega)
    refine lv_iload_n hx hb dX11_wants_8 rfl (lv_at hl 2 rfl) ?_
    refine lv_iconst (v := 0) hx hb dX11_wants_9 (by decide) ?_
    refine lv_bipush (v := 9) hx hb dX11_wants_10 (by decide) ?_
    refine k_callS K X gs_X11_80 (As := [.int y, .int 0, .int 9]) (c_X11_within l E y 0 9) [] rfl (by decide +kernel) (fun _ => rfl) (by decide) rfl hl.1 (rest := []) rfl (Nat.le_of_ble_eq_true rfl) dX11_wants_12 (st1 := fun _ => [.int (b2i (inR y 0 9))]) (fun _ => rfl) (fun _ H locs _ X => ?_)
    have X : Wd E _ _ (clsW E a f g h ik one wo tp tl tk ts te tn rb rz rn td) _ _ := X
    refine k_ifneB (B := (inR y 0 9)) hx hb 24 dX11_wants_15 (by decide) (fun c15 => ?_) (fun c15 => ?_)
    · obtain ⟨j, hj, rfl, hjl, hjh⟩ := inR_nat (n := 10) (by decide) (by decide) c15
      have hjl : 0 ≤ j := by have h0 : ((0 : Int32).toInt) = 0 := (by decide); omega
      have ej : (nI j).toNatClampNeg = j := nI_clamp (by omega)
      refine lv_aload_n hx hb dX11_wants_24 rfl (lv_at hl 0 rfl) ?_
      refine lv_aload_n hx hb dX11_wants_25 rfl (lv_at hl 0 rfl) ?_
      refine k_get K X 0 rfl fg_X11_30 (v := .ref (a 1)) rfl dX11_wants_26 ?_
      refine k_getN K X 1 rfl fg_X11_165 (v := .ref (a 7)) rfl dX11_wants_29 ?_
      refine lv_iload_n hx hb dX11_wants_32 rfl (lv_at hl 1 rfl) ?_
      refine lv_iload_n hx hb dX11_wants_33 rfl (lv_at hl 2 rfl) ?_
      refine k_callS K X gs_X11_168 (As := [.int (nI k), .int (nI j)]) (c_X6_wish l E k j) [] rfl (by decide +kernel) (fun _ => rfl) (by decide) rfl hl.1 (rest := [.ref (a 7), .ref (a 0)]) rfl (Nat.le_of_ble_eq_true rfl) dX11_wants_34 (st1 := fun _ => [.int (nI (10 * k + j)), .ref (a 7), .ref (a 0)]) (fun _ => rfl) (fun _ H locs _ X => ?_)
      have X : Wd E _ _ (clsW E a f g h ik one wo tp tl tk ts te tn rb rz rn td) _ _ := X
      refine lv_iload_n hx hb dX11_wants_37 rfl (lv_at hl 3 rfl) ?_
      refine lv_iconst (v := 0) hx hb dX11_wants_38 (by decide) ?_
      refine lv_iconst (v := 5) hx hb dX11_wants_39 (by decide) ?_
      refine k_callV K X gv_X11_118 (As := [.ref (a 7), .int (nI (10 * k + j)), .int z, .int 0, .int 5]) (c_X11_put6 l E a f g h ik one wo tp tl tk ts te tn rb rz rn td (10 * k + j) z 0 5 (by omega)) [0, 1, 2, 3, 4, 5, 6, 7, 8, 9, 10, 11, 12, 13, 14, 15, 16, 17, 18, 19, 20, 21, 22, 23, 24, 25, 26, 27, 28, 29, 30, 31, 32, 33, 34, 35, 36, 37, 38, 39, 40, 41, 42] clsW_idC (by decide +kernel) (fun _ => clsW_fst) 0 11 rfl rfl (by decide) rfl hl.1 (rest := []) rfl (Nat.le_of_ble_eq_true rfl) dX11_wants_40 (st1 := fun _ => [.int (cond (inR z 0 5) (f 6 (10 * k + j)) (fnd 0))]) (fun _ => rfl) (fun _ H locs _ X => ?_)
      have X : Wd E _ _ (clsW E a (cond (inR z 0 5) (up2 f 6 (10 * k + j) z) f) g h ik one wo tp tl tk ts te tn rb rz rn (cond (inR z 0 5) td (fdU td 0))) _ _ := X.eq clsW_idP
      exact k_topi (x' := (oWants f td (nI k) (nI j) z).1) (by cases hb0 : inR z 0 5 <;> simp [oWants, bad3, hb0, hx0, ek, c15, ej]) (fin () 43 _ _ _ trivial (X.eq (by cases hb0 : inR z 0 5 <;> simp [oWants, bad3, hb0, hx0, ek, c15, ej])) dX11_wants_43)
    · refine lv_aload_n hx hb dX11_wants_18 rfl (lv_at hl 0 rfl) ?_
      refine lv_iconst (v := 0) hx hb dX11_wants_19 (by decide) ?_
      refine k_callV K X gv_X11_84 (As := [.int 0]) (c_X11_finding l E a f g h ik one wo tp tl tk ts te tn rb rz rn td 0 (by decide)) [0, 1, 2, 3, 4, 5, 6, 7, 8, 9, 10, 11, 12, 13, 14, 15, 16, 17, 18, 19, 20, 21, 22, 23, 24, 25, 26, 27, 28, 29, 30, 31, 32, 33, 34, 35, 36, 37, 38, 39, 40, 41, 42] clsW_idC (by decide +kernel) (fun _ => clsW_fst) 0 11 rfl rfl (by decide) rfl hl.1 (rest := []) rfl (Nat.le_of_ble_eq_true rfl) dX11_wants_20 (st1 := fun _ => [.int (fnd 0)]) (fun _ => rfl) (fun _ H locs _ X => ?_)
      have X : Wd E _ _ (clsW E a f g h ik one wo tp tl tk ts te tn rb rz rn (fdU td 0)) _ _ := X.eq clsW_idP
      exact k_topi (x' := (oWants f td (nI k) y z).1) (by cases hb0 : inR z 0 5 <;> simp [oWants, bad3, hb0, hx0, ek, c15]) (fin () 23 _ _ _ trivial (X.eq (by cases hb0 : inR z 0 5 <;> simp [oWants, bad3, hb0, hx0, ek, c15])) dX11_wants_23)
set_option maxRecDepth 100000 in
set_option maxHeartbeats 4000000 in
theorem c_X11_out (l : Launch) (E : EE) (a : Nat → Nat) (f : St) (g : St) (h : St) (ik : Int32) (one : Int32) (wo : Int32) (tp : Nat → Int32) (tl : Int32) (tk : Int32) (ts : Int32) (te : Int32) (tn : Int32) (rb : Nat → Int32) (rz : Nat → Int32) (rn : Nat → Nat → Int64) (td : Nat → Int32) (T : Nat) (x : Int32) (y : Int32) (I : Inv T f) : Kd l yX11_out cX11_out 3 (some .int) 2 48 E (clsW E a f g h ik one wo tp tl tk ts te tn rb rz rn td) [.ref (a 0), .int x, .int y] (some (.int ((oOut f td x y).1))) (clsW E a ((oOut f td x y).2.1) g h ik one wo tp tl tk ts te tn rb rz rn ((oOut f td x y).2.2)) := by
  refine Kn.ofWi (by decide +kernel) (Nat.le_of_ble_eq_true rfl) (fun _ _ => rfl) ?_
  intro pg ev s0 mm below meth cd Q K X fin ls hl
  have hx := K.1
  have hb := K.2.1
  have hs10 := I.s10
  have hp6 := I.p6
  have hl : lv_has ls 3 [(0, .ref (a 0)), (1, .int x), (2, .int y)] := hl
  refine lv_aload_n hx hb dX11_out_0 rfl (lv_at hl 0 rfl) ?_
  refine lv_iload_n hx hb dX11_out_1 rfl (lv_at hl 1 rfl) ?_
  refine k_callV K X gv_X11_147 (As := [.int x]) (c_X11_noPerson l E a f g h ik one wo tp tl tk ts te tn rb rz rn td x) [0, 1, 2, 3, 4, 5, 6, 7, 8, 9, 10, 11, 12, 13, 14, 15, 16, 17, 18, 19, 20, 21, 22, 23, 24, 25, 26, 27, 28, 29, 30, 31, 32, 33, 34, 35, 36, 37, 38, 39, 40, 41, 42] clsW_idC (by decide +kernel) (fun _ => clsW_fst) 0 11 rfl rfl (by decide) rfl hl.1 (rest := []) rfl (Nat.le_of_ble_eq_true rfl) dX11_out_2 (st1 := fun _ => [.int (b2i (!isP f x))]) (fun _ => rfl) (fun _ H locs _ X => ?_)
  have X : Wd E _ _ (clsW E a f g h ik one wo tp tl tk ts te tn rb rz rn td) _ _ := X.eq clsW_idP
  refine k_ifeqB (B := (!isP f x)) hx hb 14 dX11_out_5 (by decide) (fun c5 => ?_) (fun c5 => ?_)
  · have hx0 : isP f x = true := by simpa using c5
    obtain ⟨k, hk, rfl⟩ := isP_nat I hx0
    have ek : (nI k).toNatClampNeg = k := nI_clamp (by omega)
    refine lv_aload_n hx hb dX11_out_14 rfl (lv_at hl 0 rfl) ?_
    refine lv_aload_n hx hb dX11_out_15 rfl (lv_at hl 0 rfl) ?_
    refine k_get K X 0 rfl fg_X11_30 (v := .ref (a 1)) rfl dX11_out_16 ?_
    refine k_getN K X 1 rfl fg_X11_153 (v := .ref (a 6)) rfl dX11_out_19 ?_
    refine lv_iload_n hx hb dX11_out_22 rfl (lv_at hl 1 rfl) ?_
    refine lv_iload_n hx hb dX11_out_23 rfl (lv_at hl 2 rfl) ?_
    refine lv_iconst (v := 0) hx hb dX11_out_24 (by decide) ?_
    refine lv_iconst (v := 1) hx hb dX11_out_25 (by decide) ?_
    refine k_callV K X gv_X11_118 (As := [.ref (a 6), .int (nI k), .int y, .int 0, .int 1]) (c_X11_put5 l E a f g h ik one wo tp tl tk ts te tn rb rz rn td k y 0 1 (by omega)) [0, 1, 2, 3, 4, 5, 6, 7, 8, 9, 10, 11, 12, 13, 14, 15, 16, 17, 18, 19, 20, 21, 22, 23, 24, 25, 26, 27, 28, 29, 30, 31, 32, 33, 34, 35, 36, 37, 38, 39, 40, 41, 42] clsW_idC (by decide +kernel) (fun _ => clsW_fst) 0 11 rfl rfl (by decide) rfl hl.1 (rest := []) rfl (Nat.le_of_ble_eq_true rfl) dX11_out_26 (st1 := fun _ => [.int (cond (inR y 0 1) (f 5 k) (fnd 0))]) (fun _ => rfl) (fun _ H locs _ X => ?_)
    have X : Wd E _ _ (clsW E a (cond (inR y 0 1) (up2 f 5 k y) f) g h ik one wo tp tl tk ts te tn rb rz rn (cond (inR y 0 1) td (fdU td 0))) _ _ := X.eq clsW_idP
    exact k_topi (x' := (oOut f td (nI k) y).1) (by cases hb0 : inR y 0 1 <;> simp [oOut, bad3, hb0, hx0, ek]) (fin () 29 _ _ _ trivial (X.eq (by cases hb0 : inR y 0 1 <;> simp [oOut, bad3, hb0, hx0, ek])) dX11_out_29)
  · have hx0 : isP f x = false := by simpa using c5
    refine lv_aload_n hx hb dX11_out_8 rfl (lv_at hl 0 rfl) ?_
    refine lv_iconst (v := 0) hx hb dX11_out_9 (by decide) ?_
    refine k_callV K X gv_X11_84 (As := [.int 0]) (c_X11_finding l E a f g h ik one wo tp tl tk ts te tn rb rz rn td 0 (by decide)) [0, 1, 2, 3, 4, 5, 6, 7, 8, 9, 10, 11, 12, 13, 14, 15, 16, 17, 18, 19, 20, 21, 22, 23, 24, 25, 26, 27, 28, 29, 30, 31, 32, 33, 34, 35, 36, 37, 38, 39, 40, 41, 42] clsW_idC (by decide +kernel) (fun _ => clsW_fst) 0 11 rfl rfl (by decide) rfl hl.1 (rest := []) rfl (Nat.le_of_ble_eq_true rfl) dX11_out_10 (st1 := fun _ => [.int (fnd 0)]) (fun _ => rfl) (fun _ H locs _ X => ?_)
    have X : Wd E _ _ (clsW E a f g h ik one wo tp tl tk ts te tn rb rz rn (fdU td 0)) _ _ := X.eq clsW_idP
    exact k_topi (x' := (oOut f td x y).1) (by cases hb0 : inR y 0 1 <;> simp [oOut, bad3, hb0, hx0]) (fin () 13 _ _ _ trivial (X.eq (by cases hb0 : inR y 0 1 <;> simp [oOut, bad3, hb0, hx0])) dX11_out_13)
set_option maxRecDepth 100000 in
set_option maxHeartbeats 4000000 in
theorem c_X11_turn (l : Launch) (E : EE) (a : Nat → Nat) (f : St) (g : St) (h : St) (ik : Int32) (one : Int32) (wo : Int32) (tp : Nat → Int32) (tl : Int32) (tk : Int32) (ts : Int32) (te : Int32) (tn : Int32) (rb : Nat → Int32) (rz : Nat → Int32) (rn : Nat → Nat → Int64) (td : Nat → Int32) (T : Nat) (x : Int32) (y : Int32) (I : Inv T f) : Kd l yX11_turn cX11_turn 3 (some .int) 2 48 E (clsW E a f g h ik one wo tp tl tk ts te tn rb rz rn td) [.ref (a 0), .int x, .int y] (some (.int ((oTurn f td x y).1))) (clsW E a ((oTurn f td x y).2.1) g h ik one wo tp tl tk ts te tn rb rz rn ((oTurn f td x y).2.2)) := by
  refine Kn.ofWi (by decide +kernel) (Nat.le_of_ble_eq_true rfl) (fun _ _ => rfl) ?_
  intro pg ev s0 mm below meth cd Q K X fin ls hl
  have hx := K.1
  have hb := K.2.1
  have hs10 := I.s10
  have hp6 := I.p6
  have hl : lv_has ls 3 [(0, .ref (a 0)), (1, .int x), (2, .int y)] := hl
  refine lv_aload_n hx hb dX11_turn_0 rfl (lv_at hl 0 rfl) ?_
  refine lv_iload_n hx hb dX11_turn_1 rfl (lv_at hl 1 rfl) ?_
  refine k_callV K X gv_X11_147 (As := [.int x]) (c_X11_noPerson l E a f g h ik one wo tp tl tk ts te tn rb rz rn td x) [0, 1, 2, 3, 4, 5, 6, 7, 8, 9, 10, 11, 12, 13, 14, 15, 16, 17, 18, 19, 20, 21, 22, 23, 24, 25, 26, 27, 28, 29, 30, 31, 32, 33, 34, 35, 36, 37, 38, 39, 40, 41, 42] clsW_idC (by decide +kernel) (fun _ => clsW_fst) 0 11 rfl rfl (by decide) rfl hl.1 (rest := []) rfl (Nat.le_of_ble_eq_true rfl) dX11_turn_2 (st1 := fun _ => [.int (b2i (!isP f x))]) (fun _ => rfl) (fun _ H locs _ X => ?_)
  have X : Wd E _ _ (clsW E a f g h ik one wo tp tl tk ts te tn rb rz rn td) _ _ := X.eq clsW_idP
  refine k_ifeqB (B := (!isP f x)) hx hb 14 dX11_turn_5 (by decide) (fun c5 => ?_) (fun c5 => ?_)
  · have hx0 : isP f x = true := by simpa using c5
    obtain ⟨k, hk, rfl⟩ := isP_nat I hx0
    have ek : (nI k).toNatClampNeg = k := nI_clamp (by omega)
    refine lv_aload_n hx hb dX11_turn_14 rfl (lv_at hl 0 rfl) ?_
    refine lv_aload_n hx hb dX11_turn_15 rfl (lv_at hl 0 rfl) ?_
    refine k_get K X 0 rfl fg_X11_30 (v := .ref (a 1)) rfl dX11_turn_16 ?_
    refine k_getN K X 1 rfl fg_X11_150 (v := .ref (a 5)) rfl dX11_turn_19 ?_
    refine lv_iload_n hx hb dX11_turn_22 rfl (lv_at hl 1 rfl) ?_
    refine lv_iload_n hx hb dX11_turn_23 rfl (lv_at hl 2 rfl) ?_
    refine lv_iconst (v := 0) hx hb dX11_turn_24 (by decide) ?_
    refine lv_iconst (v := 5) hx hb dX11_turn_25 (by decide) ?_
    refine k_callV K X gv_X11_118 (As := [.ref (a 5), .int (nI k), .int y, .int 0, .int 5]) (c_X11_put4 l E a f g h ik one wo tp tl tk ts te tn rb rz rn td k y 0 5 (by omega)) [0, 1, 2, 3, 4, 5, 6, 7, 8, 9, 10, 11, 12, 13, 14, 15, 16, 17, 18, 19, 20, 21, 22, 23, 24, 25, 26, 27, 28, 29, 30, 31, 32, 33, 34, 35, 36, 37, 38, 39, 40, 41, 42] clsW_idC (by decide +kernel) (fun _ => clsW_fst) 0 11 rfl rfl (by decide) rfl hl.1 (rest := []) rfl (Nat.le_of_ble_eq_true rfl) dX11_turn_26 (st1 := fun _ => [.int (cond (inR y 0 5) (f 4 k) (fnd 0))]) (fun _ => rfl) (fun _ H locs _ X => ?_)
    have X : Wd E _ _ (clsW E a (cond (inR y 0 5) (up2 f 4 k y) f) g h ik one wo tp tl tk ts te tn rb rz rn (cond (inR y 0 5) td (fdU td 0))) _ _ := X.eq clsW_idP
    exact k_topi (x' := (oTurn f td (nI k) y).1) (by cases hb0 : inR y 0 5 <;> simp [oTurn, bad3, hb0, hx0, ek]) (fin () 29 _ _ _ trivial (X.eq (by cases hb0 : inR y 0 5 <;> simp [oTurn, bad3, hb0, hx0, ek])) dX11_turn_29)
  · have hx0 : isP f x = false := by simpa using c5
    refine lv_aload_n hx hb dX11_turn_8 rfl (lv_at hl 0 rfl) ?_
    refine lv_iconst (v := 0) hx hb dX11_turn_9 (by decide) ?_
    refine k_callV K X gv_X11_84 (As := [.int 0]) (c_X11_finding l E a f g h ik one wo tp tl tk ts te tn rb rz rn td 0 (by decide)) [0, 1, 2, 3, 4, 5, 6, 7, 8, 9, 10, 11, 12, 13, 14, 15, 16, 17, 18, 19, 20, 21, 22, 23, 24, 25, 26, 27, 28, 29, 30, 31, 32, 33, 34, 35, 36, 37, 38, 39, 40, 41, 42] clsW_idC (by decide +kernel) (fun _ => clsW_fst) 0 11 rfl rfl (by decide) rfl hl.1 (rest := []) rfl (Nat.le_of_ble_eq_true rfl) dX11_turn_10 (st1 := fun _ => [.int (fnd 0)]) (fun _ => rfl) (fun _ H locs _ X => ?_)
    have X : Wd E _ _ (clsW E a f g h ik one wo tp tl tk ts te tn rb rz rn (fdU td 0)) _ _ := X.eq clsW_idP
    exact k_topi (x' := (oTurn f td x y).1) (by cases hb0 : inR y 0 5 <;> simp [oTurn, bad3, hb0, hx0]) (fin () 13 _ _ _ trivial (X.eq (by cases hb0 : inR y 0 5 <;> simp [oTurn, bad3, hb0, hx0])) dX11_turn_13)
set_option maxRecDepth 100000 in
set_option maxHeartbeats 4000000 in
theorem c_X11_as (l : Launch) (E : EE) (a : Nat → Nat) (f : St) (g : St) (h : St) (ik : Int32) (one : Int32) (wo : Int32) (tp : Nat → Int32) (tl : Int32) (tk : Int32) (ts : Int32) (te : Int32) (tn : Int32) (rb : Nat → Int32) (rz : Nat → Int32) (rn : Nat → Nat → Int64) (td : Nat → Int32) (T : Nat) (x : Int32) (y : Int32) (I : Inv T f) : Kd l yX11_as cX11_as 3 (some .int) 4 87 E (clsW E a f g h ik one wo tp tl tk ts te tn rb rz rn td) [.ref (a 0), .int x, .int y] (some (.int ((oAs f td x y).1))) (clsW E a ((oAs f td x y).2.1) g h ik one wo tp tl tk ts te tn rb rz rn ((oAs f td x y).2.2)) := by
  refine Kn.ofWi (by decide +kernel) (Nat.le_of_ble_eq_true rfl) (fun _ _ => rfl) ?_
  intro pg ev s0 mm below meth cd Q K X fin ls hl
  have hx := K.1
  have hb := K.2.1
  have hs10 := I.s10
  have hp6 := I.p6
  have hl : lv_has ls 3 [(0, .ref (a 0)), (1, .int x), (2, .int y)] := hl
  refine lv_aload_n hx hb dX11_as_0 rfl (lv_at hl 0 rfl) ?_
  refine lv_iload_n hx hb dX11_as_1 rfl (lv_at hl 1 rfl) ?_
  refine k_callV K X gv_X11_147 (As := [.int x]) (c_X11_noPerson l E a f g h ik one wo tp tl tk ts te tn rb rz rn td x) [0, 1, 2, 3, 4, 5, 6, 7, 8, 9, 10, 11, 12, 13, 14, 15, 16, 17, 18, 19, 20, 21, 22, 23, 24, 25, 26, 27, 28, 29, 30, 31, 32, 33, 34, 35, 36, 37, 38, 39, 40, 41, 42] clsW_idC (by decide +kernel) (fun _ => clsW_fst) 0 11 rfl rfl (by decide) rfl hl.1 (rest := []) rfl (Nat.le_of_ble_eq_true rfl) dX11_as_2 (st1 := fun _ => [.int (b2i (!isP f x))]) (fun _ => rfl) (fun _ H locs _ X => ?_)
  have X : Wd E _ _ (clsW E a f g h ik one wo tp tl tk ts te tn rb rz rn td) _ _ := X.eq clsW_idP
  refine k_ifneB (B := (!isP f x)) hx hb 17 dX11_as_5 (by decide) (fun c5 => ?_) (fun c5 => ?_)
  · have hx0 : isP f x = false := by simpa using c5
    refine lv_aload_n hx hb dX11_as_17 rfl (lv_at hl 0 rfl) ?_
    refine lv_iconst (v := 0) hx hb dX11_as_18 (by decide) ?_
    refine k_callV K X gv_X11_84 (As := [.int 0]) (c_X11_finding l E a f g h ik one wo tp tl tk ts te tn rb rz rn td 0 (by decide)) [0, 1, 2, 3, 4, 5, 6, 7, 8, 9, 10, 11, 12, 13, 14, 15, 16, 17, 18, 19, 20, 21, 22, 23, 24, 25, 26, 27, 28, 29, 30, 31, 32, 33, 34, 35, 36, 37, 38, 39, 40, 41, 42] clsW_idC (by decide +kernel) (fun _ => clsW_fst) 0 11 rfl rfl (by decide) rfl hl.1 (rest := []) rfl (Nat.le_of_ble_eq_true rfl) dX11_as_19 (st1 := fun _ => [.int (fnd 0)]) (fun _ => rfl) (fun _ H locs _ X => ?_)
    have X : Wd E _ _ (clsW E a f g h ik one wo tp tl tk ts te tn rb rz rn (fdU td 0)) _ _ := X.eq clsW_idP
    exact k_topi (x' := (oAs f td x y).1) (by simp [oAs, bad3, hx0]) (fin () 22 _ _ _ trivial (X.eq (by simp [oAs, bad3, hx0])) dX11_as_22)
  · have hx0 : isP f x = true := by simpa using c5
    obtain ⟨k, hk, rfl⟩ := isP_nat I hx0
    have ek : (nI k).toNatClampNeg = k := nI_clamp (by omega)
    refine lv_iload_n hx hb dX11_as_8 rfl (lv_at hl 2 rfl) ?_
    refine lv_iconst (v := 0) hx hb dX11_as_9 (by decide) ?_
    refine lv_iconst (v := 5) hx hb dX11_as_10 (by decide) ?_
    refine k_callS K X gs_X11_80 (As := [.int y, .int 0, .int 5]) (c_X11_within l E y 0 5) [] rfl (by decide +kernel) (fun _ => rfl) (by decide) rfl hl.1 (rest := []) rfl (Nat.le_of_ble_eq_true rfl) dX11_as_11 (st1 := fun _ => [.int (b2i (inR y 0 5))]) (fun _ => rfl) (fun _ H locs _ X => ?_)
    have X : Wd E _ _ (clsW E a f g h ik one wo tp tl tk ts te tn rb rz rn td) _ _ := X
    refine k_ifneB (B := (inR y 0 5)) hx hb 23 dX11_as_14 (by decide) (fun c14 => ?_) (fun c14 => ?_)
    · refine lv_aload_n hx hb dX11_as_23 rfl (lv_at hl 0 rfl) ?_
      refine k_get K X 0 rfl fg_X11_30 (v := .ref (a 1)) rfl dX11_as_24 ?_
      refine lv_iload_n hx hb dX11_as_27 rfl (lv_at hl 1 rfl) ?_
      refine lv_iload_n hx hb dX11_as_28 rfl (lv_at hl 2 rfl) ?_
      refine k_callV K X gv_X11_171 (As := [.int (nI k), .int y]) (c_X6_isOfKind l E (fun j => a (1 + j)) (fun j => a (36 + j)) f T k y I (by omega)) [1, 2, 3, 4, 5, 6, 7, 36, 37, 38, 39, 40, 41, 42] clsW_s0C (by decide +kernel) (fun _ => roomK_fst) 0 6 rfl rfl (by decide) rfl hl.1 (rest := []) rfl (Nat.le_of_ble_eq_true rfl) dX11_as_29 (st1 := fun _ => [.int (b2i (isKS (kn f k) y))]) (fun _ => rfl) (fun _ H locs _ X => ?_)
      have X : Wd E _ _ (clsW E a f g h ik one wo tp tl tk ts te tn rb rz rn td) _ _ := X.eq clsW_s0P
      refine k_ifneB (B := (isKS (kn f k) y)) hx hb 41 dX11_as_32 (by decide) (fun c32 => ?_) (fun c32 => ?_)
      · refine lv_aload_n hx hb dX11_as_41 rfl (lv_at hl 0 rfl) ?_
        refine k_get K X 0 rfl fg_X11_30 (v := .ref (a 1)) rfl dX11_as_42 ?_
        refine lv_iload_n hx hb dX11_as_45 rfl (lv_at hl 1 rfl) ?_
        refine k_callV K X gv_X11_175 (As := [.int (nI k)]) (c_X6_wayCount l E (fun j => a (1 + j)) (fun j => a (36 + j)) f T k I (by omega)) [1, 2, 3, 4, 5, 6, 7] clsW_s3C (by decide +kernel) (fun _ => roomW_fst) 0 6 rfl rfl (by decide) rfl hl.1 (rest := []) rfl (Nat.le_of_ble_eq_true rfl) dX11_as_46 (st1 := fun _ => [.int (bcF (wayF f k))]) (fun _ => rfl) (fun _ H locs _ X => ?_)
        have X : Wd E _ _ (clsW E a f g h ik one wo tp tl tk ts te tn rb rz rn td) _ _ := X.eq clsW_s3P
        exact k_topi (x' := (oAs f td (nI k) y).1) (by simp [oAs, bad3, hx0, ek, c14, c32]) (fin () 49 _ _ _ trivial (X.eq (by simp [oAs, bad3, hx0, ek, c14, c32])) dX11_as_49)
      · refine lv_aload_n hx hb dX11_as_35 rfl (lv_at hl 0 rfl) ?_
        refine lv_iconst (v := 2) hx hb dX11_as_36 (by decide) ?_
        refine k_callV K X gv_X11_84 (As := [.int 2]) (c_X11_finding l E a f g h ik one wo tp tl tk ts te tn rb rz rn td 2 (by decide)) [0, 1, 2, 3, 4, 5, 6, 7, 8, 9, 10, 11, 12, 13, 14, 15, 16, 17, 18, 19, 20, 21, 22, 23, 24, 25, 26, 27, 28, 29, 30, 31, 32, 33, 34, 35, 36, 37, 38, 39, 40, 41, 42] clsW_idC (by decide +kernel) (fun _ => clsW_fst) 0 11 rfl rfl (by decide) rfl hl.1 (rest := []) rfl (Nat.le_of_ble_eq_true rfl) dX11_as_37 (st1 := fun _ => [.int (fnd 2)]) (fun _ => rfl) (fun _ H locs _ X => ?_)
        have X : Wd E _ _ (clsW E a f g h ik one wo tp tl tk ts te tn rb rz rn (fdU td 2)) _ _ := X.eq clsW_idP
        exact k_topi (x' := (oAs f td (nI k) y).1) (by simp [oAs, bad3, hx0, ek, c14, c32]) (fin () 40 _ _ _ trivial (X.eq (by simp [oAs, bad3, hx0, ek, c14, c32])) dX11_as_40)
    · refine lv_aload_n hx hb dX11_as_17 rfl (lv_at hl 0 rfl) ?_
      refine lv_iconst (v := 0) hx hb dX11_as_18 (by decide) ?_
      refine k_callV K X gv_X11_84 (As := [.int 0]) (c_X11_finding l E a f g h ik one wo tp tl tk ts te tn rb rz rn td 0 (by decide)) [0, 1, 2, 3, 4, 5, 6, 7, 8, 9, 10, 11, 12, 13, 14, 15, 16, 17, 18, 19, 20, 21, 22, 23, 24, 25, 26, 27, 28, 29, 30, 31, 32, 33, 34, 35, 36, 37, 38, 39, 40, 41, 42] clsW_idC (by decide +kernel) (fun _ => clsW_fst) 0 11 rfl rfl (by decide) rfl hl.1 (rest := []) rfl (Nat.le_of_ble_eq_true rfl) dX11_as_19 (st1 := fun _ => [.int (fnd 0)]) (fun _ => rfl) (fun _ H locs _ X => ?_)
      have X : Wd E _ _ (clsW E a f g h ik one wo tp tl tk ts te tn rb rz rn (fdU td 0)) _ _ := X.eq clsW_idP
      exact k_topi (x' := (oAs f td (nI k) y).1) (by simp [oAs, bad3, hx0, ek, c14]) (fin () 22 _ _ _ trivial (X.eq (by simp [oAs, bad3, hx0, ek, c14])) dX11_as_22)
set_option maxRecDepth 100000 in
set_option maxHeartbeats 4000000 in
theorem c_X11_alike (l : Launch) (E : EE) (a : Nat → Nat) (f : St) (g : St) (h : St) (ik : Int32) (one : Int32) (wo : Int32) (tp : Nat → Int32) (tl : Int32) (tk : Int32) (ts : Int32) (te : Int32) (tn : Int32) (rb : Nat → Int32) (rz : Nat → Int32) (rn : Nat → Nat → Int64) (td : Nat → Int32) (T : Nat) (x : Int32) (y : Int32) (I : Inv T f) : Kd l yX11_alike cX11_alike 3 (some .int) 2 45 E (clsW E a f g h ik one wo tp tl tk ts te tn rb rz rn td) [.ref (a 0), .int x, .int y] (some (.int ((oAlike f td x y).1))) (clsW E a ((oAlike f td x y).2.1) g h ik one wo tp tl tk ts te tn rb rz rn ((oAlike f td x y).2.2)) := by
  refine Kn.ofWi (by decide +kernel) (Nat.le_of_ble_eq_true rfl) (fun _ _ => rfl) ?_
  intro pg ev s0 mm below meth cd Q K X fin ls hl
  have hx := K.1
  have hb := K.2.1
  have hs10 := I.s10
  have hp6 := I.p6
  have hl : lv_has ls 3 [(0, .ref (a 0)), (1, .int x), (2, .int y)] := hl
  refine lv_aload_n hx hb dX11_alike_0 rfl (lv_at hl 0 rfl) ?_
  refine lv_iload_n hx hb dX11_alike_1 rfl (lv_at hl 1 rfl) ?_
  refine k_callV K X gv_X11_147 (As := [.int x]) (c_X11_noPerson l E a f g h ik one wo tp tl tk ts te tn rb rz rn td x) [0, 1, 2, 3, 4, 5, 6, 7, 8, 9, 10, 11, 12, 13, 14, 15, 16, 17, 18, 19, 20, 21, 22, 23, 24, 25, 26, 27, 28, 29, 30, 31, 32, 33, 34, 35, 36, 37, 38, 39, 40, 41, 42] clsW_idC (by decide +kernel) (fun _ => clsW_fst) 0 11 rfl rfl (by decide) rfl hl.1 (rest := []) rfl (Nat.le_of_ble_eq_true rfl) dX11_alike_2 (st1 := fun _ => [.int (b2i (!isP f x))]) (fun _ => rfl) (fun _ H locs _ X => ?_)
  have X : Wd E _ _ (clsW E a f g h ik one wo tp tl tk ts te tn rb rz rn td) _ _ := X.eq clsW_idP
  refine k_ifneB (B := (!isP f x)) hx hb 21 dX11_alike_5 (by decide) (fun c5 => ?_) (fun c5 => ?_)
  · have hx0 : isP f x = false := by simpa using c5
    refine lv_aload_n hx hb dX11_alike_21 rfl (lv_at hl 0 rfl) ?_
    refine lv_iconst (v := 0) hx hb dX11_alike_22 (by decide) ?_
    refine k_callV K X gv_X11_84 (As := [.int 0]) (c_X11_finding l E a f g h ik one wo tp tl tk ts te tn rb rz rn td 0 (by decide)) [0, 1, 2, 3, 4, 5, 6, 7, 8, 9, 10, 11, 12, 13, 14, 15, 16, 17, 18, 19, 20, 21, 22, 23, 24, 25, 26, 27, 28, 29, 30, 31, 32, 33, 34, 35, 36, 37, 38, 39, 40, 41, 42] clsW_idC (by decide +kernel) (fun _ => clsW_fst) 0 11 rfl rfl (by decide) rfl hl.1 (rest := []) rfl (Nat.le_of_ble_eq_true rfl) dX11_alike_23 (st1 := fun _ => [.int (fnd 0)]) (fun _ => rfl) (fun _ H locs _ X => ?_)
    have X : Wd E _ _ (clsW E a f g h ik one wo tp tl tk ts te tn rb rz rn (fdU td 0)) _ _ := X.eq clsW_idP
    exact k_topi (x' := (oAlike f td x y).1) (by simp [oAlike, bad3, hx0]) (fin () 26 _ _ _ trivial (X.eq (by simp [oAlike, bad3, hx0])) dX11_alike_26)
  · have hx0 : isP f x = true := by simpa using c5
    obtain ⟨k, hk, rfl⟩ := isP_nat I hx0
    have ek : (nI k).toNatClampNeg = k := nI_clamp (by omega)
    refine lv_aload_n hx hb dX11_alike_8 rfl (lv_at hl 0 rfl) ?_
    refine lv_iload_n hx hb dX11_alike_9 rfl (lv_at hl 2 rfl) ?_
    refine k_callV K X gv_X11_147 (As := [.int y]) (c_X11_noPerson l E a f g h ik one wo tp tl tk ts te tn rb rz rn td y) [0, 1, 2, 3, 4, 5, 6, 7, 8, 9, 10, 11, 12, 13, 14, 15, 16, 17, 18, 19, 20, 21, 22, 23, 24, 25, 26, 27, 28, 29, 30, 31, 32, 33, 34, 35, 36, 37, 38, 39, 40, 41, 42] clsW_idC (by decide +kernel) (fun _ => clsW_fst) 0 11 rfl rfl (by decide) rfl hl.1 (rest := []) rfl (Nat.le_of_ble_eq_true rfl) dX11_alike_10 (st1 := fun _ => [.int (b2i (!isP f y))]) (fun _ => rfl) (fun _ H locs _ X => ?_)
    have X : Wd E _ _ (clsW E a f g h ik one wo tp tl tk ts te tn rb rz rn td) _ _ := X.eq clsW_idP
    refine k_ifneB (B := (!isP f y)) hx hb 21 dX11_alike_13 (by decide) (fun c13 => ?_) (fun c13 => ?_)
    · have hy0 : isP f y = false := by simpa using c13
      refine lv_aload_n hx hb dX11_alike_21 rfl (lv_at hl 0 rfl) ?_
      refine lv_iconst (v := 0) hx hb dX11_alike_22 (by decide) ?_
      refine k_callV K X gv_X11_84 (As := [.int 0]) (c_X11_finding l E a f g h ik one wo tp tl tk ts te tn rb rz rn td 0 (by decide)) [0, 1, 2, 3, 4, 5, 6, 7, 8, 9, 10, 11, 12, 13, 14, 15, 16, 17, 18, 19, 20, 21, 22, 23, 24, 25, 26, 27, 28, 29, 30, 31, 32, 33, 34, 35, 36, 37, 38, 39, 40, 41, 42] clsW_idC (by decide +kernel) (fun _ => clsW_fst) 0 11 rfl rfl (by decide) rfl hl.1 (rest := []) rfl (Nat.le_of_ble_eq_true rfl) dX11_alike_23 (st1 := fun _ => [.int (fnd 0)]) (fun _ => rfl) (fun _ H locs _ X => ?_)
      have X : Wd E _ _ (clsW E a f g h ik one wo tp tl tk ts te tn rb rz rn (fdU td 0)) _ _ := X.eq clsW_idP
      exact k_topi (x' := (oAlike f td (nI k) y).1) (by simp [oAlike, bad3, hx0, ek, hy0]) (fin () 26 _ _ _ trivial (X.eq (by simp [oAlike, bad3, hx0, ek, hy0])) dX11_alike_26)
    · have hy0 : isP f y = true := by simpa using c13
      obtain ⟨j, hj, rfl⟩ := isP_nat I hy0
      have ej : (nI j).toNatClampNeg = j := nI_clamp (by omega)
      refine lv_iload_n hx hb dX11_alike_16 rfl (lv_at hl 1 rfl) ?_
      refine lv_iload_n hx hb dX11_alike_17 rfl (lv_at hl 2 rfl) ?_
      refine kN_ne (x := k) (y := j) hx hb 27 dX11_alike_18 (by decide) (by omega) (by omega) (fun c18 => ?_) (fun c18 => ?_)
      · have cne : ¬ nI k = nI j := fun e => c18 ((nI_eq (by omega) (by omega)).mp e)
        refine lv_aload_n hx hb dX11_alike_27 rfl (lv_at hl 0 rfl) ?_
        refine k_get K X 0 rfl fg_X11_30 (v := .ref (a 1)) rfl dX11_alike_28 ?_
        refine lv_iload_n hx hb dX11_alike_31 rfl (lv_at hl 1 rfl) ?_
        refine lv_iload_n hx hb dX11_alike_32 rfl (lv_at hl 2 rfl) ?_
        refine k_callV K X gv_X11_178 (As := [.int (nI k), .int (nI j)]) (c_X6_sameWishes l E (fun j => a (1 + j)) (fun j => a (36 + j)) f T k j I (by omega) (by omega)) [1, 2, 3, 4, 5, 6, 7] clsW_s3C (by decide +kernel) (fun _ => roomW_fst) 0 6 rfl rfl (by decide) rfl hl.1 (rest := []) rfl (Nat.le_of_ble_eq_true rfl) dX11_alike_33 (st1 := fun _ => [.int (nI (sameF f k j))]) (fun _ => rfl) (fun _ H locs _ X => ?_)
        have X : Wd E _ _ (clsW E a f g h ik one wo tp tl tk ts te tn rb rz rn td) _ _ := X.eq clsW_s3P
        exact k_topi (x' := (oAlike f td (nI k) (nI j)).1) (by simp [oAlike, bad3, hx0, ek, hy0, ej, c18, cne]) (fin () 36 _ _ _ trivial (X.eq (by simp [oAlike, bad3, hx0, ek, hy0, ej, c18, cne])) dX11_alike_36)
      · have cne : nI k = nI j := by rw [c18]
        refine lv_aload_n hx hb dX11_alike_21 rfl (lv_at hl 0 rfl) ?_
        refine lv_iconst (v := 0) hx hb dX11_alike_22 (by decide) ?_
        refine k_callV K X gv_X11_84 (As := [.int 0]) (c_X11_finding l E a f g h ik one wo tp tl tk ts te tn rb rz rn td 0 (by decide)) [0, 1, 2, 3, 4, 5, 6, 7, 8, 9, 10, 11, 12, 13, 14, 15, 16, 17, 18, 19, 20, 21, 22, 23, 24, 25, 26, 27, 28, 29, 30, 31, 32, 33, 34, 35, 36, 37, 38, 39, 40, 41, 42] clsW_idC (by decide +kernel) (fun _ => clsW_fst) 0 11 rfl rfl (by decide) rfl hl.1 (rest := []) rfl (Nat.le_of_ble_eq_true rfl) dX11_alike_23 (st1 := fun _ => [.int (fnd 0)]) (fun _ => rfl) (fun _ H locs _ X => ?_)
        have X : Wd E _ _ (clsW E a f g h ik one wo tp tl tk ts te tn rb rz rn (fdU td 0)) _ _ := X.eq clsW_idP
        exact k_topi (x' := (oAlike f td (nI k) (nI j)).1) (by simp [oAlike, bad3, hx0, ek, hy0, ej, c18, cne]) (fin () 26 _ _ _ trivial (X.eq (by simp [oAlike, bad3, hx0, ek, hy0, ej, c18, cne])) dX11_alike_26)
set_option maxRecDepth 100000 in
set_option maxHeartbeats 4000000 in
theorem c_X11_minutes (l : Launch) (E : EE) (a : Nat → Nat) (f : St) (g : St) (h : St) (ik : Int32) (one : Int32) (wo : Int32) (tp : Nat → Int32) (tl : Int32) (tk : Int32) (ts : Int32) (te : Int32) (tn : Int32) (rb : Nat → Int32) (rz : Nat → Int32) (rn : Nat → Nat → Int64) (td : Nat → Int32) (T : Nat) (x : Int32) (I : Inv T f) (hT : T < 1000000 - 300) : Kd l yX11_minutes cX11_minutes 2 (some .int) 6 140 E (clsW E a f g h ik one wo tp tl tk ts te tn rb rz rn td) [.ref (a 0), .int x] (some (.int ((oMinutes f td x).1))) (clsW E a ((oMinutes f td x).2.1) g h ik one wo tp tl tk ts te tn rb rz rn ((oMinutes f td x).2.2)) := by
  refine Kn.ofWi (by decide +kernel) (Nat.le_of_ble_eq_true rfl) (fun _ _ => rfl) ?_
  intro pg ev s0 mm below meth cd Q K X fin ls hl
  have hx := K.1
  have hb := K.2.1
  have hs10 := I.s10
  have hp6 := I.p6
  have hmT := I.mT
  have hl : lv_has ls 2 [(0, .ref (a 0)), (1, .int x)] := hl
  refine lv_iload_n hx hb dX11_minutes_0 rfl (lv_at hl 1 rfl) ?_
  refine lv_iconst (v := 1) hx hb dX11_minutes_1 (by decide) ?_
  refine lv_bipush (v := 100) hx hb dX11_minutes_2 (by decide) ?_
  refine k_callS K X gs_X11_80 (As := [.int x, .int 1, .int 100]) (c_X11_within l E x 1 100) [] rfl (by decide +kernel) (fun _ => rfl) (by decide) rfl hl.1 (rest := []) rfl (Nat.le_of_ble_eq_true rfl) dX11_minutes_4 (st1 := fun _ => [.int (b2i (inR x 1 100))]) (fun _ => rfl) (fun _ H locs _ X => ?_)
  have X : Wd E _ _ (clsW E a f g h ik one wo tp tl tk ts te tn rb rz rn td) _ _ := X
  refine k_ifneB (B := (inR x 1 100)) hx hb 16 dX11_minutes_7 (by decide) (fun c7 => ?_) (fun c7 => ?_)
  · obtain ⟨u, hu, rfl, hul, huh⟩ := inR_nat (n := 101) (by decide) (by decide) c7
    have hul : 1 ≤ u := by have h0 : ((1 : Int32).toInt) = 1 := (by decide); omega
    have eu : (nI u).toNatClampNeg = u := nI_clamp (by omega)
    refine lv_aload_n hx hb dX11_minutes_16 rfl (lv_at hl 0 rfl) ?_
    refine k_get K X 0 rfl fg_X11_30 (v := .ref (a 1)) rfl dX11_minutes_17 ?_
    refine k_getN K X 1 rfl fg_X11_125 (v := .int (f 0 0)) rfl dX11_minutes_20 ?_
    refine k_topi (I.hM) ?_
    refine lv_ldc (v := 99999) hx hb K.2.2.2.1 (K.2.2.2.2.1 _ (Mw_at 528 (by decide +kernel) (by decide +kernel))) dX11_minutes_23 ?_
    refine lv_iload_n hx hb dX11_minutes_25 rfl (lv_at hl 1 rfl) ?_
    refine lv_isub hx hb dX11_minutes_26 ?_
    refine k_topi (x' := nI (99999 - u)) (pk_sub (a := 99999) (b := u) (by omega)) ?_
    refine kN_le (x := mn f) (y := 99999 - u) hx hb 36 dX11_minutes_27 (by decide) (by omega) (by omega) (fun c27 => ?_) (fun c27 => ?_)
    · have hb1 : decide (mn f + u ≤ 99999) = true := by simp; omega
      refine lv_aload_n hx hb dX11_minutes_36 rfl (lv_at hl 0 rfl) ?_
      refine k_get K X 0 rfl fg_X11_30 (v := .ref (a 1)) rfl dX11_minutes_37 ?_
      refine lv_iload_n hx hb dX11_minutes_40 rfl (lv_at hl 1 rfl) ?_
      refine k_callV K X gv_X11_182 (As := [.int (nI u)]) (c_X6_passMinutes l E (fun j => a (1 + j)) (fun j => a (36 + j)) f T u I (by omega)) [1, 2, 3, 4, 5, 6, 7, 36, 37, 38, 39, 40, 41, 42] clsW_s0C (by decide +kernel) (fun _ => roomK_fst) 0 6 rfl rfl (by decide) rfl hl.1 (rest := []) rfl (Nat.le_of_ble_eq_true rfl) dX11_minutes_41 (st1 := fun _ => []) (fun _ => rfl) (fun _ H locs _ X => ?_)
      have X : Wd E _ _ (clsW E a (goN u f) g h ik one wo tp tl tk ts te tn rb rz rn td) _ _ := X.eq clsW_s0P
      refine lv_aload_n hx hb dX11_minutes_44 rfl (lv_at hl 0 rfl) ?_
      refine k_get K X 0 rfl fg_X11_30 (v := .ref (a 1)) rfl dX11_minutes_45 ?_
      refine k_callV K X gv_X11_138 (As := []) (c_X6_movedTogether l E (fun j => a (1 + j)) (fun j => a (36 + j)) (goN u f) (T + u) (I.more u (by omega))) [1, 2, 3, 4, 5, 6, 7] clsW_s3C (by decide +kernel) (fun _ => roomW_fst) 0 6 rfl rfl (by decide) rfl hl.1 (rest := []) rfl (Nat.le_of_ble_eq_true rfl) dX11_minutes_48 (st1 := fun _ => [.int (allF (goN u f))]) (fun _ => rfl) (fun _ H locs _ X => ?_)
      have X : Wd E _ _ (clsW E a (goN u f) g h ik one wo tp tl tk ts te tn rb rz rn td) _ _ := X.eq clsW_s3P
      exact k_topi (x' := (oMinutes f td (nI u)).1) (by simp [oMinutes, bad3, c7, eu, hb1]) (fin () 51 _ _ _ trivial (X.eq (by simp [oMinutes, bad3, c7, eu, hb1])) dX11_minutes_51)
    · have hb1 : decide (mn f + u ≤ 99999) = false := by simp; omega
      refine lv_aload_n hx hb dX11_minutes_30 rfl (lv_at hl 0 rfl) ?_
      refine lv_iconst (v := 4) hx hb dX11_minutes_31 (by decide) ?_
      refine k_callV K X gv_X11_84 (As := [.int 4]) (c_X11_finding l E a f g h ik one wo tp tl tk ts te tn rb rz rn td 4 (by decide)) [0, 1, 2, 3, 4, 5, 6, 7, 8, 9, 10, 11, 12, 13, 14, 15, 16, 17, 18, 19, 20, 21, 22, 23, 24, 25, 26, 27, 28, 29, 30, 31, 32, 33, 34, 35, 36, 37, 38, 39, 40, 41, 42] clsW_idC (by decide +kernel) (fun _ => clsW_fst) 0 11 rfl rfl (by decide) rfl hl.1 (rest := []) rfl (Nat.le_of_ble_eq_true rfl) dX11_minutes_32 (st1 := fun _ => [.int (fnd 4)]) (fun _ => rfl) (fun _ H locs _ X => ?_)
      have X : Wd E _ _ (clsW E a f g h ik one wo tp tl tk ts te tn rb rz rn (fdU td 4)) _ _ := X.eq clsW_idP
      exact k_topi (x' := (oMinutes f td (nI u)).1) (by simp [oMinutes, bad3, c7, eu, hb1]) (fin () 35 _ _ _ trivial (X.eq (by simp [oMinutes, bad3, c7, eu, hb1])) dX11_minutes_35)
  · refine lv_aload_n hx hb dX11_minutes_10 rfl (lv_at hl 0 rfl) ?_
    refine lv_iconst (v := 0) hx hb dX11_minutes_11 (by decide) ?_
    refine k_callV K X gv_X11_84 (As := [.int 0]) (c_X11_finding l E a f g h ik one wo tp tl tk ts te tn rb rz rn td 0 (by decide)) [0, 1, 2, 3, 4, 5, 6, 7, 8, 9, 10, 11, 12, 13, 14, 15, 16, 17, 18, 19, 20, 21, 22, 23, 24, 25, 26, 27, 28, 29, 30, 31, 32, 33, 34, 35, 36, 37, 38, 39, 40, 41, 42] clsW_idC (by decide +kernel) (fun _ => clsW_fst) 0 11 rfl rfl (by decide) rfl hl.1 (rest := []) rfl (Nat.le_of_ble_eq_true rfl) dX11_minutes_12 (st1 := fun _ => [.int (fnd 0)]) (fun _ => rfl) (fun _ H locs _ X => ?_)
    have X : Wd E _ _ (clsW E a f g h ik one wo tp tl tk ts te tn rb rz rn (fdU td 0)) _ _ := X.eq clsW_idP
    exact k_topi (x' := (oMinutes f td x).1) (by simp [oMinutes, bad3, c7]) (fin () 15 _ _ _ trivial (X.eq (by simp [oMinutes, bad3, c7])) dX11_minutes_15)
