theorem sw_ne {x j : Int32} {n : Int} (hj : j.toInt = n) (h : ¬ x = j) : x.toInt ≠ n := fun e => h (Int32.toInt_inj.mp (e.trans hj.symm))
theorem bits_step : ∀ r, r < 1024 → ¬ r = 0 → bcF (nI r) = bcF (nI (r &&& (r - 1))) + 1 ∧ nI r &&& (nI r - 1) = nI (r &&& (r - 1)) ∧ r &&& (r - 1) < r := by decide +kernel
/-- whether one may touch a slip -/
def mayM (f : St) (p q : Nat) : Bool := !decide (f 3 q = 1) && mayS (kn f p) (f 2 q) (f 0 1) (f 0 0)
set_option maxRecDepth 100000 in
set_option maxHeartbeats 4000000 in
theorem c_X12_in (l : Launch) (E : EE) (x : Int32) (y : Int32) (z : Int32) : Kd l yX12_in cX12_in 4 (some .boolean) 0 0 E (noW E  ) [.long x.toInt64, .int y, .int z] (some (.int (b2i (inR x y z)))) (noW E  ) := by
  refine Kn.ofWi (by decide +kernel) (Nat.le_of_ble_eq_true rfl) (fun _ _ => b2i_nar _) ?_
  intro pg ev s0 mm below meth cd Q K X fin ls hl
  have hx := K.1
  have hb := K.2.1
  have hl : lv_has ls 4 [(0, .long x.toInt64), (2, .int y), (3, .int z)] := hl
  refine lv_lload_n hx hb dX12_in_0 rfl (lv_at hl 0 rfl) ?_
  refine lv_iload_n hx hb dX12_in_1 rfl (lv_at hl 1 rfl) ?_
  refine lv_i2l (v := y.toInt64) hx hb dX12_in_2 rfl ?_
  refine W.lcmp hx hb dX12_in_3 ?_
  refine k_lc_lt (x := x.toInt64) (y := y.toInt64) hx hb 18 dX12_in_4 (by decide) (fun c4 => ?_) (fun c4 => ?_)
  · refine lv_iconst (v := 0) hx hb dX12_in_18 (by decide) ?_
    exact k_topi (x' := b2i (inR x y z)) (by simp only [i64_lt] at c4; simp [inR, b2i, c4]) (fin () 19 _ _ _ trivial X dX12_in_19)
  · refine lv_lload_n hx hb dX12_in_7 rfl (lv_at hl 0 rfl) ?_
    refine lv_iload_n hx hb dX12_in_8 rfl (lv_at hl 2 rfl) ?_
    refine lv_i2l (v := z.toInt64) hx hb dX12_in_9 rfl ?_
    refine W.lcmp hx hb dX12_in_10 ?_
    refine k_lc_gt (x := x.toInt64) (y := z.toInt64) hx hb 18 dX12_in_11 (by decide) (fun c11 => ?_) (fun c11 => ?_)
    · refine lv_iconst (v := 0) hx hb dX12_in_18 (by decide) ?_
      exact k_topi (x' := b2i (inR x y z)) (by simp only [i64_lt] at c4 c11; simp [inR, b2i, c4, c11]) (fin () 19 _ _ _ trivial X dX12_in_19)
    · refine lv_iconst (v := 1) hx hb dX12_in_14 (by decide) ?_
      refine lv_goto (tgt := 19) hx hb dX12_in_15 (by decide) ?_
      exact k_topi (x' := b2i (inR x y z)) (by simp only [i64_lt] at c4 c11; simp [inR, b2i, c4, c11]) (fin () 19 _ _ _ trivial X dX12_in_19)
set_option maxRecDepth 100000 in
set_option maxHeartbeats 4000000 in
theorem c_X12_inL (l : Launch) (E : EE) (x : Int64) (y : Int32) (z : Int32) : Kd l yX12_in cX12_in 4 (some .boolean) 0 0 E (noW E  ) [.long x, .int y, .int z] (some (.int (b2i (inRL x y z)))) (noW E  ) := by
  refine Kn.ofWi (by decide +kernel) (Nat.le_of_ble_eq_true rfl) (fun _ _ => b2i_nar _) ?_
  intro pg ev s0 mm below meth cd Q K X fin ls hl
  have hx := K.1
  have hb := K.2.1
  have hl : lv_has ls 4 [(0, .long x), (2, .int y), (3, .int z)] := hl
  refine lv_lload_n hx hb dX12_in_0 rfl (lv_at hl 0 rfl) ?_
  refine lv_iload_n hx hb dX12_in_1 rfl (lv_at hl 1 rfl) ?_
  refine lv_i2l (v := y.toInt64) hx hb dX12_in_2 rfl ?_
  refine W.lcmp hx hb dX12_in_3 ?_
  refine k_lc_lt (x := x) (y := y.toInt64) hx hb 18 dX12_in_4 (by decide) (fun c4 => ?_) (fun c4 => ?_)
  · refine lv_iconst (v := 0) hx hb dX12_in_18 (by decide) ?_
    exact k_topi (x' := b2i (inRL x y z)) (by simp [inRL, b2i, c4]) (fin () 19 _ _ _ trivial X dX12_in_19)
  · refine lv_lload_n hx hb dX12_in_7 rfl (lv_at hl 0 rfl) ?_
    refine lv_iload_n hx hb dX12_in_8 rfl (lv_at hl 2 rfl) ?_
    refine lv_i2l (v := z.toInt64) hx hb dX12_in_9 rfl ?_
    refine W.lcmp hx hb dX12_in_10 ?_
    refine k_lc_gt (x := x) (y := z.toInt64) hx hb 18 dX12_in_11 (by decide) (fun c11 => ?_) (fun c11 => ?_)
    · refine lv_iconst (v := 0) hx hb dX12_in_18 (by decide) ?_
      exact k_topi (x' := b2i (inRL x y z)) (by simp [inRL, b2i, c4, c11]) (fin () 19 _ _ _ trivial X dX12_in_19)
    · refine lv_iconst (v := 1) hx hb dX12_in_14 (by decide) ?_
      refine lv_goto (tgt := 19) hx hb dX12_in_15 (by decide) ?_
      exact k_topi (x' := b2i (inRL x y z)) (by simp [inRL, b2i, c4, c11]) (fin () 19 _ _ _ trivial X dX12_in_19)
set_option maxRecDepth 100000 in
set_option maxHeartbeats 4000000 in
theorem c_X12_held (l : Launch) (E : EE) (x : Int32) (hx0 : ¬ x < 0) : Kd l yX12_held cX12_held 3 (some .int) 0 0 E (noW E  ) [.int x, .int 0, .int 999] (some (.int (heldF x))) (noW E  ) := by
  refine Kn.ofWi (by decide +kernel) (Nat.le_of_ble_eq_true rfl) (fun _ _ => rfl) ?_
  intro pg ev s0 mm below meth cd Q K X fin ls hl
  have hx := K.1
  have hb := K.2.1
  have hl : lv_has ls 3 [(0, .int x), (1, .int 0), (2, .int 999)] := hl
  refine lv_iload_n hx hb dX12_held_0 rfl (lv_at hl 0 rfl) ?_
  refine lv_iload_n hx hb dX12_held_1 rfl (lv_at hl 1 rfl) ?_
  refine k_icmp_ge (x := x) (y := 0) hx hb 9 dX12_held_2 (by decide) (fun c2 => ?_) (fun c2 => ?_)
  · refine lv_iload_n hx hb dX12_held_9 rfl (lv_at hl 0 rfl) ?_
    refine lv_iload_n hx hb dX12_held_10 rfl (lv_at hl 2 rfl) ?_
    refine k_icmp_le (x := x) (y := 999) hx hb 18 dX12_held_11 (by decide) (fun c11 => ?_) (fun c11 => ?_)
    · refine lv_iload_n hx hb dX12_held_18 rfl (lv_at hl 0 rfl) ?_
      exact k_topi (x' := heldF x) (by simp [heldF, hx0, c2, c11]) (fin () 19 _ _ _ trivial X dX12_held_19)
    · refine lv_iload_n hx hb dX12_held_14 rfl (lv_at hl 2 rfl) ?_
      refine lv_goto (tgt := 19) hx hb dX12_held_15 (by decide) ?_
      exact k_topi (x' := heldF x) (by simp [heldF, hx0, c2, c11]) (fin () 19 _ _ _ trivial X dX12_held_19)
  · exact absurd c2 hx0
set_option maxRecDepth 100000 in
set_option maxHeartbeats 4000000 in
theorem c_X12_copyAll (l : Launch) (E : EE) (x : Nat) (y : Nat) (g : Nat → Int32) (h : Nat → Int32) : Kd l yX12_copyAll cX12_copyAll 3 none 0 0 E (pairW E x y g h) [.ref x, .ref y] none (pairW E x y g g) := by
  refine Kn.ofWv (by decide +kernel) (Nat.le_of_ble_eq_true rfl) ?_
  intro pg ev s0 mm below meth cd Q K X fin ls hl
  have hx := K.1
  have hb := K.2.1
  have hl : lv_has ls 3 [(0, .ref x), (1, .ref y)] := hl
  refine lv_iconst (v := 0) hx hb dX12_copyAll_0 (by decide) ?_
  refine lv_istore_n (lv' := [(2, .int 0), (0, .ref x), (1, .ref y)]) hx hb dX12_copyAll_1 rfl hl (by decide) rfl (fun ls hl => ?_)
  have lp2 : ∀ (fu : Nat) (i : Nat) (n : Nat) (w : Nat → Int32) (hfu : n < fu) (hin : i + n = 106) (hw : ∀ j, j < i → w j = g j) (ls : Array Slot) (hl : lv_has ls 3 [(2, .int (nI i)), (0, .ref x), (1, .ref y)]) (H : Heap) (locs : List Loc) (X : Wd E (inW (pairW E x y g h)) s0.heap (pairW E x y g w) H locs), W pg l ev (rmK 0 0) s0 mm ([.ref x, .ref y] : List Value).toArray below meth cd H locs 0 0 Q (F0 mm 2 ls []) := by
    intro fu
    induction fu with
    | zero => intro i n w hfu; exact absurd hfu (Nat.not_lt_zero _)
    | succ fu ih2 =>
      intro i n w hfu hin hw ls hl H locs X
      refine lv_iload_n hx hb dX12_copyAll_2 rfl (lv_at hl 0 rfl) ?_
      refine lv_bipush (v := 106) hx hb dX12_copyAll_3 (by decide) ?_
      refine kN_ge (x := i) (y := 106) hx hb 20 dX12_copyAll_5 (by decide) (by omega) (by omega) (fun c5 => ?_) (fun c5 => ?_)
      · obtain rfl : n = 0 := by omega
        have X := X.arr 1 (g := g) rfl (fun j hj => hw j (by omega))
        have X : Wd E _ _ (pairW E x y g g) _ _ := X
        exact fin () 20 _ _ _ trivial X dX12_copyAll_20
      · obtain ⟨n, rfl⟩ : ∃ z, n = z + 1 := ⟨n - 1, by omega⟩
        refine lv_aload_n hx hb dX12_copyAll_8 rfl (lv_at hl 2 rfl) ?_
        refine lv_iload_n hx hb dX12_copyAll_9 rfl (lv_at hl 0 rfl) ?_
        refine lv_aload_n hx hb dX12_copyAll_10 rfl (lv_at hl 1 rfl) ?_
        refine lv_iload_n hx hb dX12_copyAll_11 rfl (lv_at hl 0 rfl) ?_
        refine k_ialdN K X 0 rfl (k := i) (by omega) (by decide) dX12_copyAll_12 (v := g i) rfl ?_
        refine k_iastN K X 1 rfl (k := i) (x := g i) (by omega) (by decide) dX12_copyAll_13 (fun H locs X => ?_)
        have X : Wd E _ _ (pairW E x y g (upd w i (g i))) _ _ := X
        refine lv_iinc (v := nI (i + 1)) (lv' := [(2, .int (nI (i + 1))), (0, .ref x), (1, .ref y)]) hx hb dX12_copyAll_14 hl (k := 0) rfl (nI_add i 1) (by decide) rfl (fun ls hl => ?_)
        refine lv_goto (tgt := 2) hx hb dX12_copyAll_17 (by decide) ?_
        exact ih2 (i + 1) n (upd w i (g i)) (by omega) (by omega) (fun j hj => by rw [upd_eq]; split; (rename_i e; rw [e]); exact hw j (by omega)) _ hl _ _ X
  exact lp2 (106 + 1) 0 106 h (by omega) (by omega) (fun j hj => absurd hj (Nat.not_lt_zero j)) _ hl _ _ X
set_option maxRecDepth 100000 in
set_option maxHeartbeats 4000000 in
theorem c_X12_bits (l : Launch) (E : EE) (x : Int32) (hxv : ∃ v, v < 1024 ∧ x = nI v) : Kd l yX12_bits cX12_bits 3 (some .int) 0 0 E (noW E  ) [.int x] (some (.int (bcF x))) (noW E  ) := by
  refine Kn.ofWi (by decide +kernel) (Nat.le_of_ble_eq_true rfl) (fun _ _ => rfl) ?_
  intro pg ev s0 mm below meth cd Q K X fin ls hl
  have hx := K.1
  have hb := K.2.1
  have hl : lv_has ls 3 [(0, .int x)] := hl
  obtain ⟨v, hv, rfl⟩ := hxv
  refine lv_iconst (v := 0) hx hb dX12_bits_0 (by decide) ?_
  refine lv_istore_n (lv' := [(1, .int 0), (0, .int (nI v))]) hx hb dX12_bits_1 rfl hl (by decide) rfl (fun ls hl => ?_)
  refine lv_iload_n hx hb dX12_bits_2 rfl (lv_at hl 1 rfl) ?_
  refine lv_istore_n (lv' := [(2, .int (nI v)), (1, .int 0), (0, .int (nI v))]) hx hb dX12_bits_3 rfl hl (by decide) rfl (fun ls hl => ?_)
  have lp4 : ∀ (fu : Nat) (r : Nat) (w : Nat) (hfu : r < fu) (hr : r < 1024) (hR : nI w + bcF (nI r) = bcF (nI v)) (ls : Array Slot) (hl : lv_has ls 3 [(2, .int (nI r)), (1, .int (nI w)), (0, .int (nI v))]) (H : Heap) (locs : List Loc) (X : Wd E (inW (noW E  )) s0.heap (noW E  ) H locs), W pg l ev (rmK 0 0) s0 mm ([.int (nI v)] : List Value).toArray below meth cd H locs 0 0 Q (F0 mm 4 ls []) := by
    intro fu
    induction fu with
    | zero => intro r w hfu; exact absurd hfu (Nat.not_lt_zero _)
    | succ fu ih4 =>
      intro r w hfu hr hR ls hl H locs X
      refine lv_iload_n hx hb dX12_bits_4 rfl (lv_at hl 0 rfl) ?_
      refine kN0_eq (x := r) hx hb 20 dX12_bits_5 (by decide) (by omega) (fun c5 => ?_) (fun c5 => ?_)
      · subst c5
        refine lv_iload_n hx hb dX12_bits_20 rfl (lv_at hl 1 rfl) ?_
        exact k_topi (x' := bcF (nI v)) (by rw [← hR]; exact (Int32.add_zero _).symm) (fin () 21 _ _ _ trivial X dX12_bits_21)
      · refine lv_iinc (v := nI (w + 1)) (lv' := [(1, .int (nI (w + 1))), (2, .int (nI r)), (0, .int (nI v))]) hx hb dX12_bits_8 hl (k := 1) rfl (nI_add w 1) (by decide) rfl (fun ls hl => ?_)
        refine lv_iload_n hx hb dX12_bits_11 rfl (lv_at hl 1 rfl) ?_
        refine lv_iload_n hx hb dX12_bits_12 rfl (lv_at hl 1 rfl) ?_
        refine lv_iconst (v := 1) hx hb dX12_bits_13 (by decide) ?_
        refine lv_isub hx hb dX12_bits_14 ?_
        refine lv_iand hx hb dX12_bits_15 ?_
        refine k_topi (x' := nI (r &&& (r - 1))) ((bits_step r hr c5).2.1) ?_
        refine lv_istore_n (lv' := [(2, .int (nI (r &&& (r - 1)))), (1, .int (nI (w + 1))), (0, .int (nI v))]) hx hb dX12_bits_16 rfl hl (by decide) rfl (fun ls hl => ?_)
        refine lv_goto (tgt := 4) hx hb dX12_bits_17 (by decide) ?_
        exact ih4 (r &&& (r - 1)) (w + 1) (by have := (bits_step r hr c5).2.2; omega) (by have := (bits_step r hr c5).2.2; omega) (by rw [← hR, (bits_step r hr c5).1, ← nI_1, Int32.add_assoc, Int32.add_comm 1]) _ hl _ _ X
  exact lp4 (v + 1) v 0 (by omega) (hv) (by rw [show nI 0 = 0 from rfl, Int32.zero_add]) _ hl _ _ X
set_option maxRecDepth 100000 in
set_option maxHeartbeats 4000000 in
theorem c_X12_becomes (l : Launch) (E : EE) (b : Nat → Nat) (mf : Nat → Int32) (hf : Nat → Int32) (wf : Nat → Int32) (ik : Int32) (fd : Nat → Int32) (tch : Int32) (tp : Nat → Int32) (tl : Int32) (tk : Int32) (tb : Int32) (ta : Int32) (tv : Int32) (bad : Int32) (bo : Nat → Int32) (so : Nat → Int32) (ce : Nat → Int64) (j : Nat) (x : Int32) (hj : j < 106) : Kd l yX12_becomes cX12_becomes 4 (some .int) 0 0 E (modW E b mf hf wf ik fd tch tp tl tk tb ta tv bad bo so ce) [.ref (b 0), .int (nI j), .int x] (some (.int (mf j))) (modW E b (upd mf j x) hf wf ik fd tch tp tl tk tb ta tv bad bo so ce) := by
  refine Kn.ofWi (by decide +kernel) (Nat.le_of_ble_eq_true rfl) (fun _ _ => rfl) ?_
  intro pg ev s0 mm below meth cd Q K X fin ls hl
  have hx := K.1
  have hb := K.2.1
  have hl : lv_has ls 4 [(0, .ref (b 0)), (1, .int (nI j)), (2, .int x)] := hl
  refine lv_aload_n hx hb dX12_becomes_0 rfl (lv_at hl 0 rfl) ?_
  refine k_get K X 0 rfl fg_X12_9 (v := .ref (b 1)) rfl dX12_becomes_1 ?_
  refine lv_iload_n hx hb dX12_becomes_4 rfl (lv_at hl 1 rfl) ?_
  refine k_ialdN K X 1 rfl (k := j) (by omega) (by decide) dX12_becomes_5 (v := mf j) rfl ?_
  refine lv_istore_n (lv' := [(3, .int (mf j)), (0, .ref (b 0)), (1, .int (nI j)), (2, .int x)]) hx hb dX12_becomes_6 rfl hl (by decide) rfl (fun ls hl => ?_)
  refine lv_aload_n hx hb dX12_becomes_7 rfl (lv_at hl 1 rfl) ?_
  refine k_get K X 0 rfl fg_X12_9 (v := .ref (b 1)) rfl dX12_becomes_8 ?_
  refine lv_iload_n hx hb dX12_becomes_11 rfl (lv_at hl 2 rfl) ?_
  refine lv_iload_n hx hb dX12_becomes_12 rfl (lv_at hl 3 rfl) ?_
  refine k_iastN K X 1 rfl (k := j) (x := x) (by omega) (by decide) dX12_becomes_13 (fun H locs X => ?_)
  have X : Wd E _ _ (modW E b (upd mf j x) hf wf ik fd tch tp tl tk tb ta tv bad bo so ce) _ _ := X
  refine lv_iload_n hx hb dX12_becomes_14 rfl (lv_at hl 0 rfl) ?_
  exact fin () 15 _ _ _ trivial X dX12_becomes_15
set_option maxRecDepth 100000 in
set_option maxHeartbeats 4000000 in
theorem c_X12_isSlip (l : Launch) (E : EE) (b : Nat → Nat) (hf : Nat → Int32) (wf : Nat → Int32) (ik : Int32) (fd : Nat → Int32) (tch : Int32) (tp : Nat → Int32) (tl : Int32) (tk : Int32) (tb : Int32) (ta : Int32) (tv : Int32) (bad : Int32) (bo : Nat → Int32) (so : Nat → Int32) (ce : Nat → Int64) (f : St) (x : Int32) : Kd l yX12_isSlip cX12_isSlip 2 (some .boolean) 1 23 E (modW E b (flat f) hf wf ik fd tch tp tl tk tb ta tv bad bo so ce) [.ref (b 0), .int x] (some (.int (b2i (inR x 0 (f 0 2 - 1))))) (modW E b (flat f) hf wf ik fd tch tp tl tk tb ta tv bad bo so ce) := by
  refine Kn.ofWi (by decide +kernel) (Nat.le_of_ble_eq_true rfl) (fun _ _ => b2i_nar _) ?_
  intro pg ev s0 mm below meth cd Q K X fin ls hl
  have hx := K.1
  have hb := K.2.1
  have hl : lv_has ls 2 [(0, .ref (b 0)), (1, .int x)] := hl
  refine lv_iload_n hx hb dX12_isSlip_0 rfl (lv_at hl 1 rfl) ?_
  refine lv_i2l (v := x.toInt64) hx hb dX12_isSlip_1 rfl ?_
  refine lv_iconst (v := 0) hx hb dX12_isSlip_2 (by decide) ?_
  refine lv_aload_n hx hb dX12_isSlip_3 rfl (lv_at hl 0 rfl) ?_
  refine k_get K X 0 rfl fg_X12_9 (v := .ref (b 1)) rfl dX12_isSlip_4 ?_
  refine lv_iconst (v := 2) hx hb dX12_isSlip_7 (by decide) ?_
  refine k_ialdN K X 1 rfl (k := 2) (by omega) (by decide) dX12_isSlip_8 (v := f 0 2) rfl ?_
  refine lv_iconst (v := 1) hx hb dX12_isSlip_9 (by decide) ?_
  refine lv_isub hx hb dX12_isSlip_10 ?_
  refine k_callS K X gs_X12_41 (As := [.long x.toInt64, .int 0, .int ((f 0 2) - 1)]) (c_X12_in l E x 0 ((f 0 2) - 1)) [] rfl (by decide +kernel) (fun _ => rfl) (by decide) rfl hl.1 (rest := []) rfl (Nat.le_of_ble_eq_true rfl) dX12_isSlip_11 (st1 := fun _ => [.int (b2i (inR x 0 ((f 0 2) - 1)))]) (fun _ => rfl) (fun _ H locs _ X => ?_)
  have X : Wd E _ _ (modW E b (flat f) hf wf ik fd tch tp tl tk tb ta tv bad bo so ce) _ _ := X
  exact k_topi (x' := b2i (inR x 0 (f 0 2 - 1))) (rfl) (fin () 14 _ _ _ trivial X dX12_isSlip_14)
set_option maxRecDepth 100000 in
set_option maxHeartbeats 4000000 in
theorem c_X12_isPerson (l : Launch) (E : EE) (b : Nat → Nat) (hf : Nat → Int32) (wf : Nat → Int32) (ik : Int32) (fd : Nat → Int32) (tch : Int32) (tp : Nat → Int32) (tl : Int32) (tk : Int32) (tb : Int32) (ta : Int32) (tv : Int32) (bad : Int32) (bo : Nat → Int32) (so : Nat → Int32) (ce : Nat → Int64) (f : St) (x : Int32) : Kd l yX12_isPerson cX12_isPerson 2 (some .boolean) 1 23 E (modW E b (flat f) hf wf ik fd tch tp tl tk tb ta tv bad bo so ce) [.ref (b 0), .int x] (some (.int (b2i (inR x 0 (f 0 3 - 1))))) (modW E b (flat f) hf wf ik fd tch tp tl tk tb ta tv bad bo so ce) := by
  refine Kn.ofWi (by decide +kernel) (Nat.le_of_ble_eq_true rfl) (fun _ _ => b2i_nar _) ?_
  intro pg ev s0 mm below meth cd Q K X fin ls hl
  have hx := K.1
  have hb := K.2.1
  have hl : lv_has ls 2 [(0, .ref (b 0)), (1, .int x)] := hl
  refine lv_iload_n hx hb dX12_isPerson_0 rfl (lv_at hl 1 rfl) ?_
  refine lv_i2l (v := x.toInt64) hx hb dX12_isPerson_1 rfl ?_
  refine lv_iconst (v := 0) hx hb dX12_isPerson_2 (by decide) ?_
  refine lv_aload_n hx hb dX12_isPerson_3 rfl (lv_at hl 0 rfl) ?_
  refine k_get K X 0 rfl fg_X12_9 (v := .ref (b 1)) rfl dX12_isPerson_4 ?_
  refine lv_iconst (v := 3) hx hb dX12_isPerson_7 (by decide) ?_
  refine k_ialdN K X 1 rfl (k := 3) (by omega) (by decide) dX12_isPerson_8 (v := f 0 3) rfl ?_
  refine lv_iconst (v := 1) hx hb dX12_isPerson_9 (by decide) ?_
  refine lv_isub hx hb dX12_isPerson_10 ?_
  refine k_callS K X gs_X12_41 (As := [.long x.toInt64, .int 0, .int ((f 0 3) - 1)]) (c_X12_in l E x 0 ((f 0 3) - 1)) [] rfl (by decide +kernel) (fun _ => rfl) (by decide) rfl hl.1 (rest := []) rfl (Nat.le_of_ble_eq_true rfl) dX12_isPerson_11 (st1 := fun _ => [.int (b2i (inR x 0 ((f 0 3) - 1)))]) (fun _ => rfl) (fun _ H locs _ X => ?_)
  have X : Wd E _ _ (modW E b (flat f) hf wf ik fd tch tp tl tk tb ta tv bad bo so ce) _ _ := X
  exact k_topi (x' := b2i (inR x 0 (f 0 3 - 1))) (rfl) (fin () 14 _ _ _ trivial X dX12_isPerson_14)
set_option maxRecDepth 100000 in
set_option maxHeartbeats 4000000 in
theorem c_X12_it0 (l : Launch) (E : EE) (b : Nat → Nat) (hf : Nat → Int32) (wf : Nat → Int32) (ik : Int32) (fd : Nat → Int32) (tch : Int32) (tp : Nat → Int32) (tl : Int32) (tk : Int32) (tb : Int32) (ta : Int32) (tv : Int32) (bad : Int32) (bo : Nat → Int32) (so : Nat → Int32) (ce : Nat → Int64) (f : St) (q : Nat) (hq : q < 10) : Kd l yX12_it cX12_it 3 (some .int) 0 0 E (modW E b (flat f) hf wf ik fd tch tp tl tk tb ta tv bad bo so ce) [.ref (b 0), .int (nI q), .int 0] (some (.int (f 1 q))) (modW E b (flat f) hf wf ik fd tch tp tl tk tb ta tv bad bo so ce) := by
  refine Kn.ofWi (by decide +kernel) (Nat.le_of_ble_eq_true rfl) (fun _ _ => rfl) ?_
  intro pg ev s0 mm below meth cd Q K X fin ls hl
  have hx := K.1
  have hb := K.2.1
  have hl : lv_has ls 3 [(0, .ref (b 0)), (1, .int (nI q)), (2, .int 0)] := hl
  refine lv_aload_n hx hb dX12_it_0 rfl (lv_at hl 0 rfl) ?_
  refine k_get K X 0 rfl fg_X12_9 (v := .ref (b 1)) rfl dX12_it_1 ?_
  refine lv_iconst (v := 4) hx hb dX12_it_4 (by decide) ?_
  refine lv_iconst (v := 3) hx hb dX12_it_5 (by decide) ?_
  refine lv_iload_n hx hb dX12_it_6 rfl (lv_at hl 1 rfl) ?_
  refine lv_imul hx hb dX12_it_7 ?_
  refine k_topi (pk_mul 3 q) ?_
  refine lv_iadd hx hb dX12_it_8 ?_
  refine k_topi (nI_add 4 (3 * q)) ?_
  refine lv_iload_n hx hb dX12_it_9 rfl (lv_at hl 2 rfl) ?_
  refine lv_iadd hx hb dX12_it_10 ?_
  refine k_topi (nI_add (4 + 3 * q) 0) ?_
  refine k_ialdN K X 1 rfl (k := 4 + 3 * q + 0) (by omega) (by decide) dX12_it_11 (v := (flat f) (4 + 3 * q + 0)) rfl ?_
  exact k_topi (x' := f 1 q) (flat_rS f hq (w := 0) (by decide)) (fin () 12 _ _ _ trivial X dX12_it_12)
set_option maxRecDepth 100000 in
set_option maxHeartbeats 4000000 in
theorem c_X12_put0 (l : Launch) (E : EE) (b : Nat → Nat) (hf : Nat → Int32) (wf : Nat → Int32) (ik : Int32) (fd : Nat → Int32) (tch : Int32) (tp : Nat → Int32) (tl : Int32) (tk : Int32) (tb : Int32) (ta : Int32) (tv : Int32) (bad : Int32) (bo : Nat → Int32) (so : Nat → Int32) (ce : Nat → Int64) (f : St) (q : Nat) (x : Int32) (hq : q < 10) : Kd l yX12_put cX12_put 4 none 0 0 E (modW E b (flat f) hf wf ik fd tch tp tl tk tb ta tv bad bo so ce) [.ref (b 0), .int (nI q), .int 0, .int x] none (modW E b (flat (up2 f 1 q x)) hf wf ik fd tch tp tl tk tb ta tv bad bo so ce) := by
  refine Kn.ofWv (by decide +kernel) (Nat.le_of_ble_eq_true rfl) ?_
  intro pg ev s0 mm below meth cd Q K X fin ls hl
  have hx := K.1
  have hb := K.2.1
  have hl : lv_has ls 4 [(0, .ref (b 0)), (1, .int (nI q)), (2, .int 0), (3, .int x)] := hl
  refine lv_aload_n hx hb dX12_put_0 rfl (lv_at hl 0 rfl) ?_
  refine k_get K X 0 rfl fg_X12_9 (v := .ref (b 1)) rfl dX12_put_1 ?_
  refine lv_iconst (v := 4) hx hb dX12_put_4 (by decide) ?_
  refine lv_iconst (v := 3) hx hb dX12_put_5 (by decide) ?_
  refine lv_iload_n hx hb dX12_put_6 rfl (lv_at hl 1 rfl) ?_
  refine lv_imul hx hb dX12_put_7 ?_
  refine k_topi (pk_mul 3 q) ?_
  refine lv_iadd hx hb dX12_put_8 ?_
  refine k_topi (nI_add 4 (3 * q)) ?_
  refine lv_iload_n hx hb dX12_put_9 rfl (lv_at hl 2 rfl) ?_
  refine lv_iadd hx hb dX12_put_10 ?_
  refine k_topi (nI_add (4 + 3 * q) 0) ?_
  refine lv_iload_n hx hb dX12_put_11 rfl (lv_at hl 3 rfl) ?_
  refine k_iastN K X 1 rfl (k := 4 + 3 * q + 0) (x := x) (by omega) (by decide) dX12_put_12 (fun H locs X => ?_)
  have X : Wd E _ _ (modW E b (upd (flat f) (4 + 3 * q + 0) x) hf wf ik fd tch tp tl tk tb ta tv bad bo so ce) _ _ := X
  have X : Wd E _ _ (modW E b (flat (up2 f 1 q x)) hf wf ik fd tch tp tl tk tb ta tv bad bo so ce) _ _ := X.eq (by rw [flat_slip _ _ (by omega) (by omega)])
  exact fin () 13 _ _ _ trivial X dX12_put_13
set_option maxRecDepth 100000 in
set_option maxHeartbeats 4000000 in
theorem c_X12_it1 (l : Launch) (E : EE) (b : Nat → Nat) (hf : Nat → Int32) (wf : Nat → Int32) (ik : Int32) (fd : Nat → Int32) (tch : Int32) (tp : Nat → Int32) (tl : Int32) (tk : Int32) (tb : Int32) (ta : Int32) (tv : Int32) (bad : Int32) (bo : Nat → Int32) (so : Nat → Int32) (ce : Nat → Int64) (f : St) (q : Nat) (hq : q < 10) : Kd l yX12_it cX12_it 3 (some .int) 0 0 E (modW E b (flat f) hf wf ik fd tch tp tl tk tb ta tv bad bo so ce) [.ref (b 0), .int (nI q), .int 1] (some (.int (f 2 q))) (modW E b (flat f) hf wf ik fd tch tp tl tk tb ta tv bad bo so ce) := by
  refine Kn.ofWi (by decide +kernel) (Nat.le_of_ble_eq_true rfl) (fun _ _ => rfl) ?_
  intro pg ev s0 mm below meth cd Q K X fin ls hl
  have hx := K.1
  have hb := K.2.1
  have hl : lv_has ls 3 [(0, .ref (b 0)), (1, .int (nI q)), (2, .int 1)] := hl
  refine lv_aload_n hx hb dX12_it_0 rfl (lv_at hl 0 rfl) ?_
  refine k_get K X 0 rfl fg_X12_9 (v := .ref (b 1)) rfl dX12_it_1 ?_
  refine lv_iconst (v := 4) hx hb dX12_it_4 (by decide) ?_
  refine lv_iconst (v := 3) hx hb dX12_it_5 (by decide) ?_
  refine lv_iload_n hx hb dX12_it_6 rfl (lv_at hl 1 rfl) ?_
  refine lv_imul hx hb dX12_it_7 ?_
  refine k_topi (pk_mul 3 q) ?_
  refine lv_iadd hx hb dX12_it_8 ?_
  refine k_topi (nI_add 4 (3 * q)) ?_
  refine lv_iload_n hx hb dX12_it_9 rfl (lv_at hl 2 rfl) ?_
  refine lv_iadd hx hb dX12_it_10 ?_
  refine k_topi (nI_add (4 + 3 * q) 1) ?_
  refine k_ialdN K X 1 rfl (k := 4 + 3 * q + 1) (by omega) (by decide) dX12_it_11 (v := (flat f) (4 + 3 * q + 1)) rfl ?_
  exact k_topi (x' := f 2 q) (flat_rS f hq (w := 1) (by decide)) (fin () 12 _ _ _ trivial X dX12_it_12)
set_option maxRecDepth 100000 in
set_option maxHeartbeats 4000000 in
theorem c_X12_put1 (l : Launch) (E : EE) (b : Nat → Nat) (hf : Nat → Int32) (wf : Nat → Int32) (ik : Int32) (fd : Nat → Int32) (tch : Int32) (tp : Nat → Int32) (tl : Int32) (tk : Int32) (tb : Int32) (ta : Int32) (tv : Int32) (bad : Int32) (bo : Nat → Int32) (so : Nat → Int32) (ce : Nat → Int64) (f : St) (q : Nat) (x : Int32) (hq : q < 10) : Kd l yX12_put cX12_put 4 none 0 0 E (modW E b (flat f) hf wf ik fd tch tp tl tk tb ta tv bad bo so ce) [.ref (b 0), .int (nI q), .int 1, .int x] none (modW E b (flat (up2 f 2 q x)) hf wf ik fd tch tp tl tk tb ta tv bad bo so ce) := by
  refine Kn.ofWv (by decide +kernel) (Nat.le_of_ble_eq_true rfl) ?_
  intro pg ev s0 mm below meth cd Q K X fin ls hl
  have hx := K.1
  have hb := K.2.1
  have hl : lv_has ls 4 [(0, .ref (b 0)), (1, .int (nI q)), (2, .int 1), (3, .int x)] := hl
  refine lv_aload_n hx hb dX12_put_0 rfl (lv_at hl 0 rfl) ?_
  refine k_get K X 0 rfl fg_X12_9 (v := .ref (b 1)) rfl dX12_put_1 ?_
  refine lv_iconst (v := 4) hx hb dX12_put_4 (by decide) ?_
  refine lv_iconst (v := 3) hx hb dX12_put_5 (by decide) ?_
  refine lv_iload_n hx hb dX12_put_6 rfl (lv_at hl 1 rfl) ?_
  refine lv_imul hx hb dX12_put_7 ?_
  refine k_topi (pk_mul 3 q) ?_
  refine lv_iadd hx hb dX12_put_8 ?_
  refine k_topi (nI_add 4 (3 * q)) ?_
  refine lv_iload_n hx hb dX12_put_9 rfl (lv_at hl 2 rfl) ?_
  refine lv_iadd hx hb dX12_put_10 ?_
  refine k_topi (nI_add (4 + 3 * q) 1) ?_
  refine lv_iload_n hx hb dX12_put_11 rfl (lv_at hl 3 rfl) ?_
  refine k_iastN K X 1 rfl (k := 4 + 3 * q + 1) (x := x) (by omega) (by decide) dX12_put_12 (fun H locs X => ?_)
  have X : Wd E _ _ (modW E b (upd (flat f) (4 + 3 * q + 1) x) hf wf ik fd tch tp tl tk tb ta tv bad bo so ce) _ _ := X
  have X : Wd E _ _ (modW E b (flat (up2 f 2 q x)) hf wf ik fd tch tp tl tk tb ta tv bad bo so ce) _ _ := X.eq (by rw [flat_slip _ _ (by omega) (by omega)])
  exact fin () 13 _ _ _ trivial X dX12_put_13
set_option maxRecDepth 100000 in
set_option maxHeartbeats 4000000 in
theorem c_X12_it2 (l : Launch) (E : EE) (b : Nat → Nat) (hf : Nat → Int32) (wf : Nat → Int32) (ik : Int32) (fd : Nat → Int32) (tch : Int32) (tp : Nat → Int32) (tl : Int32) (tk : Int32) (tb : Int32) (ta : Int32) (tv : Int32) (bad : Int32) (bo : Nat → Int32) (so : Nat → Int32) (ce : Nat → Int64) (f : St) (q : Nat) (hq : q < 10) : Kd l yX12_it cX12_it 3 (some .int) 0 0 E (modW E b (flat f) hf wf ik fd tch tp tl tk tb ta tv bad bo so ce) [.ref (b 0), .int (nI q), .int 2] (some (.int (f 3 q))) (modW E b (flat f) hf wf ik fd tch tp tl tk tb ta tv bad bo so ce) := by
  refine Kn.ofWi (by decide +kernel) (Nat.le_of_ble_eq_true rfl) (fun _ _ => rfl) ?_
  intro pg ev s0 mm below meth cd Q K X fin ls hl
  have hx := K.1
  have hb := K.2.1
  have hl : lv_has ls 3 [(0, .ref (b 0)), (1, .int (nI q)), (2, .int 2)] := hl
  refine lv_aload_n hx hb dX12_it_0 rfl (lv_at hl 0 rfl) ?_
  refine k_get K X 0 rfl fg_X12_9 (v := .ref (b 1)) rfl dX12_it_1 ?_
  refine lv_iconst (v := 4) hx hb dX12_it_4 (by decide) ?_
  refine lv_iconst (v := 3) hx hb dX12_it_5 (by decide) ?_
  refine lv_iload_n hx hb dX12_it_6 rfl (lv_at hl 1 rfl) ?_
  refine lv_imul hx hb dX12_it_7 ?_
  refine k_topi (pk_mul 3 q) ?_
  refine lv_iadd hx hb dX12_it_8 ?_
  refine k_topi (nI_add 4 (3 * q)) ?_
  refine lv_iload_n hx hb dX12_it_9 rfl (lv_at hl 2 rfl) ?_
  refine lv_iadd hx hb dX12_it_10 ?_
  refine k_topi (nI_add (4 + 3 * q) 2) ?_
  refine k_ialdN K X 1 rfl (k := 4 + 3 * q + 2) (by omega) (by decide) dX12_it_11 (v := (flat f) (4 + 3 * q + 2)) rfl ?_
  exact k_topi (x' := f 3 q) (flat_rS f hq (w := 2) (by decide)) (fin () 12 _ _ _ trivial X dX12_it_12)
set_option maxRecDepth 100000 in
set_option maxHeartbeats 4000000 in
theorem c_X12_put2 (l : Launch) (E : EE) (b : Nat → Nat) (hf : Nat → Int32) (wf : Nat → Int32) (ik : Int32) (fd : Nat → Int32) (tch : Int32) (tp : Nat → Int32) (tl : Int32) (tk : Int32) (tb : Int32) (ta : Int32) (tv : Int32) (bad : Int32) (bo : Nat → Int32) (so : Nat → Int32) (ce : Nat → Int64) (f : St) (q : Nat) (x : Int32) (hq : q < 10) : Kd l yX12_put cX12_put 4 none 0 0 E (modW E b (flat f) hf wf ik fd tch tp tl tk tb ta tv bad bo so ce) [.ref (b 0), .int (nI q), .int 2, .int x] none (modW E b (flat (up2 f 3 q x)) hf wf ik fd tch tp tl tk tb ta tv bad bo so ce) := by
  refine Kn.ofWv (by decide +kernel) (Nat.le_of_ble_eq_true rfl) ?_
  intro pg ev s0 mm below meth cd Q K X fin ls hl
  have hx := K.1
  have hb := K.2.1
  have hl : lv_has ls 4 [(0, .ref (b 0)), (1, .int (nI q)), (2, .int 2), (3, .int x)] := hl
  refine lv_aload_n hx hb dX12_put_0 rfl (lv_at hl 0 rfl) ?_
  refine k_get K X 0 rfl fg_X12_9 (v := .ref (b 1)) rfl dX12_put_1 ?_
  refine lv_iconst (v := 4) hx hb dX12_put_4 (by decide) ?_
  refine lv_iconst (v := 3) hx hb dX12_put_5 (by decide) ?_
  refine lv_iload_n hx hb dX12_put_6 rfl (lv_at hl 1 rfl) ?_
  refine lv_imul hx hb dX12_put_7 ?_
  refine k_topi (pk_mul 3 q) ?_
  refine lv_iadd hx hb dX12_put_8 ?_
  refine k_topi (nI_add 4 (3 * q)) ?_
  refine lv_iload_n hx hb dX12_put_9 rfl (lv_at hl 2 rfl) ?_
  refine lv_iadd hx hb dX12_put_10 ?_
  refine k_topi (nI_add (4 + 3 * q) 2) ?_
  refine lv_iload_n hx hb dX12_put_11 rfl (lv_at hl 3 rfl) ?_
  refine k_iastN K X 1 rfl (k := 4 + 3 * q + 2) (x := x) (by omega) (by decide) dX12_put_12 (fun H locs X => ?_)
  have X : Wd E _ _ (modW E b (upd (flat f) (4 + 3 * q + 2) x) hf wf ik fd tch tp tl tk tb ta tv bad bo so ce) _ _ := X
  have X : Wd E _ _ (modW E b (flat (up2 f 3 q x)) hf wf ik fd tch tp tl tk tb ta tv bad bo so ce) _ _ := X.eq (by rw [flat_slip _ _ (by omega) (by omega)])
  exact fin () 13 _ _ _ trivial X dX12_put_13
set_option maxRecDepth 100000 in
set_option maxHeartbeats 4000000 in
theorem c_X12_it (l : Launch) (E : EE) (b : Nat → Nat) (hf : Nat → Int32) (wf : Nat → Int32) (ik : Int32) (fd : Nat → Int32) (tch : Int32) (tp : Nat → Int32) (tl : Int32) (tk : Int32) (tb : Int32) (ta : Int32) (tv : Int32) (bad : Int32) (bo : Nat → Int32) (so : Nat → Int32) (ce : Nat → Int64) (f : St) (q : Nat) (w : Nat) (hq : q < 10) (hw : w < 3) : Kd l yX12_it cX12_it 3 (some .int) 0 0 E (modW E b (flat f) hf wf ik fd tch tp tl tk tb ta tv bad bo so ce) [.ref (b 0), .int (nI q), .int (nI w)] (some (.int (f (1 + w) q))) (modW E b (flat f) hf wf ik fd tch tp tl tk tb ta tv bad bo so ce) := by
  refine Kn.ofWi (by decide +kernel) (Nat.le_of_ble_eq_true rfl) (fun _ _ => rfl) ?_
  intro pg ev s0 mm below meth cd Q K X fin ls hl
  have hx := K.1
  have hb := K.2.1
  have hl : lv_has ls 3 [(0, .ref (b 0)), (1, .int (nI q)), (2, .int (nI w))] := hl
  refine lv_aload_n hx hb dX12_it_0 rfl (lv_at hl 0 rfl) ?_
  refine k_get K X 0 rfl fg_X12_9 (v := .ref (b 1)) rfl dX12_it_1 ?_
  refine lv_iconst (v := 4) hx hb dX12_it_4 (by decide) ?_
  refine lv_iconst (v := 3) hx hb dX12_it_5 (by decide) ?_
  refine lv_iload_n hx hb dX12_it_6 rfl (lv_at hl 1 rfl) ?_
  refine lv_imul hx hb dX12_it_7 ?_
  refine k_topi (pk_mul 3 q) ?_
  refine lv_iadd hx hb dX12_it_8 ?_
  refine k_topi (nI_add 4 (3 * q)) ?_
  refine lv_iload_n hx hb dX12_it_9 rfl (lv_at hl 2 rfl) ?_
  refine lv_iadd hx hb dX12_it_10 ?_
  refine k_topi (nI_add (4 + 3 * q) w) ?_
  refine k_ialdN K X 1 rfl (k := 4 + 3 * q + w) (by omega) (by decide) dX12_it_11 (v := (flat f) (4 + 3 * q + w)) rfl ?_
  exact k_topi (x' := f (1 + w) q) (flat_rS f hq hw) (fin () 12 _ _ _ trivial X dX12_it_12)
set_option maxRecDepth 100000 in
set_option maxHeartbeats 4000000 in
theorem c_X12_who0 (l : Launch) (E : EE) (b : Nat → Nat) (hf : Nat → Int32) (wf : Nat → Int32) (ik : Int32) (fd : Nat → Int32) (tch : Int32) (tp : Nat → Int32) (tl : Int32) (tk : Int32) (tb : Int32) (ta : Int32) (tv : Int32) (bad : Int32) (bo : Nat → Int32) (so : Nat → Int32) (ce : Nat → Int64) (f : St) (p : Nat) (hp : p < 6) : Kd l yX12_who cX12_who 3 (some .int) 0 0 E (modW E b (flat f) hf wf ik fd tch tp tl tk tb ta tv bad bo so ce) [.ref (b 0), .int (nI p), .int 0] (some (.int (f 4 p))) (modW E b (flat f) hf wf ik fd tch tp tl tk tb ta tv bad bo so ce) := by
  refine Kn.ofWi (by decide +kernel) (Nat.le_of_ble_eq_true rfl) (fun _ _ => rfl) ?_
  intro pg ev s0 mm below meth cd Q K X fin ls hl
  have hx := K.1
  have hb := K.2.1
  have hl : lv_has ls 3 [(0, .ref (b 0)), (1, .int (nI p)), (2, .int 0)] := hl
  refine lv_aload_n hx hb dX12_who_0 rfl (lv_at hl 0 rfl) ?_
  refine k_get K X 0 rfl fg_X12_9 (v := .ref (b 1)) rfl dX12_who_1 ?_
  refine lv_bipush (v := 34) hx hb dX12_who_4 (by decide) ?_
  refine lv_bipush (v := 12) hx hb dX12_who_6 (by decide) ?_
  refine lv_iload_n hx hb dX12_who_8 rfl (lv_at hl 1 rfl) ?_
  refine lv_imul hx hb dX12_who_9 ?_
  refine k_topi (pk_mul 12 p) ?_
  refine lv_iadd hx hb dX12_who_10 ?_
  refine k_topi (nI_add 34 (12 * p)) ?_
  refine lv_iload_n hx hb dX12_who_11 rfl (lv_at hl 2 rfl) ?_
  refine lv_iadd hx hb dX12_who_12 ?_
  refine k_topi (nI_add (34 + 12 * p) 0) ?_
  refine k_ialdN K X 1 rfl (k := 34 + 12 * p + 0) (by omega) (by decide) dX12_who_13 (v := (flat f) (34 + 12 * p + 0)) rfl ?_
  exact k_topi (x' := f 4 p) (flat_rK f p) (fin () 14 _ _ _ trivial X dX12_who_14)
set_option maxRecDepth 100000 in
set_option maxHeartbeats 4000000 in
theorem c_X12_who1 (l : Launch) (E : EE) (b : Nat → Nat) (hf : Nat → Int32) (wf : Nat → Int32) (ik : Int32) (fd : Nat → Int32) (tch : Int32) (tp : Nat → Int32) (tl : Int32) (tk : Int32) (tb : Int32) (ta : Int32) (tv : Int32) (bad : Int32) (bo : Nat → Int32) (so : Nat → Int32) (ce : Nat → Int64) (f : St) (p : Nat) (hp : p < 6) : Kd l yX12_who cX12_who 3 (some .int) 0 0 E (modW E b (flat f) hf wf ik fd tch tp tl tk tb ta tv bad bo so ce) [.ref (b 0), .int (nI p), .int 1] (some (.int (f 5 p))) (modW E b (flat f) hf wf ik fd tch tp tl tk tb ta tv bad bo so ce) := by
  refine Kn.ofWi (by decide +kernel) (Nat.le_of_ble_eq_true rfl) (fun _ _ => rfl) ?_
  intro pg ev s0 mm below meth cd Q K X fin ls hl
  have hx := K.1
  have hb := K.2.1
  have hl : lv_has ls 3 [(0, .ref (b 0)), (1, .int (nI p)), (2, .int 1)] := hl
  refine lv_aload_n hx hb dX12_who_0 rfl (lv_at hl 0 rfl) ?_
  refine k_get K X 0 rfl fg_X12_9 (v := .ref (b 1)) rfl dX12_who_1 ?_
  refine lv_bipush (v := 34) hx hb dX12_who_4 (by decide) ?_
  refine lv_bipush (v := 12) hx hb dX12_who_6 (by decide) ?_
  refine lv_iload_n hx hb dX12_who_8 rfl (lv_at hl 1 rfl) ?_
  refine lv_imul hx hb dX12_who_9 ?_
  refine k_topi (pk_mul 12 p) ?_
  refine lv_iadd hx hb dX12_who_10 ?_
  refine k_topi (nI_add 34 (12 * p)) ?_
  refine lv_iload_n hx hb dX12_who_11 rfl (lv_at hl 2 rfl) ?_
  refine lv_iadd hx hb dX12_who_12 ?_
  refine k_topi (nI_add (34 + 12 * p) 1) ?_
  refine k_ialdN K X 1 rfl (k := 34 + 12 * p + 1) (by omega) (by decide) dX12_who_13 (v := (flat f) (34 + 12 * p + 1)) rfl ?_
  exact k_topi (x' := f 5 p) (flat_rO f p) (fin () 14 _ _ _ trivial X dX12_who_14)
set_option maxRecDepth 100000 in
set_option maxHeartbeats 4000000 in
theorem c_X12_whoW (l : Launch) (E : EE) (b : Nat → Nat) (hf : Nat → Int32) (wf : Nat → Int32) (ik : Int32) (fd : Nat → Int32) (tch : Int32) (tp : Nat → Int32) (tl : Int32) (tk : Int32) (tb : Int32) (ta : Int32) (tv : Int32) (bad : Int32) (bo : Nat → Int32) (so : Nat → Int32) (ce : Nat → Int64) (f : St) (p : Nat) (q : Nat) (hp : p < 6) (hq : q < 10) : Kd l yX12_who cX12_who 3 (some .int) 0 0 E (modW E b (flat f) hf wf ik fd tch tp tl tk tb ta tv bad bo so ce) [.ref (b 0), .int (nI p), .int (nI (2 + q))] (some (.int (f 6 (10 * p + q)))) (modW E b (flat f) hf wf ik fd tch tp tl tk tb ta tv bad bo so ce) := by
  refine Kn.ofWi (by decide +kernel) (Nat.le_of_ble_eq_true rfl) (fun _ _ => rfl) ?_
  intro pg ev s0 mm below meth cd Q K X fin ls hl
  have hx := K.1
  have hb := K.2.1
  have hl : lv_has ls 3 [(0, .ref (b 0)), (1, .int (nI p)), (2, .int (nI (2 + q)))] := hl
  refine lv_aload_n hx hb dX12_who_0 rfl (lv_at hl 0 rfl) ?_
  refine k_get K X 0 rfl fg_X12_9 (v := .ref (b 1)) rfl dX12_who_1 ?_
  refine lv_bipush (v := 34) hx hb dX12_who_4 (by decide) ?_
  refine lv_bipush (v := 12) hx hb dX12_who_6 (by decide) ?_
  refine lv_iload_n hx hb dX12_who_8 rfl (lv_at hl 1 rfl) ?_
  refine lv_imul hx hb dX12_who_9 ?_
  refine k_topi (pk_mul 12 p) ?_
  refine lv_iadd hx hb dX12_who_10 ?_
  refine k_topi (nI_add 34 (12 * p)) ?_
  refine lv_iload_n hx hb dX12_who_11 rfl (lv_at hl 2 rfl) ?_
  refine lv_iadd hx hb dX12_who_12 ?_
  refine k_topi (nI_add (34 + 12 * p) (2 + q)) ?_
  refine k_ialdN K X 1 rfl (k := 34 + 12 * p + (2 + q)) (by omega) (by decide) dX12_who_13 (v := (flat f) (34 + 12 * p + (2 + q))) rfl ?_
  exact k_topi (x' := f 6 (10 * p + q)) (flat_rW f p hq) (fin () 14 _ _ _ trivial X dX12_who_14)
set_option maxRecDepth 100000 in
set_option maxHeartbeats 4000000 in
theorem c_X12_wish (l : Launch) (E : EE) (b : Nat → Nat) (hf : Nat → Int32) (wf : Nat → Int32) (ik : Int32) (fd : Nat → Int32) (tch : Int32) (tp : Nat → Int32) (tl : Int32) (tk : Int32) (tb : Int32) (ta : Int32) (tv : Int32) (bad : Int32) (bo : Nat → Int32) (so : Nat → Int32) (ce : Nat → Int64) (f : St) (p : Nat) (q : Nat) (hp : p < 6) (hq : q < 10) : Kd l yX12_wish cX12_wish 3 (some .int) 1 22 E (modW E b (flat f) hf wf ik fd tch tp tl tk tb ta tv bad bo so ce) [.ref (b 0), .int (nI p), .int (nI q)] (some (.int (f 6 (10 * p + q)))) (modW E b (flat f) hf wf ik fd tch tp tl tk tb ta tv bad bo so ce) := by
  refine Kn.ofWi (by decide +kernel) (Nat.le_of_ble_eq_true rfl) (fun _ _ => rfl) ?_
  intro pg ev s0 mm below meth cd Q K X fin ls hl
  have hx := K.1
  have hb := K.2.1
  have hl : lv_has ls 3 [(0, .ref (b 0)), (1, .int (nI p)), (2, .int (nI q))] := hl
  refine lv_aload_n hx hb dX12_wish_0 rfl (lv_at hl 0 rfl) ?_
  refine lv_iload_n hx hb dX12_wish_1 rfl (lv_at hl 1 rfl) ?_
  refine lv_iconst (v := 2) hx hb dX12_wish_2 (by decide) ?_
  refine lv_iload_n hx hb dX12_wish_3 rfl (lv_at hl 2 rfl) ?_
  refine lv_iadd hx hb dX12_wish_4 ?_
  refine k_topi (nI_add 2 q) ?_
  refine k_callV K X gv_X12_45 (As := [.int (nI p), .int (nI (2 + q))]) (c_X12_whoW l E b hf wf ik fd tch tp tl tk tb ta tv bad bo so ce f p q (by omega) (by omega)) [0, 1, 2, 3, 4, 5, 6, 7, 8] modW_idC (by decide +kernel) (fun _ => modW_fst) 0 12 rfl rfl (by decide) rfl hl.1 (rest := []) rfl (Nat.le_of_ble_eq_true rfl) dX12_wish_5 (st1 := fun _ => [.int (f 6 (10 * p + q))]) (fun _ => rfl) (fun _ H locs _ X => ?_)
  have X : Wd E _ _ (modW E b (flat f) hf wf ik fd tch tp tl tk tb ta tv bad bo so ce) _ _ := X.eq modW_idP
  exact fin () 8 _ _ _ trivial X dX12_wish_8
set_option maxRecDepth 100000 in
set_option maxHeartbeats 4000000 in
theorem c_X12_mayTouch (l : Launch) (E : EE) (b : Nat → Nat) (hf : Nat → Int32) (wf : Nat → Int32) (ik : Int32) (fd : Nat → Int32) (tch : Int32) (tp : Nat → Int32) (tl : Int32) (tk : Int32) (tb : Int32) (ta : Int32) (tv : Int32) (bad : Int32) (bo : Nat → Int32) (so : Nat → Int32) (ce : Nat → Int64) (f : St) (T : Nat) (p : Nat) (q : Nat) (I : Inv T f) (hp : p < 6) (hq : q < 10) : Kd l yX12_mayTouch cX12_mayTouch 6 (some .boolean) 1 22 E (modW E b (flat f) hf wf ik fd tch tp tl tk tb ta tv bad bo so ce) [.ref (b 0), .int (nI p), .int (nI q)] (some (.int (b2i (mayM f p q)))) (modW E b (flat f) hf wf ik fd tch tp tl tk tb ta tv bad bo so ce) := by
  refine Kn.ofWi (by decide +kernel) (Nat.le_of_ble_eq_true rfl) (fun _ _ => b2i_nar _) ?_
  intro pg ev s0 mm below meth cd Q K X fin ls hl
  have hx := K.1
  have hb := K.2.1
  have hs10 := I.s10
  have hp6 := I.p6
  have hk6 := I.k6 (p := p) hp
  have hl : lv_has ls 6 [(0, .ref (b 0)), (1, .int (nI p)), (2, .int (nI q))] := hl
  refine lv_aload_n hx hb dX12_mayTouch_0 rfl (lv_at hl 0 rfl) ?_
  refine lv_iload_n hx hb dX12_mayTouch_1 rfl (lv_at hl 2 rfl) ?_
  refine lv_iconst (v := 1) hx hb dX12_mayTouch_2 (by decide) ?_
  refine k_callV K X gv_X12_49 (As := [.int (nI q), .int 1]) (c_X12_it1 l E b hf wf ik fd tch tp tl tk tb ta tv bad bo so ce f q (by omega)) [0, 1, 2, 3, 4, 5, 6, 7, 8] modW_idC (by decide +kernel) (fun _ => modW_fst) 0 12 rfl rfl (by decide) rfl hl.1 (rest := []) rfl (Nat.le_of_ble_eq_true rfl) dX12_mayTouch_3 (st1 := fun _ => [.int (f 2 q)]) (fun _ => rfl) (fun _ H locs _ X => ?_)
  have X : Wd E _ _ (modW E b (flat f) hf wf ik fd tch tp tl tk tb ta tv bad bo so ce) _ _ := X.eq modW_idP
  refine lv_istore_n (lv' := [(3, .int (f 2 q)), (0, .ref (b 0)), (1, .int (nI p)), (2, .int (nI q))]) hx hb dX12_mayTouch_6 rfl hl (by decide) rfl (fun ls hl => ?_)
  refine lv_iload_n hx hb dX12_mayTouch_7 rfl (lv_at hl 0 rfl) ?_
  refine lv_aload_n hx hb dX12_mayTouch_8 rfl (lv_at hl 1 rfl) ?_
  refine k_get K X 0 rfl fg_X12_9 (v := .ref (b 1)) rfl dX12_mayTouch_9 ?_
  refine lv_iconst (v := 1) hx hb dX12_mayTouch_12 (by decide) ?_
  refine k_ialdN K X 1 rfl (k := 1) (by omega) (by decide) dX12_mayTouch_13 (v := f 0 1) rfl ?_
  refine k_icmp_ge (x := f 2 q) (y := f 0 1) hx hb 21 dX12_mayTouch_14 (by decide) (fun c14 => ?_) (fun c14 => ?_)
  · refine lv_iconst (v := 0) hx hb dX12_mayTouch_21 (by decide) ?_
    refine lv_istore (lv' := [(4, .int 0), (3, .int (f 2 q)), (0, .ref (b 0)), (1, .int (nI p)), (2, .int (nI q))]) hx hb dX12_mayTouch_22 hl (by decide) rfl (fun ls hl => ?_)
    refine lv_iload hx hb dX12_mayTouch_24 (lv_at hl 0 rfl) ?_
    refine k_if0eq hx hb 37 dX12_mayTouch_26 (by decide) ?_
    refine lv_iconst (v := 0) hx hb dX12_mayTouch_37 (by decide) ?_
    refine lv_istore (lv' := [(5, .int 0), (4, .int 0), (3, .int (f 2 q)), (0, .ref (b 0)), (1, .int (nI p)), (2, .int (nI q))]) hx hb dX12_mayTouch_38 hl (by decide) rfl (fun ls hl => ?_)
    refine lv_aload_n hx hb dX12_mayTouch_40 rfl (lv_at hl 3 rfl) ?_
    refine lv_iload_n hx hb dX12_mayTouch_41 rfl (lv_at hl 5 rfl) ?_
    refine lv_iconst (v := 2) hx hb dX12_mayTouch_42 (by decide) ?_
    refine k_callV K X gv_X12_49 (As := [.int (nI q), .int 2]) (c_X12_it2 l E b hf wf ik fd tch tp tl tk tb ta tv bad bo so ce f q (by omega)) [0, 1, 2, 3, 4, 5, 6, 7, 8] modW_idC (by decide +kernel) (fun _ => modW_fst) 0 12 rfl rfl (by decide) rfl hl.1 (rest := []) rfl (Nat.le_of_ble_eq_true rfl) dX12_mayTouch_43 (st1 := fun _ => [.int (f 3 q)]) (fun _ => rfl) (fun _ H locs _ X => ?_)
    have X : Wd E _ _ (modW E b (flat f) hf wf ik fd tch tp tl tk tb ta tv bad bo so ce) _ _ := X.eq modW_idP
    refine lv_iconst (v := 1) hx hb dX12_mayTouch_46 (by decide) ?_
    refine k_icmp_ne (x := f 3 q) (y := 1) hx hb 52 dX12_mayTouch_47 (by decide) (fun c47 => ?_) (fun c47 => ?_)
    · refine lv_aload_n hx hb dX12_mayTouch_52 rfl (lv_at hl 3 rfl) ?_
      refine lv_iload_n hx hb dX12_mayTouch_53 rfl (lv_at hl 4 rfl) ?_
      refine lv_iconst (v := 0) hx hb dX12_mayTouch_54 (by decide) ?_
      refine k_callV K X gv_X12_45 (As := [.int (nI p), .int 0]) (c_X12_who0 l E b hf wf ik fd tch tp tl tk tb ta tv bad bo so ce f p (by omega)) [0, 1, 2, 3, 4, 5, 6, 7, 8] modW_idC (by decide +kernel) (fun _ => modW_fst) 0 12 rfl rfl (by decide) rfl hl.1 (rest := []) rfl (Nat.le_of_ble_eq_true rfl) dX12_mayTouch_55 (st1 := fun _ => [.int (f 4 p)]) (fun _ => rfl) (fun _ H locs _ X => ?_)
      have X : Wd E _ _ (modW E b (flat f) hf wf ik fd tch tp tl tk tb ta tv bad bo so ce) _ _ := X.eq modW_idP
      refine k_topi (I.hK (by omega)) ?_
      have hnc : kn f p < 6 := hk6
      rcases (show kn f p = 0 ∨ kn f p = 1 ∨ kn f p = 2 ∨ kn f p = 3 ∨ kn f p = 4 ∨ kn f p = 5 by omega) with en | en | en | en | en | en
      · refine k_topi (x' := 0) (by rw [en]; rfl) ?_
        refine lv_tableOut (tgt := 141) hx hb dX12_mayTouch_58 (by decide) (by decide) ?_
        refine lv_iload hx hb dX12_mayTouch_141 (lv_at hl 1 rfl) ?_
        exact k_topi (x' := b2i (mayM f p q)) (by first | (simp [mayM, mayS, b2i, c14, c47, en]; done) | (simp_all [mayM, mayS, b2i]; done)) (fin () 143 _ _ _ trivial X dX12_mayTouch_143)
      · refine k_topi (x' := 1) (by rw [en]; rfl) ?_
        refine lv_tableIn (off := 34) (tgt := 92) hx hb dX12_mayTouch_58 (by decide) (by decide) rfl (by decide) ?_
        refine lv_iload hx hb dX12_mayTouch_92 (lv_at hl 1 rfl) ?_
        refine k_if0ne hx hb dX12_mayTouch_94 ⟨102, by decide⟩ ?_
        refine lv_iload_n hx hb dX12_mayTouch_97 rfl (lv_at hl 2 rfl) ?_
        refine lv_iconst (v := 2) hx hb dX12_mayTouch_98 (by decide) ?_
        refine k_icmp_ge (x := f 2 q) (y := 2) hx hb 106 dX12_mayTouch_99 (by decide) (fun c99 => ?_) (fun c99 => ?_)
        · refine lv_iconst (v := 0) hx hb dX12_mayTouch_106 (by decide) ?_
          exact k_topi (x' := b2i (mayM f p q)) (by first | (simp [mayM, mayS, b2i, c14, c47, en, c99]; done) | (simp_all [mayM, mayS, b2i]; done)) (fin () 107 _ _ _ trivial X dX12_mayTouch_107)
        · refine lv_iconst (v := 1) hx hb dX12_mayTouch_102 (by decide) ?_
          refine lv_goto (tgt := 107) hx hb dX12_mayTouch_103 (by decide) ?_
          exact k_topi (x' := b2i (mayM f p q)) (by first | (simp [mayM, mayS, b2i, c14, c47, en, c99]; done) | (simp_all [mayM, mayS, b2i]; done)) (fin () 107 _ _ _ trivial X dX12_mayTouch_107)
      · refine k_topi (x' := 2) (by rw [en]; rfl) ?_
        refine lv_tableIn (off := 50) (tgt := 108) hx hb dX12_mayTouch_58 (by decide) (by decide) rfl (by decide) ?_
        refine lv_iload hx hb dX12_mayTouch_108 (lv_at hl 0 rfl) ?_
        exact k_topi (x' := b2i (mayM f p q)) (by first | (simp [mayM, mayS, b2i, c14, c47, en]; done) | (simp_all [mayM, mayS, b2i]; done)) (fin () 110 _ _ _ trivial X dX12_mayTouch_110)
      · refine k_topi (x' := 3) (by rw [en]; rfl) ?_
        refine lv_tableIn (off := 53) (tgt := 111) hx hb dX12_mayTouch_58 (by decide) (by decide) rfl (by decide) ?_
        refine lv_iconst (v := 1) hx hb dX12_mayTouch_111 (by decide) ?_
        exact k_topi (x' := b2i (mayM f p q)) (by first | (simp [mayM, mayS, b2i, c14, c47, en]; done) | (simp_all [mayM, mayS, b2i]; done)) (fin () 112 _ _ _ trivial X dX12_mayTouch_112)
      · refine k_topi (x' := 4) (by rw [en]; rfl) ?_
        refine lv_tableIn (off := 34) (tgt := 92) hx hb dX12_mayTouch_58 (by decide) (by decide) rfl (by decide) ?_
        refine lv_iload hx hb dX12_mayTouch_92 (lv_at hl 1 rfl) ?_
        refine k_if0ne hx hb dX12_mayTouch_94 ⟨102, by decide⟩ ?_
        refine lv_iload_n hx hb dX12_mayTouch_97 rfl (lv_at hl 2 rfl) ?_
        refine lv_iconst (v := 2) hx hb dX12_mayTouch_98 (by decide) ?_
        refine k_icmp_ge (x := f 2 q) (y := 2) hx hb 106 dX12_mayTouch_99 (by decide) (fun c99 => ?_) (fun c99 => ?_)
        · refine lv_iconst (v := 0) hx hb dX12_mayTouch_106 (by decide) ?_
          exact k_topi (x' := b2i (mayM f p q)) (by first | (simp [mayM, mayS, b2i, c14, c47, en, c99]; done) | (simp_all [mayM, mayS, b2i]; done)) (fin () 107 _ _ _ trivial X dX12_mayTouch_107)
        · refine lv_iconst (v := 1) hx hb dX12_mayTouch_102 (by decide) ?_
          refine lv_goto (tgt := 107) hx hb dX12_mayTouch_103 (by decide) ?_
          exact k_topi (x' := b2i (mayM f p q)) (by first | (simp [mayM, mayS, b2i, c14, c47, en, c99]; done) | (simp_all [mayM, mayS, b2i]; done)) (fin () 107 _ _ _ trivial X dX12_mayTouch_107)
      · refine k_topi (x' := 5) (by rw [en]; rfl) ?_
        refine lv_tableIn (off := 55) (tgt := 113) hx hb dX12_mayTouch_58 (by decide) (by decide) rfl (by decide) ?_
        refine lv_iload hx hb dX12_mayTouch_113 (lv_at hl 0 rfl) ?_
        refine k_if0ne hx hb dX12_mayTouch_115 ⟨135, by decide⟩ ?_
        refine lv_aload_n hx hb dX12_mayTouch_118 rfl (lv_at hl 3 rfl) ?_
        refine k_get K X 0 rfl fg_X12_9 (v := .ref (b 1)) rfl dX12_mayTouch_119 ?_
        refine lv_iconst (v := 0) hx hb dX12_mayTouch_122 (by decide) ?_
        refine k_ialdN K X 1 rfl (k := 0) (by omega) (by decide) dX12_mayTouch_123 (v := f 0 0) rfl ?_
        refine lv_iconst (v := 2) hx hb dX12_mayTouch_124 (by decide) ?_
        refine lv_irem hx hb dX12_mayTouch_125 (by decide) ?_
        refine lv_iconst (v := 1) hx hb dX12_mayTouch_126 (by decide) ?_
        refine k_icmp_ne (x := (f 0 0) - (f 0 0) / 2 * 2) (y := 1) hx hb 139 dX12_mayTouch_127 (by decide) (fun c127 => ?_) (fun c127 => ?_)
        · refine lv_iconst (v := 0) hx hb dX12_mayTouch_139 (by decide) ?_
          exact k_topi (x' := b2i (mayM f p q)) (by first | (simp [mayM, mayS, b2i, c14, c47, en, c127]; done) | (simp_all [mayM, mayS, b2i]; done)) (fin () 140 _ _ _ trivial X dX12_mayTouch_140)
        · refine lv_iload hx hb dX12_mayTouch_130 (lv_at hl 1 rfl) ?_
          refine k_if0eq hx hb 139 dX12_mayTouch_132 (by decide) ?_
          refine lv_iconst (v := 0) hx hb dX12_mayTouch_139 (by decide) ?_
          exact k_topi (x' := b2i (mayM f p q)) (by first | (simp [mayM, mayS, b2i, c14, c47, en, c127]; done) | (simp_all [mayM, mayS, b2i]; done)) (fin () 140 _ _ _ trivial X dX12_mayTouch_140)
    · refine lv_iconst (v := 0) hx hb dX12_mayTouch_50 (by decide) ?_
      exact k_topi (x' := b2i (mayM f p q)) (by first | (simp [mayM, mayS, b2i, c14, c47]; done) | (simp_all [mayM, mayS, b2i]; done)) (fin () 51 _ _ _ trivial X dX12_mayTouch_51)
  · refine lv_iconst (v := 1) hx hb dX12_mayTouch_17 (by decide) ?_
    refine lv_goto (tgt := 22) hx hb dX12_mayTouch_18 (by decide) ?_
    refine lv_istore (lv' := [(4, .int 1), (3, .int (f 2 q)), (0, .ref (b 0)), (1, .int (nI p)), (2, .int (nI q))]) hx hb dX12_mayTouch_22 hl (by decide) rfl (fun ls hl => ?_)
    refine lv_iload hx hb dX12_mayTouch_24 (lv_at hl 0 rfl) ?_
    refine k_if1eq hx hb dX12_mayTouch_26 ⟨37, by decide⟩ ?_
    refine lv_iload_n hx hb dX12_mayTouch_29 rfl (lv_at hl 1 rfl) ?_
    refine k_if_ne (x := f 2 q) hx hb 37 dX12_mayTouch_30 (by decide) (fun c30 => ?_) (fun c30 => ?_)
    · refine lv_iconst (v := 0) hx hb dX12_mayTouch_37 (by decide) ?_
      refine lv_istore (lv' := [(5, .int 0), (4, .int 1), (3, .int (f 2 q)), (0, .ref (b 0)), (1, .int (nI p)), (2, .int (nI q))]) hx hb dX12_mayTouch_38 hl (by decide) rfl (fun ls hl => ?_)
      refine lv_aload_n hx hb dX12_mayTouch_40 rfl (lv_at hl 3 rfl) ?_
      refine lv_iload_n hx hb dX12_mayTouch_41 rfl (lv_at hl 5 rfl) ?_
      refine lv_iconst (v := 2) hx hb dX12_mayTouch_42 (by decide) ?_
      refine k_callV K X gv_X12_49 (As := [.int (nI q), .int 2]) (c_X12_it2 l E b hf wf ik fd tch tp tl tk tb ta tv bad bo so ce f q (by omega)) [0, 1, 2, 3, 4, 5, 6, 7, 8] modW_idC (by decide +kernel) (fun _ => modW_fst) 0 12 rfl rfl (by decide) rfl hl.1 (rest := []) rfl (Nat.le_of_ble_eq_true rfl) dX12_mayTouch_43 (st1 := fun _ => [.int (f 3 q)]) (fun _ => rfl) (fun _ H locs _ X => ?_)
      have X : Wd E _ _ (modW E b (flat f) hf wf ik fd tch tp tl tk tb ta tv bad bo so ce) _ _ := X.eq modW_idP
      refine lv_iconst (v := 1) hx hb dX12_mayTouch_46 (by decide) ?_
      refine k_icmp_ne (x := f 3 q) (y := 1) hx hb 52 dX12_mayTouch_47 (by decide) (fun c47 => ?_) (fun c47 => ?_)
      · refine lv_aload_n hx hb dX12_mayTouch_52 rfl (lv_at hl 3 rfl) ?_
        refine lv_iload_n hx hb dX12_mayTouch_53 rfl (lv_at hl 4 rfl) ?_
        refine lv_iconst (v := 0) hx hb dX12_mayTouch_54 (by decide) ?_
        refine k_callV K X gv_X12_45 (As := [.int (nI p), .int 0]) (c_X12_who0 l E b hf wf ik fd tch tp tl tk tb ta tv bad bo so ce f p (by omega)) [0, 1, 2, 3, 4, 5, 6, 7, 8] modW_idC (by decide +kernel) (fun _ => modW_fst) 0 12 rfl rfl (by decide) rfl hl.1 (rest := []) rfl (Nat.le_of_ble_eq_true rfl) dX12_mayTouch_55 (st1 := fun _ => [.int (f 4 p)]) (fun _ => rfl) (fun _ H locs _ X => ?_)
        have X : Wd E _ _ (modW E b (flat f) hf wf ik fd tch tp tl tk tb ta tv bad bo so ce) _ _ := X.eq modW_idP
        refine k_topi (I.hK (by omega)) ?_
        have hnc : kn f p < 6 := hk6
        rcases (show kn f p = 0 ∨ kn f p = 1 ∨ kn f p = 2 ∨ kn f p = 3 ∨ kn f p = 4 ∨ kn f p = 5 by omega) with en | en | en | en | en | en
        · refine k_topi (x' := 0) (by rw [en]; rfl) ?_
          refine lv_tableOut (tgt := 141) hx hb dX12_mayTouch_58 (by decide) (by decide) ?_
          refine lv_iload hx hb dX12_mayTouch_141 (lv_at hl 1 rfl) ?_
          exact k_topi (x' := b2i (mayM f p q)) (by first | (simp [mayM, mayS, b2i, c14, c30, c47, en]; done) | (simp_all [mayM, mayS, b2i]; done)) (fin () 143 _ _ _ trivial X dX12_mayTouch_143)
        · refine k_topi (x' := 1) (by rw [en]; rfl) ?_
          refine lv_tableIn (off := 34) (tgt := 92) hx hb dX12_mayTouch_58 (by decide) (by decide) rfl (by decide) ?_
          refine lv_iload hx hb dX12_mayTouch_92 (lv_at hl 1 rfl) ?_
          refine k_if1ne hx hb 102 dX12_mayTouch_94 (by decide) ?_
          refine lv_iconst (v := 1) hx hb dX12_mayTouch_102 (by decide) ?_
          refine lv_goto (tgt := 107) hx hb dX12_mayTouch_103 (by decide) ?_
          exact k_topi (x' := b2i (mayM f p q)) (by first | (simp [mayM, mayS, b2i, c14, c30, c47, en]; done) | (simp_all [mayM, mayS, b2i]; done)) (fin () 107 _ _ _ trivial X dX12_mayTouch_107)
        · refine k_topi (x' := 2) (by rw [en]; rfl) ?_
          refine lv_tableIn (off := 50) (tgt := 108) hx hb dX12_mayTouch_58 (by decide) (by decide) rfl (by decide) ?_
          refine lv_iload hx hb dX12_mayTouch_108 (lv_at hl 0 rfl) ?_
          exact k_topi (x' := b2i (mayM f p q)) (by first | (simp [mayM, mayS, b2i, c14, c30, c47, en]; done) | (simp_all [mayM, mayS, b2i]; done)) (fin () 110 _ _ _ trivial X dX12_mayTouch_110)
        · refine k_topi (x' := 3) (by rw [en]; rfl) ?_
          refine lv_tableIn (off := 53) (tgt := 111) hx hb dX12_mayTouch_58 (by decide) (by decide) rfl (by decide) ?_
          refine lv_iconst (v := 1) hx hb dX12_mayTouch_111 (by decide) ?_
          exact k_topi (x' := b2i (mayM f p q)) (by first | (simp [mayM, mayS, b2i, c14, c30, c47, en]; done) | (simp_all [mayM, mayS, b2i]; done)) (fin () 112 _ _ _ trivial X dX12_mayTouch_112)
        · refine k_topi (x' := 4) (by rw [en]; rfl) ?_
          refine lv_tableIn (off := 34) (tgt := 92) hx hb dX12_mayTouch_58 (by decide) (by decide) rfl (by decide) ?_
          refine lv_iload hx hb dX12_mayTouch_92 (lv_at hl 1 rfl) ?_
          refine k_if1ne hx hb 102 dX12_mayTouch_94 (by decide) ?_
          refine lv_iconst (v := 1) hx hb dX12_mayTouch_102 (by decide) ?_
          refine lv_goto (tgt := 107) hx hb dX12_mayTouch_103 (by decide) ?_
          exact k_topi (x' := b2i (mayM f p q)) (by first | (simp [mayM, mayS, b2i, c14, c30, c47, en]; done) | (simp_all [mayM, mayS, b2i]; done)) (fin () 107 _ _ _ trivial X dX12_mayTouch_107)
        · refine k_topi (x' := 5) (by rw [en]; rfl) ?_
          refine lv_tableIn (off := 55) (tgt := 113) hx hb dX12_mayTouch_58 (by decide) (by decide) rfl (by decide) ?_
          refine lv_iload hx hb dX12_mayTouch_113 (lv_at hl 0 rfl) ?_
          refine k_if0ne hx hb dX12_mayTouch_115 ⟨135, by decide⟩ ?_
          refine lv_aload_n hx hb dX12_mayTouch_118 rfl (lv_at hl 3 rfl) ?_
          refine k_get K X 0 rfl fg_X12_9 (v := .ref (b 1)) rfl dX12_mayTouch_119 ?_
          refine lv_iconst (v := 0) hx hb dX12_mayTouch_122 (by decide) ?_
          refine k_ialdN K X 1 rfl (k := 0) (by omega) (by decide) dX12_mayTouch_123 (v := f 0 0) rfl ?_
          refine lv_iconst (v := 2) hx hb dX12_mayTouch_124 (by decide) ?_
          refine lv_irem hx hb dX12_mayTouch_125 (by decide) ?_
          refine lv_iconst (v := 1) hx hb dX12_mayTouch_126 (by decide) ?_
          refine k_icmp_ne (x := (f 0 0) - (f 0 0) / 2 * 2) (y := 1) hx hb 139 dX12_mayTouch_127 (by decide) (fun c127 => ?_) (fun c127 => ?_)
          · refine lv_iconst (v := 0) hx hb dX12_mayTouch_139 (by decide) ?_
            exact k_topi (x' := b2i (mayM f p q)) (by first | (simp [mayM, mayS, b2i, c14, c30, c47, en, c127]; done) | (simp_all [mayM, mayS, b2i]; done)) (fin () 140 _ _ _ trivial X dX12_mayTouch_140)
          · refine lv_iload hx hb dX12_mayTouch_130 (lv_at hl 1 rfl) ?_
            refine k_if1eq hx hb dX12_mayTouch_132 ⟨139, by decide⟩ ?_
            refine lv_iconst (v := 1) hx hb dX12_mayTouch_135 (by decide) ?_
            refine lv_goto (tgt := 140) hx hb dX12_mayTouch_136 (by decide) ?_
            exact k_topi (x' := b2i (mayM f p q)) (by first | (simp [mayM, mayS, b2i, c14, c30, c47, en, c127]; done) | (simp_all [mayM, mayS, b2i]; done)) (fin () 140 _ _ _ trivial X dX12_mayTouch_140)
      · refine lv_iconst (v := 0) hx hb dX12_mayTouch_50 (by decide) ?_
        exact k_topi (x' := b2i (mayM f p q)) (by first | (simp [mayM, mayS, b2i, c14, c30, c47]; done) | (simp_all [mayM, mayS, b2i]; done)) (fin () 51 _ _ _ trivial X dX12_mayTouch_51)
    · refine lv_iconst (v := 1) hx hb dX12_mayTouch_33 (by decide) ?_
      refine lv_goto (tgt := 38) hx hb dX12_mayTouch_34 (by decide) ?_
      refine lv_istore (lv' := [(5, .int 1), (4, .int 1), (3, .int (f 2 q)), (0, .ref (b 0)), (1, .int (nI p)), (2, .int (nI q))]) hx hb dX12_mayTouch_38 hl (by decide) rfl (fun ls hl => ?_)
      refine lv_aload_n hx hb dX12_mayTouch_40 rfl (lv_at hl 3 rfl) ?_
      refine lv_iload_n hx hb dX12_mayTouch_41 rfl (lv_at hl 5 rfl) ?_
      refine lv_iconst (v := 2) hx hb dX12_mayTouch_42 (by decide) ?_
      refine k_callV K X gv_X12_49 (As := [.int (nI q), .int 2]) (c_X12_it2 l E b hf wf ik fd tch tp tl tk tb ta tv bad bo so ce f q (by omega)) [0, 1, 2, 3, 4, 5, 6, 7, 8] modW_idC (by decide +kernel) (fun _ => modW_fst) 0 12 rfl rfl (by decide) rfl hl.1 (rest := []) rfl (Nat.le_of_ble_eq_true rfl) dX12_mayTouch_43 (st1 := fun _ => [.int (f 3 q)]) (fun _ => rfl) (fun _ H locs _ X => ?_)
      have X : Wd E _ _ (modW E b (flat f) hf wf ik fd tch tp tl tk tb ta tv bad bo so ce) _ _ := X.eq modW_idP
      refine lv_iconst (v := 1) hx hb dX12_mayTouch_46 (by decide) ?_
      refine k_icmp_ne (x := f 3 q) (y := 1) hx hb 52 dX12_mayTouch_47 (by decide) (fun c47 => ?_) (fun c47 => ?_)
      · refine lv_aload_n hx hb dX12_mayTouch_52 rfl (lv_at hl 3 rfl) ?_
        refine lv_iload_n hx hb dX12_mayTouch_53 rfl (lv_at hl 4 rfl) ?_
        refine lv_iconst (v := 0) hx hb dX12_mayTouch_54 (by decide) ?_
        refine k_callV K X gv_X12_45 (As := [.int (nI p), .int 0]) (c_X12_who0 l E b hf wf ik fd tch tp tl tk tb ta tv bad bo so ce f p (by omega)) [0, 1, 2, 3, 4, 5, 6, 7, 8] modW_idC (by decide +kernel) (fun _ => modW_fst) 0 12 rfl rfl (by decide) rfl hl.1 (rest := []) rfl (Nat.le_of_ble_eq_true rfl) dX12_mayTouch_55 (st1 := fun _ => [.int (f 4 p)]) (fun _ => rfl) (fun _ H locs _ X => ?_)
        have X : Wd E _ _ (modW E b (flat f) hf wf ik fd tch tp tl tk tb ta tv bad bo so ce) _ _ := X.eq modW_idP
        refine k_topi (I.hK (by omega)) ?_
        have hnc : kn f p < 6 := hk6
        rcases (show kn f p = 0 ∨ kn f p = 1 ∨ kn f p = 2 ∨ kn f p = 3 ∨ kn f p = 4 ∨ kn f p = 5 by omega) with en | en | en | en | en | en
        · refine k_topi (x' := 0) (by rw [en]; rfl) ?_
          refine lv_tableOut (tgt := 141) hx hb dX12_mayTouch_58 (by decide) (by decide) ?_
          refine lv_iload hx hb dX12_mayTouch_141 (lv_at hl 1 rfl) ?_
          exact k_topi (x' := b2i (mayM f p q)) (by first | (simp [mayM, mayS, b2i, c14, c30, c47, en]; done) | (simp_all [mayM, mayS, b2i]; done)) (fin () 143 _ _ _ trivial X dX12_mayTouch_143)
        · refine k_topi (x' := 1) (by rw [en]; rfl) ?_
          refine lv_tableIn (off := 34) (tgt := 92) hx hb dX12_mayTouch_58 (by decide) (by decide) rfl (by decide) ?_
          refine lv_iload hx hb dX12_mayTouch_92 (lv_at hl 1 rfl) ?_
          refine k_if1ne hx hb 102 dX12_mayTouch_94 (by decide) ?_
          refine lv_iconst (v := 1) hx hb dX12_mayTouch_102 (by decide) ?_
          refine lv_goto (tgt := 107) hx hb dX12_mayTouch_103 (by decide) ?_
          exact k_topi (x' := b2i (mayM f p q)) (by first | (simp [mayM, mayS, b2i, c14, c30, c47, en]; done) | (simp_all [mayM, mayS, b2i]; done)) (fin () 107 _ _ _ trivial X dX12_mayTouch_107)
        · refine k_topi (x' := 2) (by rw [en]; rfl) ?_
          refine lv_tableIn (off := 50) (tgt := 108) hx hb dX12_mayTouch_58 (by decide) (by decide) rfl (by decide) ?_
          refine lv_iload hx hb dX12_mayTouch_108 (lv_at hl 0 rfl) ?_
          exact k_topi (x' := b2i (mayM f p q)) (by first | (simp [mayM, mayS, b2i, c14, c30, c47, en]; done) | (simp_all [mayM, mayS, b2i]; done)) (fin () 110 _ _ _ trivial X dX12_mayTouch_110)
        · refine k_topi (x' := 3) (by rw [en]; rfl) ?_
          refine lv_tableIn (off := 53) (tgt := 111) hx hb dX12_mayTouch_58 (by decide) (by decide) rfl (by decide) ?_
          refine lv_iconst (v := 1) hx hb dX12_mayTouch_111 (by decide) ?_
          exact k_topi (x' := b2i (mayM f p q)) (by first | (simp [mayM, mayS, b2i, c14, c30, c47, en]; done) | (simp_all [mayM, mayS, b2i]; done)) (fin () 112 _ _ _ trivial X dX12_mayTouch_112)
        · refine k_topi (x' := 4) (by rw [en]; rfl) ?_
          refine lv_tableIn (off := 34) (tgt := 92) hx hb dX12_mayTouch_58 (by decide) (by decide) rfl (by decide) ?_
          refine lv_iload hx hb dX12_mayTouch_92 (lv_at hl 1 rfl) ?_
          refine k_if1ne hx hb 102 dX12_mayTouch_94 (by decide) ?_
          refine lv_iconst (v := 1) hx hb dX12_mayTouch_102 (by decide) ?_
          refine lv_goto (tgt := 107) hx hb dX12_mayTouch_103 (by decide) ?_
          exact k_topi (x' := b2i (mayM f p q)) (by first | (simp [mayM, mayS, b2i, c14, c30, c47, en]; done) | (simp_all [mayM, mayS, b2i]; done)) (fin () 107 _ _ _ trivial X dX12_mayTouch_107)
        · refine k_topi (x' := 5) (by rw [en]; rfl) ?_
          refine lv_tableIn (off := 55) (tgt := 113) hx hb dX12_mayTouch_58 (by decide) (by decide) rfl (by decide) ?_
          refine lv_iload hx hb dX12_mayTouch_113 (lv_at hl 0 rfl) ?_
          refine k_if1ne hx hb 135 dX12_mayTouch_115 (by decide) ?_
          refine lv_iconst (v := 1) hx hb dX12_mayTouch_135 (by decide) ?_
          refine lv_goto (tgt := 140) hx hb dX12_mayTouch_136 (by decide) ?_
          exact k_topi (x' := b2i (mayM f p q)) (by first | (simp [mayM, mayS, b2i, c14, c30, c47, en]; done) | (simp_all [mayM, mayS, b2i]; done)) (fin () 140 _ _ _ trivial X dX12_mayTouch_140)
      · refine lv_iconst (v := 0) hx hb dX12_mayTouch_50 (by decide) ?_
        exact k_topi (x' := b2i (mayM f p q)) (by first | (simp [mayM, mayS, b2i, c14, c30, c47]; done) | (simp_all [mayM, mayS, b2i]; done)) (fin () 51 _ _ _ trivial X dX12_mayTouch_51)
set_option maxRecDepth 100000 in
set_option maxHeartbeats 4000000 in
theorem c_X12_prefers (l : Launch) (E : EE) (b : Nat → Nat) (hf : Nat → Int32) (wf : Nat → Int32) (ik : Int32) (fd : Nat → Int32) (tch : Int32) (tp : Nat → Int32) (tl : Int32) (tk : Int32) (tb : Int32) (ta : Int32) (tv : Int32) (bad : Int32) (bo : Nat → Int32) (so : Nat → Int32) (ce : Nat → Int64) (f : St) (T : Nat) (p : Nat) (q : Nat) (r : Nat) (I : Inv T f) (hp : p < 6) (hq : q < 10) (hr : r < 10) : Kd l yX12_prefers cX12_prefers 4 (some .boolean) 1 22 E (modW E b (flat f) hf wf ik fd tch tp tl tk tb ta tv bad bo so ce) [.ref (b 0), .int (nI p), .int (nI q), .int (nI r)] (some (.int (b2i (prefS (kn f p) (f 2 q) (f 2 r))))) (modW E b (flat f) hf wf ik fd tch tp tl tk tb ta tv bad bo so ce) := by
  refine Kn.ofWi (by decide +kernel) (Nat.le_of_ble_eq_true rfl) (fun _ _ => b2i_nar _) ?_
  intro pg ev s0 mm below meth cd Q K X fin ls hl
  have hx := K.1
  have hb := K.2.1
  have hs10 := I.s10
  have hp6 := I.p6
  have hk6 := I.k6 (p := p) hp
  have hl : lv_has ls 4 [(0, .ref (b 0)), (1, .int (nI p)), (2, .int (nI q)), (3, .int (nI r))] := hl
  refine lv_aload_n hx hb dX12_prefers_0 rfl (lv_at hl 0 rfl) ?_
  refine lv_iload_n hx hb dX12_prefers_1 rfl (lv_at hl 1 rfl) ?_
  refine lv_iconst (v := 0) hx hb dX12_prefers_2 (by decide) ?_
  refine k_callV K X gv_X12_45 (As := [.int (nI p), .int 0]) (c_X12_who0 l E b hf wf ik fd tch tp tl tk tb ta tv bad bo so ce f p (by omega)) [0, 1, 2, 3, 4, 5, 6, 7, 8] modW_idC (by decide +kernel) (fun _ => modW_fst) 0 12 rfl rfl (by decide) rfl hl.1 (rest := []) rfl (Nat.le_of_ble_eq_true rfl) dX12_prefers_3 (st1 := fun _ => [.int (f 4 p)]) (fun _ => rfl) (fun _ H locs _ X => ?_)
  have X : Wd E _ _ (modW E b (flat f) hf wf ik fd tch tp tl tk tb ta tv bad bo so ce) _ _ := X.eq modW_idP
  refine k_topi (I.hK (by omega)) ?_
  have hnc : kn f p < 6 := hk6
  rcases (show kn f p = 0 ∨ kn f p = 1 ∨ kn f p = 2 ∨ kn f p = 3 ∨ kn f p = 4 ∨ kn f p = 5 by omega) with en | en | en | en | en | en
  · refine k_topi (x' := 0) (by rw [en]; rfl) ?_
    refine lv_tableOut (tgt := 59) hx hb dX12_prefers_6 (by decide) (by decide) ?_
    refine lv_iconst (v := 0) hx hb dX12_prefers_59 (by decide) ?_
    exact k_topi (x' := b2i (prefS (kn f p) (f 2 q) (f 2 r))) (by first | (simp [prefS, b2i, en]; done) | (simp_all [prefS, b2i]; done)) (fin () 60 _ _ _ trivial X dX12_prefers_60)
  · refine k_topi (x' := 1) (by rw [en]; rfl) ?_
    refine lv_tableIn (off := 30) (tgt := 36) hx hb dX12_prefers_6 (by decide) (by decide) rfl (by decide) ?_
    refine lv_iconst (v := 1) hx hb dX12_prefers_36 (by decide) ?_
    exact k_topi (x' := b2i (prefS (kn f p) (f 2 q) (f 2 r))) (by first | (simp [prefS, b2i, en]; done) | (simp_all [prefS, b2i]; done)) (fin () 37 _ _ _ trivial X dX12_prefers_37)
  · refine k_topi (x' := 2) (by rw [en]; rfl) ?_
    refine lv_tableIn (off := 53) (tgt := 59) hx hb dX12_prefers_6 (by decide) (by decide) rfl (by decide) ?_
    refine lv_iconst (v := 0) hx hb dX12_prefers_59 (by decide) ?_
    exact k_topi (x' := b2i (prefS (kn f p) (f 2 q) (f 2 r))) (by first | (simp [prefS, b2i, en]; done) | (simp_all [prefS, b2i]; done)) (fin () 60 _ _ _ trivial X dX12_prefers_60)
  · refine k_topi (x' := 3) (by rw [en]; rfl) ?_
    refine lv_tableIn (off := 32) (tgt := 38) hx hb dX12_prefers_6 (by decide) (by decide) rfl (by decide) ?_
    refine lv_aload_n hx hb dX12_prefers_38 rfl (lv_at hl 0 rfl) ?_
    refine lv_iload_n hx hb dX12_prefers_39 rfl (lv_at hl 2 rfl) ?_
    refine lv_iconst (v := 1) hx hb dX12_prefers_40 (by decide) ?_
    refine k_callV K X gv_X12_49 (As := [.int (nI q), .int 1]) (c_X12_it1 l E b hf wf ik fd tch tp tl tk tb ta tv bad bo so ce f q (by omega)) [0, 1, 2, 3, 4, 5, 6, 7, 8] modW_idC (by decide +kernel) (fun _ => modW_fst) 0 12 rfl rfl (by decide) rfl hl.1 (rest := []) rfl (Nat.le_of_ble_eq_true rfl) dX12_prefers_41 (st1 := fun _ => [.int (f 2 q)]) (fun _ => rfl) (fun _ H locs _ X => ?_)
    have X : Wd E _ _ (modW E b (flat f) hf wf ik fd tch tp tl tk tb ta tv bad bo so ce) _ _ := X.eq modW_idP
    refine lv_aload_n hx hb dX12_prefers_44 rfl (lv_at hl 0 rfl) ?_
    refine lv_iload_n hx hb dX12_prefers_45 rfl (lv_at hl 3 rfl) ?_
    refine lv_iconst (v := 1) hx hb dX12_prefers_46 (by decide) ?_
    refine k_callV K X gv_X12_49 (As := [.int (nI r), .int 1]) (c_X12_it1 l E b hf wf ik fd tch tp tl tk tb ta tv bad bo so ce f r (by omega)) [0, 1, 2, 3, 4, 5, 6, 7, 8] modW_idC (by decide +kernel) (fun _ => modW_fst) 0 12 rfl rfl (by decide) rfl hl.1 (rest := [.int (f 2 q)]) rfl (Nat.le_of_ble_eq_true rfl) dX12_prefers_47 (st1 := fun _ => [.int (f 2 r), .int (f 2 q)]) (fun _ => rfl) (fun _ H locs _ X => ?_)
    have X : Wd E _ _ (modW E b (flat f) hf wf ik fd tch tp tl tk tb ta tv bad bo so ce) _ _ := X.eq modW_idP
    refine k_icmp_le (x := f 2 q) (y := f 2 r) hx hb 57 dX12_prefers_50 (by decide) (fun c50 => ?_) (fun c50 => ?_)
    · refine lv_iconst (v := 0) hx hb dX12_prefers_57 (by decide) ?_
      exact k_topi (x' := b2i (prefS (kn f p) (f 2 q) (f 2 r))) (by first | (simp [prefS, b2i, en, c50]; done) | (simp_all [prefS, b2i]; done)) (fin () 58 _ _ _ trivial X dX12_prefers_58)
    · refine lv_iconst (v := 1) hx hb dX12_prefers_53 (by decide) ?_
      refine lv_goto (tgt := 58) hx hb dX12_prefers_54 (by decide) ?_
      exact k_topi (x' := b2i (prefS (kn f p) (f 2 q) (f 2 r))) (by first | (simp [prefS, b2i, en, c50]; done) | (simp_all [prefS, b2i]; done)) (fin () 58 _ _ _ trivial X dX12_prefers_58)
  · refine k_topi (x' := 4) (by rw [en]; rfl) ?_
    refine lv_tableIn (off := 30) (tgt := 36) hx hb dX12_prefers_6 (by decide) (by decide) rfl (by decide) ?_
    refine lv_iconst (v := 1) hx hb dX12_prefers_36 (by decide) ?_
    exact k_topi (x' := b2i (prefS (kn f p) (f 2 q) (f 2 r))) (by first | (simp [prefS, b2i, en]; done) | (simp_all [prefS, b2i]; done)) (fin () 37 _ _ _ trivial X dX12_prefers_37)
  · refine k_topi (x' := 5) (by rw [en]; rfl) ?_
    refine lv_tableOut (tgt := 59) hx hb dX12_prefers_6 (by decide) (by decide) ?_
    refine lv_iconst (v := 0) hx hb dX12_prefers_59 (by decide) ?_
    exact k_topi (x' := b2i (prefS (kn f p) (f 2 q) (f 2 r))) (by first | (simp [prefS, b2i, en]; done) | (simp_all [prefS, b2i]; done)) (fin () 60 _ _ _ trivial X dX12_prefers_60)
set_option maxRecDepth 100000 in
set_option maxHeartbeats 4000000 in
theorem c_X12_turnsOf (l : Launch) (E : EE) (b : Nat → Nat) (hf : Nat → Int32) (wf : Nat → Int32) (ik : Int32) (fd : Nat → Int32) (tch : Int32) (tp : Nat → Int32) (tl : Int32) (tk : Int32) (tb : Int32) (ta : Int32) (tv : Int32) (bad : Int32) (bo : Nat → Int32) (so : Nat → Int32) (ce : Nat → Int64) (f : St) (T : Nat) (p : Nat) (I : Inv T f) (hp : p < 6) : Kd l yX12_turnsOf cX12_turnsOf 2 (some .int) 1 22 E (modW E b (flat f) hf wf ik fd tch tp tl tk tb ta tv bad bo so ce) [.ref (b 0), .int (nI p)] (some (.int (nI (turnS (kn f p))))) (modW E b (flat f) hf wf ik fd tch tp tl tk tb ta tv bad bo so ce) := by
  refine Kn.ofWi (by decide +kernel) (Nat.le_of_ble_eq_true rfl) (fun _ _ => rfl) ?_
  intro pg ev s0 mm below meth cd Q K X fin ls hl
  have hx := K.1
  have hb := K.2.1
  have hs10 := I.s10
  have hp6 := I.p6
  have hk6 := I.k6 (p := p) hp
  have htu : turnS (kn f p) = if kn f p = 1 then 2 else if kn f p = 4 then 3 else 1 := by unfold turnS; split <;> simp_all
  have hl : lv_has ls 2 [(0, .ref (b 0)), (1, .int (nI p))] := hl
  refine lv_aload_n hx hb dX12_turnsOf_0 rfl (lv_at hl 0 rfl) ?_
  refine lv_iload_n hx hb dX12_turnsOf_1 rfl (lv_at hl 1 rfl) ?_
  refine lv_iconst (v := 0) hx hb dX12_turnsOf_2 (by decide) ?_
  refine k_callV K X gv_X12_45 (As := [.int (nI p), .int 0]) (c_X12_who0 l E b hf wf ik fd tch tp tl tk tb ta tv bad bo so ce f p (by omega)) [0, 1, 2, 3, 4, 5, 6, 7, 8] modW_idC (by decide +kernel) (fun _ => modW_fst) 0 12 rfl rfl (by decide) rfl hl.1 (rest := []) rfl (Nat.le_of_ble_eq_true rfl) dX12_turnsOf_3 (st1 := fun _ => [.int (f 4 p)]) (fun _ => rfl) (fun _ H locs _ X => ?_)
  have X : Wd E _ _ (modW E b (flat f) hf wf ik fd tch tp tl tk tb ta tv bad bo so ce) _ _ := X.eq modW_idP
  refine k_topi (I.hK (by omega)) ?_
  refine lv_iconst (v := 1) hx hb dX12_turnsOf_6 (by decide) ?_
  refine kN_ne (x := kn f p) (y := 1) hx hb 14 dX12_turnsOf_7 (by decide) (by omega) (by omega) (fun c7 => ?_) (fun c7 => ?_)
  · refine lv_aload_n hx hb dX12_turnsOf_14 rfl (lv_at hl 0 rfl) ?_
    refine lv_iload_n hx hb dX12_turnsOf_15 rfl (lv_at hl 1 rfl) ?_
    refine lv_iconst (v := 0) hx hb dX12_turnsOf_16 (by decide) ?_
    refine k_callV K X gv_X12_45 (As := [.int (nI p), .int 0]) (c_X12_who0 l E b hf wf ik fd tch tp tl tk tb ta tv bad bo so ce f p (by omega)) [0, 1, 2, 3, 4, 5, 6, 7, 8] modW_idC (by decide +kernel) (fun _ => modW_fst) 0 12 rfl rfl (by decide) rfl hl.1 (rest := []) rfl (Nat.le_of_ble_eq_true rfl) dX12_turnsOf_17 (st1 := fun _ => [.int (f 4 p)]) (fun _ => rfl) (fun _ H locs _ X => ?_)
    have X : Wd E _ _ (modW E b (flat f) hf wf ik fd tch tp tl tk tb ta tv bad bo so ce) _ _ := X.eq modW_idP
    refine k_topi (I.hK (by omega)) ?_
    refine lv_iconst (v := 4) hx hb dX12_turnsOf_20 (by decide) ?_
    refine kN_ne (x := kn f p) (y := 4) hx hb 28 dX12_turnsOf_21 (by decide) (by omega) (by omega) (fun c21 => ?_) (fun c21 => ?_)
    · refine lv_iconst (v := 1) hx hb dX12_turnsOf_28 (by decide) ?_
      exact k_topi (x' := nI (turnS (kn f p))) (by rw [htu]; (repeat' split) <;> first | rfl | omega) (fin () 29 _ _ _ trivial X dX12_turnsOf_29)
    · refine lv_iconst (v := 3) hx hb dX12_turnsOf_24 (by decide) ?_
      refine lv_goto (tgt := 29) hx hb dX12_turnsOf_25 (by decide) ?_
      exact k_topi (x' := nI (turnS (kn f p))) (by rw [htu]; (repeat' split) <;> first | rfl | omega) (fin () 29 _ _ _ trivial X dX12_turnsOf_29)
  · refine lv_iconst (v := 2) hx hb dX12_turnsOf_10 (by decide) ?_
    refine lv_goto (tgt := 29) hx hb dX12_turnsOf_11 (by decide) ?_
    exact k_topi (x' := nI (turnS (kn f p))) (by rw [htu]; (repeat' split) <;> first | rfl | omega) (fin () 29 _ _ _ trivial X dX12_turnsOf_29)
set_option maxRecDepth 100000 in
set_option maxHeartbeats 4000000 in
theorem c_X12_doesFix (l : Launch) (E : EE) (b : Nat → Nat) (hf : Nat → Int32) (wf : Nat → Int32) (ik : Int32) (fd : Nat → Int32) (tch : Int32) (tp : Nat → Int32) (tl : Int32) (tk : Int32) (tb : Int32) (ta : Int32) (tv : Int32) (bad : Int32) (bo : Nat → Int32) (so : Nat → Int32) (ce : Nat → Int64) (f : St) (T : Nat) (p : Nat) (q : Nat) (I : Inv T f) (hp : p < 6) (hq : q < 10) : Kd l yX12_doesFix cX12_doesFix 3 (some .boolean) 1 22 E (modW E b (flat f) hf wf ik fd tch tp tl tk tb ta tv bad bo so ce) [.ref (b 0), .int (nI p), .int (nI q)] (some (.int (b2i (fixS (kn f p) (f 2 q))))) (modW E b (flat f) hf wf ik fd tch tp tl tk tb ta tv bad bo so ce) := by
  refine Kn.ofWi (by decide +kernel) (Nat.le_of_ble_eq_true rfl) (fun _ _ => b2i_nar _) ?_
  intro pg ev s0 mm below meth cd Q K X fin ls hl
  have hx := K.1
  have hb := K.2.1
  have hs10 := I.s10
  have hp6 := I.p6
  have hk6 := I.k6 (p := p) hp
  have hfi : fixS (kn f p) (f 2 q) = (decide (kn f p = 3) || (decide (kn f p = 4) && !decide (f 2 q < 5))) := by unfold fixS; split <;> simp_all
  have hl : lv_has ls 3 [(0, .ref (b 0)), (1, .int (nI p)), (2, .int (nI q))] := hl
  refine lv_aload_n hx hb dX12_doesFix_0 rfl (lv_at hl 0 rfl) ?_
  refine lv_iload_n hx hb dX12_doesFix_1 rfl (lv_at hl 1 rfl) ?_
  refine lv_iconst (v := 0) hx hb dX12_doesFix_2 (by decide) ?_
  refine k_callV K X gv_X12_45 (As := [.int (nI p), .int 0]) (c_X12_who0 l E b hf wf ik fd tch tp tl tk tb ta tv bad bo so ce f p (by omega)) [0, 1, 2, 3, 4, 5, 6, 7, 8] modW_idC (by decide +kernel) (fun _ => modW_fst) 0 12 rfl rfl (by decide) rfl hl.1 (rest := []) rfl (Nat.le_of_ble_eq_true rfl) dX12_doesFix_3 (st1 := fun _ => [.int (f 4 p)]) (fun _ => rfl) (fun _ H locs _ X => ?_)
  have X : Wd E _ _ (modW E b (flat f) hf wf ik fd tch tp tl tk tb ta tv bad bo so ce) _ _ := X.eq modW_idP
  refine k_topi (I.hK (by omega)) ?_
  refine lv_iconst (v := 3) hx hb dX12_doesFix_6 (by decide) ?_
  refine kN_eq (x := kn f p) (y := 3) hx hb 30 dX12_doesFix_7 (by decide) (by omega) (by omega) (fun c7 => ?_) (fun c7 => ?_)
  · refine lv_iconst (v := 1) hx hb dX12_doesFix_30 (by decide) ?_
    refine lv_goto (tgt := 35) hx hb dX12_doesFix_31 (by decide) ?_
    exact k_topi (x' := b2i (fixS (kn f p) (f 2 q))) (by rw [hfi]; simp [b2i, c7]) (fin () 35 _ _ _ trivial X dX12_doesFix_35)
  · refine lv_aload_n hx hb dX12_doesFix_10 rfl (lv_at hl 0 rfl) ?_
    refine lv_iload_n hx hb dX12_doesFix_11 rfl (lv_at hl 1 rfl) ?_
    refine lv_iconst (v := 0) hx hb dX12_doesFix_12 (by decide) ?_
    refine k_callV K X gv_X12_45 (As := [.int (nI p), .int 0]) (c_X12_who0 l E b hf wf ik fd tch tp tl tk tb ta tv bad bo so ce f p (by omega)) [0, 1, 2, 3, 4, 5, 6, 7, 8] modW_idC (by decide +kernel) (fun _ => modW_fst) 0 12 rfl rfl (by decide) rfl hl.1 (rest := []) rfl (Nat.le_of_ble_eq_true rfl) dX12_doesFix_13 (st1 := fun _ => [.int (f 4 p)]) (fun _ => rfl) (fun _ H locs _ X => ?_)
    have X : Wd E _ _ (modW E b (flat f) hf wf ik fd tch tp tl tk tb ta tv bad bo so ce) _ _ := X.eq modW_idP
    refine k_topi (I.hK (by omega)) ?_
    refine lv_iconst (v := 4) hx hb dX12_doesFix_16 (by decide) ?_
    refine kN_ne (x := kn f p) (y := 4) hx hb 34 dX12_doesFix_17 (by decide) (by omega) (by omega) (fun c17 => ?_) (fun c17 => ?_)
    · refine lv_iconst (v := 0) hx hb dX12_doesFix_34 (by decide) ?_
      exact k_topi (x' := b2i (fixS (kn f p) (f 2 q))) (by rw [hfi]; simp [b2i, c7, c17]) (fin () 35 _ _ _ trivial X dX12_doesFix_35)
    · refine lv_aload_n hx hb dX12_doesFix_20 rfl (lv_at hl 0 rfl) ?_
      refine lv_iload_n hx hb dX12_doesFix_21 rfl (lv_at hl 2 rfl) ?_
      refine lv_iconst (v := 1) hx hb dX12_doesFix_22 (by decide) ?_
      refine k_callV K X gv_X12_49 (As := [.int (nI q), .int 1]) (c_X12_it1 l E b hf wf ik fd tch tp tl tk tb ta tv bad bo so ce f q (by omega)) [0, 1, 2, 3, 4, 5, 6, 7, 8] modW_idC (by decide +kernel) (fun _ => modW_fst) 0 12 rfl rfl (by decide) rfl hl.1 (rest := []) rfl (Nat.le_of_ble_eq_true rfl) dX12_doesFix_23 (st1 := fun _ => [.int (f 2 q)]) (fun _ => rfl) (fun _ H locs _ X => ?_)
      have X : Wd E _ _ (modW E b (flat f) hf wf ik fd tch tp tl tk tb ta tv bad bo so ce) _ _ := X.eq modW_idP
      refine lv_iconst (v := 5) hx hb dX12_doesFix_26 (by decide) ?_
      refine k_icmp_lt (x := f 2 q) (y := 5) hx hb 34 dX12_doesFix_27 (by decide) (fun c27 => ?_) (fun c27 => ?_)
      · refine lv_iconst (v := 0) hx hb dX12_doesFix_34 (by decide) ?_
        exact k_topi (x' := b2i (fixS (kn f p) (f 2 q))) (by rw [hfi]; simp [b2i, c7, c17, c27]) (fin () 35 _ _ _ trivial X dX12_doesFix_35)
      · refine lv_iconst (v := 1) hx hb dX12_doesFix_30 (by decide) ?_
        refine lv_goto (tgt := 35) hx hb dX12_doesFix_31 (by decide) ?_
        exact k_topi (x' := b2i (fixS (kn f p) (f 2 q))) (by rw [hfi]; simp [b2i, c7, c17, c27]) (fin () 35 _ _ _ trivial X dX12_doesFix_35)
