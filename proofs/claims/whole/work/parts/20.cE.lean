set_option maxRecDepth 100000 in
set_option maxHeartbeats 4000000 in
theorem c_X12_picked (l : Launch) (E : EE) (b : Nat → Nat) (hf : Nat → Int32) (wf : Nat → Int32) (ik : Int32) (fd : Nat → Int32) (tch : Int32) (tp : Nat → Int32) (tl : Int32) (tk : Int32) (tb : Int32) (ta : Int32) (tv : Int32) (bad : Int32) (bo : Nat → Int32) (so : Nat → Int32) (ce : Nat → Int64) (f : St) (T : Nat) (p : Nat) (I : Inv T f) (hp : p < 6) : Kd l yX12_picked cX12_picked 5 (some .int) 2 47 E (modW E b (flat f) hf wf ik fd tch tp tl tk tb ta tv bad bo so ce) [.ref (b 0), .int (nI p)] (some (.int (pickF f p))) (modW E b (flat f) hf wf ik fd tch tp tl tk tb ta tv bad bo so ce) := by
  refine Kn.ofWi (by decide +kernel) (Nat.le_of_ble_eq_true rfl) (fun _ _ => rfl) ?_
  intro pg ev s0 mm below meth cd Q K X fin ls hl
  have hx := K.1
  have hb := K.2.1
  have hs10 := I.s10
  have hp6 := I.p6
  have hl : lv_has ls 5 [(0, .ref (b 0)), (1, .int (nI p))] := hl
  refine lv_iconst (v := (-1)) hx hb dX12_picked_0 (by decide) ?_
  refine lv_istore_n (lv' := [(2, .int (-1)), (0, .ref (b 0)), (1, .int (nI p))]) hx hb dX12_picked_1 rfl hl (by decide) rfl (fun ls hl => ?_)
  refine lv_iconst (v := 0) hx hb dX12_picked_2 (by decide) ?_
  refine lv_istore_n (lv' := [(3, .int 0), (2, .int (-1)), (0, .ref (b 0)), (1, .int (nI p))]) hx hb dX12_picked_3 rfl hl (by decide) rfl (fun ls hl => ?_)
  have lp4 : ∀ (fu : Nat) (i : Nat) (n : Nat) (w : Int32) (hfu : n < fu) (hin : i + n = sl f) (hR : pickL f p n i w = pickF f p) (hw : w = -1 ∨ ∃ j, j < 10 ∧ w = nI j) (ls : Array Slot) (hl : lv_has ls 5 [(3, .int (nI i)), (2, .int w), (0, .ref (b 0)), (1, .int (nI p))]) (H : Heap) (locs : List Loc) (X : Wd E (inW (modW E b (flat f) hf wf ik fd tch tp tl tk tb ta tv bad bo so ce)) s0.heap (modW E b (flat f) hf wf ik fd tch tp tl tk tb ta tv bad bo so ce) H locs), W pg l ev (rmK 2 47) s0 mm ([.ref (b 0), .int (nI p)] : List Value).toArray below meth cd H locs 0 0 Q (F0 mm 4 ls []) := by
    intro fu
    induction fu with
    | zero => intro i n w hfu; exact absurd hfu (Nat.not_lt_zero _)
    | succ fu ih4 =>
      intro i n w hfu hin hR hw ls hl H locs X
      refine lv_iload_n hx hb dX12_picked_4 rfl (lv_at hl 0 rfl) ?_
      refine lv_aload_n hx hb dX12_picked_5 rfl (lv_at hl 2 rfl) ?_
      refine k_get K X 0 rfl fg_X12_9 (v := .ref (b 1)) rfl dX12_picked_6 ?_
      refine lv_iconst (v := 2) hx hb dX12_picked_9 (by decide) ?_
      refine k_ialdN K X 1 rfl (k := 2) (by omega) (by decide) dX12_picked_10 (v := f 0 2) rfl ?_
      refine k_topi (I.hS) ?_
      refine kN_ge (x := i) (y := sl f) hx hb 76 dX12_picked_11 (by decide) (by omega) (by omega) (fun c11 => ?_) (fun c11 => ?_)
      · obtain rfl : n = 0 := by omega
        refine lv_iload_n hx hb dX12_picked_76 rfl (lv_at hl 1 rfl) ?_
        exact k_topi (x' := pickF f p) (hR) (fin () 77 _ _ _ trivial X dX12_picked_77)
      · obtain ⟨n, rfl⟩ : ∃ z, n = z + 1 := ⟨n - 1, by omega⟩
        refine lv_aload_n hx hb dX12_picked_14 rfl (lv_at hl 2 rfl) ?_
        refine lv_iload_n hx hb dX12_picked_15 rfl (lv_at hl 0 rfl) ?_
        refine lv_iconst (v := 0) hx hb dX12_picked_16 (by decide) ?_
        refine k_callV K X gv_X12_49 (As := [.int (nI i), .int 0]) (c_X12_it0 l E b hf wf ik fd tch tp tl tk tb ta tv bad bo so ce f i (by omega)) [0, 1, 2, 3, 4, 5, 6, 7, 8] modW_idC (by decide +kernel) (fun _ => modW_fst) 0 12 rfl rfl (by decide) rfl hl.1 (rest := []) rfl (Nat.le_of_ble_eq_true rfl) dX12_picked_17 (st1 := fun _ => [.int (f 1 i)]) (fun _ => rfl) (fun _ H locs _ X => ?_)
        have X : Wd E _ _ (modW E b (flat f) hf wf ik fd tch tp tl tk tb ta tv bad bo so ce) _ _ := X.eq modW_idP
        refine lv_aload_n hx hb dX12_picked_20 rfl (lv_at hl 2 rfl) ?_
        refine lv_iload_n hx hb dX12_picked_21 rfl (lv_at hl 3 rfl) ?_
        refine lv_iload_n hx hb dX12_picked_22 rfl (lv_at hl 0 rfl) ?_
        refine k_callV K X gv_X12_52 (As := [.int (nI p), .int (nI i)]) (c_X12_wish l E b hf wf ik fd tch tp tl tk tb ta tv bad bo so ce f p i (by omega) (by omega)) [0, 1, 2, 3, 4, 5, 6, 7, 8] modW_idC (by decide +kernel) (fun _ => modW_fst) 0 12 rfl rfl (by decide) rfl hl.1 (rest := [.int (f 1 i)]) rfl (Nat.le_of_ble_eq_true rfl) dX12_picked_23 (st1 := fun _ => [.int (f 6 (10 * p + i)), .int (f 1 i)]) (fun _ => rfl) (fun _ H locs _ X => ?_)
        have X : Wd E _ _ (modW E b (flat f) hf wf ik fd tch tp tl tk tb ta tv bad bo so ce) _ _ := X.eq modW_idP
        refine k_icmp_eq (x := f 1 i) (y := f 6 (10 * p + i)) hx hb 42 dX12_picked_26 (by decide) (fun c26 => ?_) (fun c26 => ?_)
        · refine lv_iconst (v := 0) hx hb dX12_picked_42 (by decide) ?_
          refine lv_istore (lv' := [(4, .int 0), (3, .int (nI i)), (2, .int w), (0, .ref (b 0)), (1, .int (nI p))]) hx hb dX12_picked_43 hl (by decide) rfl (fun ls hl => ?_)
          refine lv_iload hx hb dX12_picked_45 (lv_at hl 0 rfl) ?_
          refine k_if0eq hx hb 68 dX12_picked_47 (by decide) ?_
          refine lv_iload_n hx hb dX12_picked_68 rfl (lv_at hl 2 rfl) ?_
          refine lv_istore_n (lv' := [(2, .int w), (4, .int 0), (3, .int (nI i)), (0, .ref (b 0)), (1, .int (nI p))]) hx hb dX12_picked_69 rfl hl (by decide) rfl (fun ls hl => ?_)
          refine lv_iinc (v := nI (i + 1)) (lv' := [(3, .int (nI (i + 1))), (2, .int w), (4, .int 0), (0, .ref (b 0)), (1, .int (nI p))]) hx hb dX12_picked_70 hl (k := 2) rfl (nI_add i 1) (by decide) rfl (fun ls hl => ?_)
          refine lv_goto (tgt := 4) hx hb dX12_picked_73 (by decide) ?_
          exact ih4 (i + 1) n w (by omega) (by omega) (by rw [← hR, pickL, canB_eq I (show i < 10 by omega)]; simp [hasW, c11, c26]) (hw) _ (lv_sub hl [0, 1, 3, 4] rfl) _ _ X
        · refine lv_aload_n hx hb dX12_picked_29 rfl (lv_at hl 2 rfl) ?_
          refine lv_iload_n hx hb dX12_picked_30 rfl (lv_at hl 3 rfl) ?_
          refine lv_iload_n hx hb dX12_picked_31 rfl (lv_at hl 0 rfl) ?_
          refine k_callV K X gv_X12_55 (As := [.int (nI p), .int (nI i)]) (c_X12_mayTouch l E b hf wf ik fd tch tp tl tk tb ta tv bad bo so ce f T p i I (by omega) (by omega)) [0, 1, 2, 3, 4, 5, 6, 7, 8] modW_idC (by decide +kernel) (fun _ => modW_fst) 0 12 rfl rfl (by decide) rfl hl.1 (rest := []) rfl (Nat.le_of_ble_eq_true rfl) dX12_picked_32 (st1 := fun _ => [.int (b2i (mayM f p i))]) (fun _ => rfl) (fun _ H locs _ X => ?_)
          have X : Wd E _ _ (modW E b (flat f) hf wf ik fd tch tp tl tk tb ta tv bad bo so ce) _ _ := X.eq modW_idP
          refine k_ifeqB (B := (mayM f p i)) hx hb 42 dX12_picked_35 (by decide) (fun c35 => ?_) (fun c35 => ?_)
          · refine lv_iconst (v := 0) hx hb dX12_picked_42 (by decide) ?_
            refine lv_istore (lv' := [(4, .int 0), (3, .int (nI i)), (2, .int w), (0, .ref (b 0)), (1, .int (nI p))]) hx hb dX12_picked_43 hl (by decide) rfl (fun ls hl => ?_)
            refine lv_iload hx hb dX12_picked_45 (lv_at hl 0 rfl) ?_
            refine k_if0eq hx hb 68 dX12_picked_47 (by decide) ?_
            refine lv_iload_n hx hb dX12_picked_68 rfl (lv_at hl 2 rfl) ?_
            refine lv_istore_n (lv' := [(2, .int w), (4, .int 0), (3, .int (nI i)), (0, .ref (b 0)), (1, .int (nI p))]) hx hb dX12_picked_69 rfl hl (by decide) rfl (fun ls hl => ?_)
            refine lv_iinc (v := nI (i + 1)) (lv' := [(3, .int (nI (i + 1))), (2, .int w), (4, .int 0), (0, .ref (b 0)), (1, .int (nI p))]) hx hb dX12_picked_70 hl (k := 2) rfl (nI_add i 1) (by decide) rfl (fun ls hl => ?_)
            refine lv_goto (tgt := 4) hx hb dX12_picked_73 (by decide) ?_
            exact ih4 (i + 1) n w (by omega) (by omega) (by rw [← hR, pickL, canB_eq I (show i < 10 by omega)]; simp [hasW, c11, c26, c35]) (hw) _ (lv_sub hl [0, 1, 3, 4] rfl) _ _ X
          · refine lv_iconst (v := 1) hx hb dX12_picked_38 (by decide) ?_
            refine lv_goto (tgt := 43) hx hb dX12_picked_39 (by decide) ?_
            refine lv_istore (lv' := [(4, .int 1), (3, .int (nI i)), (2, .int w), (0, .ref (b 0)), (1, .int (nI p))]) hx hb dX12_picked_43 hl (by decide) rfl (fun ls hl => ?_)
            refine lv_iload hx hb dX12_picked_45 (lv_at hl 0 rfl) ?_
            refine k_if1eq hx hb dX12_picked_47 ⟨68, by decide⟩ ?_
            refine lv_iload_n hx hb dX12_picked_50 rfl (lv_at hl 2 rfl) ?_
            refine k_if_lt (x := w) hx hb 64 dX12_picked_51 (by decide) (fun c51 => ?_) (fun c51 => ?_)
            · have c51w : w = -1 := hw.resolve_right (fun ⟨j, hj, e⟩ => by rw [e] at c51; exact nI_pos (by omega) c51)
              refine lv_iload_n hx hb dX12_picked_64 rfl (lv_at hl 1 rfl) ?_
              refine lv_goto (tgt := 69) hx hb dX12_picked_65 (by decide) ?_
              refine lv_istore_n (lv' := [(2, .int (nI i)), (4, .int 1), (3, .int (nI i)), (0, .ref (b 0)), (1, .int (nI p))]) hx hb dX12_picked_69 rfl hl (by decide) rfl (fun ls hl => ?_)
              refine lv_iinc (v := nI (i + 1)) (lv' := [(3, .int (nI (i + 1))), (2, .int (nI i)), (4, .int 1), (0, .ref (b 0)), (1, .int (nI p))]) hx hb dX12_picked_70 hl (k := 2) rfl (nI_add i 1) (by decide) rfl (fun ls hl => ?_)
              refine lv_goto (tgt := 4) hx hb dX12_picked_73 (by decide) ?_
              exact ih4 (i + 1) n (nI i) (by omega) (by omega) (by rw [← hR, pickL, canB_eq I (show i < 10 by omega)]; simp [hasW, c11, c26, c35, c51, c51w]) (Or.inr ⟨i, by omega, rfl⟩) _ (lv_sub hl [0, 1, 3, 4] rfl) _ _ X
            · obtain ⟨j, hj, ej⟩ : ∃ j, j < 10 ∧ w = nI j := hw.resolve_left (fun e => c51 (by rw [e]; decide))
              have cj : ¬ nI j = -1 := nI_ne_m1 (by omega)
              refine lv_aload_n hx hb dX12_picked_54 rfl (lv_at hl 3 rfl) ?_
              refine lv_iload_n hx hb dX12_picked_55 rfl (lv_at hl 4 rfl) ?_
              refine lv_iload_n hx hb dX12_picked_56 rfl (lv_at hl 1 rfl) ?_
              refine lv_iload_n hx hb dX12_picked_57 rfl (lv_at hl 2 rfl) ?_
              refine k_topi (ej) ?_
              refine k_callV K X gv_X12_59 (As := [.int (nI p), .int (nI i), .int (nI j)]) (c_X12_prefers l E b hf wf ik fd tch tp tl tk tb ta tv bad bo so ce f T p i j I (by omega) (by omega) (by omega)) [0, 1, 2, 3, 4, 5, 6, 7, 8] modW_idC (by decide +kernel) (fun _ => modW_fst) 0 12 rfl rfl (by decide) rfl hl.1 (rest := []) rfl (Nat.le_of_ble_eq_true rfl) dX12_picked_58 (st1 := fun _ => [.int (b2i (prefS (kn f p) (f 2 i) (f 2 j)))]) (fun _ => rfl) (fun _ H locs _ X => ?_)
              have X : Wd E _ _ (modW E b (flat f) hf wf ik fd tch tp tl tk tb ta tv bad bo so ce) _ _ := X.eq modW_idP
              refine k_ifeqB (B := (prefS (kn f p) (f 2 i) (f 2 j))) hx hb 68 dX12_picked_61 (by decide) (fun c61 => ?_) (fun c61 => ?_)
              · refine lv_iload_n hx hb dX12_picked_68 rfl (lv_at hl 2 rfl) ?_
                refine k_topi (ej) ?_
                refine lv_istore_n (lv' := [(2, .int (nI j)), (4, .int 1), (3, .int (nI i)), (0, .ref (b 0)), (1, .int (nI p))]) hx hb dX12_picked_69 rfl hl (by decide) rfl (fun ls hl => ?_)
                refine lv_iinc (v := nI (i + 1)) (lv' := [(3, .int (nI (i + 1))), (2, .int (nI j)), (4, .int 1), (0, .ref (b 0)), (1, .int (nI p))]) hx hb dX12_picked_70 hl (k := 2) rfl (nI_add i 1) (by decide) rfl (fun ls hl => ?_)
                refine lv_goto (tgt := 4) hx hb dX12_picked_73 (by decide) ?_
                exact ih4 (i + 1) n (nI j) (by omega) (by omega) (by rw [← hR, pickL, canB_eq I (show i < 10 by omega)]; simp [hasW, nI_clamp (show j < 2 ^ 31 by omega), c11, c26, c35, c51, ej, cj, c61]) (Or.inr ⟨j, by omega, rfl⟩) _ (lv_sub hl [0, 1, 3, 4] rfl) _ _ X
              · refine lv_iload_n hx hb dX12_picked_64 rfl (lv_at hl 1 rfl) ?_
                refine lv_goto (tgt := 69) hx hb dX12_picked_65 (by decide) ?_
                refine lv_istore_n (lv' := [(2, .int (nI i)), (4, .int 1), (3, .int (nI i)), (0, .ref (b 0)), (1, .int (nI p))]) hx hb dX12_picked_69 rfl hl (by decide) rfl (fun ls hl => ?_)
                refine lv_iinc (v := nI (i + 1)) (lv' := [(3, .int (nI (i + 1))), (2, .int (nI i)), (4, .int 1), (0, .ref (b 0)), (1, .int (nI p))]) hx hb dX12_picked_70 hl (k := 2) rfl (nI_add i 1) (by decide) rfl (fun ls hl => ?_)
                refine lv_goto (tgt := 4) hx hb dX12_picked_73 (by decide) ?_
                exact ih4 (i + 1) n (nI i) (by omega) (by omega) (by rw [← hR, pickL, canB_eq I (show i < 10 by omega)]; simp [hasW, nI_clamp (show j < 2 ^ 31 by omega), c11, c26, c35, c51, ej, cj, c61]) (Or.inr ⟨i, by omega, rfl⟩) _ (lv_sub hl [0, 1, 3, 4] rfl) _ _ X
  exact lp4 ((sl f) + 1) 0 (sl f) (-1) (by omega) (by omega) (rfl) (Or.inl rfl) _ hl _ _ X
set_option maxRecDepth 100000 in
set_option maxHeartbeats 4000000 in
theorem c_X12_wayOf (l : Launch) (E : EE) (b : Nat → Nat) (hf : Nat → Int32) (wf : Nat → Int32) (ik : Int32) (fd : Nat → Int32) (tch : Int32) (tp : Nat → Int32) (tl : Int32) (tk : Int32) (tb : Int32) (ta : Int32) (tv : Int32) (bad : Int32) (bo : Nat → Int32) (so : Nat → Int32) (ce : Nat → Int64) (f : St) (T : Nat) (p : Nat) (I : Inv T f) (hp : p < 6) : Kd l yX12_wayOf cX12_wayOf 4 (some .int) 2 44 E (modW E b (flat f) hf wf ik fd tch tp tl tk tb ta tv bad bo so ce) [.ref (b 0), .int (nI p)] (some (.int (wayF f p))) (modW E b (flat f) hf wf ik fd tch tp tl tk tb ta tv bad bo so ce) := by
  refine Kn.ofWi (by decide +kernel) (Nat.le_of_ble_eq_true rfl) (fun _ _ => rfl) ?_
  intro pg ev s0 mm below meth cd Q K X fin ls hl
  have hx := K.1
  have hb := K.2.1
  have hs10 := I.s10
  have hp6 := I.p6
  have hl : lv_has ls 4 [(0, .ref (b 0)), (1, .int (nI p))] := hl
  refine lv_iconst (v := 0) hx hb dX12_wayOf_0 (by decide) ?_
  refine lv_istore_n (lv' := [(2, .int 0), (0, .ref (b 0)), (1, .int (nI p))]) hx hb dX12_wayOf_1 rfl hl (by decide) rfl (fun ls hl => ?_)
  refine lv_iconst (v := 0) hx hb dX12_wayOf_2 (by decide) ?_
  refine lv_istore_n (lv' := [(3, .int 0), (2, .int 0), (0, .ref (b 0)), (1, .int (nI p))]) hx hb dX12_wayOf_3 rfl hl (by decide) rfl (fun ls hl => ?_)
  have lp4 : ∀ (fu : Nat) (i : Nat) (n : Nat) (w : Int32) (hfu : n < fu) (hin : i + n = sl f) (hR : setL (fun s => hasW f p s) n i w = wayF f p) (ls : Array Slot) (hl : lv_has ls 4 [(3, .int (nI i)), (2, .int w), (0, .ref (b 0)), (1, .int (nI p))]) (H : Heap) (locs : List Loc) (X : Wd E (inW (modW E b (flat f) hf wf ik fd tch tp tl tk tb ta tv bad bo so ce)) s0.heap (modW E b (flat f) hf wf ik fd tch tp tl tk tb ta tv bad bo so ce) H locs), W pg l ev (rmK 2 44) s0 mm ([.ref (b 0), .int (nI p)] : List Value).toArray below meth cd H locs 0 0 Q (F0 mm 4 ls []) := by
    intro fu
    induction fu with
    | zero => intro i n w hfu; exact absurd hfu (Nat.not_lt_zero _)
    | succ fu ih4 =>
      intro i n w hfu hin hR ls hl H locs X
      refine lv_iload_n hx hb dX12_wayOf_4 rfl (lv_at hl 0 rfl) ?_
      refine lv_aload_n hx hb dX12_wayOf_5 rfl (lv_at hl 2 rfl) ?_
      refine k_get K X 0 rfl fg_X12_9 (v := .ref (b 1)) rfl dX12_wayOf_6 ?_
      refine lv_iconst (v := 2) hx hb dX12_wayOf_9 (by decide) ?_
      refine k_ialdN K X 1 rfl (k := 2) (by omega) (by decide) dX12_wayOf_10 (v := f 0 2) rfl ?_
      refine k_topi (I.hS) ?_
      refine kN_ge (x := i) (y := sl f) hx hb 45 dX12_wayOf_11 (by decide) (by omega) (by omega) (fun c11 => ?_) (fun c11 => ?_)
      · obtain rfl : n = 0 := by omega
        refine lv_iload_n hx hb dX12_wayOf_45 rfl (lv_at hl 1 rfl) ?_
        exact k_topi (x' := wayF f p) (hR) (fin () 46 _ _ _ trivial X dX12_wayOf_46)
      · obtain ⟨n, rfl⟩ : ∃ z, n = z + 1 := ⟨n - 1, by omega⟩
        refine lv_iload_n hx hb dX12_wayOf_14 rfl (lv_at hl 1 rfl) ?_
        refine lv_aload_n hx hb dX12_wayOf_15 rfl (lv_at hl 2 rfl) ?_
        refine lv_iload_n hx hb dX12_wayOf_16 rfl (lv_at hl 0 rfl) ?_
        refine lv_iconst (v := 0) hx hb dX12_wayOf_17 (by decide) ?_
        refine k_callV K X gv_X12_49 (As := [.int (nI i), .int 0]) (c_X12_it0 l E b hf wf ik fd tch tp tl tk tb ta tv bad bo so ce f i (by omega)) [0, 1, 2, 3, 4, 5, 6, 7, 8] modW_idC (by decide +kernel) (fun _ => modW_fst) 0 12 rfl rfl (by decide) rfl hl.1 (rest := [.int w]) rfl (Nat.le_of_ble_eq_true rfl) dX12_wayOf_18 (st1 := fun _ => [.int (f 1 i), .int w]) (fun _ => rfl) (fun _ H locs _ X => ?_)
        have X : Wd E _ _ (modW E b (flat f) hf wf ik fd tch tp tl tk tb ta tv bad bo so ce) _ _ := X.eq modW_idP
        refine lv_aload_n hx hb dX12_wayOf_21 rfl (lv_at hl 2 rfl) ?_
        refine lv_iload_n hx hb dX12_wayOf_22 rfl (lv_at hl 3 rfl) ?_
        refine lv_iload_n hx hb dX12_wayOf_23 rfl (lv_at hl 0 rfl) ?_
        refine k_callV K X gv_X12_52 (As := [.int (nI p), .int (nI i)]) (c_X12_wish l E b hf wf ik fd tch tp tl tk tb ta tv bad bo so ce f p i (by omega) (by omega)) [0, 1, 2, 3, 4, 5, 6, 7, 8] modW_idC (by decide +kernel) (fun _ => modW_fst) 0 12 rfl rfl (by decide) rfl hl.1 (rest := [.int (f 1 i), .int w]) rfl (Nat.le_of_ble_eq_true rfl) dX12_wayOf_24 (st1 := fun _ => [.int (f 6 (10 * p + i)), .int (f 1 i), .int w]) (fun _ => rfl) (fun _ H locs _ X => ?_)
        have X : Wd E _ _ (modW E b (flat f) hf wf ik fd tch tp tl tk tb ta tv bad bo so ce) _ _ := X.eq modW_idP
        refine k_icmp_ne (x := f 1 i) (y := f 6 (10 * p + i)) hx hb 36 dX12_wayOf_27 (by decide) (fun c27 => ?_) (fun c27 => ?_)
        · refine lv_iconst (v := 0) hx hb dX12_wayOf_36 (by decide) ?_
          refine lv_ior hx hb dX12_wayOf_37 ?_
          refine lv_istore_n (lv' := [(2, .int (w ||| 0)), (3, .int (nI i)), (0, .ref (b 0)), (1, .int (nI p))]) hx hb dX12_wayOf_38 rfl hl (by decide) rfl (fun ls hl => ?_)
          refine lv_iinc (v := nI (i + 1)) (lv' := [(3, .int (nI (i + 1))), (2, .int (w ||| 0)), (0, .ref (b 0)), (1, .int (nI p))]) hx hb dX12_wayOf_39 hl (k := 1) rfl (nI_add i 1) (by decide) rfl (fun ls hl => ?_)
          refine lv_goto (tgt := 4) hx hb dX12_wayOf_42 (by decide) ?_
          exact ih4 (i + 1) n (w ||| 0) (by omega) (by omega) (by rw [← hR]; simp [setL, cntL, sumL, hasW, c11, c27]) _ hl _ _ X
        · refine lv_iconst (v := 1) hx hb dX12_wayOf_30 (by decide) ?_
          refine lv_iload_n hx hb dX12_wayOf_31 rfl (lv_at hl 0 rfl) ?_
          refine lv_ishl hx hb dX12_wayOf_32 ?_
          refine lv_goto (tgt := 37) hx hb dX12_wayOf_33 (by decide) ?_
          refine lv_ior hx hb dX12_wayOf_37 ?_
          refine lv_istore_n (lv' := [(2, .int (w ||| (1 <<< ((nI i) &&& 31)))), (3, .int (nI i)), (0, .ref (b 0)), (1, .int (nI p))]) hx hb dX12_wayOf_38 rfl hl (by decide) rfl (fun ls hl => ?_)
          refine lv_iinc (v := nI (i + 1)) (lv' := [(3, .int (nI (i + 1))), (2, .int (w ||| (1 <<< ((nI i) &&& 31)))), (0, .ref (b 0)), (1, .int (nI p))]) hx hb dX12_wayOf_39 hl (k := 1) rfl (nI_add i 1) (by decide) rfl (fun ls hl => ?_)
          refine lv_goto (tgt := 4) hx hb dX12_wayOf_42 (by decide) ?_
          exact ih4 (i + 1) n (w ||| (1 <<< ((nI i) &&& 31))) (by omega) (by omega) (by rw [← hR]; simp [setL, cntL, sumL, hasW, c11, c27]) _ hl _ _ X
  exact lp4 ((sl f) + 1) 0 (sl f) 0 (by omega) (by omega) (rfl) _ hl _ _ X
set_option maxRecDepth 100000 in
set_option maxHeartbeats 4000000 in
theorem c_X12_happyWith (l : Launch) (E : EE) (b : Nat → Nat) (hf : Nat → Int32) (wf : Nat → Int32) (ik : Int32) (fd : Nat → Int32) (tch : Int32) (tp : Nat → Int32) (tl : Int32) (tk : Int32) (tb : Int32) (ta : Int32) (tv : Int32) (bad : Int32) (bo : Nat → Int32) (so : Nat → Int32) (ce : Nat → Int64) (f : St) (T : Nat) (q : Nat) (I : Inv T f) (hq : q < 10) : Kd l yX12_happyWith cX12_happyWith 4 (some .int) 2 44 E (modW E b (flat f) hf wf ik fd tch tp tl tk tb ta tv bad bo so ce) [.ref (b 0), .int (nI q)] (some (.int (happyF f q))) (modW E b (flat f) hf wf ik fd tch tp tl tk tb ta tv bad bo so ce) := by
  refine Kn.ofWi (by decide +kernel) (Nat.le_of_ble_eq_true rfl) (fun _ _ => rfl) ?_
  intro pg ev s0 mm below meth cd Q K X fin ls hl
  have hx := K.1
  have hb := K.2.1
  have hs10 := I.s10
  have hp6 := I.p6
  have hl : lv_has ls 4 [(0, .ref (b 0)), (1, .int (nI q))] := hl
  refine lv_iconst (v := 0) hx hb dX12_happyWith_0 (by decide) ?_
  refine lv_istore_n (lv' := [(2, .int 0), (0, .ref (b 0)), (1, .int (nI q))]) hx hb dX12_happyWith_1 rfl hl (by decide) rfl (fun ls hl => ?_)
  refine lv_iconst (v := 0) hx hb dX12_happyWith_2 (by decide) ?_
  refine lv_istore_n (lv' := [(3, .int 0), (2, .int 0), (0, .ref (b 0)), (1, .int (nI q))]) hx hb dX12_happyWith_3 rfl hl (by decide) rfl (fun ls hl => ?_)
  have lp4 : ∀ (fu : Nat) (i : Nat) (n : Nat) (w : Int32) (hfu : n < fu) (hin : i + n = pe f) (hR : setL (fun p => hasW f p q) n i w = happyF f q) (ls : Array Slot) (hl : lv_has ls 4 [(3, .int (nI i)), (2, .int w), (0, .ref (b 0)), (1, .int (nI q))]) (H : Heap) (locs : List Loc) (X : Wd E (inW (modW E b (flat f) hf wf ik fd tch tp tl tk tb ta tv bad bo so ce)) s0.heap (modW E b (flat f) hf wf ik fd tch tp tl tk tb ta tv bad bo so ce) H locs), W pg l ev (rmK 2 44) s0 mm ([.ref (b 0), .int (nI q)] : List Value).toArray below meth cd H locs 0 0 Q (F0 mm 4 ls []) := by
    intro fu
    induction fu with
    | zero => intro i n w hfu; exact absurd hfu (Nat.not_lt_zero _)
    | succ fu ih4 =>
      intro i n w hfu hin hR ls hl H locs X
      refine lv_iload_n hx hb dX12_happyWith_4 rfl (lv_at hl 0 rfl) ?_
      refine lv_aload_n hx hb dX12_happyWith_5 rfl (lv_at hl 2 rfl) ?_
      refine k_get K X 0 rfl fg_X12_9 (v := .ref (b 1)) rfl dX12_happyWith_6 ?_
      refine lv_iconst (v := 3) hx hb dX12_happyWith_9 (by decide) ?_
      refine k_ialdN K X 1 rfl (k := 3) (by omega) (by decide) dX12_happyWith_10 (v := f 0 3) rfl ?_
      refine k_topi (I.hP) ?_
      refine kN_ge (x := i) (y := pe f) hx hb 45 dX12_happyWith_11 (by decide) (by omega) (by omega) (fun c11 => ?_) (fun c11 => ?_)
      · obtain rfl : n = 0 := by omega
        refine lv_iload_n hx hb dX12_happyWith_45 rfl (lv_at hl 1 rfl) ?_
        exact k_topi (x' := happyF f q) (hR) (fin () 46 _ _ _ trivial X dX12_happyWith_46)
      · obtain ⟨n, rfl⟩ : ∃ z, n = z + 1 := ⟨n - 1, by omega⟩
        refine lv_iload_n hx hb dX12_happyWith_14 rfl (lv_at hl 1 rfl) ?_
        refine lv_aload_n hx hb dX12_happyWith_15 rfl (lv_at hl 2 rfl) ?_
        refine lv_iload_n hx hb dX12_happyWith_16 rfl (lv_at hl 0 rfl) ?_
        refine lv_iload_n hx hb dX12_happyWith_17 rfl (lv_at hl 3 rfl) ?_
        refine k_callV K X gv_X12_52 (As := [.int (nI i), .int (nI q)]) (c_X12_wish l E b hf wf ik fd tch tp tl tk tb ta tv bad bo so ce f i q (by omega) (by omega)) [0, 1, 2, 3, 4, 5, 6, 7, 8] modW_idC (by decide +kernel) (fun _ => modW_fst) 0 12 rfl rfl (by decide) rfl hl.1 (rest := [.int w]) rfl (Nat.le_of_ble_eq_true rfl) dX12_happyWith_18 (st1 := fun _ => [.int (f 6 (10 * i + q)), .int w]) (fun _ => rfl) (fun _ H locs _ X => ?_)
        have X : Wd E _ _ (modW E b (flat f) hf wf ik fd tch tp tl tk tb ta tv bad bo so ce) _ _ := X.eq modW_idP
        refine lv_aload_n hx hb dX12_happyWith_21 rfl (lv_at hl 2 rfl) ?_
        refine lv_iload_n hx hb dX12_happyWith_22 rfl (lv_at hl 3 rfl) ?_
        refine lv_iconst (v := 0) hx hb dX12_happyWith_23 (by decide) ?_
        refine k_callV K X gv_X12_49 (As := [.int (nI q), .int 0]) (c_X12_it0 l E b hf wf ik fd tch tp tl tk tb ta tv bad bo so ce f q (by omega)) [0, 1, 2, 3, 4, 5, 6, 7, 8] modW_idC (by decide +kernel) (fun _ => modW_fst) 0 12 rfl rfl (by decide) rfl hl.1 (rest := [.int (f 6 (10 * i + q)), .int w]) rfl (Nat.le_of_ble_eq_true rfl) dX12_happyWith_24 (st1 := fun _ => [.int (f 1 q), .int (f 6 (10 * i + q)), .int w]) (fun _ => rfl) (fun _ H locs _ X => ?_)
        have X : Wd E _ _ (modW E b (flat f) hf wf ik fd tch tp tl tk tb ta tv bad bo so ce) _ _ := X.eq modW_idP
        refine k_icmp_ne (x := f 6 (10 * i + q)) (y := f 1 q) hx hb 36 dX12_happyWith_27 (by decide) (fun c27 => ?_) (fun c27 => ?_)
        · have c27s : ¬ f 1 q = f 6 (10 * i + q) := fun e => c27 e.symm
          refine lv_iconst (v := 0) hx hb dX12_happyWith_36 (by decide) ?_
          refine lv_ior hx hb dX12_happyWith_37 ?_
          refine lv_istore_n (lv' := [(2, .int (w ||| 0)), (3, .int (nI i)), (0, .ref (b 0)), (1, .int (nI q))]) hx hb dX12_happyWith_38 rfl hl (by decide) rfl (fun ls hl => ?_)
          refine lv_iinc (v := nI (i + 1)) (lv' := [(3, .int (nI (i + 1))), (2, .int (w ||| 0)), (0, .ref (b 0)), (1, .int (nI q))]) hx hb dX12_happyWith_39 hl (k := 1) rfl (nI_add i 1) (by decide) rfl (fun ls hl => ?_)
          refine lv_goto (tgt := 4) hx hb dX12_happyWith_42 (by decide) ?_
          exact ih4 (i + 1) n (w ||| 0) (by omega) (by omega) (by rw [← hR]; simp [setL, cntL, sumL, hasW, c11, c27s]) _ hl _ _ X
        · have c27s : f 1 q = f 6 (10 * i + q) := c27.symm
          refine lv_iconst (v := 1) hx hb dX12_happyWith_30 (by decide) ?_
          refine lv_iload_n hx hb dX12_happyWith_31 rfl (lv_at hl 0 rfl) ?_
          refine lv_ishl hx hb dX12_happyWith_32 ?_
          refine lv_goto (tgt := 37) hx hb dX12_happyWith_33 (by decide) ?_
          refine lv_ior hx hb dX12_happyWith_37 ?_
          refine lv_istore_n (lv' := [(2, .int (w ||| (1 <<< ((nI i) &&& 31)))), (3, .int (nI i)), (0, .ref (b 0)), (1, .int (nI q))]) hx hb dX12_happyWith_38 rfl hl (by decide) rfl (fun ls hl => ?_)
          refine lv_iinc (v := nI (i + 1)) (lv' := [(3, .int (nI (i + 1))), (2, .int (w ||| (1 <<< ((nI i) &&& 31)))), (0, .ref (b 0)), (1, .int (nI q))]) hx hb dX12_happyWith_39 hl (k := 1) rfl (nI_add i 1) (by decide) rfl (fun ls hl => ?_)
          refine lv_goto (tgt := 4) hx hb dX12_happyWith_42 (by decide) ?_
          exact ih4 (i + 1) n (w ||| (1 <<< ((nI i) &&& 31))) (by omega) (by omega) (by rw [← hR]; simp [setL, cntL, sumL, hasW, c11, c27s]) _ hl _ _ X
  exact lp4 ((pe f) + 1) 0 (pe f) 0 (by omega) (by omega) (rfl) _ hl _ _ X
set_option maxRecDepth 100000 in
set_option maxHeartbeats 4000000 in
theorem c_X12_slipsIn (l : Launch) (E : EE) (b : Nat → Nat) (hf : Nat → Int32) (wf : Nat → Int32) (ik : Int32) (fd : Nat → Int32) (tch : Int32) (tp : Nat → Int32) (tl : Int32) (tk : Int32) (tb : Int32) (ta : Int32) (tv : Int32) (bad : Int32) (bo : Nat → Int32) (so : Nat → Int32) (ce : Nat → Int64) (f : St) (T : Nat) (x : Int32) (I : Inv T f) : Kd l yX12_slipsIn cX12_slipsIn 4 (some .int) 1 22 E (modW E b (flat f) hf wf ik fd tch tp tl tk tb ta tv bad bo so ce) [.ref (b 0), .int x] (some (.int (inF f x))) (modW E b (flat f) hf wf ik fd tch tp tl tk tb ta tv bad bo so ce) := by
  refine Kn.ofWi (by decide +kernel) (Nat.le_of_ble_eq_true rfl) (fun _ _ => rfl) ?_
  intro pg ev s0 mm below meth cd Q K X fin ls hl
  have hx := K.1
  have hb := K.2.1
  have hs10 := I.s10
  have hp6 := I.p6
  have hl : lv_has ls 4 [(0, .ref (b 0)), (1, .int x)] := hl
  refine lv_iconst (v := 0) hx hb dX12_slipsIn_0 (by decide) ?_
  refine lv_istore_n (lv' := [(2, .int 0), (0, .ref (b 0)), (1, .int x)]) hx hb dX12_slipsIn_1 rfl hl (by decide) rfl (fun ls hl => ?_)
  refine lv_iconst (v := 0) hx hb dX12_slipsIn_2 (by decide) ?_
  refine lv_istore_n (lv' := [(3, .int 0), (2, .int 0), (0, .ref (b 0)), (1, .int x)]) hx hb dX12_slipsIn_3 rfl hl (by decide) rfl (fun ls hl => ?_)
  have lp4 : ∀ (fu : Nat) (i : Nat) (n : Nat) (w : Int32) (hfu : n < fu) (hin : i + n = sl f) (hR : setL (fun s => decide (f 1 s = x)) n i w = inF f x) (ls : Array Slot) (hl : lv_has ls 4 [(3, .int (nI i)), (2, .int w), (0, .ref (b 0)), (1, .int x)]) (H : Heap) (locs : List Loc) (X : Wd E (inW (modW E b (flat f) hf wf ik fd tch tp tl tk tb ta tv bad bo so ce)) s0.heap (modW E b (flat f) hf wf ik fd tch tp tl tk tb ta tv bad bo so ce) H locs), W pg l ev (rmK 1 22) s0 mm ([.ref (b 0), .int x] : List Value).toArray below meth cd H locs 0 0 Q (F0 mm 4 ls []) := by
    intro fu
    induction fu with
    | zero => intro i n w hfu; exact absurd hfu (Nat.not_lt_zero _)
    | succ fu ih4 =>
      intro i n w hfu hin hR ls hl H locs X
      refine lv_iload_n hx hb dX12_slipsIn_4 rfl (lv_at hl 0 rfl) ?_
      refine lv_aload_n hx hb dX12_slipsIn_5 rfl (lv_at hl 2 rfl) ?_
      refine k_get K X 0 rfl fg_X12_9 (v := .ref (b 1)) rfl dX12_slipsIn_6 ?_
      refine lv_iconst (v := 2) hx hb dX12_slipsIn_9 (by decide) ?_
      refine k_ialdN K X 1 rfl (k := 2) (by omega) (by decide) dX12_slipsIn_10 (v := f 0 2) rfl ?_
      refine k_topi (I.hS) ?_
      refine kN_ge (x := i) (y := sl f) hx hb 40 dX12_slipsIn_11 (by decide) (by omega) (by omega) (fun c11 => ?_) (fun c11 => ?_)
      · obtain rfl : n = 0 := by omega
        refine lv_iload_n hx hb dX12_slipsIn_40 rfl (lv_at hl 1 rfl) ?_
        exact k_topi (x' := inF f x) (hR) (fin () 41 _ _ _ trivial X dX12_slipsIn_41)
      · obtain ⟨n, rfl⟩ : ∃ z, n = z + 1 := ⟨n - 1, by omega⟩
        refine lv_iload_n hx hb dX12_slipsIn_14 rfl (lv_at hl 1 rfl) ?_
        refine lv_aload_n hx hb dX12_slipsIn_15 rfl (lv_at hl 2 rfl) ?_
        refine lv_iload_n hx hb dX12_slipsIn_16 rfl (lv_at hl 0 rfl) ?_
        refine lv_iconst (v := 0) hx hb dX12_slipsIn_17 (by decide) ?_
        refine k_callV K X gv_X12_49 (As := [.int (nI i), .int 0]) (c_X12_it0 l E b hf wf ik fd tch tp tl tk tb ta tv bad bo so ce f i (by omega)) [0, 1, 2, 3, 4, 5, 6, 7, 8] modW_idC (by decide +kernel) (fun _ => modW_fst) 0 12 rfl rfl (by decide) rfl hl.1 (rest := [.int w]) rfl (Nat.le_of_ble_eq_true rfl) dX12_slipsIn_18 (st1 := fun _ => [.int (f 1 i), .int w]) (fun _ => rfl) (fun _ H locs _ X => ?_)
        have X : Wd E _ _ (modW E b (flat f) hf wf ik fd tch tp tl tk tb ta tv bad bo so ce) _ _ := X.eq modW_idP
        refine lv_iload_n hx hb dX12_slipsIn_21 rfl (lv_at hl 3 rfl) ?_
        refine k_icmp_ne (x := f 1 i) (y := x) hx hb 31 dX12_slipsIn_22 (by decide) (fun c22 => ?_) (fun c22 => ?_)
        · refine lv_iconst (v := 0) hx hb dX12_slipsIn_31 (by decide) ?_
          refine lv_ior hx hb dX12_slipsIn_32 ?_
          refine lv_istore_n (lv' := [(2, .int (w ||| 0)), (3, .int (nI i)), (0, .ref (b 0)), (1, .int x)]) hx hb dX12_slipsIn_33 rfl hl (by decide) rfl (fun ls hl => ?_)
          refine lv_iinc (v := nI (i + 1)) (lv' := [(3, .int (nI (i + 1))), (2, .int (w ||| 0)), (0, .ref (b 0)), (1, .int x)]) hx hb dX12_slipsIn_34 hl (k := 1) rfl (nI_add i 1) (by decide) rfl (fun ls hl => ?_)
          refine lv_goto (tgt := 4) hx hb dX12_slipsIn_37 (by decide) ?_
          exact ih4 (i + 1) n (w ||| 0) (by omega) (by omega) (by rw [← hR]; simp [setL, cntL, sumL, hasW, c11, c22]) _ hl _ _ X
        · refine lv_iconst (v := 1) hx hb dX12_slipsIn_25 (by decide) ?_
          refine lv_iload_n hx hb dX12_slipsIn_26 rfl (lv_at hl 0 rfl) ?_
          refine lv_ishl hx hb dX12_slipsIn_27 ?_
          refine lv_goto (tgt := 32) hx hb dX12_slipsIn_28 (by decide) ?_
          refine lv_ior hx hb dX12_slipsIn_32 ?_
          refine lv_istore_n (lv' := [(2, .int (w ||| (1 <<< ((nI i) &&& 31)))), (3, .int (nI i)), (0, .ref (b 0)), (1, .int x)]) hx hb dX12_slipsIn_33 rfl hl (by decide) rfl (fun ls hl => ?_)
          refine lv_iinc (v := nI (i + 1)) (lv' := [(3, .int (nI (i + 1))), (2, .int (w ||| (1 <<< ((nI i) &&& 31)))), (0, .ref (b 0)), (1, .int x)]) hx hb dX12_slipsIn_34 hl (k := 1) rfl (nI_add i 1) (by decide) rfl (fun ls hl => ?_)
          refine lv_goto (tgt := 4) hx hb dX12_slipsIn_37 (by decide) ?_
          exact ih4 (i + 1) n (w ||| (1 <<< ((nI i) &&& 31))) (by omega) (by omega) (by rw [← hR]; simp [setL, cntL, sumL, hasW, c11, c22]) _ hl _ _ X
  exact lp4 ((sl f) + 1) 0 (sl f) 0 (by omega) (by omega) (rfl) _ hl _ _ X
set_option maxRecDepth 100000 in
set_option maxHeartbeats 4000000 in
theorem c_X12_groupsHad (l : Launch) (E : EE) (b : Nat → Nat) (hf : Nat → Int32) (wf : Nat → Int32) (ik : Int32) (fd : Nat → Int32) (tch : Int32) (tp : Nat → Int32) (tl : Int32) (tk : Int32) (tb : Int32) (ta : Int32) (tv : Int32) (bad : Int32) (bo : Nat → Int32) (so : Nat → Int32) (ce : Nat → Int64) (f : St) (T : Nat) (I : Inv T f) : Kd l yX12_groupsHad cX12_groupsHad 3 (some .int) 2 45 E (modW E b (flat f) hf wf ik fd tch tp tl tk tb ta tv bad bo so ce) [.ref (b 0)] (some (.int (groupsF f))) (modW E b (flat f) hf wf ik fd tch tp tl tk tb ta tv bad bo so ce) := by
  refine Kn.ofWi (by decide +kernel) (Nat.le_of_ble_eq_true rfl) (fun _ _ => rfl) ?_
  intro pg ev s0 mm below meth cd Q K X fin ls hl
  have hx := K.1
  have hb := K.2.1
  have hs10 := I.s10
  have hp6 := I.p6
  have hl : lv_has ls 3 [(0, .ref (b 0))] := hl
  refine lv_iconst (v := 0) hx hb dX12_groupsHad_0 (by decide) ?_
  refine lv_istore_n (lv' := [(1, .int 0), (0, .ref (b 0))]) hx hb dX12_groupsHad_1 rfl hl (by decide) rfl (fun ls hl => ?_)
  refine lv_iconst (v := 0) hx hb dX12_groupsHad_2 (by decide) ?_
  refine lv_istore_n (lv' := [(2, .int 0), (1, .int 0), (0, .ref (b 0))]) hx hb dX12_groupsHad_3 rfl hl (by decide) rfl (fun ls hl => ?_)
  have lp4 : ∀ (fu : Nat) (i : Nat) (n : Nat) (w : Int32) (hfu : n < fu) (hin : i + n = 6) (hR : setL (fun g => !decide (inF f (nI g) = 0)) n i w = groupsM f) (ls : Array Slot) (hl : lv_has ls 3 [(2, .int (nI i)), (1, .int w), (0, .ref (b 0))]) (H : Heap) (locs : List Loc) (X : Wd E (inW (modW E b (flat f) hf wf ik fd tch tp tl tk tb ta tv bad bo so ce)) s0.heap (modW E b (flat f) hf wf ik fd tch tp tl tk tb ta tv bad bo so ce) H locs), W pg l ev (rmK 2 45) s0 mm ([.ref (b 0)] : List Value).toArray below meth cd H locs 0 0 Q (F0 mm 4 ls []) := by
    intro fu
    induction fu with
    | zero => intro i n w hfu; exact absurd hfu (Nat.not_lt_zero _)
    | succ fu ih4 =>
      intro i n w hfu hin hR ls hl H locs X
      refine lv_iload_n hx hb dX12_groupsHad_4 rfl (lv_at hl 0 rfl) ?_
      refine lv_bipush (v := 6) hx hb dX12_groupsHad_5 (by decide) ?_
      refine kN_ge (x := i) (y := 6) hx hb 34 dX12_groupsHad_7 (by decide) (by omega) (by omega) (fun c7 => ?_) (fun c7 => ?_)
      · obtain rfl : n = 0 := by omega
        refine lv_iload_n hx hb dX12_groupsHad_34 rfl (lv_at hl 1 rfl) ?_
        exact k_topi (x' := groupsF f) (hR.trans (groups_eq I)) (fin () 35 _ _ _ trivial X dX12_groupsHad_35)
      · obtain ⟨n, rfl⟩ : ∃ z, n = z + 1 := ⟨n - 1, by omega⟩
        refine lv_iload_n hx hb dX12_groupsHad_10 rfl (lv_at hl 1 rfl) ?_
        refine lv_aload_n hx hb dX12_groupsHad_11 rfl (lv_at hl 2 rfl) ?_
        refine lv_iload_n hx hb dX12_groupsHad_12 rfl (lv_at hl 0 rfl) ?_
        refine k_callV K X gv_X12_84 (As := [.int (nI i)]) (c_X12_slipsIn l E b hf wf ik fd tch tp tl tk tb ta tv bad bo so ce f T (nI i) I) [0, 1, 2, 3, 4, 5, 6, 7, 8] modW_idC (by decide +kernel) (fun _ => modW_fst) 0 12 rfl rfl (by decide) rfl hl.1 (rest := [.int w]) rfl (Nat.le_of_ble_eq_true rfl) dX12_groupsHad_13 (st1 := fun _ => [.int (inF f (nI i)), .int w]) (fun _ => rfl) (fun _ H locs _ X => ?_)
        have X : Wd E _ _ (modW E b (flat f) hf wf ik fd tch tp tl tk tb ta tv bad bo so ce) _ _ := X.eq modW_idP
        refine k_if_ne (x := inF f (nI i)) hx hb 23 dX12_groupsHad_16 (by decide) (fun c16 => ?_) (fun c16 => ?_)
        · refine lv_iconst (v := 1) hx hb dX12_groupsHad_23 (by decide) ?_
          refine lv_iload_n hx hb dX12_groupsHad_24 rfl (lv_at hl 0 rfl) ?_
          refine lv_ishl hx hb dX12_groupsHad_25 ?_
          refine lv_ior hx hb dX12_groupsHad_26 ?_
          refine lv_istore_n (lv' := [(1, .int (w ||| (1 <<< ((nI i) &&& 31)))), (2, .int (nI i)), (0, .ref (b 0))]) hx hb dX12_groupsHad_27 rfl hl (by decide) rfl (fun ls hl => ?_)
          refine lv_iinc (v := nI (i + 1)) (lv' := [(2, .int (nI (i + 1))), (1, .int (w ||| (1 <<< ((nI i) &&& 31)))), (0, .ref (b 0))]) hx hb dX12_groupsHad_28 hl (k := 1) rfl (nI_add i 1) (by decide) rfl (fun ls hl => ?_)
          refine lv_goto (tgt := 4) hx hb dX12_groupsHad_31 (by decide) ?_
          exact ih4 (i + 1) n (w ||| (1 <<< ((nI i) &&& 31))) (by omega) (by omega) (by rw [← hR]; simp [setL, cntL, sumL, hasW, c7, c16]) _ hl _ _ X
        · refine lv_iconst (v := 0) hx hb dX12_groupsHad_19 (by decide) ?_
          refine lv_goto (tgt := 26) hx hb dX12_groupsHad_20 (by decide) ?_
          refine lv_ior hx hb dX12_groupsHad_26 ?_
          refine lv_istore_n (lv' := [(1, .int (w ||| 0)), (2, .int (nI i)), (0, .ref (b 0))]) hx hb dX12_groupsHad_27 rfl hl (by decide) rfl (fun ls hl => ?_)
          refine lv_iinc (v := nI (i + 1)) (lv' := [(2, .int (nI (i + 1))), (1, .int (w ||| 0)), (0, .ref (b 0))]) hx hb dX12_groupsHad_28 hl (k := 1) rfl (nI_add i 1) (by decide) rfl (fun ls hl => ?_)
          refine lv_goto (tgt := 4) hx hb dX12_groupsHad_31 (by decide) ?_
          exact ih4 (i + 1) n (w ||| 0) (by omega) (by omega) (by rw [← hR]; simp [setL, cntL, sumL, hasW, c7, c16]) _ hl _ _ X
  exact lp4 (6 + 1) 0 6 0 (by omega) (by omega) (rfl) _ hl _ _ X
set_option maxRecDepth 100000 in
set_option maxHeartbeats 4000000 in
theorem c_X12_fixedOnes (l : Launch) (E : EE) (b : Nat → Nat) (hf : Nat → Int32) (wf : Nat → Int32) (ik : Int32) (fd : Nat → Int32) (tch : Int32) (tp : Nat → Int32) (tl : Int32) (tk : Int32) (tb : Int32) (ta : Int32) (tv : Int32) (bad : Int32) (bo : Nat → Int32) (so : Nat → Int32) (ce : Nat → Int64) (f : St) (T : Nat) (I : Inv T f) : Kd l yX12_fixedOnes cX12_fixedOnes 3 (some .int) 1 22 E (modW E b (flat f) hf wf ik fd tch tp tl tk tb ta tv bad bo so ce) [.ref (b 0)] (some (.int (fixedF f))) (modW E b (flat f) hf wf ik fd tch tp tl tk tb ta tv bad bo so ce) := by
  refine Kn.ofWi (by decide +kernel) (Nat.le_of_ble_eq_true rfl) (fun _ _ => rfl) ?_
  intro pg ev s0 mm below meth cd Q K X fin ls hl
  have hx := K.1
  have hb := K.2.1
  have hs10 := I.s10
  have hp6 := I.p6
  have hl : lv_has ls 3 [(0, .ref (b 0))] := hl
  refine lv_iconst (v := 0) hx hb dX12_fixedOnes_0 (by decide) ?_
  refine lv_istore_n (lv' := [(1, .int 0), (0, .ref (b 0))]) hx hb dX12_fixedOnes_1 rfl hl (by decide) rfl (fun ls hl => ?_)
  refine lv_iconst (v := 0) hx hb dX12_fixedOnes_2 (by decide) ?_
  refine lv_istore_n (lv' := [(2, .int 0), (1, .int 0), (0, .ref (b 0))]) hx hb dX12_fixedOnes_3 rfl hl (by decide) rfl (fun ls hl => ?_)
  have lp4 : ∀ (fu : Nat) (i : Nat) (n : Nat) (w : Int32) (hfu : n < fu) (hin : i + n = sl f) (hR : setL (fun s => decide (f 3 s = 1)) n i w = fixedF f) (ls : Array Slot) (hl : lv_has ls 3 [(2, .int (nI i)), (1, .int w), (0, .ref (b 0))]) (H : Heap) (locs : List Loc) (X : Wd E (inW (modW E b (flat f) hf wf ik fd tch tp tl tk tb ta tv bad bo so ce)) s0.heap (modW E b (flat f) hf wf ik fd tch tp tl tk tb ta tv bad bo so ce) H locs), W pg l ev (rmK 1 22) s0 mm ([.ref (b 0)] : List Value).toArray below meth cd H locs 0 0 Q (F0 mm 4 ls []) := by
    intro fu
    induction fu with
    | zero => intro i n w hfu; exact absurd hfu (Nat.not_lt_zero _)
    | succ fu ih4 =>
      intro i n w hfu hin hR ls hl H locs X
      refine lv_iload_n hx hb dX12_fixedOnes_4 rfl (lv_at hl 0 rfl) ?_
      refine lv_aload_n hx hb dX12_fixedOnes_5 rfl (lv_at hl 2 rfl) ?_
      refine k_get K X 0 rfl fg_X12_9 (v := .ref (b 1)) rfl dX12_fixedOnes_6 ?_
      refine lv_iconst (v := 2) hx hb dX12_fixedOnes_9 (by decide) ?_
      refine k_ialdN K X 1 rfl (k := 2) (by omega) (by decide) dX12_fixedOnes_10 (v := f 0 2) rfl ?_
      refine k_topi (I.hS) ?_
      refine kN_ge (x := i) (y := sl f) hx hb 31 dX12_fixedOnes_11 (by decide) (by omega) (by omega) (fun c11 => ?_) (fun c11 => ?_)
      · obtain rfl : n = 0 := by omega
        refine lv_iload_n hx hb dX12_fixedOnes_31 rfl (lv_at hl 1 rfl) ?_
        exact k_topi (x' := fixedF f) (hR) (fin () 32 _ _ _ trivial X dX12_fixedOnes_32)
      · obtain ⟨n, rfl⟩ : ∃ z, n = z + 1 := ⟨n - 1, by omega⟩
        refine lv_iload_n hx hb dX12_fixedOnes_14 rfl (lv_at hl 1 rfl) ?_
        refine lv_aload_n hx hb dX12_fixedOnes_15 rfl (lv_at hl 2 rfl) ?_
        refine lv_iload_n hx hb dX12_fixedOnes_16 rfl (lv_at hl 0 rfl) ?_
        refine lv_iconst (v := 2) hx hb dX12_fixedOnes_17 (by decide) ?_
        refine k_callV K X gv_X12_49 (As := [.int (nI i), .int 2]) (c_X12_it2 l E b hf wf ik fd tch tp tl tk tb ta tv bad bo so ce f i (by omega)) [0, 1, 2, 3, 4, 5, 6, 7, 8] modW_idC (by decide +kernel) (fun _ => modW_fst) 0 12 rfl rfl (by decide) rfl hl.1 (rest := [.int w]) rfl (Nat.le_of_ble_eq_true rfl) dX12_fixedOnes_18 (st1 := fun _ => [.int (f 3 i), .int w]) (fun _ => rfl) (fun _ H locs _ X => ?_)
        have X : Wd E _ _ (modW E b (flat f) hf wf ik fd tch tp tl tk tb ta tv bad bo so ce) _ _ := X.eq modW_idP
        refine lv_iload_n hx hb dX12_fixedOnes_21 rfl (lv_at hl 0 rfl) ?_
        refine lv_ishl hx hb dX12_fixedOnes_22 ?_
        refine lv_ior hx hb dX12_fixedOnes_23 ?_
        refine lv_istore_n (lv' := [(1, .int (w ||| ((f 3 i) <<< ((nI i) &&& 31)))), (2, .int (nI i)), (0, .ref (b 0))]) hx hb dX12_fixedOnes_24 rfl hl (by decide) rfl (fun ls hl => ?_)
        refine lv_iinc (v := nI (i + 1)) (lv' := [(2, .int (nI (i + 1))), (1, .int (w ||| ((f 3 i) <<< ((nI i) &&& 31)))), (0, .ref (b 0))]) hx hb dX12_fixedOnes_25 hl (k := 1) rfl (nI_add i 1) (by decide) rfl (fun ls hl => ?_)
        refine lv_goto (tgt := 4) hx hb dX12_fixedOnes_28 (by decide) ?_
        exact ih4 (i + 1) n (w ||| ((f 3 i) <<< ((nI i) &&& 31))) (by omega) (by omega) (by rcases I.fx (show i < 10 by omega) with h | h <;> rw [← hR] <;> simp [setL, h]) _ hl _ _ X
  exact lp4 ((sl f) + 1) 0 (sl f) 0 (by omega) (by omega) (rfl) _ hl _ _ X
set_option maxRecDepth 100000 in
set_option maxHeartbeats 4000000 in
theorem c_X12_allMoved (l : Launch) (E : EE) (b : Nat → Nat) (hf : Nat → Int32) (wf : Nat → Int32) (ik : Int32) (fd : Nat → Int32) (tch : Int32) (tp : Nat → Int32) (tl : Int32) (tk : Int32) (tb : Int32) (ta : Int32) (tv : Int32) (bad : Int32) (bo : Nat → Int32) (so : Nat → Int32) (ce : Nat → Int64) (f : St) (T : Nat) (I : Inv T f) : Kd l yX12_allMoved cX12_allMoved 3 (some .int) 1 22 E (modW E b (flat f) hf wf ik fd tch tp tl tk tb ta tv bad bo so ce) [.ref (b 0)] (some (.int (allF f))) (modW E b (flat f) hf wf ik fd tch tp tl tk tb ta tv bad bo so ce) := by
  refine Kn.ofWi (by decide +kernel) (Nat.le_of_ble_eq_true rfl) (fun _ _ => rfl) ?_
  intro pg ev s0 mm below meth cd Q K X fin ls hl
  have hx := K.1
  have hb := K.2.1
  have hs10 := I.s10
  have hp6 := I.p6
  have hl : lv_has ls 3 [(0, .ref (b 0))] := hl
  refine lv_iconst (v := 0) hx hb dX12_allMoved_0 (by decide) ?_
  refine lv_istore_n (lv' := [(1, .int 0), (0, .ref (b 0))]) hx hb dX12_allMoved_1 rfl hl (by decide) rfl (fun ls hl => ?_)
  refine lv_iconst (v := 0) hx hb dX12_allMoved_2 (by decide) ?_
  refine lv_istore_n (lv' := [(2, .int 0), (1, .int 0), (0, .ref (b 0))]) hx hb dX12_allMoved_3 rfl hl (by decide) rfl (fun ls hl => ?_)
  have lp4 : ∀ (fu : Nat) (i : Nat) (n : Nat) (w : Int32) (hfu : n < fu) (hin : i + n = sl f) (hR : sumL (fun s => f 2 s) n i w = allF f) (ls : Array Slot) (hl : lv_has ls 3 [(2, .int (nI i)), (1, .int w), (0, .ref (b 0))]) (H : Heap) (locs : List Loc) (X : Wd E (inW (modW E b (flat f) hf wf ik fd tch tp tl tk tb ta tv bad bo so ce)) s0.heap (modW E b (flat f) hf wf ik fd tch tp tl tk tb ta tv bad bo so ce) H locs), W pg l ev (rmK 1 22) s0 mm ([.ref (b 0)] : List Value).toArray below meth cd H locs 0 0 Q (F0 mm 4 ls []) := by
    intro fu
    induction fu with
    | zero => intro i n w hfu; exact absurd hfu (Nat.not_lt_zero _)
    | succ fu ih4 =>
      intro i n w hfu hin hR ls hl H locs X
      refine lv_iload_n hx hb dX12_allMoved_4 rfl (lv_at hl 0 rfl) ?_
      refine lv_aload_n hx hb dX12_allMoved_5 rfl (lv_at hl 2 rfl) ?_
      refine k_get K X 0 rfl fg_X12_9 (v := .ref (b 1)) rfl dX12_allMoved_6 ?_
      refine lv_iconst (v := 2) hx hb dX12_allMoved_9 (by decide) ?_
      refine k_ialdN K X 1 rfl (k := 2) (by omega) (by decide) dX12_allMoved_10 (v := f 0 2) rfl ?_
      refine k_topi (I.hS) ?_
      refine kN_ge (x := i) (y := sl f) hx hb 29 dX12_allMoved_11 (by decide) (by omega) (by omega) (fun c11 => ?_) (fun c11 => ?_)
      · obtain rfl : n = 0 := by omega
        refine lv_iload_n hx hb dX12_allMoved_29 rfl (lv_at hl 1 rfl) ?_
        exact k_topi (x' := allF f) (hR) (fin () 30 _ _ _ trivial X dX12_allMoved_30)
      · obtain ⟨n, rfl⟩ : ∃ z, n = z + 1 := ⟨n - 1, by omega⟩
        refine lv_iload_n hx hb dX12_allMoved_14 rfl (lv_at hl 1 rfl) ?_
        refine lv_aload_n hx hb dX12_allMoved_15 rfl (lv_at hl 2 rfl) ?_
        refine lv_iload_n hx hb dX12_allMoved_16 rfl (lv_at hl 0 rfl) ?_
        refine lv_iconst (v := 1) hx hb dX12_allMoved_17 (by decide) ?_
        refine k_callV K X gv_X12_49 (As := [.int (nI i), .int 1]) (c_X12_it1 l E b hf wf ik fd tch tp tl tk tb ta tv bad bo so ce f i (by omega)) [0, 1, 2, 3, 4, 5, 6, 7, 8] modW_idC (by decide +kernel) (fun _ => modW_fst) 0 12 rfl rfl (by decide) rfl hl.1 (rest := [.int w]) rfl (Nat.le_of_ble_eq_true rfl) dX12_allMoved_18 (st1 := fun _ => [.int (f 2 i), .int w]) (fun _ => rfl) (fun _ H locs _ X => ?_)
        have X : Wd E _ _ (modW E b (flat f) hf wf ik fd tch tp tl tk tb ta tv bad bo so ce) _ _ := X.eq modW_idP
        refine lv_iadd hx hb dX12_allMoved_21 ?_
        refine lv_istore_n (lv' := [(1, .int (w + (f 2 i))), (2, .int (nI i)), (0, .ref (b 0))]) hx hb dX12_allMoved_22 rfl hl (by decide) rfl (fun ls hl => ?_)
        refine lv_iinc (v := nI (i + 1)) (lv' := [(2, .int (nI (i + 1))), (1, .int (w + (f 2 i))), (0, .ref (b 0))]) hx hb dX12_allMoved_23 hl (k := 1) rfl (nI_add i 1) (by decide) rfl (fun ls hl => ?_)
        refine lv_goto (tgt := 4) hx hb dX12_allMoved_26 (by decide) ?_
        exact ih4 (i + 1) n (w + (f 2 i)) (by omega) (by omega) (by rw [← hR]; simp [setL, cntL, sumL, hasW, c11]) _ hl _ _ X
  exact lp4 ((sl f) + 1) 0 (sl f) 0 (by omega) (by omega) (rfl) _ hl _ _ X
set_option maxRecDepth 100000 in
set_option maxHeartbeats 4000000 in
theorem c_X12_sameOf (l : Launch) (E : EE) (b : Nat → Nat) (hf : Nat → Int32) (wf : Nat → Int32) (ik : Int32) (fd : Nat → Int32) (tch : Int32) (tp : Nat → Int32) (tl : Int32) (tk : Int32) (tb : Int32) (ta : Int32) (tv : Int32) (bad : Int32) (bo : Nat → Int32) (so : Nat → Int32) (ce : Nat → Int64) (f : St) (T : Nat) (p : Nat) (q : Nat) (I : Inv T f) (hp : p < 6) (hq : q < 6) : Kd l yX12_sameOf cX12_sameOf 5 (some .int) 2 44 E (modW E b (flat f) hf wf ik fd tch tp tl tk tb ta tv bad bo so ce) [.ref (b 0), .int (nI p), .int (nI q)] (some (.int (nI (sameF f p q)))) (modW E b (flat f) hf wf ik fd tch tp tl tk tb ta tv bad bo so ce) := by
  refine Kn.ofWi (by decide +kernel) (Nat.le_of_ble_eq_true rfl) (fun _ _ => rfl) ?_
  intro pg ev s0 mm below meth cd Q K X fin ls hl
  have hx := K.1
  have hb := K.2.1
  have hs10 := I.s10
  have hp6 := I.p6
  have hl : lv_has ls 5 [(0, .ref (b 0)), (1, .int (nI p)), (2, .int (nI q))] := hl
  refine lv_iconst (v := 0) hx hb dX12_sameOf_0 (by decide) ?_
  refine lv_istore_n (lv' := [(3, .int 0), (0, .ref (b 0)), (1, .int (nI p)), (2, .int (nI q))]) hx hb dX12_sameOf_1 rfl hl (by decide) rfl (fun ls hl => ?_)
  refine lv_iconst (v := 0) hx hb dX12_sameOf_2 (by decide) ?_
  refine lv_istore (lv' := [(4, .int 0), (3, .int 0), (0, .ref (b 0)), (1, .int (nI p)), (2, .int (nI q))]) hx hb dX12_sameOf_3 hl (by decide) rfl (fun ls hl => ?_)
  have lp5 : ∀ (fu : Nat) (i : Nat) (n : Nat) (w : Nat) (hfu : n < fu) (hin : i + n = sl f) (hR : cntL (fun s => decide (f 6 (10 * p + s) = f 6 (10 * q + s))) n i w = sameF f p q) (ls : Array Slot) (hl : lv_has ls 5 [(4, .int (nI i)), (3, .int (nI w)), (0, .ref (b 0)), (1, .int (nI p)), (2, .int (nI q))]) (H : Heap) (locs : List Loc) (X : Wd E (inW (modW E b (flat f) hf wf ik fd tch tp tl tk tb ta tv bad bo so ce)) s0.heap (modW E b (flat f) hf wf ik fd tch tp tl tk tb ta tv bad bo so ce) H locs), W pg l ev (rmK 2 44) s0 mm ([.ref (b 0), .int (nI p), .int (nI q)] : List Value).toArray below meth cd H locs 0 0 Q (F0 mm 5 ls []) := by
    intro fu
    induction fu with
    | zero => intro i n w hfu; exact absurd hfu (Nat.not_lt_zero _)
    | succ fu ih5 =>
      intro i n w hfu hin hR ls hl H locs X
      refine lv_iload hx hb dX12_sameOf_5 (lv_at hl 0 rfl) ?_
      refine lv_aload_n hx hb dX12_sameOf_7 rfl (lv_at hl 2 rfl) ?_
      refine k_get K X 0 rfl fg_X12_9 (v := .ref (b 1)) rfl dX12_sameOf_8 ?_
      refine lv_iconst (v := 2) hx hb dX12_sameOf_11 (by decide) ?_
      refine k_ialdN K X 1 rfl (k := 2) (by omega) (by decide) dX12_sameOf_12 (v := f 0 2) rfl ?_
      refine k_topi (I.hS) ?_
      refine kN_ge (x := i) (y := sl f) hx hb 47 dX12_sameOf_13 (by decide) (by omega) (by omega) (fun c13 => ?_) (fun c13 => ?_)
      · obtain rfl : n = 0 := by omega
        refine lv_iload_n hx hb dX12_sameOf_47 rfl (lv_at hl 1 rfl) ?_
        exact k_topi (x' := nI (sameF f p q)) (congrArg nI hR) (fin () 48 _ _ _ trivial X dX12_sameOf_48)
      · obtain ⟨n, rfl⟩ : ∃ z, n = z + 1 := ⟨n - 1, by omega⟩
        refine lv_iload_n hx hb dX12_sameOf_16 rfl (lv_at hl 1 rfl) ?_
        refine lv_aload_n hx hb dX12_sameOf_17 rfl (lv_at hl 2 rfl) ?_
        refine lv_iload_n hx hb dX12_sameOf_18 rfl (lv_at hl 3 rfl) ?_
        refine lv_iload hx hb dX12_sameOf_19 (lv_at hl 0 rfl) ?_
        refine k_callV K X gv_X12_52 (As := [.int (nI p), .int (nI i)]) (c_X12_wish l E b hf wf ik fd tch tp tl tk tb ta tv bad bo so ce f p i (by omega) (by omega)) [0, 1, 2, 3, 4, 5, 6, 7, 8] modW_idC (by decide +kernel) (fun _ => modW_fst) 0 12 rfl rfl (by decide) rfl hl.1 (rest := [.int (nI w)]) rfl (Nat.le_of_ble_eq_true rfl) dX12_sameOf_21 (st1 := fun _ => [.int (f 6 (10 * p + i)), .int (nI w)]) (fun _ => rfl) (fun _ H locs _ X => ?_)
        have X : Wd E _ _ (modW E b (flat f) hf wf ik fd tch tp tl tk tb ta tv bad bo so ce) _ _ := X.eq modW_idP
        refine lv_aload_n hx hb dX12_sameOf_24 rfl (lv_at hl 2 rfl) ?_
        refine lv_iload_n hx hb dX12_sameOf_25 rfl (lv_at hl 4 rfl) ?_
        refine lv_iload hx hb dX12_sameOf_26 (lv_at hl 0 rfl) ?_
        refine k_callV K X gv_X12_52 (As := [.int (nI q), .int (nI i)]) (c_X12_wish l E b hf wf ik fd tch tp tl tk tb ta tv bad bo so ce f q i (by omega) (by omega)) [0, 1, 2, 3, 4, 5, 6, 7, 8] modW_idC (by decide +kernel) (fun _ => modW_fst) 0 12 rfl rfl (by decide) rfl hl.1 (rest := [.int (f 6 (10 * p + i)), .int (nI w)]) rfl (Nat.le_of_ble_eq_true rfl) dX12_sameOf_28 (st1 := fun _ => [.int (f 6 (10 * q + i)), .int (f 6 (10 * p + i)), .int (nI w)]) (fun _ => rfl) (fun _ H locs _ X => ?_)
        have X : Wd E _ _ (modW E b (flat f) hf wf ik fd tch tp tl tk tb ta tv bad bo so ce) _ _ := X.eq modW_idP
        refine k_icmp_ne (x := f 6 (10 * p + i)) (y := f 6 (10 * q + i)) hx hb 38 dX12_sameOf_31 (by decide) (fun c31 => ?_) (fun c31 => ?_)
        · refine lv_iconst (v := 0) hx hb dX12_sameOf_38 (by decide) ?_
          refine lv_iadd hx hb dX12_sameOf_39 ?_
          refine k_topi (nI_add w 0) ?_
          refine lv_istore_n (lv' := [(3, .int (nI (w + 0))), (4, .int (nI i)), (0, .ref (b 0)), (1, .int (nI p)), (2, .int (nI q))]) hx hb dX12_sameOf_40 rfl hl (by decide) rfl (fun ls hl => ?_)
          refine lv_iinc (v := nI (i + 1)) (lv' := [(4, .int (nI (i + 1))), (3, .int (nI (w + 0))), (0, .ref (b 0)), (1, .int (nI p)), (2, .int (nI q))]) hx hb dX12_sameOf_41 hl (k := 1) rfl (nI_add i 1) (by decide) rfl (fun ls hl => ?_)
          refine lv_goto (tgt := 5) hx hb dX12_sameOf_44 (by decide) ?_
          exact ih5 (i + 1) n (w + 0) (by omega) (by omega) (by rw [← hR]; simp [setL, cntL, sumL, hasW, c13, c31]) _ hl _ _ X
        · refine lv_iconst (v := 1) hx hb dX12_sameOf_34 (by decide) ?_
          refine lv_goto (tgt := 39) hx hb dX12_sameOf_35 (by decide) ?_
          refine lv_iadd hx hb dX12_sameOf_39 ?_
          refine k_topi (nI_add w 1) ?_
          refine lv_istore_n (lv' := [(3, .int (nI (w + 1))), (4, .int (nI i)), (0, .ref (b 0)), (1, .int (nI p)), (2, .int (nI q))]) hx hb dX12_sameOf_40 rfl hl (by decide) rfl (fun ls hl => ?_)
          refine lv_iinc (v := nI (i + 1)) (lv' := [(4, .int (nI (i + 1))), (3, .int (nI (w + 1))), (0, .ref (b 0)), (1, .int (nI p)), (2, .int (nI q))]) hx hb dX12_sameOf_41 hl (k := 1) rfl (nI_add i 1) (by decide) rfl (fun ls hl => ?_)
          refine lv_goto (tgt := 5) hx hb dX12_sameOf_44 (by decide) ?_
          exact ih5 (i + 1) n (w + 1) (by omega) (by omega) (by rw [← hR]; simp [setL, cntL, sumL, hasW, c13, c31]) _ hl _ _ X
  exact lp5 ((sl f) + 1) 0 (sl f) 0 (by omega) (by omega) (rfl) _ hl _ _ X
set_option maxRecDepth 100000 in
set_option maxHeartbeats 4000000 in
theorem c_X12_wantMost (l : Launch) (E : EE) (b : Nat → Nat) (hf : Nat → Int32) (wf : Nat → Int32) (ik : Int32) (fd : Nat → Int32) (tch : Int32) (tp : Nat → Int32) (tl : Int32) (tk : Int32) (tb : Int32) (ta : Int32) (tv : Int32) (bad : Int32) (bo : Nat → Int32) (so : Nat → Int32) (ce : Nat → Int64) (f : St) (T : Nat) (q : Nat) (I : Inv T f) (hq : q < 10) : Kd l yX12_wantMost cX12_wantMost 7 (some .int) 2 44 E (modW E b (flat f) hf wf ik fd tch tp tl tk tb ta tv bad bo so ce) [.ref (b 0), .int (nI q)] (some (.int (wantF f q))) (modW E b (flat f) hf wf ik fd tch tp tl tk tb ta tv bad bo so ce) := by
  refine Kn.ofWi (by decide +kernel) (Nat.le_of_ble_eq_true rfl) (fun _ _ => rfl) ?_
  intro pg ev s0 mm below meth cd Q K X fin ls hl
  have hx := K.1
  have hb := K.2.1
  have hs10 := I.s10
  have hp6 := I.p6
  have hl : lv_has ls 7 [(0, .ref (b 0)), (1, .int (nI q))] := hl
  refine lv_iconst (v := (-1)) hx hb dX12_wantMost_0 (by decide) ?_
  refine lv_istore_n (lv' := [(2, .int (-1)), (0, .ref (b 0)), (1, .int (nI q))]) hx hb dX12_wantMost_1 rfl hl (by decide) rfl (fun ls hl => ?_)
  refine lv_iconst (v := 0) hx hb dX12_wantMost_2 (by decide) ?_
  refine lv_istore_n (lv' := [(3, .int 0), (2, .int (-1)), (0, .ref (b 0)), (1, .int (nI q))]) hx hb dX12_wantMost_3 rfl hl (by decide) rfl (fun ls hl => ?_)
  refine lv_iconst (v := 0) hx hb dX12_wantMost_4 (by decide) ?_
  refine lv_istore (lv' := [(4, .int 0), (3, .int 0), (2, .int (-1)), (0, .ref (b 0)), (1, .int (nI q))]) hx hb dX12_wantMost_5 hl (by decide) rfl (fun ls hl => ?_)
  have lp7 : ∀ (fu : Nat) (i : Nat) (n : Nat) (w : Int32) (m : Nat) (hfu : n < fu) (hin : i + n = 6) (hR : wmL f q n i w m = wantF f q) (hm : m ≤ 6) (ls : Array Slot) (hl : lv_has ls 7 [(4, .int (nI i)), (3, .int (nI m)), (2, .int w), (0, .ref (b 0)), (1, .int (nI q))]) (H : Heap) (locs : List Loc) (X : Wd E (inW (modW E b (flat f) hf wf ik fd tch tp tl tk tb ta tv bad bo so ce)) s0.heap (modW E b (flat f) hf wf ik fd tch tp tl tk tb ta tv bad bo so ce) H locs), W pg l ev (rmK 2 44) s0 mm ([.ref (b 0), .int (nI q)] : List Value).toArray below meth cd H locs 0 0 Q (F0 mm 7 ls []) := by
    intro fu
    induction fu with
    | zero => intro i n w m hfu; exact absurd hfu (Nat.not_lt_zero _)
    | succ fu ih7 =>
      intro i n w m hfu hin hR hm ls hl H locs X
      refine lv_iload hx hb dX12_wantMost_7 (lv_at hl 0 rfl) ?_
      refine lv_bipush (v := 6) hx hb dX12_wantMost_9 (by decide) ?_
      refine kN_ge (x := i) (y := 6) hx hb 91 dX12_wantMost_11 (by decide) (by omega) (by omega) (fun c11 => ?_) (fun c11 => ?_)
      · obtain rfl : n = 0 := by omega
        refine lv_iload_n hx hb dX12_wantMost_91 rfl (lv_at hl 2 rfl) ?_
        exact k_topi (x' := wantF f q) (hR) (fin () 92 _ _ _ trivial X dX12_wantMost_92)
      · obtain ⟨n, rfl⟩ : ∃ z, n = z + 1 := ⟨n - 1, by omega⟩
        refine lv_iconst (v := 0) hx hb dX12_wantMost_14 (by decide) ?_
        refine lv_istore (lv' := [(5, .int 0), (4, .int (nI i)), (3, .int (nI m)), (2, .int w), (0, .ref (b 0)), (1, .int (nI q))]) hx hb dX12_wantMost_15 hl (by decide) rfl (fun ls hl => ?_)
        refine lv_iconst (v := 0) hx hb dX12_wantMost_17 (by decide) ?_
        refine lv_istore (lv' := [(6, .int 0), (5, .int 0), (4, .int (nI i)), (3, .int (nI m)), (2, .int w), (0, .ref (b 0)), (1, .int (nI q))]) hx hb dX12_wantMost_18 hl (by decide) rfl (fun ls hl => ?_)
        have lp20 : ∀ (fu : Nat) (j : Nat) (n2 : Nat) (v : Nat) (hfu : n2 < fu) (hin2 : j + n2 = pe f) (hV : manyF f q (nI i) = cntL (fun p => decide (f 6 (10 * p + q) = nI i)) n2 j v) (ls : Array Slot) (hl : lv_has ls 7 [(6, .int (nI j)), (5, .int (nI v)), (4, .int (nI i)), (3, .int (nI m)), (2, .int w), (0, .ref (b 0)), (1, .int (nI q))]) (H : Heap) (locs : List Loc) (X : Wd E (inW (modW E b (flat f) hf wf ik fd tch tp tl tk tb ta tv bad bo so ce)) s0.heap (modW E b (flat f) hf wf ik fd tch tp tl tk tb ta tv bad bo so ce) H locs), W pg l ev (rmK 2 44) s0 mm ([.ref (b 0), .int (nI q)] : List Value).toArray below meth cd H locs 0 0 Q (F0 mm 20 ls []) := by
          intro fu
          induction fu with
          | zero => intro j n2 v hfu; exact absurd hfu (Nat.not_lt_zero _)
          | succ fu ih20 =>
            intro j n2 v hfu hin2 hV ls hl H locs X
            refine lv_iload hx hb dX12_wantMost_20 (lv_at hl 0 rfl) ?_
            refine lv_aload_n hx hb dX12_wantMost_22 rfl (lv_at hl 5 rfl) ?_
            refine k_get K X 0 rfl fg_X12_9 (v := .ref (b 1)) rfl dX12_wantMost_23 ?_
            refine lv_iconst (v := 3) hx hb dX12_wantMost_26 (by decide) ?_
            refine k_ialdN K X 1 rfl (k := 3) (by omega) (by decide) dX12_wantMost_27 (v := f 0 3) rfl ?_
            refine k_topi (I.hP) ?_
            refine kN_ge (x := j) (y := pe f) hx hb 59 dX12_wantMost_28 (by decide) (by omega) (by omega) (fun c28 => ?_) (fun c28 => ?_)
            · obtain rfl : n2 = 0 := by omega
              have hV : manyF f q (nI i) = v := hV
              have hv6 := manyF_le I q (nI i)
              rw [hV] at hv6
              refine lv_iload hx hb dX12_wantMost_59 (lv_at hl 1 rfl) ?_
              refine lv_iload_n hx hb dX12_wantMost_61 rfl (lv_at hl 3 rfl) ?_
              refine kN_le (x := v) (y := m) hx hb 70 dX12_wantMost_62 (by decide) (by omega) (by omega) (fun c62 => ?_) (fun c62 => ?_)
              · refine lv_iload_n hx hb dX12_wantMost_70 rfl (lv_at hl 4 rfl) ?_
                refine lv_istore_n (lv' := [(2, .int w), (6, .int (nI j)), (5, .int (nI v)), (4, .int (nI i)), (3, .int (nI m)), (0, .ref (b 0)), (1, .int (nI q))]) hx hb dX12_wantMost_71 rfl hl (by decide) rfl (fun ls hl => ?_)
                refine lv_iload hx hb dX12_wantMost_72 (lv_at hl 2 rfl) ?_
                refine lv_iload_n hx hb dX12_wantMost_74 rfl (lv_at hl 4 rfl) ?_
                refine kN_le (x := v) (y := m) hx hb 83 dX12_wantMost_75 (by decide) (by omega) (by omega) (fun c75 => ?_) (fun c75 => ?_)
                · refine lv_iload_n hx hb dX12_wantMost_83 rfl (lv_at hl 4 rfl) ?_
                  refine lv_istore_n (lv' := [(3, .int (nI m)), (2, .int w), (6, .int (nI j)), (5, .int (nI v)), (4, .int (nI i)), (0, .ref (b 0)), (1, .int (nI q))]) hx hb dX12_wantMost_84 rfl hl (by decide) rfl (fun ls hl => ?_)
                  refine lv_iinc (v := nI (i + 1)) (lv' := [(4, .int (nI (i + 1))), (3, .int (nI m)), (2, .int w), (6, .int (nI j)), (5, .int (nI v)), (0, .ref (b 0)), (1, .int (nI q))]) hx hb dX12_wantMost_85 hl (k := 4) rfl (nI_add i 1) (by decide) rfl (fun ls hl => ?_)
                  refine lv_goto (tgt := 7) hx hb dX12_wantMost_88 (by decide) ?_
                  exact ih7 (i + 1) n w m (by omega) (by omega) (by rw [← hR, wmL, hV, if_neg (by omega)]) (hm) _ (lv_sub hl [0, 1, 2, 5, 6] rfl) _ _ X
                · exact absurd c62 (by omega)
              · refine lv_iload hx hb dX12_wantMost_65 (lv_at hl 2 rfl) ?_
                refine lv_goto (tgt := 71) hx hb dX12_wantMost_67 (by decide) ?_
                refine lv_istore_n (lv' := [(2, .int (nI i)), (6, .int (nI j)), (5, .int (nI v)), (4, .int (nI i)), (3, .int (nI m)), (0, .ref (b 0)), (1, .int (nI q))]) hx hb dX12_wantMost_71 rfl hl (by decide) rfl (fun ls hl => ?_)
                refine lv_iload hx hb dX12_wantMost_72 (lv_at hl 2 rfl) ?_
                refine lv_iload_n hx hb dX12_wantMost_74 rfl (lv_at hl 4 rfl) ?_
                refine kN_le (x := v) (y := m) hx hb 83 dX12_wantMost_75 (by decide) (by omega) (by omega) (fun c75 => ?_) (fun c75 => ?_)
                · exact absurd c62 (by omega)
                · refine lv_iload hx hb dX12_wantMost_78 (lv_at hl 2 rfl) ?_
                  refine lv_goto (tgt := 84) hx hb dX12_wantMost_80 (by decide) ?_
                  refine lv_istore_n (lv' := [(3, .int (nI v)), (2, .int (nI i)), (6, .int (nI j)), (5, .int (nI v)), (4, .int (nI i)), (0, .ref (b 0)), (1, .int (nI q))]) hx hb dX12_wantMost_84 rfl hl (by decide) rfl (fun ls hl => ?_)
                  refine lv_iinc (v := nI (i + 1)) (lv' := [(4, .int (nI (i + 1))), (3, .int (nI v)), (2, .int (nI i)), (6, .int (nI j)), (5, .int (nI v)), (0, .ref (b 0)), (1, .int (nI q))]) hx hb dX12_wantMost_85 hl (k := 4) rfl (nI_add i 1) (by decide) rfl (fun ls hl => ?_)
                  refine lv_goto (tgt := 7) hx hb dX12_wantMost_88 (by decide) ?_
                  exact ih7 (i + 1) n (nI i) v (by omega) (by omega) (by rw [← hR, wmL, hV, if_pos (by omega)]) (by omega) _ (lv_sub hl [0, 1, 2, 5, 6] rfl) _ _ X
            · obtain ⟨n2, rfl⟩ : ∃ z, n2 = z + 1 := ⟨n2 - 1, by omega⟩
              refine lv_iload hx hb dX12_wantMost_31 (lv_at hl 1 rfl) ?_
              refine lv_aload_n hx hb dX12_wantMost_33 rfl (lv_at hl 5 rfl) ?_
              refine lv_iload hx hb dX12_wantMost_34 (lv_at hl 0 rfl) ?_
              refine lv_iload_n hx hb dX12_wantMost_36 rfl (lv_at hl 6 rfl) ?_
              refine k_callV K X gv_X12_52 (As := [.int (nI j), .int (nI q)]) (c_X12_wish l E b hf wf ik fd tch tp tl tk tb ta tv bad bo so ce f j q (by omega) (by omega)) [0, 1, 2, 3, 4, 5, 6, 7, 8] modW_idC (by decide +kernel) (fun _ => modW_fst) 0 12 rfl rfl (by decide) rfl hl.1 (rest := [.int (nI v)]) rfl (Nat.le_of_ble_eq_true rfl) dX12_wantMost_37 (st1 := fun _ => [.int (f 6 (10 * j + q)), .int (nI v)]) (fun _ => rfl) (fun _ H locs _ X => ?_)
              have X : Wd E _ _ (modW E b (flat f) hf wf ik fd tch tp tl tk tb ta tv bad bo so ce) _ _ := X.eq modW_idP
              refine lv_iload hx hb dX12_wantMost_40 (lv_at hl 2 rfl) ?_
              refine k_icmp_ne (x := f 6 (10 * j + q)) (y := nI i) hx hb 49 dX12_wantMost_42 (by decide) (fun c42 => ?_) (fun c42 => ?_)
              · refine lv_iconst (v := 0) hx hb dX12_wantMost_49 (by decide) ?_
                refine lv_iadd hx hb dX12_wantMost_50 ?_
                refine k_topi (nI_add v 0) ?_
                refine lv_istore (lv' := [(5, .int (nI (v + 0))), (6, .int (nI j)), (4, .int (nI i)), (3, .int (nI m)), (2, .int w), (0, .ref (b 0)), (1, .int (nI q))]) hx hb dX12_wantMost_51 hl (by decide) rfl (fun ls hl => ?_)
                refine lv_iinc (v := nI (j + 1)) (lv' := [(6, .int (nI (j + 1))), (5, .int (nI (v + 0))), (4, .int (nI i)), (3, .int (nI m)), (2, .int w), (0, .ref (b 0)), (1, .int (nI q))]) hx hb dX12_wantMost_53 hl (k := 1) rfl (nI_add j 1) (by decide) rfl (fun ls hl => ?_)
                refine lv_goto (tgt := 20) hx hb dX12_wantMost_56 (by decide) ?_
                exact ih20 (j + 1) n2 (v + 0) (by omega) (by omega) (by rw [hV]; simp [cntL, c11, c28, c42]) _ hl _ _ X
              · refine lv_iconst (v := 1) hx hb dX12_wantMost_45 (by decide) ?_
                refine lv_goto (tgt := 50) hx hb dX12_wantMost_46 (by decide) ?_
                refine lv_iadd hx hb dX12_wantMost_50 ?_
                refine k_topi (nI_add v 1) ?_
                refine lv_istore (lv' := [(5, .int (nI (v + 1))), (6, .int (nI j)), (4, .int (nI i)), (3, .int (nI m)), (2, .int w), (0, .ref (b 0)), (1, .int (nI q))]) hx hb dX12_wantMost_51 hl (by decide) rfl (fun ls hl => ?_)
                refine lv_iinc (v := nI (j + 1)) (lv' := [(6, .int (nI (j + 1))), (5, .int (nI (v + 1))), (4, .int (nI i)), (3, .int (nI m)), (2, .int w), (0, .ref (b 0)), (1, .int (nI q))]) hx hb dX12_wantMost_53 hl (k := 1) rfl (nI_add j 1) (by decide) rfl (fun ls hl => ?_)
                refine lv_goto (tgt := 20) hx hb dX12_wantMost_56 (by decide) ?_
                exact ih20 (j + 1) n2 (v + 1) (by omega) (by omega) (by rw [hV]; simp [cntL, c11, c28, c42]) _ hl _ _ X
        exact lp20 ((pe f) + 1) 0 (pe f) 0 (by omega) (by omega) (rfl) _ hl _ _ X
  exact lp7 (6 + 1) 0 6 (-1) 0 (by omega) (by omega) (rfl) (by omega) _ hl _ _ X
set_option maxRecDepth 100000 in
set_option maxHeartbeats 4000000 in
theorem c_X12_comesTo (l : Launch) (E : EE) (b : Nat → Nat) (hf : Nat → Int32) (wf : Nat → Int32) (ik : Int32) (fd : Nat → Int32) (tch : Int32) (tp : Nat → Int32) (tl : Int32) (tk : Int32) (tb : Int32) (ta : Int32) (tv : Int32) (bad : Int32) (bo : Nat → Int32) (so : Nat → Int32) (ce : Nat → Int64) (f : St) (T : Nat) (x : Int32) (y : Int32) (I : Inv T f) (hl10 : sl f < 10) : Kd l yX12_comesTo cX12_comesTo 4 (some .int) 1 23 E (modW E b (flat f) hf wf ik fd tch tp tl tk tb ta tv bad bo so ce) [.ref (b 0), .int x, .int y] (some (.int (nI (sl f)))) (modW E b (flat (addS f x y)) hf wf ik fd tch tp tl tk tb ta tv bad bo so ce) := by
  refine Kn.ofWi (by decide +kernel) (Nat.le_of_ble_eq_true rfl) (fun _ _ => rfl) ?_
  intro pg ev s0 mm below meth cd Q K X fin ls hl
  have hx := K.1
  have hb := K.2.1
  have hs10 := I.s10
  have hp6 := I.p6
  have hl : lv_has ls 4 [(0, .ref (b 0)), (1, .int x), (2, .int y)] := hl
  refine lv_aload_n hx hb dX12_comesTo_0 rfl (lv_at hl 0 rfl) ?_
  refine k_get K X 0 rfl fg_X12_9 (v := .ref (b 1)) rfl dX12_comesTo_1 ?_
  refine lv_iconst (v := 2) hx hb dX12_comesTo_4 (by decide) ?_
  refine k_ialdN K X 1 rfl (k := 2) (by omega) (by decide) dX12_comesTo_5 (v := f 0 2) rfl ?_
  refine k_topi (I.hS) ?_
  refine lv_istore_n (lv' := [(3, .int (nI (sl f))), (0, .ref (b 0)), (1, .int x), (2, .int y)]) hx hb dX12_comesTo_6 rfl hl (by decide) rfl (fun ls hl => ?_)
  refine lv_aload_n hx hb dX12_comesTo_7 rfl (lv_at hl 1 rfl) ?_
  refine k_get K X 0 rfl fg_X12_9 (v := .ref (b 1)) rfl dX12_comesTo_8 ?_
  refine lv_iconst (v := 2) hx hb dX12_comesTo_11 (by decide) ?_
  refine lv_dup2_11 hx hb dX12_comesTo_12 rfl rfl ?_
  refine k_ialdN K X 1 rfl (k := 2) (by omega) (by decide) dX12_comesTo_13 (v := f 0 2) rfl ?_
  refine k_topi (I.hS) ?_
  refine lv_iconst (v := 1) hx hb dX12_comesTo_14 (by decide) ?_
  refine lv_iadd hx hb dX12_comesTo_15 ?_
  refine k_topi (nI_add (sl f) 1) ?_
  refine k_iastN K X 1 rfl (k := 2) (x := nI (sl f + 1)) (by omega) (by decide) dX12_comesTo_16 (fun H locs X => ?_)
  have X : Wd E _ _ (modW E b (upd (flat f) 2 (nI (sl f + 1))) hf wf ik fd tch tp tl tk tb ta tv bad bo so ce) _ _ := X
  have X : Wd E _ _ (modW E b (flat (up2 f 0 2 (nI (sl f + 1)))) hf wf ik fd tch tp tl tk tb ta tv bad bo so ce) _ _ := X.eq (by rw [flat_top _ _ (by decide)])
  refine lv_aload_n hx hb dX12_comesTo_17 rfl (lv_at hl 1 rfl) ?_
  refine lv_iload_n hx hb dX12_comesTo_18 rfl (lv_at hl 0 rfl) ?_
  refine lv_iconst (v := 0) hx hb dX12_comesTo_19 (by decide) ?_
  refine lv_iload_n hx hb dX12_comesTo_20 rfl (lv_at hl 2 rfl) ?_
  refine k_callV K X gv_X12_66 (As := [.int (nI (sl f)), .int 0, .int x]) (c_X12_put0 l E b hf wf ik fd tch tp tl tk tb ta tv bad bo so ce (up2 f 0 2 (nI (sl f + 1))) (sl f) x (by omega)) [0, 1, 2, 3, 4, 5, 6, 7, 8] modW_idC (by decide +kernel) (fun _ => modW_fst) 0 12 rfl rfl (by decide) rfl hl.1 (rest := []) rfl (Nat.le_of_ble_eq_true rfl) dX12_comesTo_21 (st1 := fun _ => []) (fun _ => rfl) (fun _ H locs _ X => ?_)
  have X : Wd E _ _ (modW E b (flat (up2 (up2 f 0 2 (nI (sl f + 1))) 1 (sl f) x)) hf wf ik fd tch tp tl tk tb ta tv bad bo so ce) _ _ := X.eq modW_idP
  refine lv_aload_n hx hb dX12_comesTo_24 rfl (lv_at hl 1 rfl) ?_
  refine lv_iload_n hx hb dX12_comesTo_25 rfl (lv_at hl 0 rfl) ?_
  refine lv_iconst (v := 1) hx hb dX12_comesTo_26 (by decide) ?_
  refine lv_iconst (v := 0) hx hb dX12_comesTo_27 (by decide) ?_
  refine k_callV K X gv_X12_66 (As := [.int (nI (sl f)), .int 1, .int 0]) (c_X12_put1 l E b hf wf ik fd tch tp tl tk tb ta tv bad bo so ce (up2 (up2 f 0 2 (nI (sl f + 1))) 1 (sl f) x) (sl f) 0 (by omega)) [0, 1, 2, 3, 4, 5, 6, 7, 8] modW_idC (by decide +kernel) (fun _ => modW_fst) 0 12 rfl rfl (by decide) rfl hl.1 (rest := []) rfl (Nat.le_of_ble_eq_true rfl) dX12_comesTo_28 (st1 := fun _ => []) (fun _ => rfl) (fun _ H locs _ X => ?_)
  have X : Wd E _ _ (modW E b (flat (up2 (up2 (up2 f 0 2 (nI (sl f + 1))) 1 (sl f) x) 2 (sl f) 0)) hf wf ik fd tch tp tl tk tb ta tv bad bo so ce) _ _ := X.eq modW_idP
  refine lv_aload_n hx hb dX12_comesTo_31 rfl (lv_at hl 1 rfl) ?_
  refine lv_iload_n hx hb dX12_comesTo_32 rfl (lv_at hl 0 rfl) ?_
  refine lv_iconst (v := 2) hx hb dX12_comesTo_33 (by decide) ?_
  refine lv_iload_n hx hb dX12_comesTo_34 rfl (lv_at hl 3 rfl) ?_
  refine k_callV K X gv_X12_66 (As := [.int (nI (sl f)), .int 2, .int y]) (c_X12_put2 l E b hf wf ik fd tch tp tl tk tb ta tv bad bo so ce (up2 (up2 (up2 f 0 2 (nI (sl f + 1))) 1 (sl f) x) 2 (sl f) 0) (sl f) y (by omega)) [0, 1, 2, 3, 4, 5, 6, 7, 8] modW_idC (by decide +kernel) (fun _ => modW_fst) 0 12 rfl rfl (by decide) rfl hl.1 (rest := []) rfl (Nat.le_of_ble_eq_true rfl) dX12_comesTo_35 (st1 := fun _ => []) (fun _ => rfl) (fun _ H locs _ X => ?_)
  have X : Wd E _ _ (modW E b (flat (up2 (up2 (up2 (up2 f 0 2 (nI (sl f + 1))) 1 (sl f) x) 2 (sl f) 0) 3 (sl f) y)) hf wf ik fd tch tp tl tk tb ta tv bad bo so ce) _ _ := X.eq modW_idP
  refine lv_iload_n hx hb dX12_comesTo_38 rfl (lv_at hl 0 rfl) ?_
  exact fin () 39 _ _ _ trivial (X.eq (by rw [← addS_eq])) dX12_comesTo_39
set_option maxRecDepth 100000 in
set_option maxHeartbeats 4000000 in
theorem c_X12_comesAs (l : Launch) (E : EE) (b : Nat → Nat) (hf : Nat → Int32) (wf : Nat → Int32) (ik : Int32) (fd : Nat → Int32) (tch : Int32) (tp : Nat → Int32) (tl : Int32) (tk : Int32) (tb : Int32) (ta : Int32) (tv : Int32) (bad : Int32) (bo : Nat → Int32) (so : Nat → Int32) (ce : Nat → Int64) (f : St) (T : Nat) (x : Int32) (I : Inv T f) (hl6 : pe f < 6) : Kd l yX12_comesAs cX12_comesAs 4 (some .int) 0 0 E (modW E b (flat f) hf wf ik fd tch tp tl tk tb ta tv bad bo so ce) [.ref (b 0), .int x] (some (.int (nI (pe f)))) (modW E b (flat (addP f x)) hf wf ik fd tch tp tl tk tb ta tv bad bo so ce) := by
  refine Kn.ofWi (by decide +kernel) (Nat.le_of_ble_eq_true rfl) (fun _ _ => rfl) ?_
  intro pg ev s0 mm below meth cd Q K X fin ls hl
  have hx := K.1
  have hb := K.2.1
  have hs10 := I.s10
  have hp6 := I.p6
  have hl : lv_has ls 4 [(0, .ref (b 0)), (1, .int x)] := hl
  refine lv_aload_n hx hb dX12_comesAs_0 rfl (lv_at hl 0 rfl) ?_
  refine k_get K X 0 rfl fg_X12_9 (v := .ref (b 1)) rfl dX12_comesAs_1 ?_
  refine lv_iconst (v := 3) hx hb dX12_comesAs_4 (by decide) ?_
  refine k_ialdN K X 1 rfl (k := 3) (by omega) (by decide) dX12_comesAs_5 (v := f 0 3) rfl ?_
  refine k_topi (I.hP) ?_
  refine lv_istore_n (lv' := [(2, .int (nI (pe f))), (0, .ref (b 0)), (1, .int x)]) hx hb dX12_comesAs_6 rfl hl (by decide) rfl (fun ls hl => ?_)
  refine lv_aload_n hx hb dX12_comesAs_7 rfl (lv_at hl 1 rfl) ?_
  refine k_get K X 0 rfl fg_X12_9 (v := .ref (b 1)) rfl dX12_comesAs_8 ?_
  refine lv_iconst (v := 3) hx hb dX12_comesAs_11 (by decide) ?_
  refine lv_dup2_11 hx hb dX12_comesAs_12 rfl rfl ?_
  refine k_ialdN K X 1 rfl (k := 3) (by omega) (by decide) dX12_comesAs_13 (v := f 0 3) rfl ?_
  refine k_topi (I.hP) ?_
  refine lv_iconst (v := 1) hx hb dX12_comesAs_14 (by decide) ?_
  refine lv_iadd hx hb dX12_comesAs_15 ?_
  refine k_topi (nI_add (pe f) 1) ?_
  refine k_iastN K X 1 rfl (k := 3) (x := nI (pe f + 1)) (by omega) (by decide) dX12_comesAs_16 (fun H locs X => ?_)
  have X : Wd E _ _ (modW E b (upd (flat f) 3 (nI (pe f + 1))) hf wf ik fd tch tp tl tk tb ta tv bad bo so ce) _ _ := X
  have X : Wd E _ _ (modW E b (flat (up2 f 0 3 (nI (pe f + 1)))) hf wf ik fd tch tp tl tk tb ta tv bad bo so ce) _ _ := X.eq (by rw [flat_top _ _ (by decide)])
  refine lv_aload_n hx hb dX12_comesAs_17 rfl (lv_at hl 1 rfl) ?_
  refine k_get K X 0 rfl fg_X12_9 (v := .ref (b 1)) rfl dX12_comesAs_18 ?_
  refine lv_bipush (v := 34) hx hb dX12_comesAs_21 (by decide) ?_
  refine lv_bipush (v := 12) hx hb dX12_comesAs_23 (by decide) ?_
  refine lv_iload_n hx hb dX12_comesAs_25 rfl (lv_at hl 0 rfl) ?_
  refine lv_imul hx hb dX12_comesAs_26 ?_
  refine k_topi (pk_mul 12 (pe f)) ?_
  refine lv_iadd hx hb dX12_comesAs_27 ?_
  refine k_topi (nI_add 34 (12 * (pe f))) ?_
  refine lv_iload_n hx hb dX12_comesAs_28 rfl (lv_at hl 2 rfl) ?_
  refine k_iastN K X 1 rfl (k := 34 + 12 * (pe f)) (x := x) (by omega) (by decide) dX12_comesAs_29 (fun H locs X => ?_)
  have X : Wd E _ _ (modW E b (upd (flat (up2 f 0 3 (nI (pe f + 1)))) (34 + 12 * (pe f)) x) hf wf ik fd tch tp tl tk tb ta tv bad bo so ce) _ _ := X
  have X : Wd E _ _ (modW E b (flat (up2 (up2 f 0 3 (nI (pe f + 1))) 4 (pe f) x)) hf wf ik fd tch tp tl tk tb ta tv bad bo so ce) _ _ := X.eq (by rw [flat_kind])
  refine lv_aload_n hx hb dX12_comesAs_30 rfl (lv_at hl 1 rfl) ?_
  refine k_get K X 0 rfl fg_X12_9 (v := .ref (b 1)) rfl dX12_comesAs_31 ?_
  refine lv_bipush (v := 34) hx hb dX12_comesAs_34 (by decide) ?_
  refine lv_bipush (v := 12) hx hb dX12_comesAs_36 (by decide) ?_
  refine lv_iload_n hx hb dX12_comesAs_38 rfl (lv_at hl 0 rfl) ?_
  refine lv_imul hx hb dX12_comesAs_39 ?_
  refine k_topi (pk_mul 12 (pe f)) ?_
  refine lv_iadd hx hb dX12_comesAs_40 ?_
  refine k_topi (nI_add 34 (12 * (pe f))) ?_
  refine lv_iconst (v := 1) hx hb dX12_comesAs_41 (by decide) ?_
  refine lv_iadd hx hb dX12_comesAs_42 ?_
  refine k_topi (nI_add (34 + 12 * (pe f)) 1) ?_
  refine lv_iconst (v := 0) hx hb dX12_comesAs_43 (by decide) ?_
  refine k_iastN K X 1 rfl (k := 34 + 12 * (pe f) + 1) (x := 0) (by omega) (by decide) dX12_comesAs_44 (fun H locs X => ?_)
  have X : Wd E _ _ (modW E b (upd (flat (up2 (up2 f 0 3 (nI (pe f + 1))) 4 (pe f) x)) (34 + 12 * (pe f) + 1) 0) hf wf ik fd tch tp tl tk tb ta tv bad bo so ce) _ _ := X
  have X : Wd E _ _ (modW E b (flat (up2 (up2 (up2 f 0 3 (nI (pe f + 1))) 4 (pe f) x) 5 (pe f) 0)) hf wf ik fd tch tp tl tk tb ta tv bad bo so ce) _ _ := X.eq (by rw [flat_out])
  refine lv_iconst (v := 0) hx hb dX12_comesAs_45 (by decide) ?_
  refine lv_istore_n (lv' := [(3, .int 0), (2, .int (nI (pe f))), (0, .ref (b 0)), (1, .int x)]) hx hb dX12_comesAs_46 rfl hl (by decide) rfl (fun ls hl => ?_)
  have lp47 : ∀ (fu : Nat) (i : Nat) (n : Nat) (g : St) (hfu : n < fu) (hin : i + n = 10) (hR : wishL (pe f) n i g = wishL (pe f) 10 0 (up2 (up2 (up2 f 0 3 (nI (pe f + 1))) 4 (pe f) x) 5 (pe f) 0)) (ls : Array Slot) (hl : lv_has ls 4 [(3, .int (nI i)), (2, .int (nI (pe f))), (0, .ref (b 0)), (1, .int x)]) (H : Heap) (locs : List Loc) (X : Wd E (inW (modW E b (flat f) hf wf ik fd tch tp tl tk tb ta tv bad bo so ce)) s0.heap (modW E b (flat g) hf wf ik fd tch tp tl tk tb ta tv bad bo so ce) H locs), W pg l ev (rmK 0 0) s0 mm ([.ref (b 0), .int x] : List Value).toArray below meth cd H locs 0 0 Q (F0 mm 47 ls []) := by
    intro fu
    induction fu with
    | zero => intro i n g hfu; exact absurd hfu (Nat.not_lt_zero _)
    | succ fu ih47 =>
      intro i n g hfu hin hR ls hl H locs X
      refine lv_iload_n hx hb dX12_comesAs_47 rfl (lv_at hl 0 rfl) ?_
      refine lv_bipush (v := 10) hx hb dX12_comesAs_48 (by decide) ?_
      refine kN_ge (x := i) (y := 10) hx hb 79 dX12_comesAs_50 (by decide) (by omega) (by omega) (fun c50 => ?_) (fun c50 => ?_)
      · obtain rfl : n = 0 := by omega
        refine lv_iload_n hx hb dX12_comesAs_79 rfl (lv_at hl 1 rfl) ?_
        exact fin () 80 _ _ _ trivial (X.eq (by rw [← addP_eq, ← hR]; rfl)) dX12_comesAs_80
      · obtain ⟨n, rfl⟩ : ∃ z, n = z + 1 := ⟨n - 1, by omega⟩
        refine lv_aload_n hx hb dX12_comesAs_53 rfl (lv_at hl 2 rfl) ?_
        refine k_get K X 0 rfl fg_X12_9 (v := .ref (b 1)) rfl dX12_comesAs_54 ?_
        refine lv_bipush (v := 34) hx hb dX12_comesAs_57 (by decide) ?_
        refine lv_bipush (v := 12) hx hb dX12_comesAs_59 (by decide) ?_
        refine lv_iload_n hx hb dX12_comesAs_61 rfl (lv_at hl 1 rfl) ?_
        refine lv_imul hx hb dX12_comesAs_62 ?_
        refine k_topi (pk_mul 12 (pe f)) ?_
        refine lv_iadd hx hb dX12_comesAs_63 ?_
        refine k_topi (nI_add 34 (12 * (pe f))) ?_
        refine lv_iconst (v := 2) hx hb dX12_comesAs_64 (by decide) ?_
        refine lv_iadd hx hb dX12_comesAs_65 ?_
        refine k_topi (nI_add (34 + 12 * (pe f)) 2) ?_
        refine lv_iload_n hx hb dX12_comesAs_66 rfl (lv_at hl 0 rfl) ?_
        refine lv_iadd hx hb dX12_comesAs_67 ?_
        refine k_topi (nI_add (34 + 12 * (pe f) + 2) i) ?_
        refine lv_iload_n hx hb dX12_comesAs_68 rfl (lv_at hl 0 rfl) ?_
        refine lv_bipush (v := 6) hx hb dX12_comesAs_69 (by decide) ?_
        refine lv_irem hx hb dX12_comesAs_71 (by decide) ?_
        refine k_topi (pk_rem (a := i) (d := 6) (by omega) (by omega) (by omega)) ?_
        refine k_iastN K X 1 rfl (k := 34 + 12 * (pe f) + 2 + i) (x := nI (i % 6)) (by omega) (by decide) dX12_comesAs_72 (fun H locs X => ?_)
        have X : Wd E _ _ (modW E b (upd (flat g) (34 + 12 * (pe f) + 2 + i) (nI (i % 6))) hf wf ik fd tch tp tl tk tb ta tv bad bo so ce) _ _ := X
        have X : Wd E _ _ (modW E b (flat (up2 g 6 (10 * (pe f) + i) (nI (i % 6)))) hf wf ik fd tch tp tl tk tb ta tv bad bo so ce) _ _ := X.eq (by rw [flat_wish _ _ (by omega)])
        refine lv_iinc (v := nI (i + 1)) (lv' := [(3, .int (nI (i + 1))), (2, .int (nI (pe f))), (0, .ref (b 0)), (1, .int x)]) hx hb dX12_comesAs_73 hl (k := 0) rfl (nI_add i 1) (by decide) rfl (fun ls hl => ?_)
        refine lv_goto (tgt := 47) hx hb dX12_comesAs_76 (by decide) ?_
        exact ih47 (i + 1) n (up2 g 6 (10 * (pe f) + i) (nI (i % 6))) (by omega) (by omega) (hR) _ hl _ _ X
  exact lp47 (10 + 1) 0 10 (up2 (up2 (up2 f 0 3 (nI (pe f + 1))) 4 (pe f) x) 5 (pe f) 0) (by omega) (by omega) (rfl) _ hl _ _ X
set_option maxRecDepth 100000 in
set_option maxHeartbeats 4000000 in
theorem c_X12_doesFixF (l : Launch) (E : EE) (b : Nat → Nat) (hf : Nat → Int32) (wf : Nat → Int32) (ik : Int32) (fd : Nat → Int32) (tch : Int32) (tp : Nat → Int32) (tl : Int32) (tk : Int32) (tb : Int32) (ta : Int32) (tv : Int32) (bad : Int32) (bo : Nat → Int32) (so : Nat → Int32) (ce : Nat → Int64) (f : St) (p : Nat) (q : Nat) (hp : p < 6) (hq : q < 10) (hkk : f 4 p = nI (kn f p)) (hk6 : kn f p < 6) : Kd l yX12_doesFix cX12_doesFix 3 (some .boolean) 1 22 E (modW E b (flat f) hf wf ik fd tch tp tl tk tb ta tv bad bo so ce) [.ref (b 0), .int (nI p), .int (nI q)] (some (.int (b2i (fixS (kn f p) (f 2 q))))) (modW E b (flat f) hf wf ik fd tch tp tl tk tb ta tv bad bo so ce) := by
  refine Kn.ofWi (by decide +kernel) (Nat.le_of_ble_eq_true rfl) (fun _ _ => b2i_nar _) ?_
  intro pg ev s0 mm below meth cd Q K X fin ls hl
  have hx := K.1
  have hb := K.2.1
  have hfi : fixS (kn f p) (f 2 q) = (decide (kn f p = 3) || (decide (kn f p = 4) && !decide (f 2 q < 5))) := by unfold fixS; split <;> simp_all
  have hl : lv_has ls 3 [(0, .ref (b 0)), (1, .int (nI p)), (2, .int (nI q))] := hl
  refine lv_aload_n hx hb dX12_doesFix_0 rfl (lv_at hl 0 rfl) ?_
  refine lv_iload_n hx hb dX12_doesFix_1 rfl (lv_at hl 1 rfl) ?_
  refine lv_iconst (v := 0) hx hb dX12_doesFix_2 (by decide) ?_
  refine k_callV K X gv_X12_45 (As := [.int (nI p), .int 0]) (c_X12_who0 l E b hf wf ik fd tch tp tl tk tb ta tv bad bo so ce f p (by omega)) [0, 1, 2, 3, 4, 5, 6, 7, 8] modW_idC (by decide +kernel) (fun _ => modW_fst) 0 12 rfl rfl (by decide) rfl hl.1 (rest := []) rfl (Nat.le_of_ble_eq_true rfl) dX12_doesFix_3 (st1 := fun _ => [.int (f 4 p)]) (fun _ => rfl) (fun _ H locs _ X => ?_)
  have X : Wd E _ _ (modW E b (flat f) hf wf ik fd tch tp tl tk tb ta tv bad bo so ce) _ _ := X.eq modW_idP
  refine k_topi (hkk) ?_
  refine lv_iconst (v := 3) hx hb dX12_doesFix_6 (by decide) ?_
  refine kN_eq (x := kn f p) (y := 3) hx hb 30 dX12_doesFix_7 (by decide) (by omega) (by omega) (fun c7 => ?_) (fun c7 => ?_)
  · refine lv_iconst (v := 1) hx hb dX12_doesFix_30 (by decide) ?_
    refine lv_goto (tgt := 35) hx hb dX12_doesFix_31 (by decide) ?_
    exact k_topi (x' := b2i (fixS (kn f p) (f 2 q))) (by rw [hfi]; simp [b2i, c7]) (fin () 35 _ _ _ trivial X dX12_doesFix_35)
  · refine lv_aload_n hx hb dX12_doesFix_10 rfl (lv_at hl 0 rfl) ?_
    refine lv_iload_n hx hb dX12_doesFix_11 rfl (lv_at hl 1 rfl) ?_
    refine lv_iconst (v := 0) hx hb dX12_doesFix_12 (by decide) ?_
    refine k_callV K X gv_X12_45 (As := [.int (nI p), .int 0]) (c_X12_who0 l E b hf wf ik fd tch tp tl tk tb ta tv bad bo so ce f p (by omega)) [0, 1, 2, 3, 4, 5, 6, 7, 8] modW_idC (by decide +kernel) (fun _ => modW_fst) 0 12 rfl rfl (by decide) rfl hl.1 (rest := []) rfl (Nat.le_of_ble_eq_true rfl) dX12_doesFix_13 (st1 := fun _ => [.int (f 4 p)]) (fun _ => rfl) (fun _ H locs _ X => ?_)
    have X : Wd E _ _ (modW E b (flat f) hf wf ik fd tch tp tl tk tb ta tv bad bo so ce) _ _ := X.eq modW_idP
    refine k_topi (hkk) ?_
    refine lv_iconst (v := 4) hx hb dX12_doesFix_16 (by decide) ?_
    refine kN_ne (x := kn f p) (y := 4) hx hb 34 dX12_doesFix_17 (by decide) (by omega) (by omega) (fun c17 => ?_) (fun c17 => ?_)
    · refine lv_iconst (v := 0) hx hb dX12_doesFix_34 (by decide) ?_
      exact k_topi (x' := b2i (fixS (kn f p) (f 2 q))) (by rw [hfi]; simp [b2i, c7, c17]) (fin () 35 _ _ _ trivial X dX12_doesFix_35)
    · refine lv_aload_n hx hb dX12_doesFix_20 rfl (lv_at hl 0 rfl) ?_
      refine lv_iload_n hx hb dX12_doesFix_21 rfl (lv_at hl 2 rfl) ?_
      refine lv_iconst (v := 1) hx hb dX12_doesFix_22 (by decide) ?_
      refine k_callV K X gv_X12_49 (As := [.int (nI q), .int 1]) (c_X12_it1 l E b hf wf ik fd tch tp tl tk tb ta tv bad bo so ce f q (by omega)) [0, 1, 2, 3, 4, 5, 6, 7, 8] modW_idC (by decide +kernel) (fun _ => modW_fst) 0 12 rfl rfl (by decide) rfl hl.1 (rest := []) rfl (Nat.le_of_ble_eq_true rfl) dX12_doesFix_23 (st1 := fun _ => [.int (f 2 q)]) (fun _ => rfl) (fun _ H locs _ X => ?_)
      have X : Wd E _ _ (modW E b (flat f) hf wf ik fd tch tp tl tk tb ta tv bad bo so ce) _ _ := X.eq modW_idP
      refine lv_iconst (v := 5) hx hb dX12_doesFix_26 (by decide) ?_
      refine k_icmp_lt (x := f 2 q) (y := 5) hx hb 34 dX12_doesFix_27 (by decide) (fun c27 => ?_) (fun c27 => ?_)
      · refine lv_iconst (v := 0) hx hb dX12_doesFix_34 (by decide) ?_
        exact k_topi (x' := b2i (fixS (kn f p) (f 2 q))) (by rw [hfi]; simp [b2i, c7, c17, c27]) (fin () 35 _ _ _ trivial X dX12_doesFix_35)
      · refine lv_iconst (v := 1) hx hb dX12_doesFix_30 (by decide) ?_
        refine lv_goto (tgt := 35) hx hb dX12_doesFix_31 (by decide) ?_
        exact k_topi (x' := b2i (fixS (kn f p) (f 2 q))) (by rw [hfi]; simp [b2i, c7, c17, c27]) (fin () 35 _ _ _ trivial X dX12_doesFix_35)
set_option maxRecDepth 100000 in
set_option maxHeartbeats 4000000 in
theorem c_X12_movesOne (l : Launch) (E : EE) (b : Nat → Nat) (hf : Nat → Int32) (wf : Nat → Int32) (ik : Int32) (fd : Nat → Int32) (tch : Int32) (tp : Nat → Int32) (tl : Int32) (tk : Int32) (tb : Int32) (ta : Int32) (tv : Int32) (bad : Int32) (bo : Nat → Int32) (so : Nat → Int32) (ce : Nat → Int64) (f : St) (T : Nat) (p : Nat) (I : Inv T f) (hp : p < 6) : Kd l yX12_movesOne cX12_movesOne 3 none 3 71 E (modW E b (flat f) hf wf ik fd tch tp tl tk tb ta tv bad bo so ce) [.ref (b 0), .int (nI p)] none (modW E b (flat ((turnL p 1 f tch).1)) hf wf ik fd ((turnL p 1 f tch).2) tp tl tk tb ta tv bad bo so ce) := by
  refine Kn.ofWv (by decide +kernel) (Nat.le_of_ble_eq_true rfl) ?_
  intro pg ev s0 mm below meth cd Q K X fin ls hl
  have hx := K.1
  have hb := K.2.1
  have hs10 := I.s10
  have hp6 := I.p6
  have hl : lv_has ls 3 [(0, .ref (b 0)), (1, .int (nI p))] := hl
  refine lv_aload_n hx hb dX12_movesOne_0 rfl (lv_at hl 0 rfl) ?_
  refine lv_iload_n hx hb dX12_movesOne_1 rfl (lv_at hl 1 rfl) ?_
  refine k_callV K X gv_X12_106 (As := [.int (nI p)]) (c_X12_picked l E b hf wf ik fd tch tp tl tk tb ta tv bad bo so ce f T p I (by omega)) [0, 1, 2, 3, 4, 5, 6, 7, 8] modW_idC (by decide +kernel) (fun _ => modW_fst) 0 12 rfl rfl (by decide) rfl hl.1 (rest := []) rfl (Nat.le_of_ble_eq_true rfl) dX12_movesOne_2 (st1 := fun _ => [.int (pickF f p)]) (fun _ => rfl) (fun _ H locs _ X => ?_)
  have X : Wd E _ _ (modW E b (flat f) hf wf ik fd tch tp tl tk tb ta tv bad bo so ce) _ _ := X.eq modW_idP
  refine lv_istore_n (lv' := [(2, .int (pickF f p)), (0, .ref (b 0)), (1, .int (nI p))]) hx hb dX12_movesOne_5 rfl hl (by decide) rfl (fun ls hl => ?_)
  refine lv_iload_n hx hb dX12_movesOne_6 rfl (lv_at hl 0 rfl) ?_
  refine k_if_lt (x := pickF f p) hx hb 75 dX12_movesOne_7 (by decide) (fun c7 => ?_) (fun c7 => ?_)
  · have hp1 : pickF f p = -1 := Classical.byContradiction (fun h => by obtain ⟨j, hj, e⟩ := pick_nat h; rw [e] at c7; exact nI_pos (by omega) c7)
    exact fin () 75 _ _ _ trivial (X.eq (by rw [turnL, if_pos hp1, turnL])) dX12_movesOne_75
  · have hp1 : ¬ pickF f p = -1 := fun e => c7 (by rw [e]; decide)
    obtain ⟨j, hj, ej⟩ := pick_nat hp1
    refine lv_aload_n hx hb dX12_movesOne_10 rfl (lv_at hl 1 rfl) ?_
    refine lv_iload_n hx hb dX12_movesOne_11 rfl (lv_at hl 0 rfl) ?_
    refine k_topi (ej) ?_
    refine lv_iconst (v := 0) hx hb dX12_movesOne_12 (by decide) ?_
    refine lv_aload_n hx hb dX12_movesOne_13 rfl (lv_at hl 1 rfl) ?_
    refine lv_iload_n hx hb dX12_movesOne_14 rfl (lv_at hl 2 rfl) ?_
    refine lv_iload_n hx hb dX12_movesOne_15 rfl (lv_at hl 0 rfl) ?_
    refine k_topi (ej) ?_
    refine k_callV K X gv_X12_52 (As := [.int (nI p), .int (nI j)]) (c_X12_wish l E b hf wf ik fd tch tp tl tk tb ta tv bad bo so ce f p j (by omega) (by omega)) [0, 1, 2, 3, 4, 5, 6, 7, 8] modW_idC (by decide +kernel) (fun _ => modW_fst) 0 12 rfl rfl (by decide) rfl hl.1 (rest := [.int 0, .int (nI j), .ref (b 0)]) rfl (Nat.le_of_ble_eq_true rfl) dX12_movesOne_16 (st1 := fun _ => [.int (f 6 (10 * p + j)), .int 0, .int (nI j), .ref (b 0)]) (fun _ => rfl) (fun _ H locs _ X => ?_)
    have X : Wd E _ _ (modW E b (flat f) hf wf ik fd tch tp tl tk tb ta tv bad bo so ce) _ _ := X.eq modW_idP
    refine k_callV K X gv_X12_66 (As := [.int (nI j), .int 0, .int (f 6 (10 * p + j))]) (c_X12_put0 l E b hf wf ik fd tch tp tl tk tb ta tv bad bo so ce f j (f 6 (10 * p + j)) (by omega)) [0, 1, 2, 3, 4, 5, 6, 7, 8] modW_idC (by decide +kernel) (fun _ => modW_fst) 0 12 rfl rfl (by decide) rfl hl.1 (rest := []) rfl (Nat.le_of_ble_eq_true rfl) dX12_movesOne_19 (st1 := fun _ => []) (fun _ => rfl) (fun _ H locs _ X => ?_)
    have X : Wd E _ _ (modW E b (flat (up2 f 1 j (f 6 (10 * p + j)))) hf wf ik fd tch tp tl tk tb ta tv bad bo so ce) _ _ := X.eq modW_idP
    refine lv_aload_n hx hb dX12_movesOne_22 rfl (lv_at hl 1 rfl) ?_
    refine lv_iload_n hx hb dX12_movesOne_23 rfl (lv_at hl 0 rfl) ?_
    refine k_topi (ej) ?_
    refine lv_iconst (v := 1) hx hb dX12_movesOne_24 (by decide) ?_
    refine lv_aload_n hx hb dX12_movesOne_25 rfl (lv_at hl 1 rfl) ?_
    refine lv_iload_n hx hb dX12_movesOne_26 rfl (lv_at hl 0 rfl) ?_
    refine k_topi (ej) ?_
    refine lv_iconst (v := 1) hx hb dX12_movesOne_27 (by decide) ?_
    refine k_callV K X gv_X12_49 (As := [.int (nI j), .int 1]) (c_X12_it1 l E b hf wf ik fd tch tp tl tk tb ta tv bad bo so ce (up2 f 1 j (f 6 (10 * p + j))) j (by omega)) [0, 1, 2, 3, 4, 5, 6, 7, 8] modW_idC (by decide +kernel) (fun _ => modW_fst) 0 12 rfl rfl (by decide) rfl hl.1 (rest := [.int 1, .int (nI j), .ref (b 0)]) rfl (Nat.le_of_ble_eq_true rfl) dX12_movesOne_28 (st1 := fun _ => [.int (f 2 j), .int 1, .int (nI j), .ref (b 0)]) (fun _ => rfl) (fun _ H locs _ X => ?_)
    have X : Wd E _ _ (modW E b (flat (up2 f 1 j (f 6 (10 * p + j)))) hf wf ik fd tch tp tl tk tb ta tv bad bo so ce) _ _ := X.eq modW_idP
    refine lv_iconst (v := 1) hx hb dX12_movesOne_31 (by decide) ?_
    refine lv_iadd hx hb dX12_movesOne_32 ?_
    refine lv_iconst (v := 0) hx hb dX12_movesOne_33 (by decide) ?_
    refine lv_sipush (v := 999) hx hb dX12_movesOne_34 (by decide) ?_
    refine k_callS K X gs_X12_119 (As := [.int ((f 2 j) + 1), .int 0, .int 999]) (c_X12_held l E ((f 2 j) + 1) (by obtain ⟨v, h1, h2⟩ := I.mv (s := j) (by omega); rw [h2, nI_1]; exact nI_pos (by omega))) [] rfl (by decide +kernel) (fun _ => rfl) (by decide) rfl hl.1 (rest := [.int 1, .int (nI j), .ref (b 0)]) rfl (Nat.le_of_ble_eq_true rfl) dX12_movesOne_37 (st1 := fun _ => [.int (heldF ((f 2 j) + 1)), .int 1, .int (nI j), .ref (b 0)]) (fun _ => rfl) (fun _ H locs _ X => ?_)
    have X : Wd E _ _ (modW E b (flat (up2 f 1 j (f 6 (10 * p + j)))) hf wf ik fd tch tp tl tk tb ta tv bad bo so ce) _ _ := X
    refine k_callV K X gv_X12_66 (As := [.int (nI j), .int 1, .int (heldF ((f 2 j) + 1))]) (c_X12_put1 l E b hf wf ik fd tch tp tl tk tb ta tv bad bo so ce (up2 f 1 j (f 6 (10 * p + j))) j (heldF ((f 2 j) + 1)) (by omega)) [0, 1, 2, 3, 4, 5, 6, 7, 8] modW_idC (by decide +kernel) (fun _ => modW_fst) 0 12 rfl rfl (by decide) rfl hl.1 (rest := []) rfl (Nat.le_of_ble_eq_true rfl) dX12_movesOne_40 (st1 := fun _ => []) (fun _ => rfl) (fun _ H locs _ X => ?_)
    have X : Wd E _ _ (modW E b (flat (up2 (up2 f 1 j (f 6 (10 * p + j))) 2 j (heldF ((f 2 j) + 1)))) hf wf ik fd tch tp tl tk tb ta tv bad bo so ce) _ _ := X.eq modW_idP
    refine lv_aload_n hx hb dX12_movesOne_43 rfl (lv_at hl 1 rfl) ?_
    refine lv_iload_n hx hb dX12_movesOne_44 rfl (lv_at hl 0 rfl) ?_
    refine k_topi (ej) ?_
    refine lv_iconst (v := 2) hx hb dX12_movesOne_45 (by decide) ?_
    refine lv_aload_n hx hb dX12_movesOne_46 rfl (lv_at hl 1 rfl) ?_
    refine lv_iload_n hx hb dX12_movesOne_47 rfl (lv_at hl 2 rfl) ?_
    refine lv_iload_n hx hb dX12_movesOne_48 rfl (lv_at hl 0 rfl) ?_
    refine k_topi (ej) ?_
    refine k_callV K X gv_X12_123 (As := [.int (nI p), .int (nI j)]) (c_X12_doesFixF l E b hf wf ik fd tch tp tl tk tb ta tv bad bo so ce (up2 (up2 f 1 j (f 6 (10 * p + j))) 2 j (heldF ((f 2 j) + 1))) p j (by omega) (by omega) (I.hK hp) (I.k6 hp)) [0, 1, 2, 3, 4, 5, 6, 7, 8] modW_idC (by decide +kernel) (fun _ => modW_fst) 0 12 rfl rfl (by decide) rfl hl.1 (rest := [.int 2, .int (nI j), .ref (b 0)]) rfl (Nat.le_of_ble_eq_true rfl) dX12_movesOne_49 (st1 := fun _ => [.int (b2i (fixS (kn (up2 (up2 f 1 j (f 6 (10 * p + j))) 2 j (heldF ((f 2 j) + 1))) p) ((up2 (up2 f 1 j (f 6 (10 * p + j))) 2 j (heldF ((f 2 j) + 1))) 2 j))), .int 2, .int (nI j), .ref (b 0)]) (fun _ => rfl) (fun _ H locs _ X => ?_)
    have X : Wd E _ _ (modW E b (flat (up2 (up2 f 1 j (f 6 (10 * p + j))) 2 j (heldF ((f 2 j) + 1)))) hf wf ik fd tch tp tl tk tb ta tv bad bo so ce) _ _ := X.eq modW_idP
    refine k_topi (show _ = b2i (fixS (kn f p) (heldF (f 2 j + 1))) by rw [up2_ap, if_pos ⟨rfl, rfl⟩]; rfl) ?_
    refine k_ifeqB (B := (fixS (kn f p) (heldF (f 2 j + 1)))) hx hb 59 dX12_movesOne_52 (by decide) (fun c52 => ?_) (fun c52 => ?_)
    · refine lv_iconst (v := 0) hx hb dX12_movesOne_59 (by decide) ?_
      refine k_callV K X gv_X12_66 (As := [.int (nI j), .int 2, .int 0]) (c_X12_put2 l E b hf wf ik fd tch tp tl tk tb ta tv bad bo so ce (up2 (up2 f 1 j (f 6 (10 * p + j))) 2 j (heldF ((f 2 j) + 1))) j 0 (by omega)) [0, 1, 2, 3, 4, 5, 6, 7, 8] modW_idC (by decide +kernel) (fun _ => modW_fst) 0 12 rfl rfl (by decide) rfl hl.1 (rest := []) rfl (Nat.le_of_ble_eq_true rfl) dX12_movesOne_60 (st1 := fun _ => []) (fun _ => rfl) (fun _ H locs _ X => ?_)
      have X : Wd E _ _ (modW E b (flat (up2 (up2 (up2 f 1 j (f 6 (10 * p + j))) 2 j (heldF ((f 2 j) + 1))) 3 j 0)) hf wf ik fd tch tp tl tk tb ta tv bad bo so ce) _ _ := X.eq modW_idP
      refine lv_aload_n hx hb dX12_movesOne_63 rfl (lv_at hl 1 rfl) ?_
      refine lv_dup hx hb dX12_movesOne_64 rfl ?_
      refine k_get K X 0 rfl fg_X12_126 (v := .int tch) rfl dX12_movesOne_65 ?_
      refine lv_iconst (v := 1) hx hb dX12_movesOne_68 (by decide) ?_
      refine lv_iload_n hx hb dX12_movesOne_69 rfl (lv_at hl 0 rfl) ?_
      refine k_topi (ej) ?_
      refine lv_ishl hx hb dX12_movesOne_70 ?_
      refine lv_ior hx hb dX12_movesOne_71 ?_
      refine k_put K X 0 rfl fp_X12_126 (v := .int (tch ||| (1 <<< ((nI j) &&& 31)))) rfl rfl (Nat.le_of_ble_eq_true rfl) dX12_movesOne_72 (fun H locs X => ?_)
      have X : Wd E _ _ (modW E b (flat (up2 (up2 (up2 f 1 j (f 6 (10 * p + j))) 2 j (heldF ((f 2 j) + 1))) 3 j 0)) hf wf ik fd (tch ||| (1 <<< ((nI j) &&& 31))) tp tl tk tb ta tv bad bo so ce) _ _ := X
      exact fin () 75 _ _ _ trivial (X.eq (by rw [turnL, if_neg hp1, turnL, ej, nI_clamp (by omega)]; simp [shiftF, b2i, c52])) dX12_movesOne_75
    · refine lv_iconst (v := 1) hx hb dX12_movesOne_55 (by decide) ?_
      refine lv_goto (tgt := 60) hx hb dX12_movesOne_56 (by decide) ?_
      refine k_callV K X gv_X12_66 (As := [.int (nI j), .int 2, .int 1]) (c_X12_put2 l E b hf wf ik fd tch tp tl tk tb ta tv bad bo so ce (up2 (up2 f 1 j (f 6 (10 * p + j))) 2 j (heldF ((f 2 j) + 1))) j 1 (by omega)) [0, 1, 2, 3, 4, 5, 6, 7, 8] modW_idC (by decide +kernel) (fun _ => modW_fst) 0 12 rfl rfl (by decide) rfl hl.1 (rest := []) rfl (Nat.le_of_ble_eq_true rfl) dX12_movesOne_60 (st1 := fun _ => []) (fun _ => rfl) (fun _ H locs _ X => ?_)
      have X : Wd E _ _ (modW E b (flat (up2 (up2 (up2 f 1 j (f 6 (10 * p + j))) 2 j (heldF ((f 2 j) + 1))) 3 j 1)) hf wf ik fd tch tp tl tk tb ta tv bad bo so ce) _ _ := X.eq modW_idP
      refine lv_aload_n hx hb dX12_movesOne_63 rfl (lv_at hl 1 rfl) ?_
      refine lv_dup hx hb dX12_movesOne_64 rfl ?_
      refine k_get K X 0 rfl fg_X12_126 (v := .int tch) rfl dX12_movesOne_65 ?_
      refine lv_iconst (v := 1) hx hb dX12_movesOne_68 (by decide) ?_
      refine lv_iload_n hx hb dX12_movesOne_69 rfl (lv_at hl 0 rfl) ?_
      refine k_topi (ej) ?_
      refine lv_ishl hx hb dX12_movesOne_70 ?_
      refine lv_ior hx hb dX12_movesOne_71 ?_
      refine k_put K X 0 rfl fp_X12_126 (v := .int (tch ||| (1 <<< ((nI j) &&& 31)))) rfl rfl (Nat.le_of_ble_eq_true rfl) dX12_movesOne_72 (fun H locs X => ?_)
      have X : Wd E _ _ (modW E b (flat (up2 (up2 (up2 f 1 j (f 6 (10 * p + j))) 2 j (heldF ((f 2 j) + 1))) 3 j 1)) hf wf ik fd (tch ||| (1 <<< ((nI j) &&& 31))) tp tl tk tb ta tv bad bo so ce) _ _ := X
      exact fin () 75 _ _ _ trivial (X.eq (by rw [turnL, if_neg hp1, turnL, ej, nI_clamp (by omega)]; simp [shiftF, b2i, c52])) dX12_movesOne_75
set_option maxRecDepth 100000 in
set_option maxHeartbeats 4000000 in
theorem c_X12_goes (l : Launch) (E : EE) (b : Nat → Nat) (hf : Nat → Int32) (wf : Nat → Int32) (ik : Int32) (fd : Nat → Int32) (tch : Int32) (tp : Nat → Int32) (tl : Int32) (tk : Int32) (tb : Int32) (ta : Int32) (tv : Int32) (bad : Int32) (bo : Nat → Int32) (so : Nat → Int32) (ce : Nat → Int64) (f : St) (T : Nat) (I : Inv T f) (hT : T < 1000000) : Kd l yX12_goes cX12_goes 3 none 4 93 E (modW E b (flat f) hf wf ik fd tch tp tl tk tb ta tv bad bo so ce) [.ref (b 0)] none (modW E b (flat (goF f)) hf wf ik fd (tcF f) tp tl tk tb ta tv bad bo so ce) := by
  refine Kn.ofWv (by decide +kernel) (Nat.le_of_ble_eq_true rfl) ?_
  intro pg ev s0 mm below meth cd Q K X fin ls hl
  have hx := K.1
  have hb := K.2.1
  have hs10 := I.s10
  have hp6 := I.p6
  have hmT := I.mT
  have e0 : nI (mn f + 1) = f 0 0 + 1 := by rw [I.hM, nI_1]
  have hl : lv_has ls 3 [(0, .ref (b 0))] := hl
  refine lv_aload_n hx hb dX12_goes_0 rfl (lv_at hl 0 rfl) ?_
  refine lv_iconst (v := 0) hx hb dX12_goes_1 (by decide) ?_
  refine k_put K X 0 rfl fp_X12_126 (v := .int 0) rfl rfl (Nat.le_of_ble_eq_true rfl) dX12_goes_2 (fun H locs X => ?_)
  have X : Wd E _ _ (modW E b (flat f) hf wf ik fd 0 tp tl tk tb ta tv bad bo so ce) _ _ := X
  refine lv_aload_n hx hb dX12_goes_5 rfl (lv_at hl 0 rfl) ?_
  refine k_get K X 0 rfl fg_X12_9 (v := .ref (b 1)) rfl dX12_goes_6 ?_
  refine lv_iconst (v := 3) hx hb dX12_goes_9 (by decide) ?_
  refine k_ialdN K X 1 rfl (k := 3) (by omega) (by decide) dX12_goes_10 (v := f 0 3) rfl ?_
  refine k_topi (I.hP) ?_
  refine kN0_ne (x := pe f) hx hb 18 dX12_goes_11 (by decide) (by omega) (fun c11 => ?_) (fun c11 => ?_)
  · have htn := tnF_lt (f := f) c11
    refine lv_aload_n hx hb dX12_goes_18 rfl (lv_at hl 0 rfl) ?_
    refine k_get K X 0 rfl fg_X12_9 (v := .ref (b 1)) rfl dX12_goes_19 ?_
    refine lv_iconst (v := 0) hx hb dX12_goes_22 (by decide) ?_
    refine k_ialdN K X 1 rfl (k := 0) (by omega) (by decide) dX12_goes_23 (v := f 0 0) rfl ?_
    refine k_topi (I.hM) ?_
    refine lv_aload_n hx hb dX12_goes_24 rfl (lv_at hl 0 rfl) ?_
    refine k_get K X 0 rfl fg_X12_9 (v := .ref (b 1)) rfl dX12_goes_25 ?_
    refine lv_iconst (v := 3) hx hb dX12_goes_28 (by decide) ?_
    refine k_ialdN K X 1 rfl (k := 3) (by omega) (by decide) dX12_goes_29 (v := f 0 3) rfl ?_
    refine k_topi (I.hP) ?_
    refine lv_irem hx hb dX12_goes_30 (nI_ne0 (by omega) (by omega)) ?_
    refine k_topi (pk_rem (a := mn f) (d := pe f) (by omega) (by omega) (by omega)) ?_
    refine lv_istore_n (lv' := [(1, .int (nI (tnF f))), (0, .ref (b 0))]) hx hb dX12_goes_31 rfl hl (by decide) rfl (fun ls hl => ?_)
    refine lv_iload_n hx hb dX12_goes_32 rfl (lv_at hl 0 rfl) ?_
    refine kN0_lt (x := tnF f) hx hb dX12_goes_33 ⟨67, by decide⟩ (by omega) ?_
    refine lv_aload_n hx hb dX12_goes_36 rfl (lv_at hl 1 rfl) ?_
    refine lv_iload_n hx hb dX12_goes_37 rfl (lv_at hl 0 rfl) ?_
    refine lv_iconst (v := 1) hx hb dX12_goes_38 (by decide) ?_
    refine k_callV K X gv_X12_45 (As := [.int (nI (tnF f)), .int 1]) (c_X12_who1 l E b hf wf ik fd 0 tp tl tk tb ta tv bad bo so ce f (tnF f) (by omega)) [0, 1, 2, 3, 4, 5, 6, 7, 8] modW_idC (by decide +kernel) (fun _ => modW_fst) 0 12 rfl rfl (by decide) rfl hl.1 (rest := []) rfl (Nat.le_of_ble_eq_true rfl) dX12_goes_39 (st1 := fun _ => [.int (f 5 (tnF f))]) (fun _ => rfl) (fun _ H locs _ X => ?_)
    have X : Wd E _ _ (modW E b (flat f) hf wf ik fd 0 tp tl tk tb ta tv bad bo so ce) _ _ := X.eq modW_idP
    refine k_if_ne (x := f 5 (tnF f)) hx hb 67 dX12_goes_42 (by decide) (fun c42 => ?_) (fun c42 => ?_)
    · have hgo : goes? f = false := by simp [goes?, c11, c42]
      refine lv_aload_n hx hb dX12_goes_67 rfl (lv_at hl 1 rfl) ?_
      refine k_get K X 0 rfl fg_X12_9 (v := .ref (b 1)) rfl dX12_goes_68 ?_
      refine lv_iconst (v := 0) hx hb dX12_goes_71 (by decide) ?_
      refine lv_dup2_11 hx hb dX12_goes_72 rfl rfl ?_
      refine k_ialdN K X 1 rfl (k := 0) (by omega) (by decide) dX12_goes_73 (v := f 0 0) rfl ?_
      refine k_topi (I.hM) ?_
      refine lv_iconst (v := 1) hx hb dX12_goes_74 (by decide) ?_
      refine lv_iadd hx hb dX12_goes_75 ?_
      refine k_topi (nI_add (mn f) 1) ?_
      refine k_iastN K X 1 rfl (k := 0) (x := nI (mn f + 1)) (by omega) (by decide) dX12_goes_76 (fun H locs X => ?_)
      have X : Wd E _ _ (modW E b (upd (flat f) 0 (nI (mn f + 1))) hf wf ik fd 0 tp tl tk tb ta tv bad bo so ce) _ _ := X
      have X : Wd E _ _ (modW E b (flat (up2 f 0 0 (nI (mn f + 1)))) hf wf ik fd 0 tp tl tk tb ta tv bad bo so ce) _ _ := X.eq (by rw [flat_top _ _ (by decide)])
      exact fin () 77 _ _ _ trivial (X.eq (by rw [e0, goF_eq I, tcF, goR, hgo]; rfl)) dX12_goes_77
    · have hgo : goes? f = true := by simp [goes?, c11, c42]
      have htu := turnS_le (kn f (tnF f))
      refine lv_iconst (v := 0) hx hb dX12_goes_45 (by decide) ?_
      refine lv_istore_n (lv' := [(2, .int 0), (1, .int (nI (tnF f))), (0, .ref (b 0))]) hx hb dX12_goes_46 rfl hl (by decide) rfl (fun ls hl => ?_)
      have lp47 : ∀ (fu : Nat) (i : Nat) (n : Nat) (g : St) (t : Int32) (hfu : n < fu) (hin : i + n = turnS (kn f (tnF f))) (hR : turnL (tnF f) n g t = turnL (tnF f) (turnS (kn f (tnF f))) f 0) (Ig : Inv T g) (h0 : g 0 = f 0) (h4 : g 4 = f 4) (ls : Array Slot) (hl : lv_has ls 3 [(2, .int (nI i)), (1, .int (nI (tnF f))), (0, .ref (b 0))]) (H : Heap) (locs : List Loc) (X : Wd E (inW (modW E b (flat f) hf wf ik fd tch tp tl tk tb ta tv bad bo so ce)) s0.heap (modW E b (flat g) hf wf ik fd t tp tl tk tb ta tv bad bo so ce) H locs), W pg l ev (rmK 4 93) s0 mm ([.ref (b 0)] : List Value).toArray below meth cd H locs 0 0 Q (F0 mm 47 ls []) := by
        intro fu
        induction fu with
        | zero => intro i n g t hfu; exact absurd hfu (Nat.not_lt_zero _)
        | succ fu ih47 =>
          intro i n g t hfu hin hR Ig h0 h4 ls hl H locs X
          refine lv_iload_n hx hb dX12_goes_47 rfl (lv_at hl 0 rfl) ?_
          refine lv_aload_n hx hb dX12_goes_48 rfl (lv_at hl 2 rfl) ?_
          refine lv_iload_n hx hb dX12_goes_49 rfl (lv_at hl 1 rfl) ?_
          refine k_callV K X gv_X12_109 (As := [.int (nI (tnF f))]) (c_X12_turnsOf l E b hf wf ik fd t tp tl tk tb ta tv bad bo so ce g T (tnF f) Ig (by omega)) [0, 1, 2, 3, 4, 5, 6, 7, 8] modW_idC (by decide +kernel) (fun _ => modW_fst) 0 12 rfl rfl (by decide) rfl hl.1 (rest := [.int (nI i)]) rfl (Nat.le_of_ble_eq_true rfl) dX12_goes_50 (st1 := fun _ => [.int (nI (turnS (kn g (tnF f)))), .int (nI i)]) (fun _ => rfl) (fun _ H locs _ X => ?_)
          have X : Wd E _ _ (modW E b (flat g) hf wf ik fd t tp tl tk tb ta tv bad bo so ce) _ _ := X.eq modW_idP
          refine k_topi (x' := nI (turnS (kn f (tnF f)))) (by unfold kn; rw [h4]) ?_
          refine kN_ge (x := i) (y := turnS (kn f (tnF f))) hx hb 67 dX12_goes_53 (by decide) (by omega) (by omega) (fun c53 => ?_) (fun c53 => ?_)
          · obtain rfl : n = 0 := by omega
            refine lv_aload_n hx hb dX12_goes_67 rfl (lv_at hl 2 rfl) ?_
            refine k_get K X 0 rfl fg_X12_9 (v := .ref (b 1)) rfl dX12_goes_68 ?_
            refine lv_iconst (v := 0) hx hb dX12_goes_71 (by decide) ?_
            refine lv_dup2_11 hx hb dX12_goes_72 rfl rfl ?_
            refine k_ialdN K X 1 rfl (k := 0) (by omega) (by decide) dX12_goes_73 (v := g 0 0) rfl ?_
            refine lv_iconst (v := 1) hx hb dX12_goes_74 (by decide) ?_
            refine lv_iadd hx hb dX12_goes_75 ?_
            refine k_iastN K X 1 rfl (k := 0) (x := (g 0 0) + 1) (by omega) (by decide) dX12_goes_76 (fun H locs X => ?_)
            have X : Wd E _ _ (modW E b (upd (flat g) 0 ((g 0 0) + 1)) hf wf ik fd t tp tl tk tb ta tv bad bo so ce) _ _ := X
            have X : Wd E _ _ (modW E b (flat (up2 g 0 0 ((g 0 0) + 1))) hf wf ik fd t tp tl tk tb ta tv bad bo so ce) _ _ := X.eq (by rw [flat_top _ _ (by decide)])
            exact fin () 77 _ _ _ trivial (X.eq (by rw [goF_eq I, tcF, goR, hgo, cond_true, ← hR]; rfl)) dX12_goes_77
          · obtain ⟨n, rfl⟩ : ∃ z, n = z + 1 := ⟨n - 1, by omega⟩
            refine lv_aload_n hx hb dX12_goes_56 rfl (lv_at hl 2 rfl) ?_
            refine lv_iload_n hx hb dX12_goes_57 rfl (lv_at hl 1 rfl) ?_
            refine k_callV K X gv_X12_130 (As := [.int (nI (tnF f))]) (c_X12_movesOne l E b hf wf ik fd t tp tl tk tb ta tv bad bo so ce g T (tnF f) Ig (by omega)) [0, 1, 2, 3, 4, 5, 6, 7, 8] modW_idC (by decide +kernel) (fun _ => modW_fst) 0 12 rfl rfl (by decide) rfl hl.1 (rest := []) rfl (Nat.le_of_ble_eq_true rfl) dX12_goes_58 (st1 := fun _ => []) (fun _ => rfl) (fun _ H locs _ X => ?_)
            have X : Wd E _ _ (modW E b (flat ((turnL (tnF f) 1 g t).1)) hf wf ik fd ((turnL (tnF f) 1 g t).2) tp tl tk tb ta tv bad bo so ce) _ _ := X.eq modW_idP
            refine lv_iinc (v := nI (i + 1)) (lv' := [(2, .int (nI (i + 1))), (1, .int (nI (tnF f))), (0, .ref (b 0))]) hx hb dX12_goes_61 hl (k := 0) rfl (nI_add i 1) (by decide) rfl (fun ls hl => ?_)
            refine lv_goto (tgt := 47) hx hb dX12_goes_64 (by decide) ?_
            exact ih47 (i + 1) n ((turnL (tnF f) 1 g t).1) ((turnL (tnF f) 1 g t).2) (by omega) (by omega) (by rw [← hR]; exact (turnL_one _ _ _ _).symm) ((turnL_inv (by omega) 1 g t Ig).1) (by rw [(turnL_inv (by omega) 1 g t Ig).2.1, h0]) (by rw [(turnL_inv (by omega) 1 g t Ig).2.2.1, h4]) _ hl _ _ X
      exact lp47 ((turnS (kn f (tnF f))) + 1) 0 (turnS (kn f (tnF f))) f 0 (by omega) (by omega) (rfl) (I) (rfl) (rfl) _ hl _ _ X
  · have hgo : goes? f = false := by simp [goes?, c11]
    refine lv_iconst (v := (-1)) hx hb dX12_goes_14 (by decide) ?_
    refine lv_goto (tgt := 31) hx hb dX12_goes_15 (by decide) ?_
    refine lv_istore_n (lv' := [(1, .int (-1)), (0, .ref (b 0))]) hx hb dX12_goes_31 rfl hl (by decide) rfl (fun ls hl => ?_)
    refine lv_iload_n hx hb dX12_goes_32 rfl (lv_at hl 0 rfl) ?_
    refine k_if_lt hx hb 67 dX12_goes_33 (by decide) (fun _ => ?_) (fun h => absurd h (by decide))
    refine lv_aload_n hx hb dX12_goes_67 rfl (lv_at hl 1 rfl) ?_
    refine k_get K X 0 rfl fg_X12_9 (v := .ref (b 1)) rfl dX12_goes_68 ?_
    refine lv_iconst (v := 0) hx hb dX12_goes_71 (by decide) ?_
    refine lv_dup2_11 hx hb dX12_goes_72 rfl rfl ?_
    refine k_ialdN K X 1 rfl (k := 0) (by omega) (by decide) dX12_goes_73 (v := f 0 0) rfl ?_
    refine k_topi (I.hM) ?_
    refine lv_iconst (v := 1) hx hb dX12_goes_74 (by decide) ?_
    refine lv_iadd hx hb dX12_goes_75 ?_
    refine k_topi (nI_add (mn f) 1) ?_
    refine k_iastN K X 1 rfl (k := 0) (x := nI (mn f + 1)) (by omega) (by decide) dX12_goes_76 (fun H locs X => ?_)
    have X : Wd E _ _ (modW E b (upd (flat f) 0 (nI (mn f + 1))) hf wf ik fd 0 tp tl tk tb ta tv bad bo so ce) _ _ := X
    have X : Wd E _ _ (modW E b (flat (up2 f 0 0 (nI (mn f + 1)))) hf wf ik fd 0 tp tl tk tb ta tv bad bo so ce) _ _ := X.eq (by rw [flat_top _ _ (by decide)])
    exact fin () 77 _ _ _ trivial (X.eq (by rw [e0, goF_eq I, tcF, goR, hgo]; rfl)) dX12_goes_77
set_option maxRecDepth 100000 in
set_option maxHeartbeats 4000000 in
theorem c_X12_goesFor (l : Launch) (E : EE) (b : Nat → Nat) (hf : Nat → Int32) (wf : Nat → Int32) (ik : Int32) (fd : Nat → Int32) (tch : Int32) (tp : Nat → Int32) (tl : Int32) (tk : Int32) (tb : Int32) (ta : Int32) (tv : Int32) (bad : Int32) (bo : Nat → Int32) (so : Nat → Int32) (ce : Nat → Int64) (f : St) (T : Nat) (u : Nat) (I : Inv T f) (hT : T + u < 1000000) : Kd l yX12_goesFor cX12_goesFor 3 none 5 115 E (modW E b (flat f) hf wf ik fd tch tp tl tk tb ta tv bad bo so ce) [.ref (b 0), .int (nI u)] none (modW E b (flat (goN u f)) hf wf ik fd (tcN u f tch) tp tl tk tb ta tv bad bo so ce) := by
  refine Kn.ofWv (by decide +kernel) (Nat.le_of_ble_eq_true rfl) ?_
  intro pg ev s0 mm below meth cd Q K X fin ls hl
  have hx := K.1
  have hb := K.2.1
  have hs10 := I.s10
  have hp6 := I.p6
  have hl : lv_has ls 3 [(0, .ref (b 0)), (1, .int (nI u))] := hl
  refine lv_iconst (v := 0) hx hb dX12_goesFor_0 (by decide) ?_
  refine lv_istore_n (lv' := [(2, .int 0), (0, .ref (b 0)), (1, .int (nI u))]) hx hb dX12_goesFor_1 rfl hl (by decide) rfl (fun ls hl => ?_)
  have lp2 : ∀ (fu : Nat) (i : Nat) (n : Nat) (g : St) (t : Int32) (hfu : n < fu) (hin : i + n = u) (hR : goN n g = goN u f) (hR2 : tcN n g t = tcN u f tch) (Ig : Inv (T + i) g) (ls : Array Slot) (hl : lv_has ls 3 [(2, .int (nI i)), (0, .ref (b 0)), (1, .int (nI u))]) (H : Heap) (locs : List Loc) (X : Wd E (inW (modW E b (flat f) hf wf ik fd tch tp tl tk tb ta tv bad bo so ce)) s0.heap (modW E b (flat g) hf wf ik fd t tp tl tk tb ta tv bad bo so ce) H locs), W pg l ev (rmK 5 115) s0 mm ([.ref (b 0), .int (nI u)] : List Value).toArray below meth cd H locs 0 0 Q (F0 mm 2 ls []) := by
    intro fu
    induction fu with
    | zero => intro i n g t hfu; exact absurd hfu (Nat.not_lt_zero _)
    | succ fu ih2 =>
      intro i n g t hfu hin hR hR2 Ig ls hl H locs X
      refine lv_iload_n hx hb dX12_goesFor_2 rfl (lv_at hl 0 rfl) ?_
      refine lv_iload_n hx hb dX12_goesFor_3 rfl (lv_at hl 2 rfl) ?_
      refine kN_ge (x := i) (y := u) hx hb 17 dX12_goesFor_4 (by decide) (by omega) (by omega) (fun c4 => ?_) (fun c4 => ?_)
      · obtain rfl : n = 0 := by omega
        exact fin () 17 _ _ _ trivial (X.eq (by rw [← hR, ← hR2]; rfl)) dX12_goesFor_17
      · obtain ⟨n, rfl⟩ : ∃ z, n = z + 1 := ⟨n - 1, by omega⟩
        refine lv_aload_n hx hb dX12_goesFor_7 rfl (lv_at hl 1 rfl) ?_
        refine k_callV K X gv_X12_134 (As := []) (c_X12_goes l E b hf wf ik fd t tp tl tk tb ta tv bad bo so ce g (T + i) Ig (by omega)) [0, 1, 2, 3, 4, 5, 6, 7, 8] modW_idC (by decide +kernel) (fun _ => modW_fst) 0 12 rfl rfl (by decide) rfl hl.1 (rest := []) rfl (Nat.le_of_ble_eq_true rfl) dX12_goesFor_8 (st1 := fun _ => []) (fun _ => rfl) (fun _ H locs _ X => ?_)
        have X : Wd E _ _ (modW E b (flat (goF g)) hf wf ik fd (tcF g) tp tl tk tb ta tv bad bo so ce) _ _ := X.eq modW_idP
        refine lv_iinc (v := nI (i + 1)) (lv' := [(2, .int (nI (i + 1))), (0, .ref (b 0)), (1, .int (nI u))]) hx hb dX12_goesFor_11 hl (k := 0) rfl (nI_add i 1) (by decide) rfl (fun ls hl => ?_)
        refine lv_goto (tgt := 2) hx hb dX12_goesFor_14 (by decide) ?_
        exact ih2 (i + 1) n (goF g) (tcF g) (by omega) (by omega) (hR) (hR2) (Ig.go (by omega)) _ hl _ _ X
  exact lp2 (u + 1) 0 u f tch (by omega) (by omega) (rfl) (rfl) (I) _ hl _ _ X
set_option maxRecDepth 100000 in
set_option maxHeartbeats 4000000 in
theorem c_X12_thinks (l : Launch) (E : EE) (b : Nat → Nat) (mf : Nat → Int32) (hf : Nat → Int32) (wf : Nat → Int32) (ik : Int32) (fd : Nat → Int32) (tch : Int32) (tp : Nat → Int32) (tl : Int32) (tk : Int32) (tb : Int32) (ta : Int32) (tv : Int32) (bad : Int32) (bo : Nat → Int32) (so : Nat → Int32) (ce : Nat → Int64) : Kd l yX12_thinks cX12_thinks 1 none 1 22 E (modW E b mf hf wf ik fd tch tp tl tk tb ta tv bad bo so ce) [.ref (b 0)] none (modW E b mf hf mf ik fd tch tp tl tk tb ta tv bad bo so ce) := by
  refine Kn.ofWv (by decide +kernel) (Nat.le_of_ble_eq_true rfl) ?_
  intro pg ev s0 mm below meth cd Q K X fin ls hl
  have hx := K.1
  have hb := K.2.1
  have hl : lv_has ls 1 [(0, .ref (b 0))] := hl
  refine lv_aload_n hx hb dX12_thinks_0 rfl (lv_at hl 0 rfl) ?_
  refine k_get K X 0 rfl fg_X12_9 (v := .ref (b 1)) rfl dX12_thinks_1 ?_
  refine lv_aload_n hx hb dX12_thinks_4 rfl (lv_at hl 0 rfl) ?_
  refine k_get K X 0 rfl fg_X12_16 (v := .ref (b 3)) rfl dX12_thinks_5 ?_
  refine k_callS K X gs_X12_142 (As := [.ref (b 1), .ref (b 3)]) (c_X12_copyAll l E (b 1) (b 3) mf wf) [1, 3] modW_s0C (by decide +kernel) (fun _ => pairW_fst) (by decide) rfl hl.1 (rest := []) rfl (Nat.le_of_ble_eq_true rfl) dX12_thinks_8 (st1 := fun _ => []) (fun _ => rfl) (fun _ H locs _ X => ?_)
  have X : Wd E _ _ (modW E b mf hf mf ik fd tch tp tl tk tb ta tv bad bo so ce) _ _ := X.eq modW_s0P
  exact fin () 11 _ _ _ trivial X dX12_thinks_11
set_option maxRecDepth 100000 in
set_option maxHeartbeats 4000000 in
theorem c_X12_putsBack (l : Launch) (E : EE) (b : Nat → Nat) (mf : Nat → Int32) (hf : Nat → Int32) (wf : Nat → Int32) (ik : Int32) (fd : Nat → Int32) (tch : Int32) (tp : Nat → Int32) (tl : Int32) (tk : Int32) (tb : Int32) (ta : Int32) (tv : Int32) (bad : Int32) (bo : Nat → Int32) (so : Nat → Int32) (ce : Nat → Int64) : Kd l yX12_putsBack cX12_putsBack 1 none 1 22 E (modW E b mf hf wf ik fd tch tp tl tk tb ta tv bad bo so ce) [.ref (b 0)] none (modW E b wf hf wf ik fd tch tp tl tk tb ta tv bad bo so ce) := by
  refine Kn.ofWv (by decide +kernel) (Nat.le_of_ble_eq_true rfl) ?_
  intro pg ev s0 mm below meth cd Q K X fin ls hl
  have hx := K.1
  have hb := K.2.1
  have hl : lv_has ls 1 [(0, .ref (b 0))] := hl
  refine lv_aload_n hx hb dX12_putsBack_0 rfl (lv_at hl 0 rfl) ?_
  refine k_get K X 0 rfl fg_X12_16 (v := .ref (b 3)) rfl dX12_putsBack_1 ?_
  refine lv_aload_n hx hb dX12_putsBack_4 rfl (lv_at hl 0 rfl) ?_
  refine k_get K X 0 rfl fg_X12_9 (v := .ref (b 1)) rfl dX12_putsBack_5 ?_
  refine k_callS K X gs_X12_142 (As := [.ref (b 3), .ref (b 1)]) (c_X12_copyAll l E (b 3) (b 1) wf mf) [3, 1] modW_s1C (by decide +kernel) (fun _ => pairW_fst) (by decide) rfl hl.1 (rest := []) rfl (Nat.le_of_ble_eq_true rfl) dX12_putsBack_8 (st1 := fun _ => []) (fun _ => rfl) (fun _ H locs _ X => ?_)
  have X : Wd E _ _ (modW E b wf hf wf ik fd tch tp tl tk tb ta tv bad bo so ce) _ _ := X.eq modW_s1P
  exact fin () 11 _ _ _ trivial X dX12_putsBack_11
set_option maxRecDepth 100000 in
set_option maxHeartbeats 4000000 in
theorem c_X12_wayOn (l : Launch) (E : EE) (b : Nat → Nat) (hf : Nat → Int32) (ik : Int32) (fd : Nat → Int32) (tch : Int32) (tp : Nat → Int32) (tl : Int32) (tk : Int32) (tb : Int32) (ta : Int32) (tv : Int32) (bad : Int32) (bo : Nat → Int32) (so : Nat → Int32) (ce : Nat → Int64) (f : St) (T : Nat) (h : St) (p : Nat) (u : Nat) (I : Inv T f) (hp : p < 6) (hT : T + u < 1000000) : Kd l yX12_wayOn cX12_wayOn 4 (some .int) 6 137 E (modW E b (flat f) hf (flat h) ik fd tch tp tl tk tb ta tv bad bo so ce) [.ref (b 0), .int (nI p), .int (nI u)] (some (.int (bcF (wayF (goN u f) p)))) (modW E b (flat h) hf (flat h) ik fd (tcN u f tch) tp tl tk tb ta tv bad bo so ce) := by
  refine Kn.ofWi (by decide +kernel) (Nat.le_of_ble_eq_true rfl) (fun _ _ => rfl) ?_
  intro pg ev s0 mm below meth cd Q K X fin ls hl
  have hx := K.1
  have hb := K.2.1
  have hs10 := I.s10
  have hp6 := I.p6
  have Ig := I.more u (by omega)
  have hl : lv_has ls 4 [(0, .ref (b 0)), (1, .int (nI p)), (2, .int (nI u))] := hl
  refine lv_aload_n hx hb dX12_wayOn_0 rfl (lv_at hl 0 rfl) ?_
  refine lv_iload_n hx hb dX12_wayOn_1 rfl (lv_at hl 2 rfl) ?_
  refine k_callV K X gv_X12_139 (As := [.int (nI u)]) (c_X12_goesFor l E b hf (flat h) ik fd tch tp tl tk tb ta tv bad bo so ce f T u I (by omega)) [0, 1, 2, 3, 4, 5, 6, 7, 8] modW_idC (by decide +kernel) (fun _ => modW_fst) 0 12 rfl rfl (by decide) rfl hl.1 (rest := []) rfl (Nat.le_of_ble_eq_true rfl) dX12_wayOn_2 (st1 := fun _ => []) (fun _ => rfl) (fun _ H locs _ X => ?_)
  have X : Wd E _ _ (modW E b (flat (goN u f)) hf (flat h) ik fd (tcN u f tch) tp tl tk tb ta tv bad bo so ce) _ _ := X.eq modW_idP
  refine lv_aload_n hx hb dX12_wayOn_5 rfl (lv_at hl 0 rfl) ?_
  refine lv_iload_n hx hb dX12_wayOn_6 rfl (lv_at hl 1 rfl) ?_
  refine k_callV K X gv_X12_103 (As := [.int (nI p)]) (c_X12_wayOf l E b hf (flat h) ik fd (tcN u f tch) tp tl tk tb ta tv bad bo so ce (goN u f) (T + u) p Ig (by omega)) [0, 1, 2, 3, 4, 5, 6, 7, 8] modW_idC (by decide +kernel) (fun _ => modW_fst) 0 12 rfl rfl (by decide) rfl hl.1 (rest := []) rfl (Nat.le_of_ble_eq_true rfl) dX12_wayOn_7 (st1 := fun _ => [.int (wayF (goN u f) p)]) (fun _ => rfl) (fun _ H locs _ X => ?_)
  have X : Wd E _ _ (modW E b (flat (goN u f)) hf (flat h) ik fd (tcN u f tch) tp tl tk tb ta tv bad bo so ce) _ _ := X.eq modW_idP
  refine k_callS K X gs_X12_112 (As := [.int (wayF (goN u f) p)]) (c_X12_bits l E (wayF (goN u f) p) (wayF_nat Ig p)) [] rfl (by decide +kernel) (fun _ => rfl) (by decide) rfl hl.1 (rest := []) rfl (Nat.le_of_ble_eq_true rfl) dX12_wayOn_10 (st1 := fun _ => [.int (bcF (wayF (goN u f) p))]) (fun _ => rfl) (fun _ H locs _ X => ?_)
  have X : Wd E _ _ (modW E b (flat (goN u f)) hf (flat h) ik fd (tcN u f tch) tp tl tk tb ta tv bad bo so ce) _ _ := X
  refine lv_istore_n (lv' := [(3, .int (bcF (wayF (goN u f) p))), (0, .ref (b 0)), (1, .int (nI p)), (2, .int (nI u))]) hx hb dX12_wayOn_13 rfl hl (by decide) rfl (fun ls hl => ?_)
  refine lv_aload_n hx hb dX12_wayOn_14 rfl (lv_at hl 1 rfl) ?_
  refine k_callV K X gv_X12_149 (As := []) (c_X12_putsBack l E b (flat (goN u f)) hf (flat h) ik fd (tcN u f tch) tp tl tk tb ta tv bad bo so ce) [0, 1, 2, 3, 4, 5, 6, 7, 8] modW_idC (by decide +kernel) (fun _ => modW_fst) 0 12 rfl rfl (by decide) rfl hl.1 (rest := []) rfl (Nat.le_of_ble_eq_true rfl) dX12_wayOn_15 (st1 := fun _ => []) (fun _ => rfl) (fun _ H locs _ X => ?_)
  have X : Wd E _ _ (modW E b (flat h) hf (flat h) ik fd (tcN u f tch) tp tl tk tb ta tv bad bo so ce) _ _ := X.eq modW_idP
  refine lv_iload_n hx hb dX12_wayOn_18 rfl (lv_at hl 0 rfl) ?_
  exact fin () 19 _ _ _ trivial X dX12_wayOn_19
set_option maxRecDepth 100000 in
set_option maxHeartbeats 4000000 in
theorem c_X12_finds (l : Launch) (E : EE) (b : Nat → Nat) (mf : Nat → Int32) (hf : Nat → Int32) (wf : Nat → Int32) (ik : Int32) (fd : Nat → Int32) (tch : Int32) (tp : Nat → Int32) (tl : Int32) (tk : Int32) (tb : Int32) (ta : Int32) (tv : Int32) (bad : Int32) (bo : Nat → Int32) (so : Nat → Int32) (ce : Nat → Int64) (k : Nat) (hk : k < 7) : Kd l yX12_finds cX12_finds 2 (some .int) 0 0 E (modW E b mf hf wf ik fd tch tp tl tk tb ta tv bad bo so ce) [.ref (b 0), .int (fnd k)] (some (.int (fnd k))) (modW E b mf hf wf ik (fdU fd k) tch tp tl tk tb ta tv bad bo so ce) := by
  refine Kn.ofWi (by decide +kernel) (Nat.le_of_ble_eq_true rfl) (fun _ _ => rfl) ?_
  intro pg ev s0 mm below meth cd Q K X fin ls hl
  have hx := K.1
  have hb := K.2.1
  have hl : lv_has ls 2 [(0, .ref (b 0)), (1, .int (fnd k))] := hl
  refine lv_aload_n hx hb dX12_finds_0 rfl (lv_at hl 0 rfl) ?_
  refine k_get K X 0 rfl fg_X12_19 (v := .ref (b 4)) rfl dX12_finds_1 ?_
  refine lv_ldc (v := (-1000000001)) hx hb K.2.2.2.1 (K.2.2.2.2.1 _ (Mw_at 905 (by decide +kernel) (by decide +kernel))) dX12_finds_4 ?_
  refine lv_iload_n hx hb dX12_finds_6 rfl (lv_at hl 1 rfl) ?_
  refine lv_isub hx hb dX12_finds_7 ?_
  refine k_topi (x' := nI k) (fnd_ix hk) ?_
  refine lv_dup2_11 hx hb dX12_finds_8 rfl rfl ?_
  refine k_ialdN K X 4 rfl (k := k) (by omega) (by decide) dX12_finds_9 (v := fd k) rfl ?_
  refine lv_iconst (v := 1) hx hb dX12_finds_10 (by decide) ?_
  refine lv_iadd hx hb dX12_finds_11 ?_
  refine k_iastN K X 4 rfl (k := k) (x := (fd k) + 1) (by omega) (by decide) dX12_finds_12 (fun H locs X => ?_)
  have X : Wd E _ _ (modW E b mf hf wf ik (upd fd k ((fd k) + 1)) tch tp tl tk tb ta tv bad bo so ce) _ _ := X
  refine lv_iload_n hx hb dX12_finds_13 rfl (lv_at hl 1 rfl) ?_
  exact fin () 14 _ _ _ trivial (X.eq (rfl)) dX12_finds_14
set_option maxRecDepth 100000 in
set_option maxHeartbeats 4000000 in
theorem c_X12_orNone (l : Launch) (E : EE) (b : Nat → Nat) (mf : Nat → Int32) (hf : Nat → Int32) (wf : Nat → Int32) (ik : Int32) (fd : Nat → Int32) (tch : Int32) (tp : Nat → Int32) (tl : Int32) (tk : Int32) (tb : Int32) (ta : Int32) (tv : Int32) (bad : Int32) (bo : Nat → Int32) (so : Nat → Int32) (ce : Nat → Int64) (x : Int32) : Kd l yX12_orNone cX12_orNone 2 (some .int) 1 21 E (modW E b mf hf wf ik fd tch tp tl tk tb ta tv bad bo so ce) [.ref (b 0), .int x] (some (.int (if x < 0 then fnd 3 else x))) (modW E b mf hf wf ik (if x < 0 then fdU fd 3 else fd) tch tp tl tk tb ta tv bad bo so ce) := by
  refine Kn.ofWi (by decide +kernel) (Nat.le_of_ble_eq_true rfl) (fun _ _ => rfl) ?_
  intro pg ev s0 mm below meth cd Q K X fin ls hl
  have hx := K.1
  have hb := K.2.1
  have hl : lv_has ls 2 [(0, .ref (b 0)), (1, .int x)] := hl
  refine lv_iload_n hx hb dX12_orNone_0 rfl (lv_at hl 1 rfl) ?_
  refine k_if_ge (x := x) hx hb 13 dX12_orNone_1 (by decide) (fun c1 => ?_) (fun c1 => ?_)
  · refine lv_iload_n hx hb dX12_orNone_13 rfl (lv_at hl 1 rfl) ?_
    exact k_topi (x' := if x < 0 then fnd 3 else x) (by simp [c1]) (fin () 14 _ _ _ trivial (X.eq (by simp [c1])) dX12_orNone_14)
  · refine lv_aload_n hx hb dX12_orNone_4 rfl (lv_at hl 0 rfl) ?_
    refine lv_ldc (v := (-1000000004)) hx hb K.2.2.2.1 (K.2.2.2.2.1 _ (Mw_at 1095 (by decide +kernel) (by decide +kernel))) dX12_orNone_5 ?_
    refine k_topi (show (-1000000004 : Int32) = fnd 3 by decide) ?_
    refine k_callV K X gv_X12_37 (As := [.int (fnd 3)]) (c_X12_finds l E b mf hf wf ik fd tch tp tl tk tb ta tv bad bo so ce 3 (by decide)) [0, 1, 2, 3, 4, 5, 6, 7, 8] modW_idC (by decide +kernel) (fun _ => modW_fst) 0 12 rfl rfl (by decide) rfl hl.1 (rest := []) rfl (Nat.le_of_ble_eq_true rfl) dX12_orNone_7 (st1 := fun _ => [.int (fnd 3)]) (fun _ => rfl) (fun _ H locs _ X => ?_)
    have X : Wd E _ _ (modW E b mf hf wf ik (fdU fd 3) tch tp tl tk tb ta tv bad bo so ce) _ _ := X.eq modW_idP
    refine lv_goto (tgt := 14) hx hb dX12_orNone_10 (by decide) ?_
    exact k_topi (x' := if x < 0 then fnd 3 else x) (by simp [c1]) (fin () 14 _ _ _ trivial (X.eq (by simp [c1])) dX12_orNone_14)
