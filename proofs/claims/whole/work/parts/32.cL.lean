/-- feeding: answer, findings, the tape and its length -/
abbrev R4 : Type := Int32 × (Nat → Int32) × (Nat → Int32) × Nat
def fdL (x : Int32) : Nat → (Nat → Int32) → Nat → (Nat → Int32) × Nat
  | 0, tp, n => (tp, n)
  | i + 1, tp, n => fdL x i (upd tp n ((x >>> (nI (8 * i) &&& 31)) &&& 255)) (n + 1)
def oFeed (td tp : Nat → Int32) (n : Nat) (x y : Int32) : R4 := cond (inR y 1 4) (cond (decide (n + y.toNatClampNeg ≤ 120)) (nI (fdL x y.toNatClampNeg tp n).2, td, (fdL x y.toNatClampNeg tp n).1, (fdL x y.toNatClampNeg tp n).2) (fnd 1, fdU td 1, tp, n)) (fnd 0, fdU td 0, tp, n)
set_option maxRecDepth 100000 in
set_option maxHeartbeats 4000000 in
theorem c_X9_isWord (l : Launch) (E : EE) (t : Nat → Nat) (tp : Nat → Int32) (tl : Int32) (tn : Int32) (i : Nat) (k : Nat) (s : Nat) (e : Nat) (hi : i < 11) (hk : k < 5) (hse : s ≤ e) (he : e ≤ 120) : Kd l yX9_isWord cX9_isWord 3 (some .boolean) 6 136 E (tapeW E t tp tl (nI k) (nI s) (nI e) tn) [.ref (t 0), .ref (eK E i)] (some (.int (b2i (isWd tp k s e i)))) (tapeW E t tp tl (nI k) (nI s) (nI e) tn) := by
  refine Kn.ofWi (by decide +kernel) (Nat.le_of_ble_eq_true rfl) (fun _ _ => b2i_nar _) ?_
  intro pg ev s0 mm below meth cd Q K X fin ls hl
  have hx := K.1
  have hb := K.2.1
  have hk7 := kLen_le i hi
  have hl : lv_has ls 3 [(0, .ref (t 0)), (1, .ref (eK E i))] := hl
  refine lv_aload_n hx hb dX9_isWord_0 rfl (lv_at hl 0 rfl) ?_
  refine k_get K X 0 rfl fg_X9_19 (v := .int (nI k)) rfl dX9_isWord_1 ?_
  refine lv_iconst (v := 1) hx hb dX9_isWord_4 (by decide) ?_
  refine kN_ne (x := k) (y := 1) hx hb 24 dX9_isWord_5 (by decide) (by omega) (by omega) (fun c5 => ?_) (fun c5 => ?_)
  · refine lv_iconst (v := 0) hx hb dX9_isWord_24 (by decide) ?_
    exact k_topi (x' := b2i (isWd tp k s e i)) (by rw [isWd, decide_eq_false c5]; rfl) (fin () 25 _ _ _ trivial X dX9_isWord_25)
  · refine lv_aload_n hx hb dX9_isWord_8 rfl (lv_at hl 0 rfl) ?_
    refine k_get K X 0 rfl fg_X9_25 (v := .int (nI e)) rfl dX9_isWord_9 ?_
    refine lv_aload_n hx hb dX9_isWord_12 rfl (lv_at hl 0 rfl) ?_
    refine k_get K X 0 rfl fg_X9_22 (v := .int (nI s)) rfl dX9_isWord_13 ?_
    refine lv_isub hx hb dX9_isWord_16 ?_
    refine k_topi (x' := nI (e - s)) (pk_sub (a := e) (b := s) hse) ?_
    refine lv_aload_n hx hb dX9_isWord_17 rfl (lv_at hl 1 rfl) ?_
    refine k_callZ K X gv_X9_57 (As := []) (c_J0_length_8abf5 l E i (by omega)) [] rfl (by decide +kernel) (fun _ => rfl) hi (by decide) rfl hl.1 (rest := [.int (nI (e - s))]) rfl (Nat.le_of_ble_eq_true rfl) dX9_isWord_18 (st1 := fun _ => [.int (nI (kLen.getD i 0)), .int (nI (e - s))]) (fun _ => rfl) (fun _ H locs _ X => ?_)
    have X : Wd E _ _ (tapeW E t tp tl (nI k) (nI s) (nI e) tn) _ _ := X
    refine kN_eq (x := e - s) (y := kLen.getD i 0) hx hb 26 dX9_isWord_21 (by decide) (by omega) (by omega) (fun c21 => ?_) (fun c21 => ?_)
    · refine lv_iconst (v := 0) hx hb dX9_isWord_26 (by decide) ?_
      refine lv_istore_n (lv' := [(2, .int 0), (0, .ref (t 0)), (1, .ref (eK E i))]) hx hb dX9_isWord_27 rfl hl (by decide) rfl (fun ls hl => ?_)
      have lp28 : ∀ (fu : Nat) (j : Nat) (n2 : Nat) (hfu : n2 < fu) (hin : j + n2 = kLen.getD i 0) (hR : mtL tp s i n2 j = mtL tp s i (kLen.getD i 0) 0) (ls : Array Slot) (hl : lv_has ls 3 [(2, .int (nI j)), (0, .ref (t 0)), (1, .ref (eK E i))]) (H : Heap) (locs : List Loc) (X : Wd E (inW (tapeW E t tp tl (nI k) (nI s) (nI e) tn)) s0.heap (tapeW E t tp tl (nI k) (nI s) (nI e) tn) H locs), W pg l ev (rmK 6 136) s0 mm ([.ref (t 0), .ref (eK E i)] : List Value).toArray below meth cd H locs 0 0 Q (F0 mm 28 ls []) := by
        intro fu
        induction fu with
        | zero => intro j n2 hfu; exact absurd hfu (Nat.not_lt_zero _)
        | succ fu ih28 =>
          intro j n2 hfu hin hR ls hl H locs X
          refine lv_iload_n hx hb dX9_isWord_28 rfl (lv_at hl 0 rfl) ?_
          refine lv_aload_n hx hb dX9_isWord_29 rfl (lv_at hl 2 rfl) ?_
          refine k_callZ K X gv_X9_57 (As := []) (c_J0_length_8abf5 l E i (by omega)) [] rfl (by decide +kernel) (fun _ => rfl) hi (by decide) rfl hl.1 (rest := [.int (nI j)]) rfl (Nat.le_of_ble_eq_true rfl) dX9_isWord_30 (st1 := fun _ => [.int (nI (kLen.getD i 0)), .int (nI j)]) (fun _ => rfl) (fun _ H locs _ X => ?_)
          have X : Wd E _ _ (tapeW E t tp tl (nI k) (nI s) (nI e) tn) _ _ := X
          refine kN_ge (x := j) (y := kLen.getD i 0) hx hb 63 dX9_isWord_33 (by decide) (by omega) (by omega) (fun c33 => ?_) (fun c33 => ?_)
          · obtain rfl : n2 = 0 := by omega
            refine lv_iconst (v := 1) hx hb dX9_isWord_63 (by decide) ?_
            exact k_topi (x' := b2i (isWd tp k s e i)) (by rw [isWd, decide_eq_true c5, decide_eq_true c21, ← hR]; rfl) (fin () 64 _ _ _ trivial X dX9_isWord_64)
          · obtain ⟨n2, rfl⟩ : ∃ z, n2 = z + 1 := ⟨n2 - 1, by omega⟩
            refine lv_aload_n hx hb dX9_isWord_36 rfl (lv_at hl 1 rfl) ?_
            refine k_get K X 0 rfl fg_X9_9 (v := .ref (t 1)) rfl dX9_isWord_37 ?_
            refine lv_aload_n hx hb dX9_isWord_40 rfl (lv_at hl 1 rfl) ?_
            refine k_get K X 0 rfl fg_X9_22 (v := .int (nI s)) rfl dX9_isWord_41 ?_
            refine lv_iload_n hx hb dX9_isWord_44 rfl (lv_at hl 0 rfl) ?_
            refine lv_iadd hx hb dX9_isWord_45 ?_
            refine k_topi (nI_add s j) ?_
            refine k_ialdN K X 1 rfl (k := s + j) (by omega) (by decide) dX9_isWord_46 (v := tp (s + j)) rfl ?_
            refine lv_aload_n hx hb dX9_isWord_47 rfl (lv_at hl 2 rfl) ?_
            refine lv_iload_n hx hb dX9_isWord_48 rfl (lv_at hl 0 rfl) ?_
            refine k_callZ K X gv_X9_62 (As := [.int (nI j)]) (c_J0_charAt_5068e l E i j (by omega) (by omega)) [] rfl (by decide +kernel) (fun _ => rfl) hi (by decide) rfl hl.1 (rest := [.int (tp (s + j))]) rfl (Nat.le_of_ble_eq_true rfl) dX9_isWord_49 (st1 := fun _ => [.int ((kByt.getD i []).getD j 0), .int (tp (s + j))]) (fun _ => rfl) (fun _ H locs _ X => ?_)
            have X : Wd E _ _ (tapeW E t tp tl (nI k) (nI s) (nI e) tn) _ _ := X
            refine k_icmp_eq (x := tp (s + j)) (y := (kByt.getD i []).getD j 0) hx hb 57 dX9_isWord_52 (by decide) (fun c52 => ?_) (fun c52 => ?_)
            · refine lv_iinc (v := nI (j + 1)) (lv' := [(2, .int (nI (j + 1))), (0, .ref (t 0)), (1, .ref (eK E i))]) hx hb dX9_isWord_57 hl (k := 0) rfl (nI_add j 1) (by decide) rfl (fun ls hl => ?_)
              refine lv_goto (tgt := 28) hx hb dX9_isWord_60 (by decide) ?_
              exact ih28 (j + 1) n2 (by omega) (by omega) (by rw [← hR, mtL, decide_eq_true c52, cond_true]) _ hl _ _ X
            · refine lv_iconst (v := 0) hx hb dX9_isWord_55 (by decide) ?_
              exact k_topi (x' := b2i (isWd tp k s e i)) (by rw [isWd, decide_eq_true c5, decide_eq_true c21, ← hR, mtL, decide_eq_false c52]; rfl) (fin () 56 _ _ _ trivial X dX9_isWord_56)
      exact lp28 ((kLen.getD i 0) + 1) 0 (kLen.getD i 0) (by omega) (by omega) (rfl) _ hl _ _ X
    · refine lv_iconst (v := 0) hx hb dX9_isWord_24 (by decide) ?_
      exact k_topi (x' := b2i (isWd tp k s e i)) (by rw [isWd, decide_eq_true c5, decide_eq_false c21]; rfl) (fin () 25 _ _ _ trivial X dX9_isWord_25)
