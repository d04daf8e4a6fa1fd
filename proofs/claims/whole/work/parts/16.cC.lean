set_option maxRecDepth 100000 in
set_option maxHeartbeats 4000000 in
theorem c_X6_copyFrom (l : Launch) (E : EE) (a : Nat → Nat) (b : Nat → Nat) (k : Nat → Nat) (f : St) (h : St) : Kd l yX6_copyFrom cX6_copyFrom 2 none 1 30 E (room2 E a b k f h) [.ref (a 0), .ref (b 0)] none (room2 E a b k h h) := by
  refine Kn.ofWv (by decide +kernel) (Nat.le_of_ble_eq_true rfl) ?_
  intro pg ev s0 mm below meth cd Q K X fin ls hl
  have hx := K.1
  have hb := K.2.1
  have hl : lv_has ls 2 [(0, .ref (a 0)), (1, .ref (b 0))] := hl
  refine lv_aload_n hx hb dX6_copyFrom_0 rfl (lv_at hl 0 rfl) ?_
  refine lv_aload_n hx hb dX6_copyFrom_1 rfl (lv_at hl 1 rfl) ?_
  refine k_get K X 7 rfl fg_X6_15 (v := .int (h 0 0)) rfl dX6_copyFrom_2 ?_
  refine k_put K X 0 rfl fp_X6_15 (v := .int (h 0 0)) rfl rfl (Nat.le_of_ble_eq_true rfl) dX6_copyFrom_5 (fun H locs X => ?_)
  have X : Wd E _ _ (room2 E a b k (up2 f 0 0 (h 0 0)) h) _ _ := X
  refine lv_aload_n hx hb dX6_copyFrom_8 rfl (lv_at hl 0 rfl) ?_
  refine lv_aload_n hx hb dX6_copyFrom_9 rfl (lv_at hl 1 rfl) ?_
  refine k_get K X 7 rfl fg_X6_19 (v := .int (h 0 1)) rfl dX6_copyFrom_10 ?_
  refine k_put K X 0 rfl fp_X6_19 (v := .int (h 0 1)) rfl rfl (Nat.le_of_ble_eq_true rfl) dX6_copyFrom_13 (fun H locs X => ?_)
  have X : Wd E _ _ (room2 E a b k (up2 (up2 f 0 0 (h 0 0)) 0 1 (h 0 1)) h) _ _ := X
  refine lv_aload_n hx hb dX6_copyFrom_16 rfl (lv_at hl 0 rfl) ?_
  refine lv_aload_n hx hb dX6_copyFrom_17 rfl (lv_at hl 1 rfl) ?_
  refine k_get K X 7 rfl fg_X6_22 (v := .int (h 0 2)) rfl dX6_copyFrom_18 ?_
  refine k_put K X 0 rfl fp_X6_22 (v := .int (h 0 2)) rfl rfl (Nat.le_of_ble_eq_true rfl) dX6_copyFrom_21 (fun H locs X => ?_)
  have X : Wd E _ _ (room2 E a b k (up2 (up2 (up2 f 0 0 (h 0 0)) 0 1 (h 0 1)) 0 2 (h 0 2)) h) _ _ := X
  refine lv_aload_n hx hb dX6_copyFrom_24 rfl (lv_at hl 0 rfl) ?_
  refine lv_aload_n hx hb dX6_copyFrom_25 rfl (lv_at hl 1 rfl) ?_
  refine k_get K X 7 rfl fg_X6_25 (v := .int (h 0 3)) rfl dX6_copyFrom_26 ?_
  refine k_put K X 0 rfl fp_X6_25 (v := .int (h 0 3)) rfl rfl (Nat.le_of_ble_eq_true rfl) dX6_copyFrom_29 (fun H locs X => ?_)
  have X : Wd E _ _ (room2 E a b k (up2 (up2 (up2 (up2 f 0 0 (h 0 0)) 0 1 (h 0 1)) 0 2 (h 0 2)) 0 3 (h 0 3)) h) _ _ := X
  refine lv_aload_n hx hb dX6_copyFrom_32 rfl (lv_at hl 1 rfl) ?_
  refine k_get K X 7 rfl fg_X6_28 (v := .ref (b 1)) rfl dX6_copyFrom_33 ?_
  refine lv_iconst (v := 0) hx hb dX6_copyFrom_36 (by decide) ?_
  refine lv_aload_n hx hb dX6_copyFrom_37 rfl (lv_at hl 0 rfl) ?_
  refine k_get K X 0 rfl fg_X6_28 (v := .ref (a 1)) rfl dX6_copyFrom_38 ?_
  refine lv_iconst (v := 0) hx hb dX6_copyFrom_41 (by decide) ?_
  refine lv_bipush (v := 10) hx hb dX6_copyFrom_42 (by decide) ?_
  refine k_copyi K X ⟨Mw_at 573 (by decide +kernel) (by decide +kernel), Mw_at 575 (by decide +kernel) (by decide +kernel), Mw_at 574 (by decide +kernel) (by decide +kernel), Mw_at 77 (by decide +kernel) (by decide +kernel)⟩ 8 1 (n := 10) rfl rfl (by decide) hl.1 (by decide) (Nat.le_of_ble_eq_true rfl) dX6_copyFrom_44 (fun H locs X => ?_)
  have X : Wd E _ _ (room2 E a b k (setR (up2 (up2 (up2 (up2 f 0 0 (h 0 0)) 0 1 (h 0 1)) 0 2 (h 0 2)) 0 3 (h 0 3)) 1 (h 1)) h) _ _ := X
  refine lv_aload_n hx hb dX6_copyFrom_47 rfl (lv_at hl 1 rfl) ?_
  refine k_get K X 7 rfl fg_X6_32 (v := .ref (b 2)) rfl dX6_copyFrom_48 ?_
  refine lv_iconst (v := 0) hx hb dX6_copyFrom_51 (by decide) ?_
  refine lv_aload_n hx hb dX6_copyFrom_52 rfl (lv_at hl 0 rfl) ?_
  refine k_get K X 0 rfl fg_X6_32 (v := .ref (a 2)) rfl dX6_copyFrom_53 ?_
  refine lv_iconst (v := 0) hx hb dX6_copyFrom_56 (by decide) ?_
  refine lv_bipush (v := 10) hx hb dX6_copyFrom_57 (by decide) ?_
  refine k_copyi K X ⟨Mw_at 573 (by decide +kernel) (by decide +kernel), Mw_at 575 (by decide +kernel) (by decide +kernel), Mw_at 574 (by decide +kernel) (by decide +kernel), Mw_at 77 (by decide +kernel) (by decide +kernel)⟩ 9 2 (n := 10) rfl rfl (by decide) hl.1 (by decide) (Nat.le_of_ble_eq_true rfl) dX6_copyFrom_59 (fun H locs X => ?_)
  have X : Wd E _ _ (room2 E a b k (setR (setR (up2 (up2 (up2 (up2 f 0 0 (h 0 0)) 0 1 (h 0 1)) 0 2 (h 0 2)) 0 3 (h 0 3)) 1 (h 1)) 2 (h 2)) h) _ _ := X
  refine lv_aload_n hx hb dX6_copyFrom_62 rfl (lv_at hl 1 rfl) ?_
  refine k_get K X 7 rfl fg_X6_35 (v := .ref (b 3)) rfl dX6_copyFrom_63 ?_
  refine lv_iconst (v := 0) hx hb dX6_copyFrom_66 (by decide) ?_
  refine lv_aload_n hx hb dX6_copyFrom_67 rfl (lv_at hl 0 rfl) ?_
  refine k_get K X 0 rfl fg_X6_35 (v := .ref (a 3)) rfl dX6_copyFrom_68 ?_
  refine lv_iconst (v := 0) hx hb dX6_copyFrom_71 (by decide) ?_
  refine lv_bipush (v := 10) hx hb dX6_copyFrom_72 (by decide) ?_
  refine k_copyi K X ⟨Mw_at 573 (by decide +kernel) (by decide +kernel), Mw_at 575 (by decide +kernel) (by decide +kernel), Mw_at 574 (by decide +kernel) (by decide +kernel), Mw_at 77 (by decide +kernel) (by decide +kernel)⟩ 10 3 (n := 10) rfl rfl (by decide) hl.1 (by decide) (Nat.le_of_ble_eq_true rfl) dX6_copyFrom_74 (fun H locs X => ?_)
  have X : Wd E _ _ (room2 E a b k (setR (setR (setR (up2 (up2 (up2 (up2 f 0 0 (h 0 0)) 0 1 (h 0 1)) 0 2 (h 0 2)) 0 3 (h 0 3)) 1 (h 1)) 2 (h 2)) 3 (h 3)) h) _ _ := X
  refine lv_aload_n hx hb dX6_copyFrom_77 rfl (lv_at hl 1 rfl) ?_
  refine k_get K X 7 rfl fg_X6_38 (v := .ref (b 4)) rfl dX6_copyFrom_78 ?_
  refine lv_iconst (v := 0) hx hb dX6_copyFrom_81 (by decide) ?_
  refine lv_aload_n hx hb dX6_copyFrom_82 rfl (lv_at hl 0 rfl) ?_
  refine k_get K X 0 rfl fg_X6_38 (v := .ref (a 4)) rfl dX6_copyFrom_83 ?_
  refine lv_iconst (v := 0) hx hb dX6_copyFrom_86 (by decide) ?_
  refine lv_bipush (v := 6) hx hb dX6_copyFrom_87 (by decide) ?_
  refine k_copyi K X ⟨Mw_at 573 (by decide +kernel) (by decide +kernel), Mw_at 575 (by decide +kernel) (by decide +kernel), Mw_at 574 (by decide +kernel) (by decide +kernel), Mw_at 77 (by decide +kernel) (by decide +kernel)⟩ 11 4 (n := 6) rfl rfl (by decide) hl.1 (by decide) (Nat.le_of_ble_eq_true rfl) dX6_copyFrom_89 (fun H locs X => ?_)
  have X : Wd E _ _ (room2 E a b k (setR (setR (setR (setR (up2 (up2 (up2 (up2 f 0 0 (h 0 0)) 0 1 (h 0 1)) 0 2 (h 0 2)) 0 3 (h 0 3)) 1 (h 1)) 2 (h 2)) 3 (h 3)) 4 (h 4)) h) _ _ := X
  refine lv_aload_n hx hb dX6_copyFrom_92 rfl (lv_at hl 1 rfl) ?_
  refine k_get K X 7 rfl fg_X6_41 (v := .ref (b 5)) rfl dX6_copyFrom_93 ?_
  refine lv_iconst (v := 0) hx hb dX6_copyFrom_96 (by decide) ?_
  refine lv_aload_n hx hb dX6_copyFrom_97 rfl (lv_at hl 0 rfl) ?_
  refine k_get K X 0 rfl fg_X6_41 (v := .ref (a 5)) rfl dX6_copyFrom_98 ?_
  refine lv_iconst (v := 0) hx hb dX6_copyFrom_101 (by decide) ?_
  refine lv_bipush (v := 6) hx hb dX6_copyFrom_102 (by decide) ?_
  refine k_copyi K X ⟨Mw_at 573 (by decide +kernel) (by decide +kernel), Mw_at 575 (by decide +kernel) (by decide +kernel), Mw_at 574 (by decide +kernel) (by decide +kernel), Mw_at 77 (by decide +kernel) (by decide +kernel)⟩ 12 5 (n := 6) rfl rfl (by decide) hl.1 (by decide) (Nat.le_of_ble_eq_true rfl) dX6_copyFrom_104 (fun H locs X => ?_)
  have X : Wd E _ _ (room2 E a b k (setR (setR (setR (setR (setR (up2 (up2 (up2 (up2 f 0 0 (h 0 0)) 0 1 (h 0 1)) 0 2 (h 0 2)) 0 3 (h 0 3)) 1 (h 1)) 2 (h 2)) 3 (h 3)) 4 (h 4)) 5 (h 5)) h) _ _ := X
  refine lv_aload_n hx hb dX6_copyFrom_107 rfl (lv_at hl 1 rfl) ?_
  refine k_get K X 7 rfl fg_X6_44 (v := .ref (b 6)) rfl dX6_copyFrom_108 ?_
  refine lv_iconst (v := 0) hx hb dX6_copyFrom_111 (by decide) ?_
  refine lv_aload_n hx hb dX6_copyFrom_112 rfl (lv_at hl 0 rfl) ?_
  refine k_get K X 0 rfl fg_X6_44 (v := .ref (a 6)) rfl dX6_copyFrom_113 ?_
  refine lv_iconst (v := 0) hx hb dX6_copyFrom_116 (by decide) ?_
  refine lv_bipush (v := 60) hx hb dX6_copyFrom_117 (by decide) ?_
  refine k_copyi K X ⟨Mw_at 573 (by decide +kernel) (by decide +kernel), Mw_at 575 (by decide +kernel) (by decide +kernel), Mw_at 574 (by decide +kernel) (by decide +kernel), Mw_at 77 (by decide +kernel) (by decide +kernel)⟩ 13 6 (n := 60) rfl rfl (by decide) hl.1 (by decide) (Nat.le_of_ble_eq_true rfl) dX6_copyFrom_119 (fun H locs X => ?_)
  have X : Wd E _ _ (room2 E a b k (setR (setR (setR (setR (setR (setR (up2 (up2 (up2 (up2 f 0 0 (h 0 0)) 0 1 (h 0 1)) 0 2 (h 0 2)) 0 3 (h 0 3)) 1 (h 1)) 2 (h 2)) 3 (h 3)) 4 (h 4)) 5 (h 5)) 6 (h 6)) h) _ _ := X
  exact fin () 122 _ _ _ trivial (X.eq (rfl)) dX6_copyFrom_122
set_option maxRecDepth 100000 in
set_option maxHeartbeats 4000000 in
theorem c_X6_addSlip (l : Launch) (E : EE) (a : Nat → Nat) (k : Nat → Nat) (f : St) (T : Nat) (x : Int32) (y : Int32) (I : Inv T f) (hl10 : sl f < 10) : Kd l yX6_addSlip cX6_addSlip 3 (some .int) 0 0 E (roomW E a k f) [.ref (a 0), .int x, .int y] (some (.int (nI (sl f)))) (roomW E a k (addS f x y)) := by
  refine Kn.ofWi (by decide +kernel) (Nat.le_of_ble_eq_true rfl) (fun _ _ => rfl) ?_
  intro pg ev s0 mm below meth cd Q K X fin ls hl
  have hx := K.1
  have hb := K.2.1
  have hs10 := I.s10
  have hp6 := I.p6
  have hl : lv_has ls 3 [(0, .ref (a 0)), (1, .int x), (2, .int y)] := hl
  refine lv_aload_n hx hb dX6_addSlip_0 rfl (lv_at hl 0 rfl) ?_
  refine k_get K X 0 rfl fg_X6_28 (v := .ref (a 1)) rfl dX6_addSlip_1 ?_
  refine lv_aload_n hx hb dX6_addSlip_4 rfl (lv_at hl 0 rfl) ?_
  refine k_get K X 0 rfl fg_X6_22 (v := .int (f 0 2)) rfl dX6_addSlip_5 ?_
  refine k_topi (I.hS) ?_
  refine lv_iload_n hx hb dX6_addSlip_8 rfl (lv_at hl 1 rfl) ?_
  refine k_iastN K X 1 rfl (k := sl f) (x := x) (by omega) (by decide) dX6_addSlip_9 (fun H locs X => ?_)
  have X : Wd E _ _ (roomW E a k (up2 f 1 (sl f) x)) _ _ := X
  refine lv_aload_n hx hb dX6_addSlip_10 rfl (lv_at hl 0 rfl) ?_
  refine k_get K X 0 rfl fg_X6_32 (v := .ref (a 2)) rfl dX6_addSlip_11 ?_
  refine lv_aload_n hx hb dX6_addSlip_14 rfl (lv_at hl 0 rfl) ?_
  refine k_get K X 0 rfl fg_X6_22 (v := .int (f 0 2)) rfl dX6_addSlip_15 ?_
  refine k_topi (I.hS) ?_
  refine lv_iconst (v := 0) hx hb dX6_addSlip_18 (by decide) ?_
  refine k_iastN K X 2 rfl (k := sl f) (x := 0) (by omega) (by decide) dX6_addSlip_19 (fun H locs X => ?_)
  have X : Wd E _ _ (roomW E a k (up2 (up2 f 1 (sl f) x) 2 (sl f) 0)) _ _ := X
  refine lv_aload_n hx hb dX6_addSlip_20 rfl (lv_at hl 0 rfl) ?_
  refine k_get K X 0 rfl fg_X6_35 (v := .ref (a 3)) rfl dX6_addSlip_21 ?_
  refine lv_aload_n hx hb dX6_addSlip_24 rfl (lv_at hl 0 rfl) ?_
  refine k_get K X 0 rfl fg_X6_22 (v := .int (f 0 2)) rfl dX6_addSlip_25 ?_
  refine k_topi (I.hS) ?_
  refine lv_iload_n hx hb dX6_addSlip_28 rfl (lv_at hl 2 rfl) ?_
  refine k_iastN K X 3 rfl (k := sl f) (x := y) (by omega) (by decide) dX6_addSlip_29 (fun H locs X => ?_)
  have X : Wd E _ _ (roomW E a k (up2 (up2 (up2 f 1 (sl f) x) 2 (sl f) 0) 3 (sl f) y)) _ _ := X
  refine lv_aload_n hx hb dX6_addSlip_30 rfl (lv_at hl 0 rfl) ?_
  refine lv_dup hx hb dX6_addSlip_31 rfl ?_
  refine k_get K X 0 rfl fg_X6_22 (v := .int (f 0 2)) rfl dX6_addSlip_32 ?_
  refine k_topi (I.hS) ?_
  refine lv_dup_x1 hx hb dX6_addSlip_35 rfl rfl ?_
  refine lv_iconst (v := 1) hx hb dX6_addSlip_36 (by decide) ?_
  refine lv_iadd hx hb dX6_addSlip_37 ?_
  refine k_topi (nI_add (sl f) 1) ?_
  refine k_put K X 0 rfl fp_X6_22 (v := .int (nI (sl f + 1))) rfl rfl (Nat.le_of_ble_eq_true rfl) dX6_addSlip_38 (fun H locs X => ?_)
  have X : Wd E _ _ (roomW E a k (up2 (up2 (up2 (up2 f 1 (sl f) x) 2 (sl f) 0) 3 (sl f) y) 0 2 (nI (sl f + 1)))) _ _ := X
  exact fin () 41 _ _ _ trivial (X.eq (rfl)) dX6_addSlip_41
set_option maxRecDepth 100000 in
set_option maxHeartbeats 4000000 in
theorem c_X6_addPerson (l : Launch) (E : EE) (a : Nat → Nat) (k : Nat → Nat) (f : St) (T : Nat) (x : Int32) (I : Inv T f) (hl6 : pe f < 6) : Kd l yX6_addPerson cX6_addPerson 3 (some .int) 1 21 E (roomW E a k f) [.ref (a 0), .int x] (some (.int (nI (pe f)))) (roomW E a k (addP f x)) := by
  refine Kn.ofWi (by decide +kernel) (Nat.le_of_ble_eq_true rfl) (fun _ _ => rfl) ?_
  intro pg ev s0 mm below meth cd Q K X fin ls hl
  have hx := K.1
  have hb := K.2.1
  have hs10 := I.s10
  have hp6 := I.p6
  have hl : lv_has ls 3 [(0, .ref (a 0)), (1, .int x)] := hl
  refine lv_aload_n hx hb dX6_addPerson_0 rfl (lv_at hl 0 rfl) ?_
  refine k_get K X 0 rfl fg_X6_38 (v := .ref (a 4)) rfl dX6_addPerson_1 ?_
  refine lv_aload_n hx hb dX6_addPerson_4 rfl (lv_at hl 0 rfl) ?_
  refine k_get K X 0 rfl fg_X6_25 (v := .int (f 0 3)) rfl dX6_addPerson_5 ?_
  refine k_topi (I.hP) ?_
  refine lv_iload_n hx hb dX6_addPerson_8 rfl (lv_at hl 1 rfl) ?_
  refine k_iastN K X 4 rfl (k := pe f) (x := x) (by omega) (by decide) dX6_addPerson_9 (fun H locs X => ?_)
  have X : Wd E _ _ (roomW E a k (up2 f 4 (pe f) x)) _ _ := X
  refine lv_aload_n hx hb dX6_addPerson_10 rfl (lv_at hl 0 rfl) ?_
  refine k_get K X 0 rfl fg_X6_41 (v := .ref (a 5)) rfl dX6_addPerson_11 ?_
  refine lv_aload_n hx hb dX6_addPerson_14 rfl (lv_at hl 0 rfl) ?_
  refine k_get K X 0 rfl fg_X6_25 (v := .int (f 0 3)) rfl dX6_addPerson_15 ?_
  refine k_topi (I.hP) ?_
  refine lv_iconst (v := 0) hx hb dX6_addPerson_18 (by decide) ?_
  refine k_iastN K X 5 rfl (k := pe f) (x := 0) (by omega) (by decide) dX6_addPerson_19 (fun H locs X => ?_)
  have X : Wd E _ _ (roomW E a k (up2 (up2 f 4 (pe f) x) 5 (pe f) 0)) _ _ := X
  refine lv_iconst (v := 0) hx hb dX6_addPerson_20 (by decide) ?_
  refine lv_istore_n (lv' := [(2, .int 0), (0, .ref (a 0)), (1, .int x)]) hx hb dX6_addPerson_21 rfl hl (by decide) rfl (fun ls hl => ?_)
  have lp22 : ∀ (fu : Nat) (i : Nat) (n : Nat) (g : St) (hfu : n < fu) (hin : i + n = 10) (hR : wishL (pe f) n i g = wishL (pe f) 10 0 (up2 (up2 f 4 (pe f) x) 5 (pe f) 0)) (hg0 : g 0 3 = f 0 3) (ls : Array Slot) (hl : lv_has ls 3 [(2, .int (nI i)), (0, .ref (a 0)), (1, .int x)]) (H : Heap) (locs : List Loc) (X : Wd E (inW (roomW E a k f)) s0.heap (roomW E a k g) H locs), W pg l ev (rmK 1 21) s0 mm ([.ref (a 0), .int x] : List Value).toArray below meth cd H locs 0 0 Q (F0 mm 22 ls []) := by
    intro fu
    induction fu with
    | zero => intro i n g hfu; exact absurd hfu (Nat.not_lt_zero _)
    | succ fu ih22 =>
      intro i n g hfu hin hR hg0 ls hl H locs X
      refine lv_iload_n hx hb dX6_addPerson_22 rfl (lv_at hl 0 rfl) ?_
      refine lv_bipush (v := 10) hx hb dX6_addPerson_23 (by decide) ?_
      refine kN_ge (x := i) (y := 10) hx hb 51 dX6_addPerson_25 (by decide) (by omega) (by omega) (fun c25 => ?_) (fun c25 => ?_)
      · obtain rfl : n = 0 := by omega
        refine lv_aload_n hx hb dX6_addPerson_51 rfl (lv_at hl 1 rfl) ?_
        refine lv_dup hx hb dX6_addPerson_52 rfl ?_
        refine k_get K X 0 rfl fg_X6_25 (v := .int (g 0 3)) rfl dX6_addPerson_53 ?_
        refine k_topi (hg0.trans I.hP) ?_
        refine lv_dup_x1 hx hb dX6_addPerson_56 rfl rfl ?_
        refine lv_iconst (v := 1) hx hb dX6_addPerson_57 (by decide) ?_
        refine lv_iadd hx hb dX6_addPerson_58 ?_
        refine k_topi (nI_add (pe f) 1) ?_
        refine k_put K X 0 rfl fp_X6_25 (v := .int (nI (pe f + 1))) rfl rfl (Nat.le_of_ble_eq_true rfl) dX6_addPerson_59 (fun H locs X => ?_)
        have X : Wd E _ _ (roomW E a k (up2 g 0 3 (nI (pe f + 1)))) _ _ := X
        exact fin () 62 _ _ _ trivial (X.eq (by rw [addP, ← hR]; rfl)) dX6_addPerson_62
      · obtain ⟨n, rfl⟩ : ∃ z, n = z + 1 := ⟨n - 1, by omega⟩
        refine lv_aload_n hx hb dX6_addPerson_28 rfl (lv_at hl 1 rfl) ?_
        refine k_get K X 0 rfl fg_X6_44 (v := .ref (a 6)) rfl dX6_addPerson_29 ?_
        refine lv_aload_n hx hb dX6_addPerson_32 rfl (lv_at hl 1 rfl) ?_
        refine k_get K X 0 rfl fg_X6_25 (v := .int (g 0 3)) rfl dX6_addPerson_33 ?_
        refine k_topi (hg0.trans I.hP) ?_
        refine lv_iload_n hx hb dX6_addPerson_36 rfl (lv_at hl 0 rfl) ?_
        refine k_callS K X gs_X6_53 (As := [.int (nI (pe f)), .int (nI i)]) (c_X6_wish l E (pe f) i) [] rfl (by decide +kernel) (fun _ => rfl) (by decide) rfl hl.1 (rest := [.ref (a 6)]) rfl (Nat.le_of_ble_eq_true rfl) dX6_addPerson_37 (st1 := fun _ => [.int (nI (10 * (pe f) + i)), .ref (a 6)]) (fun _ => rfl) (fun _ H locs _ X => ?_)
        have X : Wd E _ _ (roomW E a k g) _ _ := X
        refine lv_iload_n hx hb dX6_addPerson_40 rfl (lv_at hl 0 rfl) ?_
        refine lv_bipush (v := 6) hx hb dX6_addPerson_41 (by decide) ?_
        refine lv_irem hx hb dX6_addPerson_43 (by decide) ?_
        refine k_topi (pk_rem (a := i) (d := 6) (by omega) (by omega) (by omega)) ?_
        refine k_iastN K X 6 rfl (k := 10 * (pe f) + i) (x := nI (i % 6)) (by omega) (by decide) dX6_addPerson_44 (fun H locs X => ?_)
        have X : Wd E _ _ (roomW E a k (up2 g 6 (10 * (pe f) + i) (nI (i % 6)))) _ _ := X
        refine lv_iinc (v := nI (i + 1)) (lv' := [(2, .int (nI (i + 1))), (0, .ref (a 0)), (1, .int x)]) hx hb dX6_addPerson_45 hl (k := 0) rfl (nI_add i 1) (by decide) rfl (fun ls hl => ?_)
        refine lv_goto (tgt := 22) hx hb dX6_addPerson_48 (by decide) ?_
        exact ih22 (i + 1) n (up2 g 6 (10 * (pe f) + i) (nI (i % 6))) (by omega) (by omega) (hR) (hg0) _ hl _ _ X
  exact lp22 (10 + 1) 0 10 (up2 (up2 f 4 (pe f) x) 5 (pe f) 0) (by omega) (by omega) (rfl) (rfl) _ hl _ _ X
set_option maxRecDepth 100000 in
set_option maxHeartbeats 4000000 in
theorem c_X6_passMinute (l : Launch) (E : EE) (a : Nat → Nat) (k : Nat → Nat) (f : St) (T : Nat) (I : Inv T f) (hT : T < 1000000) : Kd l yX6_passMinute cX6_passMinute 6 (some .int) 4 93 E (roomK E a k f) [.ref (a 0)] (some (.int (tcF f))) (roomK E a k (goF f)) := by
  refine Kn.ofWi (by decide +kernel) (Nat.le_of_ble_eq_true rfl) (fun _ _ => rfl) ?_
  intro pg ev s0 mm below meth cd Q K X fin ls hl
  have hx := K.1
  have hb := K.2.1
  have hs10 := I.s10
  have hp6 := I.p6
  have hl : lv_has ls 6 [(0, .ref (a 0))] := hl
  refine lv_aload_n hx hb dX6_passMinute_0 rfl (lv_at hl 0 rfl) ?_
  refine k_callV K X gv_X6_61 (As := []) (c_X6_whoseTurn l E a k f T I (by omega)) [0, 1, 2, 3, 4, 5, 6] roomK_s0C (by decide +kernel) (fun _ => roomW_fst) 0 6 rfl rfl (by decide) rfl hl.1 (rest := []) rfl (Nat.le_of_ble_eq_true rfl) dX6_passMinute_1 (st1 := fun _ => [.int (whoF f)]) (fun _ => rfl) (fun _ H locs _ X => ?_)
  have X : Wd E _ _ (roomK E a k f) _ _ := X.eq roomK_s0P
  refine lv_istore_n (lv' := [(1, .int (whoF f)), (0, .ref (a 0))]) hx hb dX6_passMinute_4 rfl hl (by decide) rfl (fun ls hl => ?_)
  refine lv_iconst (v := 0) hx hb dX6_passMinute_5 (by decide) ?_
  refine lv_istore_n (lv' := [(2, .int 0), (1, .int (whoF f)), (0, .ref (a 0))]) hx hb dX6_passMinute_6 rfl hl (by decide) rfl (fun ls hl => ?_)
  refine lv_iload_n hx hb dX6_passMinute_7 rfl (lv_at hl 1 rfl) ?_
  refine lv_iconst (v := (-1)) hx hb dX6_passMinute_8 (by decide) ?_
  refine k_icmp_eq (x := whoF f) (y := (-1)) hx hb 69 dX6_passMinute_9 (by decide) (fun c9 => ?_) (fun c9 => ?_)
  · have hw0 : pe f = 0 := by
      rcases Classical.em (pe f = 0) with h | h
      · exact h
      · exact absurd (show whoF f = -1 from c9) (by rw [whoF, if_neg h]; exact nI_ne_m1 (by have := tnF_lt h; omega))
    have hgo : goes? f = false := by simp [goes?, hw0]
    refine lv_aload_n hx hb dX6_passMinute_69 rfl (lv_at hl 2 rfl) ?_
    refine lv_dup hx hb dX6_passMinute_70 rfl ?_
    refine k_get K X 0 rfl fg_X6_15 (v := .int (f 0 0)) rfl dX6_passMinute_71 ?_
    refine lv_iconst (v := 1) hx hb dX6_passMinute_74 (by decide) ?_
    refine lv_iadd hx hb dX6_passMinute_75 ?_
    refine k_put K X 0 rfl fp_X6_15 (v := .int ((f 0 0) + 1)) rfl rfl (Nat.le_of_ble_eq_true rfl) dX6_passMinute_76 (fun H locs X => ?_)
    have X : Wd E _ _ (roomK E a k (up2 f 0 0 ((f 0 0) + 1))) _ _ := X
    refine lv_iload_n hx hb dX6_passMinute_79 rfl (lv_at hl 0 rfl) ?_
    exact k_topi (x' := tcF f) (by rw [tcF, goR, hgo]; rfl) (fin () 80 _ _ _ trivial (X.eq (by rw [goF_eq I, goR, hgo]; rfl)) dX6_passMinute_80)
  · have hw0 : ¬ pe f = 0 := fun h => c9 (by rw [whoF, if_pos h])
    have hwe : whoF f = nI (tnF f) := by rw [whoF, if_neg hw0]
    have htn := tnF_lt hw0
    refine lv_aload_n hx hb dX6_passMinute_12 rfl (lv_at hl 2 rfl) ?_
    refine k_get K X 0 rfl fg_X6_41 (v := .ref (a 5)) rfl dX6_passMinute_13 ?_
    refine lv_iload_n hx hb dX6_passMinute_16 rfl (lv_at hl 1 rfl) ?_
    refine k_topi (hwe) ?_
    refine k_ialdN K X 5 rfl (k := tnF f) (by omega) (by decide) dX6_passMinute_17 (v := f 5 (tnF f)) rfl ?_
    refine k_if_ne (x := f 5 (tnF f)) hx hb 69 dX6_passMinute_18 (by decide) (fun c18 => ?_) (fun c18 => ?_)
    · have hgo : goes? f = false := by simp [goes?, hw0, c18]
      refine lv_aload_n hx hb dX6_passMinute_69 rfl (lv_at hl 2 rfl) ?_
      refine lv_dup hx hb dX6_passMinute_70 rfl ?_
      refine k_get K X 0 rfl fg_X6_15 (v := .int (f 0 0)) rfl dX6_passMinute_71 ?_
      refine lv_iconst (v := 1) hx hb dX6_passMinute_74 (by decide) ?_
      refine lv_iadd hx hb dX6_passMinute_75 ?_
      refine k_put K X 0 rfl fp_X6_15 (v := .int ((f 0 0) + 1)) rfl rfl (Nat.le_of_ble_eq_true rfl) dX6_passMinute_76 (fun H locs X => ?_)
      have X : Wd E _ _ (roomK E a k (up2 f 0 0 ((f 0 0) + 1))) _ _ := X
      refine lv_iload_n hx hb dX6_passMinute_79 rfl (lv_at hl 0 rfl) ?_
      exact k_topi (x' := tcF f) (by rw [tcF, goR, hgo]; rfl) (fin () 80 _ _ _ trivial (X.eq (by rw [goF_eq I, goR, hgo]; rfl)) dX6_passMinute_80)
    · have hgo : goes? f = true := by simp [goes?, hw0, c18]
      have hk6 := I.k6 (p := tnF f) (by omega)
      have htu := turnS_le (kn f (tnF f))
      refine lv_aload_n hx hb dX6_passMinute_21 rfl (lv_at hl 2 rfl) ?_
      refine lv_iload_n hx hb dX6_passMinute_22 rfl (lv_at hl 1 rfl) ?_
      refine k_topi (hwe) ?_
      refine k_callV K X gv_X6_64 (As := [.int (nI (tnF f))]) (c_X6_turnsOf l E a k f T (tnF f) I (by omega)) [0, 1, 2, 3, 4, 5, 6, 7, 8, 9, 10, 11, 12, 13] roomK_idC (by decide +kernel) (fun _ => roomK_fst) 0 6 rfl rfl (by decide) rfl hl.1 (rest := []) rfl (Nat.le_of_ble_eq_true rfl) dX6_passMinute_23 (st1 := fun _ => [.int (nI (turnS (kn f (tnF f))))]) (fun _ => rfl) (fun _ H locs _ X => ?_)
      have X : Wd E _ _ (roomK E a k f) _ _ := X.eq roomK_idP
      refine lv_istore_n (lv' := [(3, .int (nI (turnS (kn f (tnF f))))), (2, .int 0), (1, .int (whoF f)), (0, .ref (a 0))]) hx hb dX6_passMinute_26 rfl hl (by decide) rfl (fun ls hl => ?_)
      refine lv_iconst (v := 0) hx hb dX6_passMinute_27 (by decide) ?_
      refine lv_istore (lv' := [(4, .int 0), (3, .int (nI (turnS (kn f (tnF f))))), (2, .int 0), (1, .int (whoF f)), (0, .ref (a 0))]) hx hb dX6_passMinute_28 hl (by decide) rfl (fun ls hl => ?_)
      have lp30 : ∀ (fu : Nat) (i : Nat) (n : Nat) (g : St) (t : Int32) (hfu : n < fu) (hin : i + n = turnS (kn f (tnF f))) (hR : turnL (tnF f) n g t = turnL (tnF f) (turnS (kn f (tnF f))) f 0) (Ig : Inv T g) (h00 : g 0 0 = f 0 0) (ls : Array Slot) (hl : lv_has ls 6 [(4, .int (nI i)), (3, .int (nI (turnS (kn f (tnF f))))), (2, .int t), (1, .int (whoF f)), (0, .ref (a 0))]) (H : Heap) (locs : List Loc) (X : Wd E (inW (roomK E a k f)) s0.heap (roomK E a k g) H locs), W pg l ev (rmK 4 93) s0 mm ([.ref (a 0)] : List Value).toArray below meth cd H locs 0 0 Q (F0 mm 30 ls []) := by
        intro fu
        induction fu with
        | zero => intro i n g t hfu; exact absurd hfu (Nat.not_lt_zero _)
        | succ fu ih30 =>
          intro i n g t hfu hin hR Ig h00 ls hl H locs X
          refine lv_iload hx hb dX6_passMinute_30 (lv_at hl 0 rfl) ?_
          refine lv_iload_n hx hb dX6_passMinute_32 rfl (lv_at hl 1 rfl) ?_
          refine kN_ge (x := i) (y := turnS (kn f (tnF f))) hx hb 69 dX6_passMinute_33 (by decide) (by omega) (by omega) (fun c33 => ?_) (fun c33 => ?_)
          · obtain rfl : n = 0 := by omega
            refine lv_aload_n hx hb dX6_passMinute_69 rfl (lv_at hl 4 rfl) ?_
            refine lv_dup hx hb dX6_passMinute_70 rfl ?_
            refine k_get K X 0 rfl fg_X6_15 (v := .int (g 0 0)) rfl dX6_passMinute_71 ?_
            refine lv_iconst (v := 1) hx hb dX6_passMinute_74 (by decide) ?_
            refine lv_iadd hx hb dX6_passMinute_75 ?_
            refine k_put K X 0 rfl fp_X6_15 (v := .int ((g 0 0) + 1)) rfl rfl (Nat.le_of_ble_eq_true rfl) dX6_passMinute_76 (fun H locs X => ?_)
            have X : Wd E _ _ (roomK E a k (up2 g 0 0 ((g 0 0) + 1))) _ _ := X
            refine lv_iload_n hx hb dX6_passMinute_79 rfl (lv_at hl 2 rfl) ?_
            exact k_topi (x' := tcF f) ((congrArg Prod.snd hR).trans (by rw [tcF, goR, hgo]; rfl)) (fin () 80 _ _ _ trivial (X.eq (by rw [goF_eq I, goR, hgo, cond_true, ← hR]; rfl)) dX6_passMinute_80)
          · obtain ⟨n, rfl⟩ : ∃ z, n = z + 1 := ⟨n - 1, by omega⟩
            refine lv_aload_n hx hb dX6_passMinute_36 rfl (lv_at hl 4 rfl) ?_
            refine lv_iload_n hx hb dX6_passMinute_37 rfl (lv_at hl 3 rfl) ?_
            refine k_topi (hwe) ?_
            refine k_callV K X gv_X6_68 (As := [.int (nI (tnF f))]) (c_X6_pickOf l E a k g T (tnF f) Ig (by omega)) [0, 1, 2, 3, 4, 5, 6, 7, 8, 9, 10, 11, 12, 13] roomK_idC (by decide +kernel) (fun _ => roomK_fst) 0 6 rfl rfl (by decide) rfl hl.1 (rest := []) rfl (Nat.le_of_ble_eq_true rfl) dX6_passMinute_38 (st1 := fun _ => [.int (pickF g (tnF f))]) (fun _ => rfl) (fun _ H locs _ X => ?_)
            have X : Wd E _ _ (roomK E a k g) _ _ := X.eq roomK_idP
            refine lv_istore (lv' := [(5, .int (pickF g (tnF f))), (4, .int (nI i)), (3, .int (nI (turnS (kn f (tnF f))))), (2, .int t), (1, .int (whoF f)), (0, .ref (a 0))]) hx hb dX6_passMinute_41 hl (by decide) rfl (fun ls hl => ?_)
            refine lv_iload hx hb dX6_passMinute_43 (lv_at hl 0 rfl) ?_
            refine lv_iconst (v := (-1)) hx hb dX6_passMinute_45 (by decide) ?_
            refine k_icmp_eq (x := pickF g (tnF f)) (y := (-1)) hx hb 63 dX6_passMinute_46 (by decide) (fun c46 => ?_) (fun c46 => ?_)
            · refine lv_iinc (v := nI (i + 1)) (lv' := [(4, .int (nI (i + 1))), (5, .int (pickF g (tnF f))), (3, .int (nI (turnS (kn f (tnF f))))), (2, .int t), (1, .int (whoF f)), (0, .ref (a 0))]) hx hb dX6_passMinute_63 hl (k := 1) rfl (nI_add i 1) (by decide) rfl (fun ls hl => ?_)
              refine lv_goto (tgt := 30) hx hb dX6_passMinute_66 (by decide) ?_
              exact ih30 (i + 1) n g t (by omega) (by omega) (by rw [← hR, turnL, if_pos c46]) (Ig) (h00) _ (lv_sub hl [0, 2, 3, 4, 5] rfl) _ _ X
            · obtain ⟨j, hj, ej⟩ := pick_nat c46
              have hj10 := Ig.s10
              refine lv_aload_n hx hb dX6_passMinute_49 rfl (lv_at hl 5 rfl) ?_
              refine lv_iload_n hx hb dX6_passMinute_50 rfl (lv_at hl 4 rfl) ?_
              refine k_topi (hwe) ?_
              refine lv_iload hx hb dX6_passMinute_51 (lv_at hl 0 rfl) ?_
              refine k_topi (ej) ?_
              refine k_callV K X gv_X6_71 (As := [.int (nI (tnF f)), .int (nI j)]) (c_X6_shift l E a k g T (tnF f) j Ig (by omega) (by omega)) [0, 1, 2, 3, 4, 5, 6, 7, 8, 9, 10, 11, 12, 13] roomK_idC (by decide +kernel) (fun _ => roomK_fst) 0 6 rfl rfl (by decide) rfl hl.1 (rest := []) rfl (Nat.le_of_ble_eq_true rfl) dX6_passMinute_53 (st1 := fun _ => []) (fun _ => rfl) (fun _ H locs _ X => ?_)
              have X : Wd E _ _ (roomK E a k (shiftF g (tnF f) j)) _ _ := X.eq roomK_idP
              refine lv_iload_n hx hb dX6_passMinute_56 rfl (lv_at hl 3 rfl) ?_
              refine lv_iconst (v := 1) hx hb dX6_passMinute_57 (by decide) ?_
              refine lv_iload hx hb dX6_passMinute_58 (lv_at hl 0 rfl) ?_
              refine k_topi (ej) ?_
              refine lv_ishl hx hb dX6_passMinute_60 ?_
              refine lv_ior hx hb dX6_passMinute_61 ?_
              refine lv_istore_n (lv' := [(2, .int (t ||| (1 <<< ((nI j) &&& 31)))), (5, .int (pickF g (tnF f))), (4, .int (nI i)), (3, .int (nI (turnS (kn f (tnF f))))), (1, .int (whoF f)), (0, .ref (a 0))]) hx hb dX6_passMinute_62 rfl hl (by decide) rfl (fun ls hl => ?_)
              refine lv_iinc (v := nI (i + 1)) (lv' := [(4, .int (nI (i + 1))), (2, .int (t ||| (1 <<< ((nI j) &&& 31)))), (5, .int (pickF g (tnF f))), (3, .int (nI (turnS (kn f (tnF f))))), (1, .int (whoF f)), (0, .ref (a 0))]) hx hb dX6_passMinute_63 hl (k := 2) rfl (nI_add i 1) (by decide) rfl (fun ls hl => ?_)
              refine lv_goto (tgt := 30) hx hb dX6_passMinute_66 (by decide) ?_
              exact ih30 (i + 1) n (shiftF g (tnF f) j) (t ||| (1 <<< ((nI j) &&& 31))) (by omega) (by omega) (by rw [← hR, turnL, if_neg c46, ej, nI_clamp (by omega)]) (Ig.shift (by omega) (by omega)) (h00) _ (lv_sub hl [0, 3, 1, 4, 5] rfl) _ _ X
      exact lp30 ((turnS (kn f (tnF f))) + 1) 0 (turnS (kn f (tnF f))) f 0 (by omega) (by omega) (rfl) (I) (rfl) _ hl _ _ X
set_option maxRecDepth 100000 in
set_option maxHeartbeats 4000000 in
theorem c_X6_passMinutes (l : Launch) (E : EE) (a : Nat → Nat) (k : Nat → Nat) (f : St) (T : Nat) (u : Nat) (I : Inv T f) (hT : T + u < 1000000) : Kd l yX6_passMinutes cX6_passMinutes 3 none 5 118 E (roomK E a k f) [.ref (a 0), .int (nI u)] none (roomK E a k (goN u f)) := by
  refine Kn.ofWv (by decide +kernel) (Nat.le_of_ble_eq_true rfl) ?_
  intro pg ev s0 mm below meth cd Q K X fin ls hl
  have hx := K.1
  have hb := K.2.1
  have hs10 := I.s10
  have hp6 := I.p6
  have hl : lv_has ls 3 [(0, .ref (a 0)), (1, .int (nI u))] := hl
  refine lv_iconst (v := 0) hx hb dX6_passMinutes_0 (by decide) ?_
  refine lv_istore_n (lv' := [(2, .int 0), (0, .ref (a 0)), (1, .int (nI u))]) hx hb dX6_passMinutes_1 rfl hl (by decide) rfl (fun ls hl => ?_)
  have lp2 : ∀ (fu : Nat) (i : Nat) (n : Nat) (g : St) (hfu : n < fu) (hin : i + n = u) (hR : goN n g = goN u f) (Ig : Inv (T + i) g) (ls : Array Slot) (hl : lv_has ls 3 [(2, .int (nI i)), (0, .ref (a 0)), (1, .int (nI u))]) (H : Heap) (locs : List Loc) (X : Wd E (inW (roomK E a k f)) s0.heap (roomK E a k g) H locs), W pg l ev (rmK 5 118) s0 mm ([.ref (a 0), .int (nI u)] : List Value).toArray below meth cd H locs 0 0 Q (F0 mm 2 ls []) := by
    intro fu
    induction fu with
    | zero => intro i n g hfu; exact absurd hfu (Nat.not_lt_zero _)
    | succ fu ih2 =>
      intro i n g hfu hin hR Ig ls hl H locs X
      refine lv_iload_n hx hb dX6_passMinutes_2 rfl (lv_at hl 0 rfl) ?_
      refine lv_iload_n hx hb dX6_passMinutes_3 rfl (lv_at hl 2 rfl) ?_
      refine kN_ge (x := i) (y := u) hx hb 18 dX6_passMinutes_4 (by decide) (by omega) (by omega) (fun c4 => ?_) (fun c4 => ?_)
      · obtain rfl : n = 0 := by omega
        exact fin () 18 _ _ _ trivial (X.eq (by rw [← hR]; rfl)) dX6_passMinutes_18
      · obtain ⟨n, rfl⟩ : ∃ z, n = z + 1 := ⟨n - 1, by omega⟩
        refine lv_aload_n hx hb dX6_passMinutes_7 rfl (lv_at hl 1 rfl) ?_
        refine k_callV K X gv_X6_57 (As := []) (c_X6_passMinute l E a k g (T + i) Ig (by omega)) [0, 1, 2, 3, 4, 5, 6, 7, 8, 9, 10, 11, 12, 13] roomK_idC (by decide +kernel) (fun _ => roomK_fst) 0 6 rfl rfl (by decide) rfl hl.1 (rest := []) rfl (Nat.le_of_ble_eq_true rfl) dX6_passMinutes_8 (st1 := fun _ => [.int (tcF g)]) (fun _ => rfl) (fun _ H locs _ X => ?_)
        have X : Wd E _ _ (roomK E a k (goF g)) _ _ := X.eq roomK_idP
        refine lv_pop hx hb dX6_passMinutes_11 rfl ?_
        refine lv_iinc (v := nI (i + 1)) (lv' := [(2, .int (nI (i + 1))), (0, .ref (a 0)), (1, .int (nI u))]) hx hb dX6_passMinutes_12 hl (k := 0) rfl (nI_add i 1) (by decide) rfl (fun ls hl => ?_)
        refine lv_goto (tgt := 2) hx hb dX6_passMinutes_15 (by decide) ?_
        exact ih2 (i + 1) n (goF g) (by omega) (by omega) (hR) (Ig.go (by omega)) _ hl _ _ X
  exact lp2 (u + 1) 0 u f (by omega) (by omega) (rfl) (I) _ hl _ _ X
