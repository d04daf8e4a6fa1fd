def whoF (f : St) : Int32 := if pe f = 0 then -1 else nI (tnF f)
theorem roomK_kd (E : EE) (a k : Nat → Nat) (f : St) : ∀ j, j < 6 → (roomK E a k f)[8 + j]? = some (k (1 + j), .inr (kci j, [])) := fun j hj => match j, hj with
  | 0, _ => rfl
  | 1, _ => rfl
  | 2, _ => rfl
  | 3, _ => rfl
  | 4, _ => rfl
  | 5, _ => rfl
  | j + 6, h => absurd h (by omega)
set_option maxRecDepth 100000 in
set_option maxHeartbeats 4000000 in
theorem c_J6_bitCount_0f7a4 (l : Launch) (E : EE) (x : Int32) : Kd l yJ6_bitCount_0f7a4 cJ6_bitCount_0f7a4 1 (some .int) 0 0 E (noW E  ) [.int x] (some (.int (bcF x))) (noW E  ) := by
  refine Kn.ofWi (by decide +kernel) (Nat.le_of_ble_eq_true rfl) (fun _ _ => rfl) ?_
  intro pg ev s0 mm below meth cd Q K X fin ls hl
  have hx := K.1
  have hb := K.2.1
  have hl : lv_has ls 1 [(0, .int x)] := hl
  refine lv_iload_n hx hb dJ6_bitCount_0f7a4_0 rfl (lv_at hl 0 rfl) ?_
  refine lv_iload_n hx hb dJ6_bitCount_0f7a4_1 rfl (lv_at hl 0 rfl) ?_
  refine lv_iconst (v := 1) hx hb dJ6_bitCount_0f7a4_2 (by decide) ?_
  refine lv_iushr (v := (x.toUInt32 >>> ((1 : Int32).toUInt32 &&& Int32.toUInt32 31)).toInt32) hx hb dJ6_bitCount_0f7a4_3 rfl ?_
  refine lv_ldcw (v := 1431655765) hx hb K.2.2.2.1 (K.2.2.2.2.1 _ (Mw_at 513 (by decide +kernel) (by decide +kernel))) dJ6_bitCount_0f7a4_4 ?_
  refine lv_iand hx hb dJ6_bitCount_0f7a4_7 ?_
  refine lv_isub hx hb dJ6_bitCount_0f7a4_8 ?_
  refine lv_istore_n (lv' := [(0, .int (x - (((x.toUInt32 >>> ((1 : Int32).toUInt32 &&& Int32.toUInt32 31)).toInt32) &&& 1431655765)))]) hx hb dJ6_bitCount_0f7a4_9 rfl hl (by decide) rfl (fun ls hl => ?_)
  refine lv_iload_n hx hb dJ6_bitCount_0f7a4_10 rfl (lv_at hl 0 rfl) ?_
  refine lv_ldcw (v := 858993459) hx hb K.2.2.2.1 (K.2.2.2.2.1 _ (Mw_at 514 (by decide +kernel) (by decide +kernel))) dJ6_bitCount_0f7a4_11 ?_
  refine lv_iand hx hb dJ6_bitCount_0f7a4_14 ?_
  refine lv_iload_n hx hb dJ6_bitCount_0f7a4_15 rfl (lv_at hl 0 rfl) ?_
  refine lv_iconst (v := 2) hx hb dJ6_bitCount_0f7a4_16 (by decide) ?_
  refine lv_iushr (v := ((x - (((x.toUInt32 >>> ((1 : Int32).toUInt32 &&& Int32.toUInt32 31)).toInt32) &&& 1431655765)).toUInt32 >>> ((2 : Int32).toUInt32 &&& Int32.toUInt32 31)).toInt32) hx hb dJ6_bitCount_0f7a4_17 rfl ?_
  refine lv_ldcw (v := 858993459) hx hb K.2.2.2.1 (K.2.2.2.2.1 _ (Mw_at 514 (by decide +kernel) (by decide +kernel))) dJ6_bitCount_0f7a4_18 ?_
  refine lv_iand hx hb dJ6_bitCount_0f7a4_21 ?_
  refine lv_iadd hx hb dJ6_bitCount_0f7a4_22 ?_
  refine lv_istore_n (lv' := [(0, .int (((x - (((x.toUInt32 >>> ((1 : Int32).toUInt32 &&& Int32.toUInt32 31)).toInt32) &&& 1431655765)) &&& 858993459) + ((((x - (((x.toUInt32 >>> ((1 : Int32).toUInt32 &&& Int32.toUInt32 31)).toInt32) &&& 1431655765)).toUInt32 >>> ((2 : Int32).toUInt32 &&& Int32.toUInt32 31)).toInt32) &&& 858993459)))]) hx hb dJ6_bitCount_0f7a4_23 rfl hl (by decide) rfl (fun ls hl => ?_)
  refine lv_iload_n hx hb dJ6_bitCount_0f7a4_24 rfl (lv_at hl 0 rfl) ?_
  refine lv_iload_n hx hb dJ6_bitCount_0f7a4_25 rfl (lv_at hl 0 rfl) ?_
  refine lv_iconst (v := 4) hx hb dJ6_bitCount_0f7a4_26 (by decide) ?_
  refine lv_iushr (v := ((((x - (((x.toUInt32 >>> ((1 : Int32).toUInt32 &&& Int32.toUInt32 31)).toInt32) &&& 1431655765)) &&& 858993459) + ((((x - (((x.toUInt32 >>> ((1 : Int32).toUInt32 &&& Int32.toUInt32 31)).toInt32) &&& 1431655765)).toUInt32 >>> ((2 : Int32).toUInt32 &&& Int32.toUInt32 31)).toInt32) &&& 858993459)).toUInt32 >>> ((4 : Int32).toUInt32 &&& Int32.toUInt32 31)).toInt32) hx hb dJ6_bitCount_0f7a4_27 rfl ?_
  refine lv_iadd hx hb dJ6_bitCount_0f7a4_28 ?_
  refine lv_ldcw (v := 252645135) hx hb K.2.2.2.1 (K.2.2.2.2.1 _ (Mw_at 515 (by decide +kernel) (by decide +kernel))) dJ6_bitCount_0f7a4_29 ?_
  refine lv_iand hx hb dJ6_bitCount_0f7a4_32 ?_
  refine lv_istore_n (lv' := [(0, .int (((((x - (((x.toUInt32 >>> ((1 : Int32).toUInt32 &&& Int32.toUInt32 31)).toInt32) &&& 1431655765)) &&& 858993459) + ((((x - (((x.toUInt32 >>> ((1 : Int32).toUInt32 &&& Int32.toUInt32 31)).toInt32) &&& 1431655765)).toUInt32 >>> ((2 : Int32).toUInt32 &&& Int32.toUInt32 31)).toInt32) &&& 858993459)) + (((((x - (((x.toUInt32 >>> ((1 : Int32).toUInt32 &&& Int32.toUInt32 31)).toInt32) &&& 1431655765)) &&& 858993459) + ((((x - (((x.toUInt32 >>> ((1 : Int32).toUInt32 &&& Int32.toUInt32 31)).toInt32) &&& 1431655765)).toUInt32 >>> ((2 : Int32).toUInt32 &&& Int32.toUInt32 31)).toInt32) &&& 858993459)).toUInt32 >>> ((4 : Int32).toUInt32 &&& Int32.toUInt32 31)).toInt32)) &&& 252645135))]) hx hb dJ6_bitCount_0f7a4_33 rfl hl (by decide) rfl (fun ls hl => ?_)
  refine lv_iload_n hx hb dJ6_bitCount_0f7a4_34 rfl (lv_at hl 0 rfl) ?_
  refine lv_iload_n hx hb dJ6_bitCount_0f7a4_35 rfl (lv_at hl 0 rfl) ?_
  refine lv_bipush (v := 8) hx hb dJ6_bitCount_0f7a4_36 (by decide) ?_
  refine lv_iushr (v := ((((((x - (((x.toUInt32 >>> ((1 : Int32).toUInt32 &&& Int32.toUInt32 31)).toInt32) &&& 1431655765)) &&& 858993459) + ((((x - (((x.toUInt32 >>> ((1 : Int32).toUInt32 &&& Int32.toUInt32 31)).toInt32) &&& 1431655765)).toUInt32 >>> ((2 : Int32).toUInt32 &&& Int32.toUInt32 31)).toInt32) &&& 858993459)) + (((((x - (((x.toUInt32 >>> ((1 : Int32).toUInt32 &&& Int32.toUInt32 31)).toInt32) &&& 1431655765)) &&& 858993459) + ((((x - (((x.toUInt32 >>> ((1 : Int32).toUInt32 &&& Int32.toUInt32 31)).toInt32) &&& 1431655765)).toUInt32 >>> ((2 : Int32).toUInt32 &&& Int32.toUInt32 31)).toInt32) &&& 858993459)).toUInt32 >>> ((4 : Int32).toUInt32 &&& Int32.toUInt32 31)).toInt32)) &&& 252645135).toUInt32 >>> ((8 : Int32).toUInt32 &&& Int32.toUInt32 31)).toInt32) hx hb dJ6_bitCount_0f7a4_38 rfl ?_
  refine lv_iadd hx hb dJ6_bitCount_0f7a4_39 ?_
  refine lv_istore_n (lv' := [(0, .int ((((((x - (((x.toUInt32 >>> ((1 : Int32).toUInt32 &&& Int32.toUInt32 31)).toInt32) &&& 1431655765)) &&& 858993459) + ((((x - (((x.toUInt32 >>> ((1 : Int32).toUInt32 &&& Int32.toUInt32 31)).toInt32) &&& 1431655765)).toUInt32 >>> ((2 : Int32).toUInt32 &&& Int32.toUInt32 31)).toInt32) &&& 858993459)) + (((((x - (((x.toUInt32 >>> ((1 : Int32).toUInt32 &&& Int32.toUInt32 31)).toInt32) &&& 1431655765)) &&& 858993459) + ((((x - (((x.toUInt32 >>> ((1 : Int32).toUInt32 &&& Int32.toUInt32 31)).toInt32) &&& 1431655765)).toUInt32 >>> ((2 : Int32).toUInt32 &&& Int32.toUInt32 31)).toInt32) &&& 858993459)).toUInt32 >>> ((4 : Int32).toUInt32 &&& Int32.toUInt32 31)).toInt32)) &&& 252645135) + (((((((x - (((x.toUInt32 >>> ((1 : Int32).toUInt32 &&& Int32.toUInt32 31)).toInt32) &&& 1431655765)) &&& 858993459) + ((((x - (((x.toUInt32 >>> ((1 : Int32).toUInt32 &&& Int32.toUInt32 31)).toInt32) &&& 1431655765)).toUInt32 >>> ((2 : Int32).toUInt32 &&& Int32.toUInt32 31)).toInt32) &&& 858993459)) + (((((x - (((x.toUInt32 >>> ((1 : Int32).toUInt32 &&& Int32.toUInt32 31)).toInt32) &&& 1431655765)) &&& 858993459) + ((((x - (((x.toUInt32 >>> ((1 : Int32).toUInt32 &&& Int32.toUInt32 31)).toInt32) &&& 1431655765)).toUInt32 >>> ((2 : Int32).toUInt32 &&& Int32.toUInt32 31)).toInt32) &&& 858993459)).toUInt32 >>> ((4 : Int32).toUInt32 &&& Int32.toUInt32 31)).toInt32)) &&& 252645135).toUInt32 >>> ((8 : Int32).toUInt32 &&& Int32.toUInt32 31)).toInt32)))]) hx hb dJ6_bitCount_0f7a4_40 rfl hl (by decide) rfl (fun ls hl => ?_)
  refine lv_iload_n hx hb dJ6_bitCount_0f7a4_41 rfl (lv_at hl 0 rfl) ?_
  refine lv_iload_n hx hb dJ6_bitCount_0f7a4_42 rfl (lv_at hl 0 rfl) ?_
  refine lv_bipush (v := 16) hx hb dJ6_bitCount_0f7a4_43 (by decide) ?_
  refine lv_iushr (v := (((((((x - (((x.toUInt32 >>> ((1 : Int32).toUInt32 &&& Int32.toUInt32 31)).toInt32) &&& 1431655765)) &&& 858993459) + ((((x - (((x.toUInt32 >>> ((1 : Int32).toUInt32 &&& Int32.toUInt32 31)).toInt32) &&& 1431655765)).toUInt32 >>> ((2 : Int32).toUInt32 &&& Int32.toUInt32 31)).toInt32) &&& 858993459)) + (((((x - (((x.toUInt32 >>> ((1 : Int32).toUInt32 &&& Int32.toUInt32 31)).toInt32) &&& 1431655765)) &&& 858993459) + ((((x - (((x.toUInt32 >>> ((1 : Int32).toUInt32 &&& Int32.toUInt32 31)).toInt32) &&& 1431655765)).toUInt32 >>> ((2 : Int32).toUInt32 &&& Int32.toUInt32 31)).toInt32) &&& 858993459)).toUInt32 >>> ((4 : Int32).toUInt32 &&& Int32.toUInt32 31)).toInt32)) &&& 252645135) + (((((((x - (((x.toUInt32 >>> ((1 : Int32).toUInt32 &&& Int32.toUInt32 31)).toInt32) &&& 1431655765)) &&& 858993459) + ((((x - (((x.toUInt32 >>> ((1 : Int32).toUInt32 &&& Int32.toUInt32 31)).toInt32) &&& 1431655765)).toUInt32 >>> ((2 : Int32).toUInt32 &&& Int32.toUInt32 31)).toInt32) &&& 858993459)) + (((((x - (((x.toUInt32 >>> ((1 : Int32).toUInt32 &&& Int32.toUInt32 31)).toInt32) &&& 1431655765)) &&& 858993459) + ((((x - (((x.toUInt32 >>> ((1 : Int32).toUInt32 &&& Int32.toUInt32 31)).toInt32) &&& 1431655765)).toUInt32 >>> ((2 : Int32).toUInt32 &&& Int32.toUInt32 31)).toInt32) &&& 858993459)).toUInt32 >>> ((4 : Int32).toUInt32 &&& Int32.toUInt32 31)).toInt32)) &&& 252645135).toUInt32 >>> ((8 : Int32).toUInt32 &&& Int32.toUInt32 31)).toInt32)).toUInt32 >>> ((16 : Int32).toUInt32 &&& Int32.toUInt32 31)).toInt32) hx hb dJ6_bitCount_0f7a4_45 rfl ?_
  refine lv_iadd hx hb dJ6_bitCount_0f7a4_46 ?_
  refine lv_istore_n (lv' := [(0, .int (((((((x - (((x.toUInt32 >>> ((1 : Int32).toUInt32 &&& Int32.toUInt32 31)).toInt32) &&& 1431655765)) &&& 858993459) + ((((x - (((x.toUInt32 >>> ((1 : Int32).toUInt32 &&& Int32.toUInt32 31)).toInt32) &&& 1431655765)).toUInt32 >>> ((2 : Int32).toUInt32 &&& Int32.toUInt32 31)).toInt32) &&& 858993459)) + (((((x - (((x.toUInt32 >>> ((1 : Int32).toUInt32 &&& Int32.toUInt32 31)).toInt32) &&& 1431655765)) &&& 858993459) + ((((x - (((x.toUInt32 >>> ((1 : Int32).toUInt32 &&& Int32.toUInt32 31)).toInt32) &&& 1431655765)).toUInt32 >>> ((2 : Int32).toUInt32 &&& Int32.toUInt32 31)).toInt32) &&& 858993459)).toUInt32 >>> ((4 : Int32).toUInt32 &&& Int32.toUInt32 31)).toInt32)) &&& 252645135) + (((((((x - (((x.toUInt32 >>> ((1 : Int32).toUInt32 &&& Int32.toUInt32 31)).toInt32) &&& 1431655765)) &&& 858993459) + ((((x - (((x.toUInt32 >>> ((1 : Int32).toUInt32 &&& Int32.toUInt32 31)).toInt32) &&& 1431655765)).toUInt32 >>> ((2 : Int32).toUInt32 &&& Int32.toUInt32 31)).toInt32) &&& 858993459)) + (((((x - (((x.toUInt32 >>> ((1 : Int32).toUInt32 &&& Int32.toUInt32 31)).toInt32) &&& 1431655765)) &&& 858993459) + ((((x - (((x.toUInt32 >>> ((1 : Int32).toUInt32 &&& Int32.toUInt32 31)).toInt32) &&& 1431655765)).toUInt32 >>> ((2 : Int32).toUInt32 &&& Int32.toUInt32 31)).toInt32) &&& 858993459)).toUInt32 >>> ((4 : Int32).toUInt32 &&& Int32.toUInt32 31)).toInt32)) &&& 252645135).toUInt32 >>> ((8 : Int32).toUInt32 &&& Int32.toUInt32 31)).toInt32)) + ((((((((x - (((x.toUInt32 >>> ((1 : Int32).toUInt32 &&& Int32.toUInt32 31)).toInt32) &&& 1431655765)) &&& 858993459) + ((((x - (((x.toUInt32 >>> ((1 : Int32).toUInt32 &&& Int32.toUInt32 31)).toInt32) &&& 1431655765)).toUInt32 >>> ((2 : Int32).toUInt32 &&& Int32.toUInt32 31)).toInt32) &&& 858993459)) + (((((x - (((x.toUInt32 >>> ((1 : Int32).toUInt32 &&& Int32.toUInt32 31)).toInt32) &&& 1431655765)) &&& 858993459) + ((((x - (((x.toUInt32 >>> ((1 : Int32).toUInt32 &&& Int32.toUInt32 31)).toInt32) &&& 1431655765)).toUInt32 >>> ((2 : Int32).toUInt32 &&& Int32.toUInt32 31)).toInt32) &&& 858993459)).toUInt32 >>> ((4 : Int32).toUInt32 &&& Int32.toUInt32 31)).toInt32)) &&& 252645135) + (((((((x - (((x.toUInt32 >>> ((1 : Int32).toUInt32 &&& Int32.toUInt32 31)).toInt32) &&& 1431655765)) &&& 858993459) + ((((x - (((x.toUInt32 >>> ((1 : Int32).toUInt32 &&& Int32.toUInt32 31)).toInt32) &&& 1431655765)).toUInt32 >>> ((2 : Int32).toUInt32 &&& Int32.toUInt32 31)).toInt32) &&& 858993459)) + (((((x - (((x.toUInt32 >>> ((1 : Int32).toUInt32 &&& Int32.toUInt32 31)).toInt32) &&& 1431655765)) &&& 858993459) + ((((x - (((x.toUInt32 >>> ((1 : Int32).toUInt32 &&& Int32.toUInt32 31)).toInt32) &&& 1431655765)).toUInt32 >>> ((2 : Int32).toUInt32 &&& Int32.toUInt32 31)).toInt32) &&& 858993459)).toUInt32 >>> ((4 : Int32).toUInt32 &&& Int32.toUInt32 31)).toInt32)) &&& 252645135).toUInt32 >>> ((8 : Int32).toUInt32 &&& Int32.toUInt32 31)).toInt32)).toUInt32 >>> ((16 : Int32).toUInt32 &&& Int32.toUInt32 31)).toInt32)))]) hx hb dJ6_bitCount_0f7a4_47 rfl hl (by decide) rfl (fun ls hl => ?_)
  refine lv_iload_n hx hb dJ6_bitCount_0f7a4_48 rfl (lv_at hl 0 rfl) ?_
  refine lv_bipush (v := 63) hx hb dJ6_bitCount_0f7a4_49 (by decide) ?_
  refine lv_iand hx hb dJ6_bitCount_0f7a4_51 ?_
  exact k_topi (x' := bcF x) (rfl) (fin () 52 _ _ _ trivial X dJ6_bitCount_0f7a4_52)
set_option maxRecDepth 100000 in
set_option maxHeartbeats 4000000 in
theorem c_X6_whoseTurn (l : Launch) (E : EE) (a : Nat → Nat) (k : Nat → Nat) (f : St) (T : Nat) (I : Inv T f) (hT : T < 1000000) : Kd l yX6_whoseTurn cX6_whoseTurn 1 (some .int) 0 0 E (roomW E a k f) [.ref (a 0)] (some (.int (whoF f))) (roomW E a k f) := by
  refine Kn.ofWi (by decide +kernel) (Nat.le_of_ble_eq_true rfl) (fun _ _ => rfl) ?_
  intro pg ev s0 mm below meth cd Q K X fin ls hl
  have hx := K.1
  have hb := K.2.1
  have hs10 := I.s10
  have hp6 := I.p6
  have hmT := I.mT
  have hl : lv_has ls 1 [(0, .ref (a 0))] := hl
  refine lv_aload_n hx hb dX6_whoseTurn_0 rfl (lv_at hl 0 rfl) ?_
  refine k_get K X 0 rfl fg_X6_25 (v := .int (f 0 3)) rfl dX6_whoseTurn_1 ?_
  refine k_topi (I.hP) ?_
  refine kN0_le (x := pe f) hx hb 19 dX6_whoseTurn_4 (by decide) (by omega) (fun c4 => ?_) (fun c4 => ?_)
  · refine lv_iconst (v := (-1)) hx hb dX6_whoseTurn_19 (by decide) ?_
    exact k_topi (x' := whoF f) (by simp [whoF, tnF, c4] <;> omega) (fin () 20 _ _ _ trivial X dX6_whoseTurn_20)
  · refine lv_aload_n hx hb dX6_whoseTurn_7 rfl (lv_at hl 0 rfl) ?_
    refine k_get K X 0 rfl fg_X6_15 (v := .int (f 0 0)) rfl dX6_whoseTurn_8 ?_
    refine k_topi (I.hM) ?_
    refine lv_aload_n hx hb dX6_whoseTurn_11 rfl (lv_at hl 0 rfl) ?_
    refine k_get K X 0 rfl fg_X6_25 (v := .int (f 0 3)) rfl dX6_whoseTurn_12 ?_
    refine k_topi (I.hP) ?_
    refine lv_irem hx hb dX6_whoseTurn_15 (nI_ne0 (by omega) (by omega)) ?_
    refine k_topi (pk_rem (a := mn f) (d := pe f) (by omega) (by omega) (by omega)) ?_
    refine lv_goto (tgt := 20) hx hb dX6_whoseTurn_16 (by decide) ?_
    exact k_topi (x' := whoF f) (by simp [whoF, tnF, c4] <;> omega) (fin () 20 _ _ _ trivial X dX6_whoseTurn_20)
set_option maxRecDepth 100000 in
set_option maxHeartbeats 4000000 in
theorem c_X6_pleases (l : Launch) (E : EE) (a : Nat → Nat) (k : Nat → Nat) (f : St) (T : Nat) (p : Nat) (q : Nat) (I : Inv T f) (hp : p < 6) (hq : q < 10) : Kd l yX6_pleases cX6_pleases 3 (some .boolean) 1 21 E (roomW E a k f) [.ref (a 0), .int (nI p), .int (nI q)] (some (.int (b2i (hasW f p q)))) (roomW E a k f) := by
  refine Kn.ofWi (by decide +kernel) (Nat.le_of_ble_eq_true rfl) (fun _ _ => b2i_nar _) ?_
  intro pg ev s0 mm below meth cd Q K X fin ls hl
  have hx := K.1
  have hb := K.2.1
  have hl : lv_has ls 3 [(0, .ref (a 0)), (1, .int (nI p)), (2, .int (nI q))] := hl
  refine lv_aload_n hx hb dX6_pleases_0 rfl (lv_at hl 0 rfl) ?_
  refine k_get K X 0 rfl fg_X6_28 (v := .ref (a 1)) rfl dX6_pleases_1 ?_
  refine lv_iload_n hx hb dX6_pleases_4 rfl (lv_at hl 2 rfl) ?_
  refine k_ialdN K X 1 rfl (k := q) (by omega) (by decide) dX6_pleases_5 (v := f 1 q) rfl ?_
  refine lv_aload_n hx hb dX6_pleases_6 rfl (lv_at hl 0 rfl) ?_
  refine k_get K X 0 rfl fg_X6_44 (v := .ref (a 6)) rfl dX6_pleases_7 ?_
  refine lv_iload_n hx hb dX6_pleases_10 rfl (lv_at hl 1 rfl) ?_
  refine lv_iload_n hx hb dX6_pleases_11 rfl (lv_at hl 2 rfl) ?_
  refine k_callS K X gs_X6_53 (As := [.int (nI p), .int (nI q)]) (c_X6_wish l E p q) [] rfl (by decide +kernel) (fun _ => rfl) (by decide) rfl hl.1 (rest := [.ref (a 6), .int (f 1 q)]) rfl (Nat.le_of_ble_eq_true rfl) dX6_pleases_12 (st1 := fun _ => [.int (nI (10 * p + q)), .ref (a 6), .int (f 1 q)]) (fun _ => rfl) (fun _ H locs _ X => ?_)
  have X : Wd E _ _ (roomW E a k f) _ _ := X
  refine k_ialdN K X 6 rfl (k := 10 * p + q) (by omega) (by decide) dX6_pleases_15 (v := f 6 (10 * p + q)) rfl ?_
  refine k_icmp_ne (x := f 1 q) (y := f 6 (10 * p + q)) hx hb 23 dX6_pleases_16 (by decide) (fun c16 => ?_) (fun c16 => ?_)
  · refine lv_iconst (v := 0) hx hb dX6_pleases_23 (by decide) ?_
    exact k_topi (x' := b2i (hasW f p q)) (by simp [hasW, b2i, c16]) (fin () 24 _ _ _ trivial X dX6_pleases_24)
  · refine lv_iconst (v := 1) hx hb dX6_pleases_19 (by decide) ?_
    refine lv_goto (tgt := 24) hx hb dX6_pleases_20 (by decide) ?_
    exact k_topi (x' := b2i (hasW f p q)) (by simp [hasW, b2i, c16]) (fin () 24 _ _ _ trivial X dX6_pleases_24)
set_option maxRecDepth 100000 in
set_option maxHeartbeats 4000000 in
theorem c_X6_slipsPleasing (l : Launch) (E : EE) (a : Nat → Nat) (k : Nat → Nat) (f : St) (T : Nat) (p : Nat) (I : Inv T f) (hp : p < 6) : Kd l yX6_slipsPleasing cX6_slipsPleasing 4 (some .int) 2 43 E (roomW E a k f) [.ref (a 0), .int (nI p)] (some (.int (wayF f p))) (roomW E a k f) := by
  refine Kn.ofWi (by decide +kernel) (Nat.le_of_ble_eq_true rfl) (fun _ _ => rfl) ?_
  intro pg ev s0 mm below meth cd Q K X fin ls hl
  have hx := K.1
  have hb := K.2.1
  have hs10 := I.s10
  have hp6 := I.p6
  have hl : lv_has ls 4 [(0, .ref (a 0)), (1, .int (nI p))] := hl
  refine lv_iconst (v := 0) hx hb dX6_slipsPleasing_0 (by decide) ?_
  refine lv_istore_n (lv' := [(2, .int 0), (0, .ref (a 0)), (1, .int (nI p))]) hx hb dX6_slipsPleasing_1 rfl hl (by decide) rfl (fun ls hl => ?_)
  refine lv_iconst (v := 0) hx hb dX6_slipsPleasing_2 (by decide) ?_
  refine lv_istore_n (lv' := [(3, .int 0), (2, .int 0), (0, .ref (a 0)), (1, .int (nI p))]) hx hb dX6_slipsPleasing_3 rfl hl (by decide) rfl (fun ls hl => ?_)
  have lp4 : ∀ (fu : Nat) (i : Nat) (n : Nat) (w : Int32) (hfu : n < fu) (hin : i + n = sl f) (hR : setL (fun s => hasW f p s) n i w = wayF f p) (ls : Array Slot) (hl : lv_has ls 4 [(3, .int (nI i)), (2, .int w), (0, .ref (a 0)), (1, .int (nI p))]) (H : Heap) (locs : List Loc) (X : Wd E (inW (roomW E a k f)) s0.heap (roomW E a k f) H locs), W pg l ev (rmK 2 43) s0 mm ([.ref (a 0), .int (nI p)] : List Value).toArray below meth cd H locs 0 0 Q (F0 mm 4 ls []) := by
    intro fu
    induction fu with
    | zero => intro i n w hfu; exact absurd hfu (Nat.not_lt_zero _)
    | succ fu ih4 =>
      intro i n w hfu hin hR ls hl H locs X
      refine lv_iload_n hx hb dX6_slipsPleasing_4 rfl (lv_at hl 0 rfl) ?_
      refine lv_aload_n hx hb dX6_slipsPleasing_5 rfl (lv_at hl 2 rfl) ?_
      refine k_get K X 0 rfl fg_X6_22 (v := .int (f 0 2)) rfl dX6_slipsPleasing_6 ?_
      refine k_topi (I.hS) ?_
      refine kN_ge (x := i) (y := sl f) hx hb 33 dX6_slipsPleasing_9 (by decide) (by omega) (by omega) (fun c9 => ?_) (fun c9 => ?_)
      · obtain rfl : n = 0 := by omega
        refine lv_iload_n hx hb dX6_slipsPleasing_33 rfl (lv_at hl 1 rfl) ?_
        exact k_topi (x' := wayF f p) (hR) (fin () 34 _ _ _ trivial X dX6_slipsPleasing_34)
      · obtain ⟨n, rfl⟩ : ∃ z, n = z + 1 := ⟨n - 1, by omega⟩
        refine lv_aload_n hx hb dX6_slipsPleasing_12 rfl (lv_at hl 2 rfl) ?_
        refine lv_iload_n hx hb dX6_slipsPleasing_13 rfl (lv_at hl 3 rfl) ?_
        refine lv_iload_n hx hb dX6_slipsPleasing_14 rfl (lv_at hl 0 rfl) ?_
        refine k_callV K X gv_X6_86 (As := [.int (nI p), .int (nI i)]) (c_X6_pleases l E a k f T p i I (by omega) (by omega)) [0, 1, 2, 3, 4, 5, 6] roomW_idC (by decide +kernel) (fun _ => roomW_fst) 0 6 rfl rfl (by decide) rfl hl.1 (rest := []) rfl (Nat.le_of_ble_eq_true rfl) dX6_slipsPleasing_15 (st1 := fun _ => [.int (b2i (hasW f p i))]) (fun _ => rfl) (fun _ H locs _ X => ?_)
        have X : Wd E _ _ (roomW E a k f) _ _ := X.eq roomW_idP
        refine k_ifeqB (B := (hasW f p i)) hx hb 27 dX6_slipsPleasing_18 (by decide) (fun c18 => ?_) (fun c18 => ?_)
        · refine lv_iinc (v := nI (i + 1)) (lv' := [(3, .int (nI (i + 1))), (2, .int w), (0, .ref (a 0)), (1, .int (nI p))]) hx hb dX6_slipsPleasing_27 hl (k := 0) rfl (nI_add i 1) (by decide) rfl (fun ls hl => ?_)
          refine lv_goto (tgt := 4) hx hb dX6_slipsPleasing_30 (by decide) ?_
          exact ih4 (i + 1) n w (by omega) (by omega) (by rw [← hR]; simp [setL, cntL, sumL, c9, c18]) _ hl _ _ X
        · refine lv_iload_n hx hb dX6_slipsPleasing_21 rfl (lv_at hl 1 rfl) ?_
          refine lv_iconst (v := 1) hx hb dX6_slipsPleasing_22 (by decide) ?_
          refine lv_iload_n hx hb dX6_slipsPleasing_23 rfl (lv_at hl 0 rfl) ?_
          refine lv_ishl hx hb dX6_slipsPleasing_24 ?_
          refine lv_ior hx hb dX6_slipsPleasing_25 ?_
          refine lv_istore_n (lv' := [(2, .int (w ||| (1 <<< ((nI i) &&& 31)))), (3, .int (nI i)), (0, .ref (a 0)), (1, .int (nI p))]) hx hb dX6_slipsPleasing_26 rfl hl (by decide) rfl (fun ls hl => ?_)
          refine lv_iinc (v := nI (i + 1)) (lv' := [(3, .int (nI (i + 1))), (2, .int (w ||| (1 <<< ((nI i) &&& 31)))), (0, .ref (a 0)), (1, .int (nI p))]) hx hb dX6_slipsPleasing_27 hl (k := 1) rfl (nI_add i 1) (by decide) rfl (fun ls hl => ?_)
          refine lv_goto (tgt := 4) hx hb dX6_slipsPleasing_30 (by decide) ?_
          exact ih4 (i + 1) n (w ||| (1 <<< ((nI i) &&& 31))) (by omega) (by omega) (by rw [← hR]; simp [setL, cntL, sumL, c9, c18]) _ hl _ _ X
  exact lp4 ((sl f) + 1) 0 (sl f) 0 (by omega) (by omega) (rfl) _ hl _ _ X
set_option maxRecDepth 100000 in
set_option maxHeartbeats 4000000 in
theorem c_X6_wayCount (l : Launch) (E : EE) (a : Nat → Nat) (k : Nat → Nat) (f : St) (T : Nat) (p : Nat) (I : Inv T f) (hp : p < 6) : Kd l yX6_wayCount cX6_wayCount 2 (some .int) 3 66 E (roomW E a k f) [.ref (a 0), .int (nI p)] (some (.int (bcF (wayF f p)))) (roomW E a k f) := by
  refine Kn.ofWi (by decide +kernel) (Nat.le_of_ble_eq_true rfl) (fun _ _ => rfl) ?_
  intro pg ev s0 mm below meth cd Q K X fin ls hl
  have hx := K.1
  have hb := K.2.1
  have hl : lv_has ls 2 [(0, .ref (a 0)), (1, .int (nI p))] := hl
  refine lv_aload_n hx hb dX6_wayCount_0 rfl (lv_at hl 0 rfl) ?_
  refine lv_iload_n hx hb dX6_wayCount_1 rfl (lv_at hl 1 rfl) ?_
  refine k_callV K X gv_X6_103 (As := [.int (nI p)]) (c_X6_slipsPleasing l E a k f T p I (by omega)) [0, 1, 2, 3, 4, 5, 6] roomW_idC (by decide +kernel) (fun _ => roomW_fst) 0 6 rfl rfl (by decide) rfl hl.1 (rest := []) rfl (Nat.le_of_ble_eq_true rfl) dX6_wayCount_2 (st1 := fun _ => [.int (wayF f p)]) (fun _ => rfl) (fun _ H locs _ X => ?_)
  have X : Wd E _ _ (roomW E a k f) _ _ := X.eq roomW_idP
  refine k_callS K X gs_X6_106 (As := [.int (wayF f p)]) (c_J6_bitCount_0f7a4 l E (wayF f p)) [] rfl (by decide +kernel) (fun _ => rfl) (by decide) rfl hl.1 (rest := []) rfl (Nat.le_of_ble_eq_true rfl) dX6_wayCount_5 (st1 := fun _ => [.int (bcF (wayF f p))]) (fun _ => rfl) (fun _ H locs _ X => ?_)
  have X : Wd E _ _ (roomW E a k f) _ _ := X
  exact fin () 8 _ _ _ trivial X dX6_wayCount_8
set_option maxRecDepth 100000 in
set_option maxHeartbeats 4000000 in
theorem c_X6_peopleContentWith (l : Launch) (E : EE) (a : Nat → Nat) (k : Nat → Nat) (f : St) (T : Nat) (q : Nat) (I : Inv T f) (hq : q < 10) : Kd l yX6_peopleContentWith cX6_peopleContentWith 4 (some .int) 2 43 E (roomW E a k f) [.ref (a 0), .int (nI q)] (some (.int (happyF f q))) (roomW E a k f) := by
  refine Kn.ofWi (by decide +kernel) (Nat.le_of_ble_eq_true rfl) (fun _ _ => rfl) ?_
  intro pg ev s0 mm below meth cd Q K X fin ls hl
  have hx := K.1
  have hb := K.2.1
  have hs10 := I.s10
  have hp6 := I.p6
  have hl : lv_has ls 4 [(0, .ref (a 0)), (1, .int (nI q))] := hl
  refine lv_iconst (v := 0) hx hb dX6_peopleContentWith_0 (by decide) ?_
  refine lv_istore_n (lv' := [(2, .int 0), (0, .ref (a 0)), (1, .int (nI q))]) hx hb dX6_peopleContentWith_1 rfl hl (by decide) rfl (fun ls hl => ?_)
  refine lv_iconst (v := 0) hx hb dX6_peopleContentWith_2 (by decide) ?_
  refine lv_istore_n (lv' := [(3, .int 0), (2, .int 0), (0, .ref (a 0)), (1, .int (nI q))]) hx hb dX6_peopleContentWith_3 rfl hl (by decide) rfl (fun ls hl => ?_)
  have lp4 : ∀ (fu : Nat) (i : Nat) (n : Nat) (w : Int32) (hfu : n < fu) (hin : i + n = pe f) (hR : setL (fun p => hasW f p q) n i w = happyF f q) (ls : Array Slot) (hl : lv_has ls 4 [(3, .int (nI i)), (2, .int w), (0, .ref (a 0)), (1, .int (nI q))]) (H : Heap) (locs : List Loc) (X : Wd E (inW (roomW E a k f)) s0.heap (roomW E a k f) H locs), W pg l ev (rmK 2 43) s0 mm ([.ref (a 0), .int (nI q)] : List Value).toArray below meth cd H locs 0 0 Q (F0 mm 4 ls []) := by
    intro fu
    induction fu with
    | zero => intro i n w hfu; exact absurd hfu (Nat.not_lt_zero _)
    | succ fu ih4 =>
      intro i n w hfu hin hR ls hl H locs X
      refine lv_iload_n hx hb dX6_peopleContentWith_4 rfl (lv_at hl 0 rfl) ?_
      refine lv_aload_n hx hb dX6_peopleContentWith_5 rfl (lv_at hl 2 rfl) ?_
      refine k_get K X 0 rfl fg_X6_25 (v := .int (f 0 3)) rfl dX6_peopleContentWith_6 ?_
      refine k_topi (I.hP) ?_
      refine kN_ge (x := i) (y := pe f) hx hb 33 dX6_peopleContentWith_9 (by decide) (by omega) (by omega) (fun c9 => ?_) (fun c9 => ?_)
      · obtain rfl : n = 0 := by omega
        refine lv_iload_n hx hb dX6_peopleContentWith_33 rfl (lv_at hl 1 rfl) ?_
        exact k_topi (x' := happyF f q) (hR) (fin () 34 _ _ _ trivial X dX6_peopleContentWith_34)
      · obtain ⟨n, rfl⟩ : ∃ z, n = z + 1 := ⟨n - 1, by omega⟩
        refine lv_aload_n hx hb dX6_peopleContentWith_12 rfl (lv_at hl 2 rfl) ?_
        refine lv_iload_n hx hb dX6_peopleContentWith_13 rfl (lv_at hl 0 rfl) ?_
        refine lv_iload_n hx hb dX6_peopleContentWith_14 rfl (lv_at hl 3 rfl) ?_
        refine k_callV K X gv_X6_86 (As := [.int (nI i), .int (nI q)]) (c_X6_pleases l E a k f T i q I (by omega) (by omega)) [0, 1, 2, 3, 4, 5, 6] roomW_idC (by decide +kernel) (fun _ => roomW_fst) 0 6 rfl rfl (by decide) rfl hl.1 (rest := []) rfl (Nat.le_of_ble_eq_true rfl) dX6_peopleContentWith_15 (st1 := fun _ => [.int (b2i (hasW f i q))]) (fun _ => rfl) (fun _ H locs _ X => ?_)
        have X : Wd E _ _ (roomW E a k f) _ _ := X.eq roomW_idP
        refine k_ifeqB (B := (hasW f i q)) hx hb 27 dX6_peopleContentWith_18 (by decide) (fun c18 => ?_) (fun c18 => ?_)
        · refine lv_iinc (v := nI (i + 1)) (lv' := [(3, .int (nI (i + 1))), (2, .int w), (0, .ref (a 0)), (1, .int (nI q))]) hx hb dX6_peopleContentWith_27 hl (k := 0) rfl (nI_add i 1) (by decide) rfl (fun ls hl => ?_)
          refine lv_goto (tgt := 4) hx hb dX6_peopleContentWith_30 (by decide) ?_
          exact ih4 (i + 1) n w (by omega) (by omega) (by rw [← hR]; simp [setL, cntL, sumL, c9, c18]) _ hl _ _ X
        · refine lv_iload_n hx hb dX6_peopleContentWith_21 rfl (lv_at hl 1 rfl) ?_
          refine lv_iconst (v := 1) hx hb dX6_peopleContentWith_22 (by decide) ?_
          refine lv_iload_n hx hb dX6_peopleContentWith_23 rfl (lv_at hl 0 rfl) ?_
          refine lv_ishl hx hb dX6_peopleContentWith_24 ?_
          refine lv_ior hx hb dX6_peopleContentWith_25 ?_
          refine lv_istore_n (lv' := [(2, .int (w ||| (1 <<< ((nI i) &&& 31)))), (3, .int (nI i)), (0, .ref (a 0)), (1, .int (nI q))]) hx hb dX6_peopleContentWith_26 rfl hl (by decide) rfl (fun ls hl => ?_)
          refine lv_iinc (v := nI (i + 1)) (lv' := [(3, .int (nI (i + 1))), (2, .int (w ||| (1 <<< ((nI i) &&& 31)))), (0, .ref (a 0)), (1, .int (nI q))]) hx hb dX6_peopleContentWith_27 hl (k := 1) rfl (nI_add i 1) (by decide) rfl (fun ls hl => ?_)
          refine lv_goto (tgt := 4) hx hb dX6_peopleContentWith_30 (by decide) ?_
          exact ih4 (i + 1) n (w ||| (1 <<< ((nI i) &&& 31))) (by omega) (by omega) (by rw [← hR]; simp [setL, cntL, sumL, c9, c18]) _ hl _ _ X
  exact lp4 ((pe f) + 1) 0 (pe f) 0 (by omega) (by omega) (rfl) _ hl _ _ X
set_option maxRecDepth 100000 in
set_option maxHeartbeats 4000000 in
theorem c_X6_howManyWant (l : Launch) (E : EE) (a : Nat → Nat) (k : Nat → Nat) (f : St) (T : Nat) (q : Nat) (x : Int32) (I : Inv T f) (hq : q < 10) : Kd l yX6_howManyWant cX6_howManyWant 5 (some .int) 1 21 E (roomW E a k f) [.ref (a 0), .int (nI q), .int x] (some (.int (nI (manyF f q x)))) (roomW E a k f) := by
  refine Kn.ofWi (by decide +kernel) (Nat.le_of_ble_eq_true rfl) (fun _ _ => rfl) ?_
  intro pg ev s0 mm below meth cd Q K X fin ls hl
  have hx := K.1
  have hb := K.2.1
  have hs10 := I.s10
  have hp6 := I.p6
  have hl : lv_has ls 5 [(0, .ref (a 0)), (1, .int (nI q)), (2, .int x)] := hl
  refine lv_iconst (v := 0) hx hb dX6_howManyWant_0 (by decide) ?_
  refine lv_istore_n (lv' := [(3, .int 0), (0, .ref (a 0)), (1, .int (nI q)), (2, .int x)]) hx hb dX6_howManyWant_1 rfl hl (by decide) rfl (fun ls hl => ?_)
  refine lv_iconst (v := 0) hx hb dX6_howManyWant_2 (by decide) ?_
  refine lv_istore (lv' := [(4, .int 0), (3, .int 0), (0, .ref (a 0)), (1, .int (nI q)), (2, .int x)]) hx hb dX6_howManyWant_3 hl (by decide) rfl (fun ls hl => ?_)
  have lp5 : ∀ (fu : Nat) (i : Nat) (n : Nat) (w : Nat) (hfu : n < fu) (hin : i + n = pe f) (hR : cntL (fun p => decide (f 6 (10 * p + q) = x)) n i w = manyF f q x) (ls : Array Slot) (hl : lv_has ls 5 [(4, .int (nI i)), (3, .int (nI w)), (0, .ref (a 0)), (1, .int (nI q)), (2, .int x)]) (H : Heap) (locs : List Loc) (X : Wd E (inW (roomW E a k f)) s0.heap (roomW E a k f) H locs), W pg l ev (rmK 1 21) s0 mm ([.ref (a 0), .int (nI q), .int x] : List Value).toArray below meth cd H locs 0 0 Q (F0 mm 5 ls []) := by
    intro fu
    induction fu with
    | zero => intro i n w hfu; exact absurd hfu (Nat.not_lt_zero _)
    | succ fu ih5 =>
      intro i n w hfu hin hR ls hl H locs X
      refine lv_iload hx hb dX6_howManyWant_5 (lv_at hl 0 rfl) ?_
      refine lv_aload_n hx hb dX6_howManyWant_7 rfl (lv_at hl 2 rfl) ?_
      refine k_get K X 0 rfl fg_X6_25 (v := .int (f 0 3)) rfl dX6_howManyWant_8 ?_
      refine k_topi (I.hP) ?_
      refine kN_ge (x := i) (y := pe f) hx hb 38 dX6_howManyWant_11 (by decide) (by omega) (by omega) (fun c11 => ?_) (fun c11 => ?_)
      · obtain rfl : n = 0 := by omega
        refine lv_iload_n hx hb dX6_howManyWant_38 rfl (lv_at hl 1 rfl) ?_
        exact k_topi (x' := nI (manyF f q x)) (congrArg nI hR) (fin () 39 _ _ _ trivial X dX6_howManyWant_39)
      · obtain ⟨n, rfl⟩ : ∃ z, n = z + 1 := ⟨n - 1, by omega⟩
        refine lv_aload_n hx hb dX6_howManyWant_14 rfl (lv_at hl 2 rfl) ?_
        refine k_get K X 0 rfl fg_X6_44 (v := .ref (a 6)) rfl dX6_howManyWant_15 ?_
        refine lv_iload hx hb dX6_howManyWant_18 (lv_at hl 0 rfl) ?_
        refine lv_iload_n hx hb dX6_howManyWant_20 rfl (lv_at hl 3 rfl) ?_
        refine k_callS K X gs_X6_53 (As := [.int (nI i), .int (nI q)]) (c_X6_wish l E i q) [] rfl (by decide +kernel) (fun _ => rfl) (by decide) rfl hl.1 (rest := [.ref (a 6)]) rfl (Nat.le_of_ble_eq_true rfl) dX6_howManyWant_21 (st1 := fun _ => [.int (nI (10 * i + q)), .ref (a 6)]) (fun _ => rfl) (fun _ H locs _ X => ?_)
        have X : Wd E _ _ (roomW E a k f) _ _ := X
        refine k_ialdN K X 6 rfl (k := 10 * i + q) (by omega) (by decide) dX6_howManyWant_24 (v := f 6 (10 * i + q)) rfl ?_
        refine lv_iload_n hx hb dX6_howManyWant_25 rfl (lv_at hl 4 rfl) ?_
        refine k_icmp_ne (x := f 6 (10 * i + q)) (y := x) hx hb 32 dX6_howManyWant_26 (by decide) (fun c26 => ?_) (fun c26 => ?_)
        · refine lv_iinc (v := nI (i + 1)) (lv' := [(4, .int (nI (i + 1))), (3, .int (nI w)), (0, .ref (a 0)), (1, .int (nI q)), (2, .int x)]) hx hb dX6_howManyWant_32 hl (k := 0) rfl (nI_add i 1) (by decide) rfl (fun ls hl => ?_)
          refine lv_goto (tgt := 5) hx hb dX6_howManyWant_35 (by decide) ?_
          exact ih5 (i + 1) n w (by omega) (by omega) (by rw [← hR]; simp [setL, cntL, sumL, c11, c26]) _ hl _ _ X
        · refine lv_iinc (v := nI (w + 1)) (lv' := [(3, .int (nI (w + 1))), (4, .int (nI i)), (0, .ref (a 0)), (1, .int (nI q)), (2, .int x)]) hx hb dX6_howManyWant_29 hl (k := 1) rfl (nI_add w 1) (by decide) rfl (fun ls hl => ?_)
          refine lv_iinc (v := nI (i + 1)) (lv' := [(4, .int (nI (i + 1))), (3, .int (nI (w + 1))), (0, .ref (a 0)), (1, .int (nI q)), (2, .int x)]) hx hb dX6_howManyWant_32 hl (k := 1) rfl (nI_add i 1) (by decide) rfl (fun ls hl => ?_)
          refine lv_goto (tgt := 5) hx hb dX6_howManyWant_35 (by decide) ?_
          exact ih5 (i + 1) n (w + 1) (by omega) (by omega) (by rw [← hR]; simp [setL, cntL, sumL, c11, c26]) _ hl _ _ X
  exact lp5 ((pe f) + 1) 0 (pe f) 0 (by omega) (by omega) (rfl) _ hl _ _ X
set_option maxRecDepth 100000 in
set_option maxHeartbeats 4000000 in
theorem c_X6_sameWishes (l : Launch) (E : EE) (a : Nat → Nat) (k : Nat → Nat) (f : St) (T : Nat) (p : Nat) (q : Nat) (I : Inv T f) (hp : p < 6) (hq : q < 6) : Kd l yX6_sameWishes cX6_sameWishes 5 (some .int) 1 21 E (roomW E a k f) [.ref (a 0), .int (nI p), .int (nI q)] (some (.int (nI (sameF f p q)))) (roomW E a k f) := by
  refine Kn.ofWi (by decide +kernel) (Nat.le_of_ble_eq_true rfl) (fun _ _ => rfl) ?_
  intro pg ev s0 mm below meth cd Q K X fin ls hl
  have hx := K.1
  have hb := K.2.1
  have hs10 := I.s10
  have hp6 := I.p6
  have hl : lv_has ls 5 [(0, .ref (a 0)), (1, .int (nI p)), (2, .int (nI q))] := hl
  refine lv_iconst (v := 0) hx hb dX6_sameWishes_0 (by decide) ?_
  refine lv_istore_n (lv' := [(3, .int 0), (0, .ref (a 0)), (1, .int (nI p)), (2, .int (nI q))]) hx hb dX6_sameWishes_1 rfl hl (by decide) rfl (fun ls hl => ?_)
  refine lv_iconst (v := 0) hx hb dX6_sameWishes_2 (by decide) ?_
  refine lv_istore (lv' := [(4, .int 0), (3, .int 0), (0, .ref (a 0)), (1, .int (nI p)), (2, .int (nI q))]) hx hb dX6_sameWishes_3 hl (by decide) rfl (fun ls hl => ?_)
  have lp5 : ∀ (fu : Nat) (i : Nat) (n : Nat) (w : Nat) (hfu : n < fu) (hin : i + n = sl f) (hR : cntL (fun s => decide (f 6 (10 * p + s) = f 6 (10 * q + s))) n i w = sameF f p q) (ls : Array Slot) (hl : lv_has ls 5 [(4, .int (nI i)), (3, .int (nI w)), (0, .ref (a 0)), (1, .int (nI p)), (2, .int (nI q))]) (H : Heap) (locs : List Loc) (X : Wd E (inW (roomW E a k f)) s0.heap (roomW E a k f) H locs), W pg l ev (rmK 1 21) s0 mm ([.ref (a 0), .int (nI p), .int (nI q)] : List Value).toArray below meth cd H locs 0 0 Q (F0 mm 5 ls []) := by
    intro fu
    induction fu with
    | zero => intro i n w hfu; exact absurd hfu (Nat.not_lt_zero _)
    | succ fu ih5 =>
      intro i n w hfu hin hR ls hl H locs X
      refine lv_iload hx hb dX6_sameWishes_5 (lv_at hl 0 rfl) ?_
      refine lv_aload_n hx hb dX6_sameWishes_7 rfl (lv_at hl 2 rfl) ?_
      refine k_get K X 0 rfl fg_X6_22 (v := .int (f 0 2)) rfl dX6_sameWishes_8 ?_
      refine k_topi (I.hS) ?_
      refine kN_ge (x := i) (y := sl f) hx hb 48 dX6_sameWishes_11 (by decide) (by omega) (by omega) (fun c11 => ?_) (fun c11 => ?_)
      · obtain rfl : n = 0 := by omega
        refine lv_iload_n hx hb dX6_sameWishes_48 rfl (lv_at hl 1 rfl) ?_
        exact k_topi (x' := nI (sameF f p q)) (congrArg nI hR) (fin () 49 _ _ _ trivial X dX6_sameWishes_49)
      · obtain ⟨n, rfl⟩ : ∃ z, n = z + 1 := ⟨n - 1, by omega⟩
        refine lv_aload_n hx hb dX6_sameWishes_14 rfl (lv_at hl 2 rfl) ?_
        refine k_get K X 0 rfl fg_X6_44 (v := .ref (a 6)) rfl dX6_sameWishes_15 ?_
        refine lv_iload_n hx hb dX6_sameWishes_18 rfl (lv_at hl 3 rfl) ?_
        refine lv_iload hx hb dX6_sameWishes_19 (lv_at hl 0 rfl) ?_
        refine k_callS K X gs_X6_53 (As := [.int (nI p), .int (nI i)]) (c_X6_wish l E p i) [] rfl (by decide +kernel) (fun _ => rfl) (by decide) rfl hl.1 (rest := [.ref (a 6)]) rfl (Nat.le_of_ble_eq_true rfl) dX6_sameWishes_21 (st1 := fun _ => [.int (nI (10 * p + i)), .ref (a 6)]) (fun _ => rfl) (fun _ H locs _ X => ?_)
        have X : Wd E _ _ (roomW E a k f) _ _ := X
        refine k_ialdN K X 6 rfl (k := 10 * p + i) (by omega) (by decide) dX6_sameWishes_24 (v := f 6 (10 * p + i)) rfl ?_
        refine lv_aload_n hx hb dX6_sameWishes_25 rfl (lv_at hl 2 rfl) ?_
        refine k_get K X 0 rfl fg_X6_44 (v := .ref (a 6)) rfl dX6_sameWishes_26 ?_
        refine lv_iload_n hx hb dX6_sameWishes_29 rfl (lv_at hl 4 rfl) ?_
        refine lv_iload hx hb dX6_sameWishes_30 (lv_at hl 0 rfl) ?_
        refine k_callS K X gs_X6_53 (As := [.int (nI q), .int (nI i)]) (c_X6_wish l E q i) [] rfl (by decide +kernel) (fun _ => rfl) (by decide) rfl hl.1 (rest := [.ref (a 6), .int (f 6 (10 * p + i))]) rfl (Nat.le_of_ble_eq_true rfl) dX6_sameWishes_32 (st1 := fun _ => [.int (nI (10 * q + i)), .ref (a 6), .int (f 6 (10 * p + i))]) (fun _ => rfl) (fun _ H locs _ X => ?_)
        have X : Wd E _ _ (roomW E a k f) _ _ := X
        refine k_ialdN K X 6 rfl (k := 10 * q + i) (by omega) (by decide) dX6_sameWishes_35 (v := f 6 (10 * q + i)) rfl ?_
        refine k_icmp_ne (x := f 6 (10 * p + i)) (y := f 6 (10 * q + i)) hx hb 42 dX6_sameWishes_36 (by decide) (fun c36 => ?_) (fun c36 => ?_)
        · refine lv_iinc (v := nI (i + 1)) (lv' := [(4, .int (nI (i + 1))), (3, .int (nI w)), (0, .ref (a 0)), (1, .int (nI p)), (2, .int (nI q))]) hx hb dX6_sameWishes_42 hl (k := 0) rfl (nI_add i 1) (by decide) rfl (fun ls hl => ?_)
          refine lv_goto (tgt := 5) hx hb dX6_sameWishes_45 (by decide) ?_
          exact ih5 (i + 1) n w (by omega) (by omega) (by rw [← hR]; simp [setL, cntL, sumL, c11, c36]) _ hl _ _ X
        · refine lv_iinc (v := nI (w + 1)) (lv' := [(3, .int (nI (w + 1))), (4, .int (nI i)), (0, .ref (a 0)), (1, .int (nI p)), (2, .int (nI q))]) hx hb dX6_sameWishes_39 hl (k := 1) rfl (nI_add w 1) (by decide) rfl (fun ls hl => ?_)
          refine lv_iinc (v := nI (i + 1)) (lv' := [(4, .int (nI (i + 1))), (3, .int (nI (w + 1))), (0, .ref (a 0)), (1, .int (nI p)), (2, .int (nI q))]) hx hb dX6_sameWishes_42 hl (k := 1) rfl (nI_add i 1) (by decide) rfl (fun ls hl => ?_)
          refine lv_goto (tgt := 5) hx hb dX6_sameWishes_45 (by decide) ?_
          exact ih5 (i + 1) n (w + 1) (by omega) (by omega) (by rw [← hR]; simp [setL, cntL, sumL, c11, c36]) _ hl _ _ X
  exact lp5 ((sl f) + 1) 0 (sl f) 0 (by omega) (by omega) (rfl) _ hl _ _ X
set_option maxRecDepth 100000 in
set_option maxHeartbeats 4000000 in
theorem c_X6_slipsIn (l : Launch) (E : EE) (a : Nat → Nat) (k : Nat → Nat) (f : St) (T : Nat) (x : Int32) (I : Inv T f) : Kd l yX6_slipsIn cX6_slipsIn 4 (some .int) 0 0 E (roomW E a k f) [.ref (a 0), .int x] (some (.int (inF f x))) (roomW E a k f) := by
  refine Kn.ofWi (by decide +kernel) (Nat.le_of_ble_eq_true rfl) (fun _ _ => rfl) ?_
  intro pg ev s0 mm below meth cd Q K X fin ls hl
  have hx := K.1
  have hb := K.2.1
  have hs10 := I.s10
  have hp6 := I.p6
  have hl : lv_has ls 4 [(0, .ref (a 0)), (1, .int x)] := hl
  refine lv_iconst (v := 0) hx hb dX6_slipsIn_0 (by decide) ?_
  refine lv_istore_n (lv' := [(2, .int 0), (0, .ref (a 0)), (1, .int x)]) hx hb dX6_slipsIn_1 rfl hl (by decide) rfl (fun ls hl => ?_)
  refine lv_iconst (v := 0) hx hb dX6_slipsIn_2 (by decide) ?_
  refine lv_istore_n (lv' := [(3, .int 0), (2, .int 0), (0, .ref (a 0)), (1, .int x)]) hx hb dX6_slipsIn_3 rfl hl (by decide) rfl (fun ls hl => ?_)
  have lp4 : ∀ (fu : Nat) (i : Nat) (n : Nat) (w : Int32) (hfu : n < fu) (hin : i + n = sl f) (hR : setL (fun s => decide (f 1 s = x)) n i w = inF f x) (ls : Array Slot) (hl : lv_has ls 4 [(3, .int (nI i)), (2, .int w), (0, .ref (a 0)), (1, .int x)]) (H : Heap) (locs : List Loc) (X : Wd E (inW (roomW E a k f)) s0.heap (roomW E a k f) H locs), W pg l ev (rmK 0 0) s0 mm ([.ref (a 0), .int x] : List Value).toArray below meth cd H locs 0 0 Q (F0 mm 4 ls []) := by
    intro fu
    induction fu with
    | zero => intro i n w hfu; exact absurd hfu (Nat.not_lt_zero _)
    | succ fu ih4 =>
      intro i n w hfu hin hR ls hl H locs X
      refine lv_iload_n hx hb dX6_slipsIn_4 rfl (lv_at hl 0 rfl) ?_
      refine lv_aload_n hx hb dX6_slipsIn_5 rfl (lv_at hl 2 rfl) ?_
      refine k_get K X 0 rfl fg_X6_22 (v := .int (f 0 2)) rfl dX6_slipsIn_6 ?_
      refine k_topi (I.hS) ?_
      refine kN_ge (x := i) (y := sl f) hx hb 34 dX6_slipsIn_9 (by decide) (by omega) (by omega) (fun c9 => ?_) (fun c9 => ?_)
      · obtain rfl : n = 0 := by omega
        refine lv_iload_n hx hb dX6_slipsIn_34 rfl (lv_at hl 1 rfl) ?_
        exact k_topi (x' := inF f x) (hR) (fin () 35 _ _ _ trivial X dX6_slipsIn_35)
      · obtain ⟨n, rfl⟩ : ∃ z, n = z + 1 := ⟨n - 1, by omega⟩
        refine lv_aload_n hx hb dX6_slipsIn_12 rfl (lv_at hl 2 rfl) ?_
        refine k_get K X 0 rfl fg_X6_28 (v := .ref (a 1)) rfl dX6_slipsIn_13 ?_
        refine lv_iload_n hx hb dX6_slipsIn_16 rfl (lv_at hl 0 rfl) ?_
        refine k_ialdN K X 1 rfl (k := i) (by omega) (by decide) dX6_slipsIn_17 (v := f 1 i) rfl ?_
        refine lv_iload_n hx hb dX6_slipsIn_18 rfl (lv_at hl 3 rfl) ?_
        refine k_icmp_ne (x := f 1 i) (y := x) hx hb 28 dX6_slipsIn_19 (by decide) (fun c19 => ?_) (fun c19 => ?_)
        · refine lv_iinc (v := nI (i + 1)) (lv' := [(3, .int (nI (i + 1))), (2, .int w), (0, .ref (a 0)), (1, .int x)]) hx hb dX6_slipsIn_28 hl (k := 0) rfl (nI_add i 1) (by decide) rfl (fun ls hl => ?_)
          refine lv_goto (tgt := 4) hx hb dX6_slipsIn_31 (by decide) ?_
          exact ih4 (i + 1) n w (by omega) (by omega) (by rw [← hR]; simp [setL, cntL, sumL, c9, c19]) _ hl _ _ X
        · refine lv_iload_n hx hb dX6_slipsIn_22 rfl (lv_at hl 1 rfl) ?_
          refine lv_iconst (v := 1) hx hb dX6_slipsIn_23 (by decide) ?_
          refine lv_iload_n hx hb dX6_slipsIn_24 rfl (lv_at hl 0 rfl) ?_
          refine lv_ishl hx hb dX6_slipsIn_25 ?_
          refine lv_ior hx hb dX6_slipsIn_26 ?_
          refine lv_istore_n (lv' := [(2, .int (w ||| (1 <<< ((nI i) &&& 31)))), (3, .int (nI i)), (0, .ref (a 0)), (1, .int x)]) hx hb dX6_slipsIn_27 rfl hl (by decide) rfl (fun ls hl => ?_)
          refine lv_iinc (v := nI (i + 1)) (lv' := [(3, .int (nI (i + 1))), (2, .int (w ||| (1 <<< ((nI i) &&& 31)))), (0, .ref (a 0)), (1, .int x)]) hx hb dX6_slipsIn_28 hl (k := 1) rfl (nI_add i 1) (by decide) rfl (fun ls hl => ?_)
          refine lv_goto (tgt := 4) hx hb dX6_slipsIn_31 (by decide) ?_
          exact ih4 (i + 1) n (w ||| (1 <<< ((nI i) &&& 31))) (by omega) (by omega) (by rw [← hR]; simp [setL, cntL, sumL, c9, c19]) _ hl _ _ X
  exact lp4 ((sl f) + 1) 0 (sl f) 0 (by omega) (by omega) (rfl) _ hl _ _ X
set_option maxRecDepth 100000 in
set_option maxHeartbeats 4000000 in
theorem c_X6_groupsWithSlips (l : Launch) (E : EE) (a : Nat → Nat) (k : Nat → Nat) (f : St) (T : Nat) (I : Inv T f) : Kd l yX6_groupsWithSlips cX6_groupsWithSlips 3 (some .int) 0 0 E (roomW E a k f) [.ref (a 0)] (some (.int (groupsF f))) (roomW E a k f) := by
  refine Kn.ofWi (by decide +kernel) (Nat.le_of_ble_eq_true rfl) (fun _ _ => rfl) ?_
  intro pg ev s0 mm below meth cd Q K X fin ls hl
  have hx := K.1
  have hb := K.2.1
  have hs10 := I.s10
  have hp6 := I.p6
  have hl : lv_has ls 3 [(0, .ref (a 0))] := hl
  refine lv_iconst (v := 0) hx hb dX6_groupsWithSlips_0 (by decide) ?_
  refine lv_istore_n (lv' := [(1, .int 0), (0, .ref (a 0))]) hx hb dX6_groupsWithSlips_1 rfl hl (by decide) rfl (fun ls hl => ?_)
  refine lv_iconst (v := 0) hx hb dX6_groupsWithSlips_2 (by decide) ?_
  refine lv_istore_n (lv' := [(2, .int 0), (1, .int 0), (0, .ref (a 0))]) hx hb dX6_groupsWithSlips_3 rfl hl (by decide) rfl (fun ls hl => ?_)
  have lp4 : ∀ (fu : Nat) (i : Nat) (n : Nat) (w : Int32) (hfu : n < fu) (hin : i + n = sl f) (hR : groupL f n i w = groupsF f) (ls : Array Slot) (hl : lv_has ls 3 [(2, .int (nI i)), (1, .int w), (0, .ref (a 0))]) (H : Heap) (locs : List Loc) (X : Wd E (inW (roomW E a k f)) s0.heap (roomW E a k f) H locs), W pg l ev (rmK 0 0) s0 mm ([.ref (a 0)] : List Value).toArray below meth cd H locs 0 0 Q (F0 mm 4 ls []) := by
    intro fu
    induction fu with
    | zero => intro i n w hfu; exact absurd hfu (Nat.not_lt_zero _)
    | succ fu ih4 =>
      intro i n w hfu hin hR ls hl H locs X
      refine lv_iload_n hx hb dX6_groupsWithSlips_4 rfl (lv_at hl 0 rfl) ?_
      refine lv_aload_n hx hb dX6_groupsWithSlips_5 rfl (lv_at hl 2 rfl) ?_
      refine k_get K X 0 rfl fg_X6_22 (v := .int (f 0 2)) rfl dX6_groupsWithSlips_6 ?_
      refine k_topi (I.hS) ?_
      refine kN_ge (x := i) (y := sl f) hx hb 39 dX6_groupsWithSlips_9 (by decide) (by omega) (by omega) (fun c9 => ?_) (fun c9 => ?_)
      · obtain rfl : n = 0 := by omega
        refine lv_iload_n hx hb dX6_groupsWithSlips_39 rfl (lv_at hl 1 rfl) ?_
        exact k_topi (x' := groupsF f) (hR) (fin () 40 _ _ _ trivial X dX6_groupsWithSlips_40)
      · obtain ⟨n, rfl⟩ : ∃ z, n = z + 1 := ⟨n - 1, by omega⟩
        refine lv_aload_n hx hb dX6_groupsWithSlips_12 rfl (lv_at hl 2 rfl) ?_
        refine k_get K X 0 rfl fg_X6_28 (v := .ref (a 1)) rfl dX6_groupsWithSlips_13 ?_
        refine lv_iload_n hx hb dX6_groupsWithSlips_16 rfl (lv_at hl 0 rfl) ?_
        refine k_ialdN K X 1 rfl (k := i) (by omega) (by decide) dX6_groupsWithSlips_17 (v := f 1 i) rfl ?_
        refine lv_iconst (v := (-1)) hx hb dX6_groupsWithSlips_18 (by decide) ?_
        refine k_icmp_eq (x := f 1 i) (y := (-1)) hx hb 33 dX6_groupsWithSlips_19 (by decide) (fun c19 => ?_) (fun c19 => ?_)
        · refine lv_iinc (v := nI (i + 1)) (lv' := [(2, .int (nI (i + 1))), (1, .int w), (0, .ref (a 0))]) hx hb dX6_groupsWithSlips_33 hl (k := 0) rfl (nI_add i 1) (by decide) rfl (fun ls hl => ?_)
          refine lv_goto (tgt := 4) hx hb dX6_groupsWithSlips_36 (by decide) ?_
          exact ih4 (i + 1) n w (by omega) (by omega) (by rw [← hR]; simp [groupL, c9, c19]) _ hl _ _ X
        · refine lv_iload_n hx hb dX6_groupsWithSlips_22 rfl (lv_at hl 1 rfl) ?_
          refine lv_iconst (v := 1) hx hb dX6_groupsWithSlips_23 (by decide) ?_
          refine lv_aload_n hx hb dX6_groupsWithSlips_24 rfl (lv_at hl 2 rfl) ?_
          refine k_get K X 0 rfl fg_X6_28 (v := .ref (a 1)) rfl dX6_groupsWithSlips_25 ?_
          refine lv_iload_n hx hb dX6_groupsWithSlips_28 rfl (lv_at hl 0 rfl) ?_
          refine k_ialdN K X 1 rfl (k := i) (by omega) (by decide) dX6_groupsWithSlips_29 (v := f 1 i) rfl ?_
          refine lv_ishl hx hb dX6_groupsWithSlips_30 ?_
          refine lv_ior hx hb dX6_groupsWithSlips_31 ?_
          refine lv_istore_n (lv' := [(1, .int (w ||| (1 <<< ((f 1 i) &&& 31)))), (2, .int (nI i)), (0, .ref (a 0))]) hx hb dX6_groupsWithSlips_32 rfl hl (by decide) rfl (fun ls hl => ?_)
          refine lv_iinc (v := nI (i + 1)) (lv' := [(2, .int (nI (i + 1))), (1, .int (w ||| (1 <<< ((f 1 i) &&& 31)))), (0, .ref (a 0))]) hx hb dX6_groupsWithSlips_33 hl (k := 1) rfl (nI_add i 1) (by decide) rfl (fun ls hl => ?_)
          refine lv_goto (tgt := 4) hx hb dX6_groupsWithSlips_36 (by decide) ?_
          exact ih4 (i + 1) n (w ||| (1 <<< ((f 1 i) &&& 31))) (by omega) (by omega) (by rw [← hR]; simp [groupL, c9, c19]) _ hl _ _ X
  exact lp4 ((sl f) + 1) 0 (sl f) 0 (by omega) (by omega) (rfl) _ hl _ _ X
set_option maxRecDepth 100000 in
set_option maxHeartbeats 4000000 in
theorem c_X6_fixedSlips (l : Launch) (E : EE) (a : Nat → Nat) (k : Nat → Nat) (f : St) (T : Nat) (I : Inv T f) : Kd l yX6_fixedSlips cX6_fixedSlips 3 (some .int) 0 0 E (roomW E a k f) [.ref (a 0)] (some (.int (fixedF f))) (roomW E a k f) := by
  refine Kn.ofWi (by decide +kernel) (Nat.le_of_ble_eq_true rfl) (fun _ _ => rfl) ?_
  intro pg ev s0 mm below meth cd Q K X fin ls hl
  have hx := K.1
  have hb := K.2.1
  have hs10 := I.s10
  have hp6 := I.p6
  have hl : lv_has ls 3 [(0, .ref (a 0))] := hl
  refine lv_iconst (v := 0) hx hb dX6_fixedSlips_0 (by decide) ?_
  refine lv_istore_n (lv' := [(1, .int 0), (0, .ref (a 0))]) hx hb dX6_fixedSlips_1 rfl hl (by decide) rfl (fun ls hl => ?_)
  refine lv_iconst (v := 0) hx hb dX6_fixedSlips_2 (by decide) ?_
  refine lv_istore_n (lv' := [(2, .int 0), (1, .int 0), (0, .ref (a 0))]) hx hb dX6_fixedSlips_3 rfl hl (by decide) rfl (fun ls hl => ?_)
  have lp4 : ∀ (fu : Nat) (i : Nat) (n : Nat) (w : Int32) (hfu : n < fu) (hin : i + n = sl f) (hR : setL (fun s => decide (f 3 s = 1)) n i w = fixedF f) (ls : Array Slot) (hl : lv_has ls 3 [(2, .int (nI i)), (1, .int w), (0, .ref (a 0))]) (H : Heap) (locs : List Loc) (X : Wd E (inW (roomW E a k f)) s0.heap (roomW E a k f) H locs), W pg l ev (rmK 0 0) s0 mm ([.ref (a 0)] : List Value).toArray below meth cd H locs 0 0 Q (F0 mm 4 ls []) := by
    intro fu
    induction fu with
    | zero => intro i n w hfu; exact absurd hfu (Nat.not_lt_zero _)
    | succ fu ih4 =>
      intro i n w hfu hin hR ls hl H locs X
      refine lv_iload_n hx hb dX6_fixedSlips_4 rfl (lv_at hl 0 rfl) ?_
      refine lv_aload_n hx hb dX6_fixedSlips_5 rfl (lv_at hl 2 rfl) ?_
      refine k_get K X 0 rfl fg_X6_22 (v := .int (f 0 2)) rfl dX6_fixedSlips_6 ?_
      refine k_topi (I.hS) ?_
      refine kN_ge (x := i) (y := sl f) hx hb 34 dX6_fixedSlips_9 (by decide) (by omega) (by omega) (fun c9 => ?_) (fun c9 => ?_)
      · obtain rfl : n = 0 := by omega
        refine lv_iload_n hx hb dX6_fixedSlips_34 rfl (lv_at hl 1 rfl) ?_
        exact k_topi (x' := fixedF f) (hR) (fin () 35 _ _ _ trivial X dX6_fixedSlips_35)
      · obtain ⟨n, rfl⟩ : ∃ z, n = z + 1 := ⟨n - 1, by omega⟩
        refine lv_aload_n hx hb dX6_fixedSlips_12 rfl (lv_at hl 2 rfl) ?_
        refine k_get K X 0 rfl fg_X6_35 (v := .ref (a 3)) rfl dX6_fixedSlips_13 ?_
        refine lv_iload_n hx hb dX6_fixedSlips_16 rfl (lv_at hl 0 rfl) ?_
        refine k_ialdN K X 3 rfl (k := i) (by omega) (by decide) dX6_fixedSlips_17 (v := f 3 i) rfl ?_
        refine lv_iconst (v := 1) hx hb dX6_fixedSlips_18 (by decide) ?_
        refine k_icmp_ne (x := f 3 i) (y := 1) hx hb 28 dX6_fixedSlips_19 (by decide) (fun c19 => ?_) (fun c19 => ?_)
        · refine lv_iinc (v := nI (i + 1)) (lv' := [(2, .int (nI (i + 1))), (1, .int w), (0, .ref (a 0))]) hx hb dX6_fixedSlips_28 hl (k := 0) rfl (nI_add i 1) (by decide) rfl (fun ls hl => ?_)
          refine lv_goto (tgt := 4) hx hb dX6_fixedSlips_31 (by decide) ?_
          exact ih4 (i + 1) n w (by omega) (by omega) (by rw [← hR]; simp [setL, cntL, sumL, c9, c19]) _ hl _ _ X
        · refine lv_iload_n hx hb dX6_fixedSlips_22 rfl (lv_at hl 1 rfl) ?_
          refine lv_iconst (v := 1) hx hb dX6_fixedSlips_23 (by decide) ?_
          refine lv_iload_n hx hb dX6_fixedSlips_24 rfl (lv_at hl 0 rfl) ?_
          refine lv_ishl hx hb dX6_fixedSlips_25 ?_
          refine lv_ior hx hb dX6_fixedSlips_26 ?_
          refine lv_istore_n (lv' := [(1, .int (w ||| (1 <<< ((nI i) &&& 31)))), (2, .int (nI i)), (0, .ref (a 0))]) hx hb dX6_fixedSlips_27 rfl hl (by decide) rfl (fun ls hl => ?_)
          refine lv_iinc (v := nI (i + 1)) (lv' := [(2, .int (nI (i + 1))), (1, .int (w ||| (1 <<< ((nI i) &&& 31)))), (0, .ref (a 0))]) hx hb dX6_fixedSlips_28 hl (k := 1) rfl (nI_add i 1) (by decide) rfl (fun ls hl => ?_)
          refine lv_goto (tgt := 4) hx hb dX6_fixedSlips_31 (by decide) ?_
          exact ih4 (i + 1) n (w ||| (1 <<< ((nI i) &&& 31))) (by omega) (by omega) (by rw [← hR]; simp [setL, cntL, sumL, c9, c19]) _ hl _ _ X
  exact lp4 ((sl f) + 1) 0 (sl f) 0 (by omega) (by omega) (rfl) _ hl _ _ X
set_option maxRecDepth 100000 in
set_option maxHeartbeats 4000000 in
theorem c_X6_movedTogether (l : Launch) (E : EE) (a : Nat → Nat) (k : Nat → Nat) (f : St) (T : Nat) (I : Inv T f) : Kd l yX6_movedTogether cX6_movedTogether 3 (some .int) 0 0 E (roomW E a k f) [.ref (a 0)] (some (.int (allF f))) (roomW E a k f) := by
  refine Kn.ofWi (by decide +kernel) (Nat.le_of_ble_eq_true rfl) (fun _ _ => rfl) ?_
  intro pg ev s0 mm below meth cd Q K X fin ls hl
  have hx := K.1
  have hb := K.2.1
  have hs10 := I.s10
  have hp6 := I.p6
  have hl : lv_has ls 3 [(0, .ref (a 0))] := hl
  refine lv_iconst (v := 0) hx hb dX6_movedTogether_0 (by decide) ?_
  refine lv_istore_n (lv' := [(1, .int 0), (0, .ref (a 0))]) hx hb dX6_movedTogether_1 rfl hl (by decide) rfl (fun ls hl => ?_)
  refine lv_iconst (v := 0) hx hb dX6_movedTogether_2 (by decide) ?_
  refine lv_istore_n (lv' := [(2, .int 0), (1, .int 0), (0, .ref (a 0))]) hx hb dX6_movedTogether_3 rfl hl (by decide) rfl (fun ls hl => ?_)
  have lp4 : ∀ (fu : Nat) (i : Nat) (n : Nat) (w : Int32) (hfu : n < fu) (hin : i + n = sl f) (hR : sumL (fun s => f 2 s) n i w = allF f) (ls : Array Slot) (hl : lv_has ls 3 [(2, .int (nI i)), (1, .int w), (0, .ref (a 0))]) (H : Heap) (locs : List Loc) (X : Wd E (inW (roomW E a k f)) s0.heap (roomW E a k f) H locs), W pg l ev (rmK 0 0) s0 mm ([.ref (a 0)] : List Value).toArray below meth cd H locs 0 0 Q (F0 mm 4 ls []) := by
    intro fu
    induction fu with
    | zero => intro i n w hfu; exact absurd hfu (Nat.not_lt_zero _)
    | succ fu ih4 =>
      intro i n w hfu hin hR ls hl H locs X
      refine lv_iload_n hx hb dX6_movedTogether_4 rfl (lv_at hl 0 rfl) ?_
      refine lv_aload_n hx hb dX6_movedTogether_5 rfl (lv_at hl 2 rfl) ?_
      refine k_get K X 0 rfl fg_X6_22 (v := .int (f 0 2)) rfl dX6_movedTogether_6 ?_
      refine k_topi (I.hS) ?_
      refine kN_ge (x := i) (y := sl f) hx hb 27 dX6_movedTogether_9 (by decide) (by omega) (by omega) (fun c9 => ?_) (fun c9 => ?_)
      · obtain rfl : n = 0 := by omega
        refine lv_iload_n hx hb dX6_movedTogether_27 rfl (lv_at hl 1 rfl) ?_
        exact k_topi (x' := allF f) (hR) (fin () 28 _ _ _ trivial X dX6_movedTogether_28)
      · obtain ⟨n, rfl⟩ : ∃ z, n = z + 1 := ⟨n - 1, by omega⟩
        refine lv_iload_n hx hb dX6_movedTogether_12 rfl (lv_at hl 1 rfl) ?_
        refine lv_aload_n hx hb dX6_movedTogether_13 rfl (lv_at hl 2 rfl) ?_
        refine k_get K X 0 rfl fg_X6_32 (v := .ref (a 2)) rfl dX6_movedTogether_14 ?_
        refine lv_iload_n hx hb dX6_movedTogether_17 rfl (lv_at hl 0 rfl) ?_
        refine k_ialdN K X 2 rfl (k := i) (by omega) (by decide) dX6_movedTogether_18 (v := f 2 i) rfl ?_
        refine lv_iadd hx hb dX6_movedTogether_19 ?_
        refine lv_istore_n (lv' := [(1, .int (w + (f 2 i))), (2, .int (nI i)), (0, .ref (a 0))]) hx hb dX6_movedTogether_20 rfl hl (by decide) rfl (fun ls hl => ?_)
        refine lv_iinc (v := nI (i + 1)) (lv' := [(2, .int (nI (i + 1))), (1, .int (w + (f 2 i))), (0, .ref (a 0))]) hx hb dX6_movedTogether_21 hl (k := 1) rfl (nI_add i 1) (by decide) rfl (fun ls hl => ?_)
        refine lv_goto (tgt := 4) hx hb dX6_movedTogether_24 (by decide) ?_
        exact ih4 (i + 1) n (w + (f 2 i)) (by omega) (by omega) (by rw [← hR]; simp [setL, cntL, sumL, c9]) _ hl _ _ X
  exact lp4 ((sl f) + 1) 0 (sl f) 0 (by omega) (by omega) (rfl) _ hl _ _ X
set_option maxRecDepth 100000 in
set_option maxHeartbeats 4000000 in
theorem c_X6_turnsOf (l : Launch) (E : EE) (a : Nat → Nat) (k : Nat → Nat) (f : St) (T : Nat) (p : Nat) (I : Inv T f) (hp : p < 6) : Kd l yX6_turnsOf cX6_turnsOf 2 (some .int) 3 60 E (roomK E a k f) [.ref (a 0), .int (nI p)] (some (.int (nI (turnS (kn f p))))) (roomK E a k f) := by
  refine Kn.ofWi (by decide +kernel) (Nat.le_of_ble_eq_true rfl) (fun _ _ => rfl) ?_
  intro pg ev s0 mm below meth cd Q K X fin ls hl
  have hx := K.1
  have hb := K.2.1
  have hs10 := I.s10
  have hp6 := I.p6
  have hk6 := I.k6 (p := p) hp
  have hl : lv_has ls 2 [(0, .ref (a 0)), (1, .int (nI p))] := hl
  refine lv_aload_n hx hb dX6_turnsOf_0 rfl (lv_at hl 0 rfl) ?_
  refine k_get K X 0 rfl fg_X6_9 (v := .ref (k 0)) rfl dX6_turnsOf_1 ?_
  refine lv_aload_n hx hb dX6_turnsOf_4 rfl (lv_at hl 0 rfl) ?_
  refine k_get K X 0 rfl fg_X6_38 (v := .ref (a 4)) rfl dX6_turnsOf_5 ?_
  refine lv_iload_n hx hb dX6_turnsOf_8 rfl (lv_at hl 1 rfl) ?_
  refine k_ialdN K X 4 rfl (k := p) (by omega) (by decide) dX6_turnsOf_9 (v := f 4 p) rfl ?_
  refine k_topi (I.hK (by omega)) ?_
  refine k_aaldN (C := "SlipWall$Person") K X 7 2 rfl rfl (k := kn f p) (by omega) (by decide) (r := k (1 + (kn f p))) rfl dX6_turnsOf_10 ?_
  refine v_turns K X 8 (roomK_kd E _ _ f) (q := (kn f p)) (hk6) (by decide) hl.1 (rest := []) (Nat.le_of_ble_eq_true rfl) dX6_turnsOf_11 (fun H locs X => ?_)
  exact fin () 14 _ _ _ trivial X dX6_turnsOf_14
set_option maxRecDepth 100000 in
set_option maxHeartbeats 4000000 in
theorem c_X6_isOfKind (l : Launch) (E : EE) (a : Nat → Nat) (k : Nat → Nat) (f : St) (T : Nat) (p : Nat) (x : Int32) (I : Inv T f) (hp : p < 6) : Kd l yX6_isOfKind cX6_isOfKind 3 (some .boolean) 3 63 E (roomK E a k f) [.ref (a 0), .int (nI p), .int x] (some (.int (b2i (isKS (kn f p) x)))) (roomK E a k f) := by
  refine Kn.ofWi (by decide +kernel) (Nat.le_of_ble_eq_true rfl) (fun _ _ => b2i_nar _) ?_
  intro pg ev s0 mm below meth cd Q K X fin ls hl
  have hx := K.1
  have hb := K.2.1
  have hs10 := I.s10
  have hp6 := I.p6
  have hk6 := I.k6 (p := p) hp
  have hl : lv_has ls 3 [(0, .ref (a 0)), (1, .int (nI p)), (2, .int x)] := hl
  refine lv_aload_n hx hb dX6_isOfKind_0 rfl (lv_at hl 0 rfl) ?_
  refine k_get K X 0 rfl fg_X6_9 (v := .ref (k 0)) rfl dX6_isOfKind_1 ?_
  refine lv_aload_n hx hb dX6_isOfKind_4 rfl (lv_at hl 0 rfl) ?_
  refine k_get K X 0 rfl fg_X6_38 (v := .ref (a 4)) rfl dX6_isOfKind_5 ?_
  refine lv_iload_n hx hb dX6_isOfKind_8 rfl (lv_at hl 1 rfl) ?_
  refine k_ialdN K X 4 rfl (k := p) (by omega) (by decide) dX6_isOfKind_9 (v := f 4 p) rfl ?_
  refine k_topi (I.hK (by omega)) ?_
  refine k_aaldN (C := "SlipWall$Person") K X 7 2 rfl rfl (k := kn f p) (by omega) (by decide) (r := k (1 + (kn f p))) rfl dX6_isOfKind_10 ?_
  refine lv_iload_n hx hb dX6_isOfKind_11 rfl (lv_at hl 2 rfl) ?_
  refine v_isKind K X 8 (roomK_kd E _ _ f) (q := (kn f p)) (hk6) (by decide) hl.1 (rest := []) (Nat.le_of_ble_eq_true rfl) dX6_isOfKind_12 (fun H locs X => ?_)
  exact fin () 15 _ _ _ trivial X dX6_isOfKind_15
set_option maxRecDepth 100000 in
set_option maxHeartbeats 4000000 in
theorem c_X6_pickOf (l : Launch) (E : EE) (a : Nat → Nat) (k : Nat → Nat) (f : St) (T : Nat) (p : Nat) (I : Inv T f) (hp : p < 6) : Kd l yX6_pickOf cX6_pickOf 5 (some .int) 3 69 E (roomK E a k f) [.ref (a 0), .int (nI p)] (some (.int (pickF f p))) (roomK E a k f) := by
  refine Kn.ofWi (by decide +kernel) (Nat.le_of_ble_eq_true rfl) (fun _ _ => rfl) ?_
  intro pg ev s0 mm below meth cd Q K X fin ls hl
  have hx := K.1
  have hb := K.2.1
  have hs10 := I.s10
  have hp6 := I.p6
  have hk6 := I.k6 (p := p) hp
  have hl : lv_has ls 5 [(0, .ref (a 0)), (1, .int (nI p))] := hl
  refine lv_aload_n hx hb dX6_pickOf_0 rfl (lv_at hl 0 rfl) ?_
  refine k_get K X 0 rfl fg_X6_9 (v := .ref (k 0)) rfl dX6_pickOf_1 ?_
  refine lv_aload_n hx hb dX6_pickOf_4 rfl (lv_at hl 0 rfl) ?_
  refine k_get K X 0 rfl fg_X6_38 (v := .ref (a 4)) rfl dX6_pickOf_5 ?_
  refine lv_iload_n hx hb dX6_pickOf_8 rfl (lv_at hl 1 rfl) ?_
  refine k_ialdN K X 4 rfl (k := p) (by omega) (by decide) dX6_pickOf_9 (v := f 4 p) rfl ?_
  refine k_topi (I.hK (by omega)) ?_
  refine k_aaldN (C := "SlipWall$Person") K X 7 2 rfl rfl (k := kn f p) (by omega) (by decide) (r := k (1 + (kn f p))) rfl dX6_pickOf_10 ?_
  refine lv_astore_n (lv' := [(2, .ref (k (1 + (kn f p)))), (0, .ref (a 0)), (1, .int (nI p))]) hx hb dX6_pickOf_11 rfl hl (by decide) rfl (fun ls hl => ?_)
  refine lv_iconst (v := (-1)) hx hb dX6_pickOf_12 (by decide) ?_
  refine lv_istore_n (lv' := [(3, .int (-1)), (2, .ref (k (1 + (kn f p)))), (0, .ref (a 0)), (1, .int (nI p))]) hx hb dX6_pickOf_13 rfl hl (by decide) rfl (fun ls hl => ?_)
  refine lv_iconst (v := 0) hx hb dX6_pickOf_14 (by decide) ?_
  refine lv_istore (lv' := [(4, .int 0), (3, .int (-1)), (2, .ref (k (1 + (kn f p)))), (0, .ref (a 0)), (1, .int (nI p))]) hx hb dX6_pickOf_15 hl (by decide) rfl (fun ls hl => ?_)
  have lp17 : ∀ (fu : Nat) (i : Nat) (n : Nat) (w : Int32) (hfu : n < fu) (hin : i + n = sl f) (hR : pickL f p n i w = pickF f p) (hw : w = -1 ∨ ∃ j, j < 10 ∧ w = nI j) (ls : Array Slot) (hl : lv_has ls 5 [(4, .int (nI i)), (3, .int w), (2, .ref (k (1 + (kn f p)))), (0, .ref (a 0)), (1, .int (nI p))]) (H : Heap) (locs : List Loc) (X : Wd E (inW (roomK E a k f)) s0.heap (roomK E a k f) H locs), W pg l ev (rmK 3 69) s0 mm ([.ref (a 0), .int (nI p)] : List Value).toArray below meth cd H locs 0 0 Q (F0 mm 17 ls []) := by
    intro fu
    induction fu with
    | zero => intro i n w hfu; exact absurd hfu (Nat.not_lt_zero _)
    | succ fu ih17 =>
      intro i n w hfu hin hR hw ls hl H locs X
      refine lv_iload hx hb dX6_pickOf_17 (lv_at hl 0 rfl) ?_
      refine lv_aload_n hx hb dX6_pickOf_19 rfl (lv_at hl 3 rfl) ?_
      refine k_get K X 0 rfl fg_X6_22 (v := .int (f 0 2)) rfl dX6_pickOf_20 ?_
      refine k_topi (I.hS) ?_
      refine kN_ge (x := i) (y := sl f) hx hb 102 dX6_pickOf_23 (by decide) (by omega) (by omega) (fun c23 => ?_) (fun c23 => ?_)
      · obtain rfl : n = 0 := by omega
        refine lv_iload_n hx hb dX6_pickOf_102 rfl (lv_at hl 1 rfl) ?_
        exact k_topi (x' := pickF f p) (hR) (fin () 103 _ _ _ trivial X dX6_pickOf_103)
      · obtain ⟨n, rfl⟩ : ∃ z, n = z + 1 := ⟨n - 1, by omega⟩
        refine lv_aload_n hx hb dX6_pickOf_26 rfl (lv_at hl 3 rfl) ?_
        refine k_get K X 0 rfl fg_X6_35 (v := .ref (a 3)) rfl dX6_pickOf_27 ?_
        refine lv_iload hx hb dX6_pickOf_30 (lv_at hl 0 rfl) ?_
        refine k_ialdN K X 3 rfl (k := i) (by omega) (by decide) dX6_pickOf_32 (v := f 3 i) rfl ?_
        refine k_if_ne (x := f 3 i) hx hb 96 dX6_pickOf_33 (by decide) (fun c33 => ?_) (fun c33 => ?_)
        · refine lv_iinc (v := nI (i + 1)) (lv' := [(4, .int (nI (i + 1))), (3, .int w), (2, .ref (k (1 + (kn f p)))), (0, .ref (a 0)), (1, .int (nI p))]) hx hb dX6_pickOf_96 hl (k := 0) rfl (nI_add i 1) (by decide) rfl (fun ls hl => ?_)
          refine lv_goto (tgt := 17) hx hb dX6_pickOf_99 (by decide) ?_
          exact ih17 (i + 1) n w (by omega) (by omega) (by rw [← hR]; simp [pickL, canB, c23, c33]) (hw) _ hl _ _ X
        · refine lv_aload_n hx hb dX6_pickOf_36 rfl (lv_at hl 3 rfl) ?_
          refine lv_iload_n hx hb dX6_pickOf_37 rfl (lv_at hl 4 rfl) ?_
          refine lv_iload hx hb dX6_pickOf_38 (lv_at hl 0 rfl) ?_
          refine k_callV K X gv_X6_86 (As := [.int (nI p), .int (nI i)]) (c_X6_pleases l E a k f T p i I (by omega) (by omega)) [0, 1, 2, 3, 4, 5, 6] roomK_s0C (by decide +kernel) (fun _ => roomW_fst) 0 6 rfl rfl (by decide) rfl hl.1 (rest := []) rfl (Nat.le_of_ble_eq_true rfl) dX6_pickOf_40 (st1 := fun _ => [.int (b2i (hasW f p i))]) (fun _ => rfl) (fun _ H locs _ X => ?_)
          have X : Wd E _ _ (roomK E a k f) _ _ := X.eq roomK_s0P
          refine k_ifneB (B := (hasW f p i)) hx hb 96 dX6_pickOf_43 (by decide) (fun c43 => ?_) (fun c43 => ?_)
          · refine lv_iinc (v := nI (i + 1)) (lv' := [(4, .int (nI (i + 1))), (3, .int w), (2, .ref (k (1 + (kn f p)))), (0, .ref (a 0)), (1, .int (nI p))]) hx hb dX6_pickOf_96 hl (k := 0) rfl (nI_add i 1) (by decide) rfl (fun ls hl => ?_)
            refine lv_goto (tgt := 17) hx hb dX6_pickOf_99 (by decide) ?_
            exact ih17 (i + 1) n w (by omega) (by omega) (by rw [← hR]; simp [pickL, canB, c23, c33, c43]) (hw) _ hl _ _ X
          · refine lv_aload_n hx hb dX6_pickOf_46 rfl (lv_at hl 2 rfl) ?_
            refine lv_aload_n hx hb dX6_pickOf_47 rfl (lv_at hl 3 rfl) ?_
            refine k_get K X 0 rfl fg_X6_32 (v := .ref (a 2)) rfl dX6_pickOf_48 ?_
            refine lv_iload hx hb dX6_pickOf_51 (lv_at hl 0 rfl) ?_
            refine k_ialdN K X 2 rfl (k := i) (by omega) (by decide) dX6_pickOf_53 (v := f 2 i) rfl ?_
            refine lv_aload_n hx hb dX6_pickOf_54 rfl (lv_at hl 3 rfl) ?_
            refine k_get K X 0 rfl fg_X6_19 (v := .int (f 0 1)) rfl dX6_pickOf_55 ?_
            refine lv_aload_n hx hb dX6_pickOf_58 rfl (lv_at hl 3 rfl) ?_
            refine k_get K X 0 rfl fg_X6_15 (v := .int (f 0 0)) rfl dX6_pickOf_59 ?_
            refine v_mayTouch K X 8 (roomK_kd E _ _ f) (q := (kn f p)) (hk6) (by decide) hl.1 (rest := []) (Nat.le_of_ble_eq_true rfl) dX6_pickOf_62 (fun H locs X => ?_)
            refine k_ifeqB (B := (mayS (kn f p) (f 2 i) (f 0 1) (f 0 0))) hx hb 96 dX6_pickOf_65 (by decide) (fun c65 => ?_) (fun c65 => ?_)
            · refine lv_iinc (v := nI (i + 1)) (lv' := [(4, .int (nI (i + 1))), (3, .int w), (2, .ref (k (1 + (kn f p)))), (0, .ref (a 0)), (1, .int (nI p))]) hx hb dX6_pickOf_96 hl (k := 0) rfl (nI_add i 1) (by decide) rfl (fun ls hl => ?_)
              refine lv_goto (tgt := 17) hx hb dX6_pickOf_99 (by decide) ?_
              exact ih17 (i + 1) n w (by omega) (by omega) (by rw [← hR]; simp [pickL, canB, c23, c33, c43, c65]) (hw) _ hl _ _ X
            · refine lv_iload_n hx hb dX6_pickOf_68 rfl (lv_at hl 1 rfl) ?_
              refine lv_iconst (v := (-1)) hx hb dX6_pickOf_69 (by decide) ?_
              refine k_icmp_eq (x := w) (y := (-1)) hx hb 93 dX6_pickOf_70 (by decide) (fun c70 => ?_) (fun c70 => ?_)
              · refine lv_iload hx hb dX6_pickOf_93 (lv_at hl 0 rfl) ?_
                refine lv_istore_n (lv' := [(3, .int (nI i)), (4, .int (nI i)), (2, .ref (k (1 + (kn f p)))), (0, .ref (a 0)), (1, .int (nI p))]) hx hb dX6_pickOf_95 rfl hl (by decide) rfl (fun ls hl => ?_)
                refine lv_iinc (v := nI (i + 1)) (lv' := [(4, .int (nI (i + 1))), (3, .int (nI i)), (2, .ref (k (1 + (kn f p)))), (0, .ref (a 0)), (1, .int (nI p))]) hx hb dX6_pickOf_96 hl (k := 1) rfl (nI_add i 1) (by decide) rfl (fun ls hl => ?_)
                refine lv_goto (tgt := 17) hx hb dX6_pickOf_99 (by decide) ?_
                exact ih17 (i + 1) n (nI i) (by omega) (by omega) (by rw [← hR]; simp [pickL, canB, c23, c33, c43, c65, c70]) (Or.inr ⟨i, by omega, rfl⟩) _ hl _ _ X
              · obtain ⟨j, hj, ej⟩ : ∃ j, j < 10 ∧ w = nI j := hw.resolve_left c70
                have cj : ¬ nI j = -1 := by rw [← ej]; exact c70
                refine lv_aload_n hx hb dX6_pickOf_73 rfl (lv_at hl 2 rfl) ?_
                refine lv_aload_n hx hb dX6_pickOf_74 rfl (lv_at hl 3 rfl) ?_
                refine k_get K X 0 rfl fg_X6_32 (v := .ref (a 2)) rfl dX6_pickOf_75 ?_
                refine lv_iload hx hb dX6_pickOf_78 (lv_at hl 0 rfl) ?_
                refine k_ialdN K X 2 rfl (k := i) (by omega) (by decide) dX6_pickOf_80 (v := f 2 i) rfl ?_
                refine lv_aload_n hx hb dX6_pickOf_81 rfl (lv_at hl 3 rfl) ?_
                refine k_get K X 0 rfl fg_X6_32 (v := .ref (a 2)) rfl dX6_pickOf_82 ?_
                refine lv_iload_n hx hb dX6_pickOf_85 rfl (lv_at hl 1 rfl) ?_
                refine k_topi (ej) ?_
                refine k_ialdN K X 2 rfl (k := j) (by omega) (by decide) dX6_pickOf_86 (v := f 2 j) rfl ?_
                refine v_prefers K X 8 (roomK_kd E _ _ f) (q := (kn f p)) (hk6) (by decide) hl.1 (rest := []) (Nat.le_of_ble_eq_true rfl) dX6_pickOf_87 (fun H locs X => ?_)
                refine k_ifeqB (B := (prefS (kn f p) (f 2 i) (f 2 j))) hx hb 96 dX6_pickOf_90 (by decide) (fun c90 => ?_) (fun c90 => ?_)
                · refine lv_iinc (v := nI (i + 1)) (lv' := [(4, .int (nI (i + 1))), (3, .int w), (2, .ref (k (1 + (kn f p)))), (0, .ref (a 0)), (1, .int (nI p))]) hx hb dX6_pickOf_96 hl (k := 0) rfl (nI_add i 1) (by decide) rfl (fun ls hl => ?_)
                  refine lv_goto (tgt := 17) hx hb dX6_pickOf_99 (by decide) ?_
                  exact ih17 (i + 1) n w (by omega) (by omega) (by rw [← hR]; simp [pickL, canB, nI_clamp (show j < 2 ^ 31 by omega), c23, c33, c43, c65, c70, ej, cj, c90]) (hw) _ hl _ _ X
                · refine lv_iload hx hb dX6_pickOf_93 (lv_at hl 0 rfl) ?_
                  refine lv_istore_n (lv' := [(3, .int (nI i)), (4, .int (nI i)), (2, .ref (k (1 + (kn f p)))), (0, .ref (a 0)), (1, .int (nI p))]) hx hb dX6_pickOf_95 rfl hl (by decide) rfl (fun ls hl => ?_)
                  refine lv_iinc (v := nI (i + 1)) (lv' := [(4, .int (nI (i + 1))), (3, .int (nI i)), (2, .ref (k (1 + (kn f p)))), (0, .ref (a 0)), (1, .int (nI p))]) hx hb dX6_pickOf_96 hl (k := 1) rfl (nI_add i 1) (by decide) rfl (fun ls hl => ?_)
                  refine lv_goto (tgt := 17) hx hb dX6_pickOf_99 (by decide) ?_
                  exact ih17 (i + 1) n (nI i) (by omega) (by omega) (by rw [← hR]; simp [pickL, canB, nI_clamp (show j < 2 ^ 31 by omega), c23, c33, c43, c65, c70, ej, cj, c90]) (Or.inr ⟨i, by omega, rfl⟩) _ hl _ _ X
  exact lp17 ((sl f) + 1) 0 (sl f) (-1) (by omega) (by omega) (rfl) (Or.inl rfl) _ hl _ _ X
set_option maxRecDepth 100000 in
set_option maxHeartbeats 4000000 in
theorem c_X6_shift (l : Launch) (E : EE) (a : Nat → Nat) (k : Nat → Nat) (f : St) (T : Nat) (p : Nat) (q : Nat) (I : Inv T f) (hp : p < 6) (hq : q < 10) : Kd l yX6_shift cX6_shift 3 none 1 21 E (roomK E a k f) [.ref (a 0), .int (nI p), .int (nI q)] none (roomK E a k (shiftF f p q)) := by
  refine Kn.ofWv (by decide +kernel) (Nat.le_of_ble_eq_true rfl) ?_
  intro pg ev s0 mm below meth cd Q K X fin ls hl
  have hx := K.1
  have hb := K.2.1
  have hs10 := I.s10
  have hp6 := I.p6
  have hk6 := I.k6 (p := p) hp
  have hl : lv_has ls 3 [(0, .ref (a 0)), (1, .int (nI p)), (2, .int (nI q))] := hl
  refine lv_aload_n hx hb dX6_shift_0 rfl (lv_at hl 0 rfl) ?_
  refine k_get K X 0 rfl fg_X6_28 (v := .ref (a 1)) rfl dX6_shift_1 ?_
  refine lv_iload_n hx hb dX6_shift_4 rfl (lv_at hl 2 rfl) ?_
  refine lv_aload_n hx hb dX6_shift_5 rfl (lv_at hl 0 rfl) ?_
  refine k_get K X 0 rfl fg_X6_44 (v := .ref (a 6)) rfl dX6_shift_6 ?_
  refine lv_iload_n hx hb dX6_shift_9 rfl (lv_at hl 1 rfl) ?_
  refine lv_iload_n hx hb dX6_shift_10 rfl (lv_at hl 2 rfl) ?_
  refine k_callS K X gs_X6_53 (As := [.int (nI p), .int (nI q)]) (c_X6_wish l E p q) [] rfl (by decide +kernel) (fun _ => rfl) (by decide) rfl hl.1 (rest := [.ref (a 6), .int (nI q), .ref (a 1)]) rfl (Nat.le_of_ble_eq_true rfl) dX6_shift_11 (st1 := fun _ => [.int (nI (10 * p + q)), .ref (a 6), .int (nI q), .ref (a 1)]) (fun _ => rfl) (fun _ H locs _ X => ?_)
  have X : Wd E _ _ (roomK E a k f) _ _ := X
  refine k_ialdN K X 6 rfl (k := 10 * p + q) (by omega) (by decide) dX6_shift_14 (v := f 6 (10 * p + q)) rfl ?_
  refine k_iastN K X 1 rfl (k := q) (x := f 6 (10 * p + q)) (by omega) (by decide) dX6_shift_15 (fun H locs X => ?_)
  have X : Wd E _ _ (roomK E a k (up2 f 1 q (f 6 (10 * p + q)))) _ _ := X
  refine lv_aload_n hx hb dX6_shift_16 rfl (lv_at hl 0 rfl) ?_
  refine k_get K X 0 rfl fg_X6_32 (v := .ref (a 2)) rfl dX6_shift_17 ?_
  refine lv_iload_n hx hb dX6_shift_20 rfl (lv_at hl 2 rfl) ?_
  refine lv_aload_n hx hb dX6_shift_21 rfl (lv_at hl 0 rfl) ?_
  refine k_get K X 0 rfl fg_X6_32 (v := .ref (a 2)) rfl dX6_shift_22 ?_
  refine lv_iload_n hx hb dX6_shift_25 rfl (lv_at hl 2 rfl) ?_
  refine k_ialdN K X 2 rfl (k := q) (by omega) (by decide) dX6_shift_26 (v := f 2 q) rfl ?_
  refine lv_iconst (v := 1) hx hb dX6_shift_27 (by decide) ?_
  refine lv_iadd hx hb dX6_shift_28 ?_
  refine lv_sipush (v := 999) hx hb dX6_shift_29 (by decide) ?_
  refine va_mmin (x := (f 2 q) + 1) (y := 999) hx hb (K.2.2.1.trans hl.1.symm) K.2.2.2.1 (K.2.2.2.2.1 _ (Mw_at 544 (by decide +kernel) (by decide +kernel))) (K.2.2.2.2.1 _ (Mw_at 545 (by decide +kernel) (by decide +kernel))) (K.2.2.2.2.1 _ (Mw_at 76 (by decide +kernel) (by decide +kernel))) (K.2.2.2.2.1 _ (Mw_at 546 (by decide +kernel) (by decide +kernel))) (by decide) (Nat.le_of_ble_eq_true rfl) (Nat.le_refl _) (Nat.le_refl _) dX6_shift_32 ?_
  refine k_iastN K X 2 rfl (k := q) (x := if 999 < ((f 2 q) + 1) then 999 else ((f 2 q) + 1)) (by omega) (by decide) dX6_shift_35 (fun H locs X => ?_)
  have X : Wd E _ _ (roomK E a k (up2 (up2 f 1 q (f 6 (10 * p + q))) 2 q (if 999 < ((f 2 q) + 1) then 999 else ((f 2 q) + 1)))) _ _ := X
  refine lv_aload_n hx hb dX6_shift_36 rfl (lv_at hl 0 rfl) ?_
  refine k_get K X 0 rfl fg_X6_35 (v := .ref (a 3)) rfl dX6_shift_37 ?_
  refine lv_iload_n hx hb dX6_shift_40 rfl (lv_at hl 2 rfl) ?_
  refine lv_aload_n hx hb dX6_shift_41 rfl (lv_at hl 0 rfl) ?_
  refine k_get K X 0 rfl fg_X6_9 (v := .ref (k 0)) rfl dX6_shift_42 ?_
  refine lv_aload_n hx hb dX6_shift_45 rfl (lv_at hl 0 rfl) ?_
  refine k_get K X 0 rfl fg_X6_38 (v := .ref (a 4)) rfl dX6_shift_46 ?_
  refine lv_iload_n hx hb dX6_shift_49 rfl (lv_at hl 1 rfl) ?_
  refine k_ialdN K X 4 rfl (k := p) (by omega) (by decide) dX6_shift_50 (v := f 4 p) rfl ?_
  refine k_topi (I.hK (by omega)) ?_
  refine k_aaldN (C := "SlipWall$Person") K X 7 2 rfl rfl (k := kn f p) (by omega) (by decide) (r := k (1 + (kn f p))) rfl dX6_shift_51 ?_
  refine lv_aload_n hx hb dX6_shift_52 rfl (lv_at hl 0 rfl) ?_
  refine k_get K X 0 rfl fg_X6_32 (v := .ref (a 2)) rfl dX6_shift_53 ?_
  refine lv_iload_n hx hb dX6_shift_56 rfl (lv_at hl 2 rfl) ?_
  refine k_ialdN K X 2 rfl (k := q) (by omega) (by decide) dX6_shift_57 (v := if 999 < ((f 2 q) + 1) then 999 else ((f 2 q) + 1)) pk_us ?_
  refine v_fixes K X 8 (roomK_kd E _ _ (up2 (up2 f 1 q (f 6 (10 * p + q))) 2 q (if 999 < ((f 2 q) + 1) then 999 else ((f 2 q) + 1)))) (q := (kn f p)) (hk6) (by decide) hl.1 (rest := [.int (nI q), .ref (a 3)]) (Nat.le_of_ble_eq_true rfl) dX6_shift_58 (fun H locs X => ?_)
  refine k_ifeqB (B := (fixS (kn f p) (if 999 < ((f 2 q) + 1) then 999 else ((f 2 q) + 1)))) hx hb 68 dX6_shift_61 (by decide) (fun c61 => ?_) (fun c61 => ?_)
  · refine lv_iconst (v := 0) hx hb dX6_shift_68 (by decide) ?_
    refine k_iastN K X 3 rfl (k := q) (x := 0) (by omega) (by decide) dX6_shift_69 (fun H locs X => ?_)
    have X : Wd E _ _ (roomK E a k (up2 (up2 (up2 f 1 q (f 6 (10 * p + q))) 2 q (if 999 < ((f 2 q) + 1) then 999 else ((f 2 q) + 1))) 3 q 0)) _ _ := X
    exact fin () 70 _ _ _ trivial (X.eq (by simp [shiftF, heldF, b2i, c61])) dX6_shift_70
  · refine lv_iconst (v := 1) hx hb dX6_shift_64 (by decide) ?_
    refine lv_goto (tgt := 69) hx hb dX6_shift_65 (by decide) ?_
    refine k_iastN K X 3 rfl (k := q) (x := 1) (by omega) (by decide) dX6_shift_69 (fun H locs X => ?_)
    have X : Wd E _ _ (roomK E a k (up2 (up2 (up2 f 1 q (f 6 (10 * p + q))) 2 q (if 999 < ((f 2 q) + 1) then 999 else ((f 2 q) + 1))) 3 q 1)) _ _ := X
    exact fin () 70 _ _ _ trivial (X.eq (by simp [shiftF, heldF, b2i, c61])) dX6_shift_70
