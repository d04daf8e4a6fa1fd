theorem chr_nar : ∀ i, i < 11 → ∀ j, j < kLen.getD i 0 → narrow .char (.int ((kByt.getD i []).getD j 0)) = .int ((kByt.getD i []).getD j 0) := by decide +kernel
set_option maxRecDepth 100000 in
set_option maxHeartbeats 4000000 in
theorem c_J0_coder_7d493 (l : Launch) (E : EE) (i : Nat) (hi : i < 11) : Kd l yJ0_coder_7d493 cJ0_coder_7d493 1 (some .byte) 0 0 E (noW E  ) [.ref (eK E i)] (some (.int 0)) (noW E  ) := by
  refine Kn.ofWi (by decide +kernel) (Nat.le_of_ble_eq_true rfl) (fun _ _ => by decide) ?_
  intro pg ev s0 mm below meth cd Q K X fin ls hl
  have hx := K.1
  have hb := K.2.1
  have hl : lv_has ls 1 [(0, .ref (eK E i))] := hl
  refine k_cs K X dJ0_coder_7d493_0 ?_
  refine k_if1eq hx hb dJ0_coder_7d493_3 ⟨13, by decide⟩ ?_
  refine lv_aload_n hx hb dJ0_coder_7d493_6 rfl (lv_at hl 0 rfl) ?_
  refine k_strC K X (i := i) hi dJ0_coder_7d493_7 ?_
  refine lv_goto (tgt := 14) hx hb dJ0_coder_7d493_10 (by decide) ?_
  exact fin () 14 _ _ _ trivial X dJ0_coder_7d493_14
set_option maxRecDepth 100000 in
set_option maxHeartbeats 4000000 in
theorem c_J0_isLatin1_aae02 (l : Launch) (E : EE) (i : Nat) (hi : i < 11) : Kd l yJ0_isLatin1_aae02 cJ0_isLatin1_aae02 1 (some .boolean) 0 0 E (noW E  ) [.ref (eK E i)] (some (.int 1)) (noW E  ) := by
  refine Kn.ofWi (by decide +kernel) (Nat.le_of_ble_eq_true rfl) (fun _ _ => by decide) ?_
  intro pg ev s0 mm below meth cd Q K X fin ls hl
  have hx := K.1
  have hb := K.2.1
  have hl : lv_has ls 1 [(0, .ref (eK E i))] := hl
  refine k_cs K X dJ0_isLatin1_aae02_0 ?_
  refine k_if1eq hx hb dJ0_isLatin1_aae02_3 ⟨17, by decide⟩ ?_
  refine lv_aload_n hx hb dJ0_isLatin1_aae02_6 rfl (lv_at hl 0 rfl) ?_
  refine k_strC K X (i := i) hi dJ0_isLatin1_aae02_7 ?_
  refine k_if0ne hx hb dJ0_isLatin1_aae02_10 ⟨17, by decide⟩ ?_
  refine lv_iconst (v := 1) hx hb dJ0_isLatin1_aae02_13 (by decide) ?_
  refine lv_goto (tgt := 18) hx hb dJ0_isLatin1_aae02_14 (by decide) ?_
  exact fin () 18 _ _ _ trivial X dJ0_isLatin1_aae02_18
set_option maxRecDepth 100000 in
set_option maxHeartbeats 4000000 in
theorem c_J0_length_8abf5 (l : Launch) (E : EE) (i : Nat) (hi : i < 11) : Kd l yJ0_length_8abf5 cJ0_length_8abf5 1 (some .int) 1 20 E (noW E  ) [.ref (eK E i)] (some (.int (nI (kLen.getD i 0)))) (noW E  ) := by
  refine Kn.ofWi (by decide +kernel) (Nat.le_of_ble_eq_true rfl) (fun _ _ => rfl) ?_
  intro pg ev s0 mm below meth cd Q K X fin ls hl
  have hx := K.1
  have hb := K.2.1
  have hl : lv_has ls 1 [(0, .ref (eK E i))] := hl
  refine lv_aload_n hx hb dJ0_length_8abf5_0 rfl (lv_at hl 0 rfl) ?_
  refine k_strV K X (i := i) hi dJ0_length_8abf5_1 ?_
  refine k_strL K X (i := i) hi dJ0_length_8abf5_4 ?_
  refine lv_aload_n hx hb dJ0_length_8abf5_5 rfl (lv_at hl 0 rfl) ?_
  refine k_callZ K X gv_J0_335 (As := []) (c_J0_coder_7d493 l E i (by omega)) [] rfl (by decide +kernel) (fun _ => rfl) hi (by decide) rfl hl.1 (rest := [.int (nI (kLen.getD i 0))]) rfl (Nat.le_of_ble_eq_true rfl) dJ0_length_8abf5_6 (st1 := fun _ => [.int 0, .int (nI (kLen.getD i 0))]) (fun _ => rfl) (fun _ H locs _ X => ?_)
  have X : Wd E _ _ (noW E  ) _ _ := X
  refine lv_ishr hx hb dJ0_length_8abf5_9 ?_
  exact k_topi (x' := nI (kLen.getD i 0)) (len_shr i hi) (fin () 10 _ _ _ trivial X dJ0_length_8abf5_10)
set_option maxRecDepth 100000 in
set_option maxHeartbeats 4000000 in
theorem c_J3_checkIndex_n (l : Launch) (E : EE) (a : Nat) (b : Nat) (hab : a < b) (hb7 : b < 7) : Kd l yJ3_checkIndex_8e157 cJ3_checkIndex_8e157 3 (some .int) 1 30 E (noW E  ) [.int (nI a), .int (nI b), .null] (some (.int (nI a))) (noW E  ) := by
  refine Kn.ofWi (by decide +kernel) (Nat.le_of_ble_eq_true rfl) (fun _ _ => rfl) ?_
  intro pg ev s0 mm below meth cd Q K X fin ls hl
  have hx := K.1
  have hb := K.2.1
  have hl : lv_has ls 3 [(0, .int (nI a)), (1, .int (nI b)), (2, .null)] := hl
  refine lv_iload_n hx hb dJ3_checkIndex_8e157_0 rfl (lv_at hl 0 rfl) ?_
  refine kN0_lt (x := a) hx hb dJ3_checkIndex_8e157_1 ⟨9, by decide⟩ (by omega) ?_
  refine lv_iload_n hx hb dJ3_checkIndex_8e157_4 rfl (lv_at hl 0 rfl) ?_
  refine lv_iload_n hx hb dJ3_checkIndex_8e157_5 rfl (lv_at hl 1 rfl) ?_
  refine kN_lt (x := a) (y := b) hx hb 16 dJ3_checkIndex_8e157_6 (by decide) (by omega) (by omega) (fun c6 => ?_) (fun c6 => ?_)
  · refine lv_iload_n hx hb dJ3_checkIndex_8e157_16 rfl (lv_at hl 0 rfl) ?_
    exact fin () 17 _ _ _ trivial X dJ3_checkIndex_8e157_17
  · exact absurd hab (by omega)
set_option maxRecDepth 100000 in
set_option maxHeartbeats 4000000 in
theorem c_J3_checkIndex_r (l : Launch) (E : EE) (a : Nat) (b : Nat) (tf : Nat) (hab : a < b) (hb7 : b < 7) : Kd l yJ3_checkIndex_8e157 cJ3_checkIndex_8e157 3 (some .int) 1 30 E (noW E  ) [.int (nI a), .int (nI b), .ref tf] (some (.int (nI a))) (noW E  ) := by
  refine Kn.ofWi (by decide +kernel) (Nat.le_of_ble_eq_true rfl) (fun _ _ => rfl) ?_
  intro pg ev s0 mm below meth cd Q K X fin ls hl
  have hx := K.1
  have hb := K.2.1
  have hl : lv_has ls 3 [(0, .int (nI a)), (1, .int (nI b)), (2, .ref tf)] := hl
  refine lv_iload_n hx hb dJ3_checkIndex_8e157_0 rfl (lv_at hl 0 rfl) ?_
  refine kN0_lt (x := a) hx hb dJ3_checkIndex_8e157_1 ⟨9, by decide⟩ (by omega) ?_
  refine lv_iload_n hx hb dJ3_checkIndex_8e157_4 rfl (lv_at hl 0 rfl) ?_
  refine lv_iload_n hx hb dJ3_checkIndex_8e157_5 rfl (lv_at hl 1 rfl) ?_
  refine kN_lt (x := a) (y := b) hx hb 16 dJ3_checkIndex_8e157_6 (by decide) (by omega) (by omega) (fun c6 => ?_) (fun c6 => ?_)
  · refine lv_iload_n hx hb dJ3_checkIndex_8e157_16 rfl (lv_at hl 0 rfl) ?_
    exact fin () 17 _ _ _ trivial X dJ3_checkIndex_8e157_17
  · exact absurd hab (by omega)
set_option maxRecDepth 100000 in
set_option maxHeartbeats 4000000 in
theorem c_J0_checkIndex_df160 (l : Launch) (E : EE) (a : Nat) (b : Nat) (hab : a < b) (hb7 : b < 7) : Kd l yJ0_checkIndex_df160 cJ0_checkIndex_df160 2 none 2 52 E (noW E  ) [.int (nI a), .int (nI b)] none (noW E  ) := by
  refine Kn.ofWv (by decide +kernel) (Nat.le_of_ble_eq_true rfl) ?_
  intro pg ev s0 mm below meth cd Q K X fin ls hl
  have hx := K.1
  have hb := K.2.1
  have hl : lv_has ls 2 [(0, .int (nI a)), (1, .int (nI b))] := hl
  refine lv_iload_n hx hb dJ0_checkIndex_df160_0 rfl (lv_at hl 0 rfl) ?_
  refine lv_iload_n hx hb dJ0_checkIndex_df160_1 rfl (lv_at hl 1 rfl) ?_
  refine k_fm K X dJ0_checkIndex_df160_2 ?_ (fun tf => ?_)
  · refine k_callS K X gs_J0_1059 (As := [.int (nI a), .int (nI b), .null]) (c_J3_checkIndex_n l E a b (by omega) (by omega)) [] rfl (by decide +kernel) (fun _ => rfl) (by decide) rfl hl.1 (rest := []) rfl (Nat.le_of_ble_eq_true rfl) dJ0_checkIndex_df160_5 (st1 := fun _ => [.int (nI a)]) (fun _ => rfl) (fun _ H locs _ X => ?_)
    have X : Wd E _ _ (noW E  ) _ _ := X
    refine lv_pop hx hb dJ0_checkIndex_df160_8 rfl ?_
    exact fin () 9 _ _ _ trivial X dJ0_checkIndex_df160_9
  · refine k_callS K X gs_J0_1059 (As := [.int (nI a), .int (nI b), .ref tf]) (c_J3_checkIndex_r l E a b tf (by omega) (by omega)) [] rfl (by decide +kernel) (fun _ => rfl) (by decide) rfl hl.1 (rest := []) rfl (Nat.le_of_ble_eq_true rfl) dJ0_checkIndex_df160_5 (st1 := fun _ => [.int (nI a)]) (fun _ => rfl) (fun _ H locs _ X => ?_)
    have X : Wd E _ _ (noW E  ) _ _ := X
    refine lv_pop hx hb dJ0_checkIndex_df160_8 rfl ?_
    exact fin () 9 _ _ _ trivial X dJ0_checkIndex_df160_9
set_option maxRecDepth 100000 in
set_option maxHeartbeats 4000000 in
theorem c_J1_charAt_3b067 (l : Launch) (E : EE) (i : Nat) (j : Nat) (hi : i < 11) (hj : j < kLen.getD i 0) : Kd l yJ1_charAt_3b067 cJ1_charAt_3b067 2 (some .char) 3 73 E (noW E  ) [.ref (eV E i), .int (nI j)] (some (.int ((kByt.getD i []).getD j 0))) (noW E  ) := by
  refine Kn.ofWi (by decide +kernel) (Nat.le_of_ble_eq_true rfl) (fun _ _ => chr_nar i hi j hj) ?_
  intro pg ev s0 mm below meth cd Q K X fin ls hl
  have hx := K.1
  have hb := K.2.1
  have hk7 := kLen_le i hi
  have hl : lv_has ls 2 [(0, .ref (eV E i)), (1, .int (nI j))] := hl
  refine lv_iload_n hx hb dJ1_charAt_3b067_0 rfl (lv_at hl 1 rfl) ?_
  refine lv_aload_n hx hb dJ1_charAt_3b067_1 rfl (lv_at hl 0 rfl) ?_
  refine k_strL K X (i := i) hi dJ1_charAt_3b067_2 ?_
  refine k_callS K X gs_J1_9 (As := [.int (nI j), .int (nI (kLen.getD i 0))]) (c_J0_checkIndex_df160 l E j (kLen.getD i 0) (by omega) (by omega)) [] rfl (by decide +kernel) (fun _ => rfl) (by decide) rfl hl.1 (rest := []) rfl (Nat.le_of_ble_eq_true rfl) dJ1_charAt_3b067_3 (st1 := fun _ => []) (fun _ => rfl) (fun _ H locs _ X => ?_)
  have X : Wd E _ _ (noW E  ) _ _ := X
  refine lv_aload_n hx hb dJ1_charAt_3b067_6 rfl (lv_at hl 0 rfl) ?_
  refine lv_iload_n hx hb dJ1_charAt_3b067_7 rfl (lv_at hl 1 rfl) ?_
  refine k_strB K X (i := i) (j := j) hi (by omega) dJ1_charAt_3b067_8 ?_
  refine lv_sipush (v := 255) hx hb dJ1_charAt_3b067_9 (by decide) ?_
  refine lv_iand hx hb dJ1_charAt_3b067_12 ?_
  refine lv_i2c (v := ((((kByt.getD i []).getD j 0) &&& 255).toUInt32 % 65536).toInt32) hx hb dJ1_charAt_3b067_13 rfl ?_
  exact k_topi (x' := (kByt.getD i []).getD j 0) (byt_chr i hi j hj) (fin () 14 _ _ _ trivial X dJ1_charAt_3b067_14)
set_option maxRecDepth 100000 in
set_option maxHeartbeats 4000000 in
theorem c_J0_charAt_5068e (l : Launch) (E : EE) (i : Nat) (j : Nat) (hi : i < 11) (hj : j < kLen.getD i 0) : Kd l yJ0_charAt_5068e cJ0_charAt_5068e 2 (some .char) 5 115 E (noW E  ) [.ref (eK E i), .int (nI j)] (some (.int ((kByt.getD i []).getD j 0))) (noW E  ) := by
  refine Kn.ofWi (by decide +kernel) (Nat.le_of_ble_eq_true rfl) (fun _ _ => chr_nar i hi j hj) ?_
  intro pg ev s0 mm below meth cd Q K X fin ls hl
  have hx := K.1
  have hb := K.2.1
  have hl : lv_has ls 2 [(0, .ref (eK E i)), (1, .int (nI j))] := hl
  refine lv_aload_n hx hb dJ0_charAt_5068e_0 rfl (lv_at hl 0 rfl) ?_
  refine k_callZ K X gv_J0_492 (As := []) (c_J0_isLatin1_aae02 l E i (by omega)) [] rfl (by decide +kernel) (fun _ => rfl) hi (by decide) rfl hl.1 (rest := []) rfl (Nat.le_of_ble_eq_true rfl) dJ0_charAt_5068e_1 (st1 := fun _ => [.int 1]) (fun _ => rfl) (fun _ H locs _ X => ?_)
  have X : Wd E _ _ (noW E  ) _ _ := X
  refine k_if1eq hx hb dJ0_charAt_5068e_4 ⟨16, by decide⟩ ?_
  refine lv_aload_n hx hb dJ0_charAt_5068e_7 rfl (lv_at hl 0 rfl) ?_
  refine k_strV K X (i := i) hi dJ0_charAt_5068e_8 ?_
  refine lv_iload_n hx hb dJ0_charAt_5068e_11 rfl (lv_at hl 1 rfl) ?_
  refine k_callS K X gs_J0_495 (As := [.ref (eV E i), .int (nI j)]) (c_J1_charAt_3b067 l E i j (by omega) (by omega)) [] rfl (by decide +kernel) (fun _ => rfl) (by decide) rfl hl.1 (rest := []) rfl (Nat.le_of_ble_eq_true rfl) dJ0_charAt_5068e_12 (st1 := fun _ => [.int ((kByt.getD i []).getD j 0)]) (fun _ => rfl) (fun _ H locs _ X => ?_)
  have X : Wd E _ _ (noW E  ) _ _ := X
  exact fin () 15 _ _ _ trivial X dJ0_charAt_5068e_15
