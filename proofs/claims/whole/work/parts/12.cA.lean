def bestO (one wo x y : Int32) : Int32 × Int32 := if one = -1 ∨ wo < y then (x, y) else (one, wo)
set_option maxRecDepth 100000 in
set_option maxHeartbeats 4000000 in
theorem c_X11_within (l : Launch) (E : EE) (x : Int32) (y : Int32) (z : Int32) : Kd l yX11_within cX11_within 3 (some .boolean) 0 0 E (noW E  ) [.int x, .int y, .int z] (some (.int (b2i (inR x y z)))) (noW E  ) := by
  refine Kn.ofWi (by decide +kernel) (Nat.le_of_ble_eq_true rfl) (fun _ _ => b2i_nar _) ?_
  intro pg ev s0 mm below meth cd Q K X fin ls hl
  have hx := K.1
  have hb := K.2.1
  have hl : lv_has ls 3 [(0, .int x), (1, .int y), (2, .int z)] := hl
  refine lv_iload_n hx hb dX11_within_0 rfl (lv_at hl 0 rfl) ?_
  refine lv_iload_n hx hb dX11_within_1 rfl (lv_at hl 1 rfl) ?_
  refine k_icmp_lt (x := x) (y := y) hx hb 14 dX11_within_2 (by decide) (fun c2 => ?_) (fun c2 => ?_)
  · refine lv_iconst (v := 0) hx hb dX11_within_14 (by decide) ?_
    exact k_topi (x' := b2i (inR x y z)) (by first | ((try simp only [inR] at c2 ⊢) <;> simp [b2i, c2]; done) | (simp_all [inR, b2i]; done)) (fin () 15 _ _ _ trivial X dX11_within_15)
  · refine lv_iload_n hx hb dX11_within_5 rfl (lv_at hl 0 rfl) ?_
    refine lv_iload_n hx hb dX11_within_6 rfl (lv_at hl 2 rfl) ?_
    refine k_icmp_gt (x := x) (y := z) hx hb 14 dX11_within_7 (by decide) (fun c7 => ?_) (fun c7 => ?_)
    · refine lv_iconst (v := 0) hx hb dX11_within_14 (by decide) ?_
      exact k_topi (x' := b2i (inR x y z)) (by first | ((try simp only [inR] at c2 c7 ⊢) <;> simp [b2i, c2, c7]; done) | (simp_all [inR, b2i]; done)) (fin () 15 _ _ _ trivial X dX11_within_15)
    · refine lv_iconst (v := 1) hx hb dX11_within_10 (by decide) ?_
      refine lv_goto (tgt := 15) hx hb dX11_within_11 (by decide) ?_
      exact k_topi (x' := b2i (inR x y z)) (by first | ((try simp only [inR] at c2 c7 ⊢) <;> simp [b2i, c2, c7]; done) | (simp_all [inR, b2i]; done)) (fin () 15 _ _ _ trivial X dX11_within_15)
set_option maxRecDepth 100000 in
set_option maxHeartbeats 4000000 in
theorem c_X6_wish (l : Launch) (E : EE) (p : Nat) (q : Nat) : Kd l yX6_wish cX6_wish 2 (some .int) 0 0 E (noW E  ) [.int (nI p), .int (nI q)] (some (.int (nI (10 * p + q)))) (noW E  ) := by
  refine Kn.ofWi (by decide +kernel) (Nat.le_of_ble_eq_true rfl) (fun _ _ => rfl) ?_
  intro pg ev s0 mm below meth cd Q K X fin ls hl
  have hx := K.1
  have hb := K.2.1
  have hl : lv_has ls 2 [(0, .int (nI p)), (1, .int (nI q))] := hl
  refine lv_iload_n hx hb dX6_wish_0 rfl (lv_at hl 0 rfl) ?_
  refine lv_bipush (v := 10) hx hb dX6_wish_1 (by decide) ?_
  refine lv_imul hx hb dX6_wish_3 ?_
  refine k_topi (pk_mul p 10) ?_
  refine lv_iload_n hx hb dX6_wish_4 rfl (lv_at hl 1 rfl) ?_
  refine lv_iadd hx hb dX6_wish_5 ?_
  refine k_topi (nI_add (p * 10) q) ?_
  exact k_topi (x' := nI (10 * p + q)) (by rw [Nat.mul_comm]) (fin () 6 _ _ _ trivial X dX6_wish_6)
set_option maxRecDepth 100000 in
set_option maxHeartbeats 4000000 in
theorem c_X11_noSheet (l : Launch) (E : EE) (x : Int32) : Kd l yX11_noSheet cX11_noSheet 1 (some .boolean) 1 22 E (noW E  ) [.int x] (some (.int (b2i (!inR x 0 3)))) (noW E  ) := by
  refine Kn.ofWi (by decide +kernel) (Nat.le_of_ble_eq_true rfl) (fun _ _ => b2i_nar _) ?_
  intro pg ev s0 mm below meth cd Q K X fin ls hl
  have hx := K.1
  have hb := K.2.1
  have hl : lv_has ls 1 [(0, .int x)] := hl
  refine lv_iload_n hx hb dX11_noSheet_0 rfl (lv_at hl 0 rfl) ?_
  refine lv_iconst (v := 0) hx hb dX11_noSheet_1 (by decide) ?_
  refine lv_iconst (v := 3) hx hb dX11_noSheet_2 (by decide) ?_
  refine k_callS K X gs_X11_80 (As := [.int x, .int 0, .int 3]) (c_X11_within l E x 0 3) [] rfl (by decide +kernel) (fun _ => rfl) (by decide) rfl hl.1 (rest := []) rfl (Nat.le_of_ble_eq_true rfl) dX11_noSheet_3 (st1 := fun _ => [.int (b2i (inR x 0 3))]) (fun _ => rfl) (fun _ H locs _ X => ?_)
  have X : Wd E _ _ (noW E  ) _ _ := X
  refine k_ifneB (B := (inR x 0 3)) hx hb 13 dX11_noSheet_6 (by decide) (fun c6 => ?_) (fun c6 => ?_)
  · refine lv_iconst (v := 0) hx hb dX11_noSheet_13 (by decide) ?_
    exact k_topi (x' := b2i (!inR x 0 3)) (by first | ((try simp only [b2i] at c6 ⊢) <;> simp [b2i, c6]; done) | (simp_all [b2i, b2i]; done)) (fin () 14 _ _ _ trivial X dX11_noSheet_14)
  · refine lv_iconst (v := 1) hx hb dX11_noSheet_9 (by decide) ?_
    refine lv_goto (tgt := 14) hx hb dX11_noSheet_10 (by decide) ?_
    exact k_topi (x' := b2i (!inR x 0 3)) (by first | ((try simp only [b2i] at c6 ⊢) <;> simp [b2i, c6]; done) | (simp_all [b2i, b2i]; done)) (fin () 14 _ _ _ trivial X dX11_noSheet_14)
set_option maxRecDepth 100000 in
set_option maxHeartbeats 4000000 in
theorem c_X9_isLetter (l : Launch) (E : EE) (x : Int32) : Kd l yX9_isLetter cX9_isLetter 1 (some .boolean) 1 22 E (noW E  ) [.int x] (some (.int (b2i (inR x 97 122)))) (noW E  ) := by
  refine Kn.ofWi (by decide +kernel) (Nat.le_of_ble_eq_true rfl) (fun _ _ => b2i_nar _) ?_
  intro pg ev s0 mm below meth cd Q K X fin ls hl
  have hx := K.1
  have hb := K.2.1
  have hl : lv_has ls 1 [(0, .int x)] := hl
  refine lv_iload_n hx hb dX9_isLetter_0 rfl (lv_at hl 0 rfl) ?_
  refine lv_bipush (v := 97) hx hb dX9_isLetter_1 (by decide) ?_
  refine lv_bipush (v := 122) hx hb dX9_isLetter_3 (by decide) ?_
  refine k_callSN K X gs_X9_53 (As := [.int x, .int 97, .int 122]) (c_X11_within l E x 97 122) [] rfl (by decide +kernel) (fun _ => rfl) (by decide) rfl hl.1 (rest := []) rfl (Nat.le_of_ble_eq_true rfl) dX9_isLetter_5 (st1 := fun _ => [.int (b2i (inR x 97 122))]) (fun _ => rfl) (fun _ H locs _ X => ?_)
  have X : Wd E _ _ (noW E  ) _ _ := X
  exact fin () 8 _ _ _ trivial X dX9_isLetter_8
set_option maxRecDepth 100000 in
set_option maxHeartbeats 4000000 in
theorem c_X9_isDigit (l : Launch) (E : EE) (x : Int32) : Kd l yX9_isDigit cX9_isDigit 1 (some .boolean) 1 22 E (noW E  ) [.int x] (some (.int (b2i (inR x 48 57)))) (noW E  ) := by
  refine Kn.ofWi (by decide +kernel) (Nat.le_of_ble_eq_true rfl) (fun _ _ => b2i_nar _) ?_
  intro pg ev s0 mm below meth cd Q K X fin ls hl
  have hx := K.1
  have hb := K.2.1
  have hl : lv_has ls 1 [(0, .int x)] := hl
  refine lv_iload_n hx hb dX9_isDigit_0 rfl (lv_at hl 0 rfl) ?_
  refine lv_bipush (v := 48) hx hb dX9_isDigit_1 (by decide) ?_
  refine lv_bipush (v := 57) hx hb dX9_isDigit_3 (by decide) ?_
  refine k_callSN K X gs_X9_53 (As := [.int x, .int 48, .int 57]) (c_X11_within l E x 48 57) [] rfl (by decide +kernel) (fun _ => rfl) (by decide) rfl hl.1 (rest := []) rfl (Nat.le_of_ble_eq_true rfl) dX9_isDigit_5 (st1 := fun _ => [.int (b2i (inR x 48 57))]) (fun _ => rfl) (fun _ H locs _ X => ?_)
  have X : Wd E _ _ (noW E  ) _ _ := X
  exact fin () 8 _ _ _ trivial X dX9_isDigit_8
set_option maxRecDepth 100000 in
set_option maxHeartbeats 4000000 in
theorem c_X0_forget (l : Launch) (E : EE) (q : Nat) (one : Int32) (wo : Int32) : Kd l yX0_forget cX0_forget 1 none 0 0 E (bestW E q one wo) [.ref q] none (bestW E q (-1) 0) := by
  refine Kn.ofWv (by decide +kernel) (Nat.le_of_ble_eq_true rfl) ?_
  intro pg ev s0 mm below meth cd Q K X fin ls hl
  have hx := K.1
  have hb := K.2.1
  have hl : lv_has ls 1 [(0, .ref q)] := hl
  refine lv_aload_n hx hb dX0_forget_0 rfl (lv_at hl 0 rfl) ?_
  refine lv_iconst (v := (-1)) hx hb dX0_forget_1 (by decide) ?_
  refine k_put K X 0 rfl fp_X0_9 (v := .int (-1)) rfl rfl (Nat.le_of_ble_eq_true rfl) dX0_forget_2 (fun H locs X => ?_)
  have X : Wd E _ _ (bestW E q (-1) wo) _ _ := X
  refine lv_aload_n hx hb dX0_forget_5 rfl (lv_at hl 0 rfl) ?_
  refine lv_iconst (v := 0) hx hb dX0_forget_6 (by decide) ?_
  refine k_put K X 0 rfl fp_X0_15 (v := .int 0) rfl rfl (Nat.le_of_ble_eq_true rfl) dX0_forget_7 (fun H locs X => ?_)
  have X : Wd E _ _ (bestW E q (-1) 0) _ _ := X
  exact fin () 10 _ _ _ trivial X dX0_forget_10
set_option maxRecDepth 100000 in
set_option maxHeartbeats 4000000 in
theorem c_X0_offer (l : Launch) (E : EE) (q : Nat) (one : Int32) (wo : Int32) (x : Int32) (y : Int32) : Kd l yX0_offer cX0_offer 3 none 0 0 E (bestW E q one wo) [.ref q, .int x, .int y] none (bestW E q ((bestO one wo x y).1) ((bestO one wo x y).2)) := by
  refine Kn.ofWv (by decide +kernel) (Nat.le_of_ble_eq_true rfl) ?_
  intro pg ev s0 mm below meth cd Q K X fin ls hl
  have hx := K.1
  have hb := K.2.1
  have hl : lv_has ls 3 [(0, .ref q), (1, .int x), (2, .int y)] := hl
  refine lv_aload_n hx hb dX0_offer_0 rfl (lv_at hl 0 rfl) ?_
  refine k_get K X 0 rfl fg_X0_9 (v := .int one) rfl dX0_offer_1 ?_
  refine lv_iconst (v := (-1)) hx hb dX0_offer_4 (by decide) ?_
  refine k_icmp_eq (x := one) (y := (-1)) hx hb 16 dX0_offer_5 (by decide) (fun c5 => ?_) (fun c5 => ?_)
  · refine lv_aload_n hx hb dX0_offer_16 rfl (lv_at hl 0 rfl) ?_
    refine lv_iload_n hx hb dX0_offer_17 rfl (lv_at hl 1 rfl) ?_
    refine k_put K X 0 rfl fp_X0_9 (v := .int x) rfl rfl (Nat.le_of_ble_eq_true rfl) dX0_offer_18 (fun H locs X => ?_)
    have X : Wd E _ _ (bestW E q x wo) _ _ := X
    refine lv_aload_n hx hb dX0_offer_21 rfl (lv_at hl 0 rfl) ?_
    refine lv_iload_n hx hb dX0_offer_22 rfl (lv_at hl 2 rfl) ?_
    refine k_put K X 0 rfl fp_X0_15 (v := .int y) rfl rfl (Nat.le_of_ble_eq_true rfl) dX0_offer_23 (fun H locs X => ?_)
    have X : Wd E _ _ (bestW E q x y) _ _ := X
    exact fin () 26 _ _ _ trivial (X.eq (by simp [bestO, *])) dX0_offer_26
  · refine lv_iload_n hx hb dX0_offer_8 rfl (lv_at hl 2 rfl) ?_
    refine lv_aload_n hx hb dX0_offer_9 rfl (lv_at hl 0 rfl) ?_
    refine k_get K X 0 rfl fg_X0_15 (v := .int wo) rfl dX0_offer_10 ?_
    refine k_icmp_le (x := y) (y := wo) hx hb 26 dX0_offer_13 (by decide) (fun c13 => ?_) (fun c13 => ?_)
    · exact fin () 26 _ _ _ trivial (X.eq (by simp [bestO, *])) dX0_offer_26
    · refine lv_aload_n hx hb dX0_offer_16 rfl (lv_at hl 0 rfl) ?_
      refine lv_iload_n hx hb dX0_offer_17 rfl (lv_at hl 1 rfl) ?_
      refine k_put K X 0 rfl fp_X0_9 (v := .int x) rfl rfl (Nat.le_of_ble_eq_true rfl) dX0_offer_18 (fun H locs X => ?_)
      have X : Wd E _ _ (bestW E q x wo) _ _ := X
      refine lv_aload_n hx hb dX0_offer_21 rfl (lv_at hl 0 rfl) ?_
      refine lv_iload_n hx hb dX0_offer_22 rfl (lv_at hl 2 rfl) ?_
      refine k_put K X 0 rfl fp_X0_15 (v := .int y) rfl rfl (Nat.le_of_ble_eq_true rfl) dX0_offer_23 (fun H locs X => ?_)
      have X : Wd E _ _ (bestW E q x y) _ _ := X
      exact fin () 26 _ _ _ trivial (X.eq (by simp [bestO, *])) dX0_offer_26
set_option maxRecDepth 100000 in
set_option maxHeartbeats 4000000 in
theorem c_X4_isKind (l : Launch) (E : EE) (q : Nat) (ci : Nat) (x : Int32) (hci13 : ci < 13) : Kd l yX4_isKind cX4_isKind 2 (some .boolean) 0 0 E (pW E q ci) [.ref q, .int x] (some (.int (b2i (isKS 0 x)))) (pW E q ci) := by
  refine Kn.ofWi (by decide +kernel) (Nat.le_of_ble_eq_true rfl) (fun _ _ => b2i_nar _) ?_
  intro pg ev s0 mm below meth cd Q K X fin ls hl
  have hx := K.1
  have hb := K.2.1
  obtain ⟨⟨Cn, Tn, Nn⟩, hci⟩ : ∃ z, vwCl[ci]? = some z := ⟨_, List.getElem?_eq_getElem hci13⟩
  have hl : lv_has ls 2 [(0, .ref q), (1, .int x)] := hl
  refine lv_iload_n hx hb dX4_isKind_0 rfl (lv_at hl 1 rfl) ?_
  refine k_if_ne (x := x) hx hb 8 dX4_isKind_1 (by decide) (fun c1 => ?_) (fun c1 => ?_)
  · refine lv_iconst (v := 0) hx hb dX4_isKind_8 (by decide) ?_
    exact k_topi (x' := b2i (isKS 0 x)) (by first | ((try simp only [isKS] at c1 ⊢) <;> simp [b2i, c1]; done) | (simp_all [isKS, b2i]; done)) (fin () 9 _ _ _ trivial X dX4_isKind_9)
  · refine lv_iconst (v := 1) hx hb dX4_isKind_4 (by decide) ?_
    refine lv_goto (tgt := 9) hx hb dX4_isKind_5 (by decide) ?_
    exact k_topi (x' := b2i (isKS 0 x)) (by first | ((try simp only [isKS] at c1 ⊢) <;> simp [b2i, c1]; done) | (simp_all [isKS, b2i]; done)) (fin () 9 _ _ _ trivial X dX4_isKind_9)
set_option maxRecDepth 100000 in
set_option maxHeartbeats 4000000 in
theorem c_X1_isKind (l : Launch) (E : EE) (q : Nat) (ci : Nat) (x : Int32) (hci13 : ci < 13) : Kd l yX1_isKind cX1_isKind 2 (some .boolean) 1 21 E (pW E q ci) [.ref q, .int x] (some (.int (b2i (isKS 3 x)))) (pW E q ci) := by
  refine Kn.ofWi (by decide +kernel) (Nat.le_of_ble_eq_true rfl) (fun _ _ => b2i_nar _) ?_
  intro pg ev s0 mm below meth cd Q K X fin ls hl
  have hx := K.1
  have hb := K.2.1
  obtain ⟨⟨Cn, Tn, Nn⟩, hci⟩ : ∃ z, vwCl[ci]? = some z := ⟨_, List.getElem?_eq_getElem hci13⟩
  have hl : lv_has ls 2 [(0, .ref q), (1, .int x)] := hl
  refine lv_iload_n hx hb dX1_isKind_0 rfl (lv_at hl 1 rfl) ?_
  refine lv_iconst (v := 3) hx hb dX1_isKind_1 (by decide) ?_
  refine k_icmp_eq (x := x) (y := 3) hx hb 13 dX1_isKind_2 (by decide) (fun c2 => ?_) (fun c2 => ?_)
  · refine lv_iconst (v := 1) hx hb dX1_isKind_13 (by decide) ?_
    refine lv_goto (tgt := 18) hx hb dX1_isKind_14 (by decide) ?_
    exact k_topi (x' := b2i (isKS 3 x)) (by first | ((try simp only [isKS] at c2 ⊢) <;> simp [b2i, c2]; done) | (simp_all [isKS, b2i]; done)) (fin () 18 _ _ _ trivial X dX1_isKind_18)
  · refine lv_aload_n hx hb dX1_isKind_5 rfl (lv_at hl 0 rfl) ?_
    refine lv_iload_n hx hb dX1_isKind_6 rfl (lv_at hl 1 rfl) ?_
    refine k_callU K X gu_X1_7 (As := [.int x]) (c_X4_isKind l E q ci x (by first | assumption | decide)) [0] pW_idC (by decide +kernel) (fun _ => pW_fst) 0 ci rfl hci (by decide) rfl hl.1 (rest := []) rfl (Nat.le_of_ble_eq_true rfl) dX1_isKind_7 (st1 := fun _ => [.int (b2i (isKS 0 x))]) (fun _ => rfl) (fun _ H locs _ X => ?_)
    have X : Wd E _ _ (pW E q ci) _ _ := X.eq pW_idP
    refine k_ifeqB (B := (isKS 0 x)) hx hb 17 dX1_isKind_10 (by decide) (fun c10 => ?_) (fun c10 => ?_)
    · refine lv_iconst (v := 0) hx hb dX1_isKind_17 (by decide) ?_
      exact k_topi (x' := b2i (isKS 3 x)) (by first | ((try simp only [isKS] at c2 c10 ⊢) <;> simp [b2i, c2, c10]; done) | (simp_all [isKS, b2i]; done)) (fin () 18 _ _ _ trivial X dX1_isKind_18)
    · refine lv_iconst (v := 1) hx hb dX1_isKind_13 (by decide) ?_
      refine lv_goto (tgt := 18) hx hb dX1_isKind_14 (by decide) ?_
      exact k_topi (x' := b2i (isKS 3 x)) (by first | ((try simp only [isKS] at c2 c10 ⊢) <;> simp [b2i, c2, c10]; done) | (simp_all [isKS, b2i]; done)) (fin () 18 _ _ _ trivial X dX1_isKind_18)
set_option maxRecDepth 100000 in
set_option maxHeartbeats 4000000 in
theorem c_X2_isKind (l : Launch) (E : EE) (q : Nat) (ci : Nat) (x : Int32) (hci13 : ci < 13) : Kd l yX2_isKind cX2_isKind 2 (some .boolean) 1 21 E (pW E q ci) [.ref q, .int x] (some (.int (b2i (isKS 1 x)))) (pW E q ci) := by
  refine Kn.ofWi (by decide +kernel) (Nat.le_of_ble_eq_true rfl) (fun _ _ => b2i_nar _) ?_
  intro pg ev s0 mm below meth cd Q K X fin ls hl
  have hx := K.1
  have hb := K.2.1
  obtain ⟨⟨Cn, Tn, Nn⟩, hci⟩ : ∃ z, vwCl[ci]? = some z := ⟨_, List.getElem?_eq_getElem hci13⟩
  have hl : lv_has ls 2 [(0, .ref q), (1, .int x)] := hl
  refine lv_iload_n hx hb dX2_isKind_0 rfl (lv_at hl 1 rfl) ?_
  refine lv_iconst (v := 1) hx hb dX2_isKind_1 (by decide) ?_
  refine k_icmp_eq (x := x) (y := 1) hx hb 13 dX2_isKind_2 (by decide) (fun c2 => ?_) (fun c2 => ?_)
  · refine lv_iconst (v := 1) hx hb dX2_isKind_13 (by decide) ?_
    refine lv_goto (tgt := 18) hx hb dX2_isKind_14 (by decide) ?_
    exact k_topi (x' := b2i (isKS 1 x)) (by first | ((try simp only [isKS] at c2 ⊢) <;> simp [b2i, c2]; done) | (simp_all [isKS, b2i]; done)) (fin () 18 _ _ _ trivial X dX2_isKind_18)
  · refine lv_aload_n hx hb dX2_isKind_5 rfl (lv_at hl 0 rfl) ?_
    refine lv_iload_n hx hb dX2_isKind_6 rfl (lv_at hl 1 rfl) ?_
    refine k_callU K X gu_X2_7 (As := [.int x]) (c_X4_isKind l E q ci x (by first | assumption | decide)) [0] pW_idC (by decide +kernel) (fun _ => pW_fst) 0 ci rfl hci (by decide) rfl hl.1 (rest := []) rfl (Nat.le_of_ble_eq_true rfl) dX2_isKind_7 (st1 := fun _ => [.int (b2i (isKS 0 x))]) (fun _ => rfl) (fun _ H locs _ X => ?_)
    have X : Wd E _ _ (pW E q ci) _ _ := X.eq pW_idP
    refine k_ifeqB (B := (isKS 0 x)) hx hb 17 dX2_isKind_10 (by decide) (fun c10 => ?_) (fun c10 => ?_)
    · refine lv_iconst (v := 0) hx hb dX2_isKind_17 (by decide) ?_
      exact k_topi (x' := b2i (isKS 1 x)) (by first | ((try simp only [isKS] at c2 c10 ⊢) <;> simp [b2i, c2, c10]; done) | (simp_all [isKS, b2i]; done)) (fin () 18 _ _ _ trivial X dX2_isKind_18)
    · refine lv_iconst (v := 1) hx hb dX2_isKind_13 (by decide) ?_
      refine lv_goto (tgt := 18) hx hb dX2_isKind_14 (by decide) ?_
      exact k_topi (x' := b2i (isKS 1 x)) (by first | ((try simp only [isKS] at c2 c10 ⊢) <;> simp [b2i, c2, c10]; done) | (simp_all [isKS, b2i]; done)) (fin () 18 _ _ _ trivial X dX2_isKind_18)
set_option maxRecDepth 100000 in
set_option maxHeartbeats 4000000 in
theorem c_X8_isKind (l : Launch) (E : EE) (q : Nat) (ci : Nat) (x : Int32) (hci13 : ci < 13) : Kd l yX8_isKind cX8_isKind 2 (some .boolean) 1 21 E (pW E q ci) [.ref q, .int x] (some (.int (b2i (isKS 2 x)))) (pW E q ci) := by
  refine Kn.ofWi (by decide +kernel) (Nat.le_of_ble_eq_true rfl) (fun _ _ => b2i_nar _) ?_
  intro pg ev s0 mm below meth cd Q K X fin ls hl
  have hx := K.1
  have hb := K.2.1
  obtain ⟨⟨Cn, Tn, Nn⟩, hci⟩ : ∃ z, vwCl[ci]? = some z := ⟨_, List.getElem?_eq_getElem hci13⟩
  have hl : lv_has ls 2 [(0, .ref q), (1, .int x)] := hl
  refine lv_iload_n hx hb dX8_isKind_0 rfl (lv_at hl 1 rfl) ?_
  refine lv_iconst (v := 2) hx hb dX8_isKind_1 (by decide) ?_
  refine k_icmp_eq (x := x) (y := 2) hx hb 13 dX8_isKind_2 (by decide) (fun c2 => ?_) (fun c2 => ?_)
  · refine lv_iconst (v := 1) hx hb dX8_isKind_13 (by decide) ?_
    refine lv_goto (tgt := 18) hx hb dX8_isKind_14 (by decide) ?_
    exact k_topi (x' := b2i (isKS 2 x)) (by first | ((try simp only [isKS] at c2 ⊢) <;> simp [b2i, c2]; done) | (simp_all [isKS, b2i]; done)) (fin () 18 _ _ _ trivial X dX8_isKind_18)
  · refine lv_aload_n hx hb dX8_isKind_5 rfl (lv_at hl 0 rfl) ?_
    refine lv_iload_n hx hb dX8_isKind_6 rfl (lv_at hl 1 rfl) ?_
    refine k_callU K X gu_X8_7 (As := [.int x]) (c_X4_isKind l E q ci x (by first | assumption | decide)) [0] pW_idC (by decide +kernel) (fun _ => pW_fst) 0 ci rfl hci (by decide) rfl hl.1 (rest := []) rfl (Nat.le_of_ble_eq_true rfl) dX8_isKind_7 (st1 := fun _ => [.int (b2i (isKS 0 x))]) (fun _ => rfl) (fun _ H locs _ X => ?_)
    have X : Wd E _ _ (pW E q ci) _ _ := X.eq pW_idP
    refine k_ifeqB (B := (isKS 0 x)) hx hb 17 dX8_isKind_10 (by decide) (fun c10 => ?_) (fun c10 => ?_)
    · refine lv_iconst (v := 0) hx hb dX8_isKind_17 (by decide) ?_
      exact k_topi (x' := b2i (isKS 2 x)) (by first | ((try simp only [isKS] at c2 c10 ⊢) <;> simp [b2i, c2, c10]; done) | (simp_all [isKS, b2i]; done)) (fin () 18 _ _ _ trivial X dX8_isKind_18)
    · refine lv_iconst (v := 1) hx hb dX8_isKind_13 (by decide) ?_
      refine lv_goto (tgt := 18) hx hb dX8_isKind_14 (by decide) ?_
      exact k_topi (x' := b2i (isKS 2 x)) (by first | ((try simp only [isKS] at c2 c10 ⊢) <;> simp [b2i, c2, c10]; done) | (simp_all [isKS, b2i]; done)) (fin () 18 _ _ _ trivial X dX8_isKind_18)
set_option maxRecDepth 100000 in
set_option maxHeartbeats 4000000 in
theorem c_X3_isKind (l : Launch) (E : EE) (q : Nat) (ci : Nat) (x : Int32) (hci13 : ci < 13) : Kd l yX3_isKind cX3_isKind 2 (some .boolean) 2 42 E (pW E q ci) [.ref q, .int x] (some (.int (b2i (isKS 4 x)))) (pW E q ci) := by
  refine Kn.ofWi (by decide +kernel) (Nat.le_of_ble_eq_true rfl) (fun _ _ => b2i_nar _) ?_
  intro pg ev s0 mm below meth cd Q K X fin ls hl
  have hx := K.1
  have hb := K.2.1
  obtain ⟨⟨Cn, Tn, Nn⟩, hci⟩ : ∃ z, vwCl[ci]? = some z := ⟨_, List.getElem?_eq_getElem hci13⟩
  have hl : lv_has ls 2 [(0, .ref q), (1, .int x)] := hl
  refine lv_iload_n hx hb dX3_isKind_0 rfl (lv_at hl 1 rfl) ?_
  refine lv_iconst (v := 4) hx hb dX3_isKind_1 (by decide) ?_
  refine k_icmp_eq (x := x) (y := 4) hx hb 13 dX3_isKind_2 (by decide) (fun c2 => ?_) (fun c2 => ?_)
  · refine lv_iconst (v := 1) hx hb dX3_isKind_13 (by decide) ?_
    refine lv_goto (tgt := 18) hx hb dX3_isKind_14 (by decide) ?_
    exact k_topi (x' := b2i (isKS 4 x)) (by first | ((try simp only [isKS] at c2 ⊢) <;> simp [b2i, c2]; done) | (simp_all [isKS, b2i]; done)) (fin () 18 _ _ _ trivial X dX3_isKind_18)
  · refine lv_aload_n hx hb dX3_isKind_5 rfl (lv_at hl 0 rfl) ?_
    refine lv_iload_n hx hb dX3_isKind_6 rfl (lv_at hl 1 rfl) ?_
    refine k_callU K X gu_X3_7 (As := [.int x]) (c_X2_isKind l E q ci x (by first | assumption | decide)) [0] pW_idC (by decide +kernel) (fun _ => pW_fst) 0 ci rfl hci (by decide) rfl hl.1 (rest := []) rfl (Nat.le_of_ble_eq_true rfl) dX3_isKind_7 (st1 := fun _ => [.int (b2i (isKS 1 x))]) (fun _ => rfl) (fun _ H locs _ X => ?_)
    have X : Wd E _ _ (pW E q ci) _ _ := X.eq pW_idP
    refine k_ifeqB (B := (isKS 1 x)) hx hb 17 dX3_isKind_10 (by decide) (fun c10 => ?_) (fun c10 => ?_)
    · refine lv_iconst (v := 0) hx hb dX3_isKind_17 (by decide) ?_
      exact k_topi (x' := b2i (isKS 4 x)) (by first | ((try simp only [isKS] at c2 c10 ⊢) <;> simp [b2i, c2, c10]; done) | (simp_all [isKS, b2i]; done)) (fin () 18 _ _ _ trivial X dX3_isKind_18)
    · refine lv_iconst (v := 1) hx hb dX3_isKind_13 (by decide) ?_
      refine lv_goto (tgt := 18) hx hb dX3_isKind_14 (by decide) ?_
      exact k_topi (x' := b2i (isKS 4 x)) (by first | ((try simp only [isKS] at c2 c10 ⊢) <;> simp [b2i, c2, c10]; done) | (simp_all [isKS, b2i]; done)) (fin () 18 _ _ _ trivial X dX3_isKind_18)
set_option maxRecDepth 100000 in
set_option maxHeartbeats 4000000 in
theorem c_X5_isKind (l : Launch) (E : EE) (q : Nat) (ci : Nat) (x : Int32) (hci13 : ci < 13) : Kd l yX5_isKind cX5_isKind 2 (some .boolean) 2 42 E (pW E q ci) [.ref q, .int x] (some (.int (b2i (isKS 5 x)))) (pW E q ci) := by
  refine Kn.ofWi (by decide +kernel) (Nat.le_of_ble_eq_true rfl) (fun _ _ => b2i_nar _) ?_
  intro pg ev s0 mm below meth cd Q K X fin ls hl
  have hx := K.1
  have hb := K.2.1
  obtain ⟨⟨Cn, Tn, Nn⟩, hci⟩ : ∃ z, vwCl[ci]? = some z := ⟨_, List.getElem?_eq_getElem hci13⟩
  have hl : lv_has ls 2 [(0, .ref q), (1, .int x)] := hl
  refine lv_iload_n hx hb dX5_isKind_0 rfl (lv_at hl 1 rfl) ?_
  refine lv_iconst (v := 5) hx hb dX5_isKind_1 (by decide) ?_
  refine k_icmp_eq (x := x) (y := 5) hx hb 13 dX5_isKind_2 (by decide) (fun c2 => ?_) (fun c2 => ?_)
  · refine lv_iconst (v := 1) hx hb dX5_isKind_13 (by decide) ?_
    refine lv_goto (tgt := 18) hx hb dX5_isKind_14 (by decide) ?_
    exact k_topi (x' := b2i (isKS 5 x)) (by first | ((try simp only [isKS] at c2 ⊢) <;> simp [b2i, c2]; done) | (simp_all [isKS, b2i]; done)) (fin () 18 _ _ _ trivial X dX5_isKind_18)
  · refine lv_aload_n hx hb dX5_isKind_5 rfl (lv_at hl 0 rfl) ?_
    refine lv_iload_n hx hb dX5_isKind_6 rfl (lv_at hl 1 rfl) ?_
    refine k_callU K X gu_X5_7 (As := [.int x]) (c_X8_isKind l E q ci x (by first | assumption | decide)) [0] pW_idC (by decide +kernel) (fun _ => pW_fst) 0 ci rfl hci (by decide) rfl hl.1 (rest := []) rfl (Nat.le_of_ble_eq_true rfl) dX5_isKind_7 (st1 := fun _ => [.int (b2i (isKS 2 x))]) (fun _ => rfl) (fun _ H locs _ X => ?_)
    have X : Wd E _ _ (pW E q ci) _ _ := X.eq pW_idP
    refine k_ifeqB (B := (isKS 2 x)) hx hb 17 dX5_isKind_10 (by decide) (fun c10 => ?_) (fun c10 => ?_)
    · refine lv_iconst (v := 0) hx hb dX5_isKind_17 (by decide) ?_
      exact k_topi (x' := b2i (isKS 5 x)) (by first | ((try simp only [isKS] at c2 c10 ⊢) <;> simp [b2i, c2, c10]; done) | (simp_all [isKS, b2i]; done)) (fin () 18 _ _ _ trivial X dX5_isKind_18)
    · refine lv_iconst (v := 1) hx hb dX5_isKind_13 (by decide) ?_
      refine lv_goto (tgt := 18) hx hb dX5_isKind_14 (by decide) ?_
      exact k_topi (x' := b2i (isKS 5 x)) (by first | ((try simp only [isKS] at c2 c10 ⊢) <;> simp [b2i, c2, c10]; done) | (simp_all [isKS, b2i]; done)) (fin () 18 _ _ _ trivial X dX5_isKind_18)
set_option maxRecDepth 100000 in
set_option maxHeartbeats 4000000 in
theorem c_X4_mayTouch (l : Launch) (E : EE) (q : Nat) (ci : Nat) (x : Int32) (y : Int32) (z : Int32) (hci13 : ci < 13) : Kd l yX4_mayTouch cX4_mayTouch 4 (some .boolean) 0 0 E (pW E q ci) [.ref q, .int x, .int y, .int z] (some (.int (b2i (mayS 0 x y z)))) (pW E q ci) := by
  refine Kn.ofWi (by decide +kernel) (Nat.le_of_ble_eq_true rfl) (fun _ _ => b2i_nar _) ?_
  intro pg ev s0 mm below meth cd Q K X fin ls hl
  have hx := K.1
  have hb := K.2.1
  obtain ⟨⟨Cn, Tn, Nn⟩, hci⟩ : ∃ z, vwCl[ci]? = some z := ⟨_, List.getElem?_eq_getElem hci13⟩
  have hl : lv_has ls 4 [(0, .ref q), (1, .int x), (2, .int y), (3, .int z)] := hl
  refine lv_iload_n hx hb dX4_mayTouch_0 rfl (lv_at hl 1 rfl) ?_
  refine lv_iload_n hx hb dX4_mayTouch_1 rfl (lv_at hl 2 rfl) ?_
  refine k_icmp_ge (x := x) (y := y) hx hb 9 dX4_mayTouch_2 (by decide) (fun c2 => ?_) (fun c2 => ?_)
  · refine lv_iconst (v := 0) hx hb dX4_mayTouch_9 (by decide) ?_
    exact k_topi (x' := b2i (mayS 0 x y z)) (by first | ((try simp only [mayS] at c2 ⊢) <;> simp [b2i, c2]; done) | (simp_all [mayS, b2i]; done)) (fin () 10 _ _ _ trivial X dX4_mayTouch_10)
  · refine lv_iconst (v := 1) hx hb dX4_mayTouch_5 (by decide) ?_
    refine lv_goto (tgt := 10) hx hb dX4_mayTouch_6 (by decide) ?_
    exact k_topi (x' := b2i (mayS 0 x y z)) (by first | ((try simp only [mayS] at c2 ⊢) <;> simp [b2i, c2]; done) | (simp_all [mayS, b2i]; done)) (fin () 10 _ _ _ trivial X dX4_mayTouch_10)
set_option maxRecDepth 100000 in
set_option maxHeartbeats 4000000 in
theorem c_X2_mayTouch (l : Launch) (E : EE) (q : Nat) (ci : Nat) (x : Int32) (y : Int32) (z : Int32) (hci13 : ci < 13) : Kd l yX2_mayTouch cX2_mayTouch 4 (some .boolean) 1 23 E (pW E q ci) [.ref q, .int x, .int y, .int z] (some (.int (b2i (mayS 1 x y z)))) (pW E q ci) := by
  refine Kn.ofWi (by decide +kernel) (Nat.le_of_ble_eq_true rfl) (fun _ _ => b2i_nar _) ?_
  intro pg ev s0 mm below meth cd Q K X fin ls hl
  have hx := K.1
  have hb := K.2.1
  obtain ⟨⟨Cn, Tn, Nn⟩, hci⟩ : ∃ z, vwCl[ci]? = some z := ⟨_, List.getElem?_eq_getElem hci13⟩
  have hl : lv_has ls 4 [(0, .ref q), (1, .int x), (2, .int y), (3, .int z)] := hl
  refine lv_aload_n hx hb dX2_mayTouch_0 rfl (lv_at hl 0 rfl) ?_
  refine lv_iload_n hx hb dX2_mayTouch_1 rfl (lv_at hl 1 rfl) ?_
  refine lv_iload_n hx hb dX2_mayTouch_2 rfl (lv_at hl 2 rfl) ?_
  refine lv_iload_n hx hb dX2_mayTouch_3 rfl (lv_at hl 3 rfl) ?_
  refine k_callU K X gu_X2_11 (As := [.int x, .int y, .int z]) (c_X4_mayTouch l E q ci x y z (by first | assumption | decide)) [0] pW_idC (by decide +kernel) (fun _ => pW_fst) 0 ci rfl hci (by decide) rfl hl.1 (rest := []) rfl (Nat.le_of_ble_eq_true rfl) dX2_mayTouch_4 (st1 := fun _ => [.int (b2i (mayS 0 x y z))]) (fun _ => rfl) (fun _ H locs _ X => ?_)
  have X : Wd E _ _ (pW E q ci) _ _ := X.eq pW_idP
  refine k_ifneB (B := (mayS 0 x y z)) hx hb 15 dX2_mayTouch_7 (by decide) (fun c7 => ?_) (fun c7 => ?_)
  · refine lv_iconst (v := 1) hx hb dX2_mayTouch_15 (by decide) ?_
    refine lv_goto (tgt := 20) hx hb dX2_mayTouch_16 (by decide) ?_
    exact k_topi (x' := b2i (mayS 1 x y z)) (by first | ((try simp only [mayS] at c7 ⊢) <;> simp [b2i, c7]; done) | (simp_all [mayS, b2i]; done)) (fin () 20 _ _ _ trivial X dX2_mayTouch_20)
  · refine lv_iload_n hx hb dX2_mayTouch_10 rfl (lv_at hl 1 rfl) ?_
    refine lv_iconst (v := 2) hx hb dX2_mayTouch_11 (by decide) ?_
    refine k_icmp_ge (x := x) (y := 2) hx hb 19 dX2_mayTouch_12 (by decide) (fun c12 => ?_) (fun c12 => ?_)
    · refine lv_iconst (v := 0) hx hb dX2_mayTouch_19 (by decide) ?_
      exact k_topi (x' := b2i (mayS 1 x y z)) (by first | ((try simp only [mayS] at c7 c12 ⊢) <;> simp [b2i, c7, c12]; done) | (simp_all [mayS, b2i]; done)) (fin () 20 _ _ _ trivial X dX2_mayTouch_20)
    · refine lv_iconst (v := 1) hx hb dX2_mayTouch_15 (by decide) ?_
      refine lv_goto (tgt := 20) hx hb dX2_mayTouch_16 (by decide) ?_
      exact k_topi (x' := b2i (mayS 1 x y z)) (by first | ((try simp only [mayS] at c7 c12 ⊢) <;> simp [b2i, c7, c12]; done) | (simp_all [mayS, b2i]; done)) (fin () 20 _ _ _ trivial X dX2_mayTouch_20)
set_option maxRecDepth 100000 in
set_option maxHeartbeats 4000000 in
theorem c_X8_mayTouch (l : Launch) (E : EE) (q : Nat) (ci : Nat) (x : Int32) (y : Int32) (z : Int32) (hci13 : ci < 13) : Kd l yX8_mayTouch cX8_mayTouch 4 (some .boolean) 1 23 E (pW E q ci) [.ref q, .int x, .int y, .int z] (some (.int (b2i (mayS 2 x y z)))) (pW E q ci) := by
  refine Kn.ofWi (by decide +kernel) (Nat.le_of_ble_eq_true rfl) (fun _ _ => b2i_nar _) ?_
  intro pg ev s0 mm below meth cd Q K X fin ls hl
  have hx := K.1
  have hb := K.2.1
  obtain ⟨⟨Cn, Tn, Nn⟩, hci⟩ : ∃ z, vwCl[ci]? = some z := ⟨_, List.getElem?_eq_getElem hci13⟩
  have hl : lv_has ls 4 [(0, .ref q), (1, .int x), (2, .int y), (3, .int z)] := hl
  refine lv_aload_n hx hb dX8_mayTouch_0 rfl (lv_at hl 0 rfl) ?_
  refine lv_iload_n hx hb dX8_mayTouch_1 rfl (lv_at hl 1 rfl) ?_
  refine lv_iload_n hx hb dX8_mayTouch_2 rfl (lv_at hl 2 rfl) ?_
  refine lv_iload_n hx hb dX8_mayTouch_3 rfl (lv_at hl 3 rfl) ?_
  refine k_callU K X gu_X8_11 (As := [.int x, .int y, .int z]) (c_X4_mayTouch l E q ci x y z (by first | assumption | decide)) [0] pW_idC (by decide +kernel) (fun _ => pW_fst) 0 ci rfl hci (by decide) rfl hl.1 (rest := []) rfl (Nat.le_of_ble_eq_true rfl) dX8_mayTouch_4 (st1 := fun _ => [.int (b2i (mayS 0 x y z))]) (fun _ => rfl) (fun _ H locs _ X => ?_)
  have X : Wd E _ _ (pW E q ci) _ _ := X.eq pW_idP
  refine k_ifeqB (B := (mayS 0 x y z)) hx hb 18 dX8_mayTouch_7 (by decide) (fun c7 => ?_) (fun c7 => ?_)
  · refine lv_iconst (v := 0) hx hb dX8_mayTouch_18 (by decide) ?_
    exact k_topi (x' := b2i (mayS 2 x y z)) (by first | ((try simp only [mayS] at c7 ⊢) <;> simp [b2i, c7]; done) | (simp_all [mayS, b2i]; done)) (fin () 19 _ _ _ trivial X dX8_mayTouch_19)
  · refine lv_iload_n hx hb dX8_mayTouch_10 rfl (lv_at hl 1 rfl) ?_
    refine k_if_ne (x := x) hx hb 18 dX8_mayTouch_11 (by decide) (fun c11 => ?_) (fun c11 => ?_)
    · refine lv_iconst (v := 0) hx hb dX8_mayTouch_18 (by decide) ?_
      exact k_topi (x' := b2i (mayS 2 x y z)) (by first | ((try simp only [mayS] at c7 c11 ⊢) <;> simp [b2i, c7, c11]; done) | (simp_all [mayS, b2i]; done)) (fin () 19 _ _ _ trivial X dX8_mayTouch_19)
    · refine lv_iconst (v := 1) hx hb dX8_mayTouch_14 (by decide) ?_
      refine lv_goto (tgt := 19) hx hb dX8_mayTouch_15 (by decide) ?_
      exact k_topi (x' := b2i (mayS 2 x y z)) (by first | ((try simp only [mayS] at c7 c11 ⊢) <;> simp [b2i, c7, c11]; done) | (simp_all [mayS, b2i]; done)) (fin () 19 _ _ _ trivial X dX8_mayTouch_19)
set_option maxRecDepth 100000 in
set_option maxHeartbeats 4000000 in
theorem c_X1_mayTouch (l : Launch) (E : EE) (q : Nat) (ci : Nat) (x : Int32) (y : Int32) (z : Int32) (hci13 : ci < 13) : Kd l yX1_mayTouch cX1_mayTouch 4 (some .boolean) 0 0 E (pW E q ci) [.ref q, .int x, .int y, .int z] (some (.int (b2i (mayS 3 x y z)))) (pW E q ci) := by
  refine Kn.ofWi (by decide +kernel) (Nat.le_of_ble_eq_true rfl) (fun _ _ => b2i_nar _) ?_
  intro pg ev s0 mm below meth cd Q K X fin ls hl
  have hx := K.1
  have hb := K.2.1
  obtain ⟨⟨Cn, Tn, Nn⟩, hci⟩ : ∃ z, vwCl[ci]? = some z := ⟨_, List.getElem?_eq_getElem hci13⟩
  have hl : lv_has ls 4 [(0, .ref q), (1, .int x), (2, .int y), (3, .int z)] := hl
  refine lv_iconst (v := 1) hx hb dX1_mayTouch_0 (by decide) ?_
  exact k_topi (x' := b2i (mayS 3 x y z)) (by first | ((try simp only [mayS] at  ⊢) <;> simp [b2i]; done) | (simp_all [mayS, b2i]; done)) (fin () 1 _ _ _ trivial X dX1_mayTouch_1)
set_option maxRecDepth 100000 in
set_option maxHeartbeats 4000000 in
theorem c_X5_mayTouch (l : Launch) (E : EE) (q : Nat) (ci : Nat) (x : Int32) (y : Int32) (z : Int32) (hci13 : ci < 13) : Kd l yX5_mayTouch cX5_mayTouch 4 (some .boolean) 2 46 E (pW E q ci) [.ref q, .int x, .int y, .int z] (some (.int (b2i (mayS 5 x y z)))) (pW E q ci) := by
  refine Kn.ofWi (by decide +kernel) (Nat.le_of_ble_eq_true rfl) (fun _ _ => b2i_nar _) ?_
  intro pg ev s0 mm below meth cd Q K X fin ls hl
  have hx := K.1
  have hb := K.2.1
  obtain ⟨⟨Cn, Tn, Nn⟩, hci⟩ : ∃ z, vwCl[ci]? = some z := ⟨_, List.getElem?_eq_getElem hci13⟩
  have hl : lv_has ls 4 [(0, .ref q), (1, .int x), (2, .int y), (3, .int z)] := hl
  refine lv_aload_n hx hb dX5_mayTouch_0 rfl (lv_at hl 0 rfl) ?_
  refine lv_iload_n hx hb dX5_mayTouch_1 rfl (lv_at hl 1 rfl) ?_
  refine lv_iload_n hx hb dX5_mayTouch_2 rfl (lv_at hl 2 rfl) ?_
  refine lv_iload_n hx hb dX5_mayTouch_3 rfl (lv_at hl 3 rfl) ?_
  refine k_callU K X gu_X5_11 (As := [.int x, .int y, .int z]) (c_X8_mayTouch l E q ci x y z (by first | assumption | decide)) [0] pW_idC (by decide +kernel) (fun _ => pW_fst) 0 ci rfl hci (by decide) rfl hl.1 (rest := []) rfl (Nat.le_of_ble_eq_true rfl) dX5_mayTouch_4 (st1 := fun _ => [.int (b2i (mayS 2 x y z))]) (fun _ => rfl) (fun _ H locs _ X => ?_)
  have X : Wd E _ _ (pW E q ci) _ _ := X.eq pW_idP
  refine k_ifneB (B := (mayS 2 x y z)) hx hb 22 dX5_mayTouch_7 (by decide) (fun c7 => ?_) (fun c7 => ?_)
  · refine lv_iconst (v := 1) hx hb dX5_mayTouch_22 (by decide) ?_
    refine lv_goto (tgt := 27) hx hb dX5_mayTouch_23 (by decide) ?_
    exact k_topi (x' := b2i (mayS 5 x y z)) (by first | ((try simp only [mayS] at c7 ⊢) <;> simp [b2i, c7]; done) | (simp_all [mayS, b2i]; done)) (fin () 27 _ _ _ trivial X dX5_mayTouch_27)
  · refine lv_iload_n hx hb dX5_mayTouch_10 rfl (lv_at hl 3 rfl) ?_
    refine lv_iconst (v := 2) hx hb dX5_mayTouch_11 (by decide) ?_
    refine lv_irem hx hb dX5_mayTouch_12 (by decide) ?_
    refine lv_iconst (v := 1) hx hb dX5_mayTouch_13 (by decide) ?_
    refine k_icmp_ne (x := z - z / 2 * 2) (y := 1) hx hb 26 dX5_mayTouch_14 (by decide) (fun c14 => ?_) (fun c14 => ?_)
    · refine lv_iconst (v := 0) hx hb dX5_mayTouch_26 (by decide) ?_
      exact k_topi (x' := b2i (mayS 5 x y z)) (by first | ((try simp only [mayS] at c7 c14 ⊢) <;> simp [b2i, c7, c14]; done) | (simp_all [mayS, b2i]; done)) (fin () 27 _ _ _ trivial X dX5_mayTouch_27)
    · refine lv_iload_n hx hb dX5_mayTouch_17 rfl (lv_at hl 1 rfl) ?_
      refine lv_iload_n hx hb dX5_mayTouch_18 rfl (lv_at hl 2 rfl) ?_
      refine k_icmp_ge (x := x) (y := y) hx hb 26 dX5_mayTouch_19 (by decide) (fun c19 => ?_) (fun c19 => ?_)
      · refine lv_iconst (v := 0) hx hb dX5_mayTouch_26 (by decide) ?_
        exact k_topi (x' := b2i (mayS 5 x y z)) (by first | ((try simp only [mayS] at c7 c14 c19 ⊢) <;> simp [b2i, c7, c14, c19]; done) | (simp_all [mayS, b2i]; done)) (fin () 27 _ _ _ trivial X dX5_mayTouch_27)
      · refine lv_iconst (v := 1) hx hb dX5_mayTouch_22 (by decide) ?_
        refine lv_goto (tgt := 27) hx hb dX5_mayTouch_23 (by decide) ?_
        exact k_topi (x' := b2i (mayS 5 x y z)) (by first | ((try simp only [mayS] at c7 c14 c19 ⊢) <;> simp [b2i, c7, c14, c19]; done) | (simp_all [mayS, b2i]; done)) (fin () 27 _ _ _ trivial X dX5_mayTouch_27)
set_option maxRecDepth 100000 in
set_option maxHeartbeats 4000000 in
theorem c_X4_prefers (l : Launch) (E : EE) (q : Nat) (ci : Nat) (x : Int32) (y : Int32) (hci13 : ci < 13) : Kd l yX4_prefers cX4_prefers 3 (some .boolean) 0 0 E (pW E q ci) [.ref q, .int x, .int y] (some (.int (b2i (prefS 0 x y)))) (pW E q ci) := by
  refine Kn.ofWi (by decide +kernel) (Nat.le_of_ble_eq_true rfl) (fun _ _ => b2i_nar _) ?_
  intro pg ev s0 mm below meth cd Q K X fin ls hl
  have hx := K.1
  have hb := K.2.1
  obtain ⟨⟨Cn, Tn, Nn⟩, hci⟩ : ∃ z, vwCl[ci]? = some z := ⟨_, List.getElem?_eq_getElem hci13⟩
  have hl : lv_has ls 3 [(0, .ref q), (1, .int x), (2, .int y)] := hl
  refine lv_iconst (v := 0) hx hb dX4_prefers_0 (by decide) ?_
  exact k_topi (x' := b2i (prefS 0 x y)) (by first | ((try simp only [prefS] at  ⊢) <;> simp [b2i]; done) | (simp_all [prefS, b2i]; done)) (fin () 1 _ _ _ trivial X dX4_prefers_1)
set_option maxRecDepth 100000 in
set_option maxHeartbeats 4000000 in
theorem c_X2_prefers (l : Launch) (E : EE) (q : Nat) (ci : Nat) (x : Int32) (y : Int32) (hci13 : ci < 13) : Kd l yX2_prefers cX2_prefers 3 (some .boolean) 0 0 E (pW E q ci) [.ref q, .int x, .int y] (some (.int (b2i (prefS 1 x y)))) (pW E q ci) := by
  refine Kn.ofWi (by decide +kernel) (Nat.le_of_ble_eq_true rfl) (fun _ _ => b2i_nar _) ?_
  intro pg ev s0 mm below meth cd Q K X fin ls hl
  have hx := K.1
  have hb := K.2.1
  obtain ⟨⟨Cn, Tn, Nn⟩, hci⟩ : ∃ z, vwCl[ci]? = some z := ⟨_, List.getElem?_eq_getElem hci13⟩
  have hl : lv_has ls 3 [(0, .ref q), (1, .int x), (2, .int y)] := hl
  refine lv_iconst (v := 1) hx hb dX2_prefers_0 (by decide) ?_
  exact k_topi (x' := b2i (prefS 1 x y)) (by first | ((try simp only [prefS] at  ⊢) <;> simp [b2i]; done) | (simp_all [prefS, b2i]; done)) (fin () 1 _ _ _ trivial X dX2_prefers_1)
set_option maxRecDepth 100000 in
set_option maxHeartbeats 4000000 in
theorem c_X1_prefers (l : Launch) (E : EE) (q : Nat) (ci : Nat) (x : Int32) (y : Int32) (hci13 : ci < 13) : Kd l yX1_prefers cX1_prefers 3 (some .boolean) 0 0 E (pW E q ci) [.ref q, .int x, .int y] (some (.int (b2i (prefS 3 x y)))) (pW E q ci) := by
  refine Kn.ofWi (by decide +kernel) (Nat.le_of_ble_eq_true rfl) (fun _ _ => b2i_nar _) ?_
  intro pg ev s0 mm below meth cd Q K X fin ls hl
  have hx := K.1
  have hb := K.2.1
  obtain ⟨⟨Cn, Tn, Nn⟩, hci⟩ : ∃ z, vwCl[ci]? = some z := ⟨_, List.getElem?_eq_getElem hci13⟩
  have hl : lv_has ls 3 [(0, .ref q), (1, .int x), (2, .int y)] := hl
  refine lv_iload_n hx hb dX1_prefers_0 rfl (lv_at hl 1 rfl) ?_
  refine lv_iload_n hx hb dX1_prefers_1 rfl (lv_at hl 2 rfl) ?_
  refine k_icmp_le (x := x) (y := y) hx hb 9 dX1_prefers_2 (by decide) (fun c2 => ?_) (fun c2 => ?_)
  · refine lv_iconst (v := 0) hx hb dX1_prefers_9 (by decide) ?_
    exact k_topi (x' := b2i (prefS 3 x y)) (by first | ((try simp only [prefS] at c2 ⊢) <;> simp [b2i, c2]; done) | (simp_all [prefS, b2i]; done)) (fin () 10 _ _ _ trivial X dX1_prefers_10)
  · refine lv_iconst (v := 1) hx hb dX1_prefers_5 (by decide) ?_
    refine lv_goto (tgt := 10) hx hb dX1_prefers_6 (by decide) ?_
    exact k_topi (x' := b2i (prefS 3 x y)) (by first | ((try simp only [prefS] at c2 ⊢) <;> simp [b2i, c2]; done) | (simp_all [prefS, b2i]; done)) (fin () 10 _ _ _ trivial X dX1_prefers_10)
set_option maxRecDepth 100000 in
set_option maxHeartbeats 4000000 in
theorem c_X4_turns (l : Launch) (E : EE) (q : Nat) (ci : Nat) (hci13 : ci < 13) : Kd l yX4_turns cX4_turns 1 (some .int) 0 0 E (pW E q ci) [.ref q] (some (.int (nI 1))) (pW E q ci) := by
  refine Kn.ofWi (by decide +kernel) (Nat.le_of_ble_eq_true rfl) (fun _ _ => rfl) ?_
  intro pg ev s0 mm below meth cd Q K X fin ls hl
  have hx := K.1
  have hb := K.2.1
  obtain ⟨⟨Cn, Tn, Nn⟩, hci⟩ : ∃ z, vwCl[ci]? = some z := ⟨_, List.getElem?_eq_getElem hci13⟩
  have hl : lv_has ls 1 [(0, .ref q)] := hl
  refine lv_iconst (v := 1) hx hb dX4_turns_0 (by decide) ?_
  exact k_topi (x' := nI 1) (rfl) (fin () 1 _ _ _ trivial X dX4_turns_1)
set_option maxRecDepth 100000 in
set_option maxHeartbeats 4000000 in
theorem c_X2_turns (l : Launch) (E : EE) (q : Nat) (ci : Nat) (hci13 : ci < 13) : Kd l yX2_turns cX2_turns 1 (some .int) 1 20 E (pW E q ci) [.ref q] (some (.int (nI 2))) (pW E q ci) := by
  refine Kn.ofWi (by decide +kernel) (Nat.le_of_ble_eq_true rfl) (fun _ _ => rfl) ?_
  intro pg ev s0 mm below meth cd Q K X fin ls hl
  have hx := K.1
  have hb := K.2.1
  obtain ⟨⟨Cn, Tn, Nn⟩, hci⟩ : ∃ z, vwCl[ci]? = some z := ⟨_, List.getElem?_eq_getElem hci13⟩
  have hl : lv_has ls 1 [(0, .ref q)] := hl
  refine lv_aload_n hx hb dX2_turns_0 rfl (lv_at hl 0 rfl) ?_
  refine k_callU K X gu_X2_15 (As := []) (c_X4_turns l E q ci (by first | assumption | decide)) [0] pW_idC (by decide +kernel) (fun _ => pW_fst) 0 ci rfl hci (by decide) rfl hl.1 (rest := []) rfl (Nat.le_of_ble_eq_true rfl) dX2_turns_1 (st1 := fun _ => [.int (nI 1)]) (fun _ => rfl) (fun _ H locs _ X => ?_)
  have X : Wd E _ _ (pW E q ci) _ _ := X.eq pW_idP
  refine lv_iconst (v := 1) hx hb dX2_turns_4 (by decide) ?_
  refine lv_iadd hx hb dX2_turns_5 ?_
  refine k_topi (nI_add 1 1) ?_
  exact k_topi (x' := nI 2) (rfl) (fin () 6 _ _ _ trivial X dX2_turns_6)
set_option maxRecDepth 100000 in
set_option maxHeartbeats 4000000 in
theorem c_X3_turns (l : Launch) (E : EE) (q : Nat) (ci : Nat) (hci13 : ci < 13) : Kd l yX3_turns cX3_turns 1 (some .int) 2 40 E (pW E q ci) [.ref q] (some (.int (nI 3))) (pW E q ci) := by
  refine Kn.ofWi (by decide +kernel) (Nat.le_of_ble_eq_true rfl) (fun _ _ => rfl) ?_
  intro pg ev s0 mm below meth cd Q K X fin ls hl
  have hx := K.1
  have hb := K.2.1
  obtain ⟨⟨Cn, Tn, Nn⟩, hci⟩ : ∃ z, vwCl[ci]? = some z := ⟨_, List.getElem?_eq_getElem hci13⟩
  have hl : lv_has ls 1 [(0, .ref q)] := hl
  refine lv_aload_n hx hb dX3_turns_0 rfl (lv_at hl 0 rfl) ?_
  refine k_callU K X gu_X3_11 (As := []) (c_X2_turns l E q ci (by first | assumption | decide)) [0] pW_idC (by decide +kernel) (fun _ => pW_fst) 0 ci rfl hci (by decide) rfl hl.1 (rest := []) rfl (Nat.le_of_ble_eq_true rfl) dX3_turns_1 (st1 := fun _ => [.int (nI 2)]) (fun _ => rfl) (fun _ H locs _ X => ?_)
  have X : Wd E _ _ (pW E q ci) _ _ := X.eq pW_idP
  refine lv_iconst (v := 1) hx hb dX3_turns_4 (by decide) ?_
  refine lv_iadd hx hb dX3_turns_5 ?_
  refine k_topi (nI_add 2 1) ?_
  exact k_topi (x' := nI 3) (rfl) (fin () 6 _ _ _ trivial X dX3_turns_6)
set_option maxRecDepth 100000 in
set_option maxHeartbeats 4000000 in
theorem c_X4_fixes (l : Launch) (E : EE) (q : Nat) (ci : Nat) (x : Int32) (hci13 : ci < 13) : Kd l yX4_fixes cX4_fixes 2 (some .boolean) 0 0 E (pW E q ci) [.ref q, .int x] (some (.int (b2i (fixS 0 x)))) (pW E q ci) := by
  refine Kn.ofWi (by decide +kernel) (Nat.le_of_ble_eq_true rfl) (fun _ _ => b2i_nar _) ?_
  intro pg ev s0 mm below meth cd Q K X fin ls hl
  have hx := K.1
  have hb := K.2.1
  obtain ⟨⟨Cn, Tn, Nn⟩, hci⟩ : ∃ z, vwCl[ci]? = some z := ⟨_, List.getElem?_eq_getElem hci13⟩
  have hl : lv_has ls 2 [(0, .ref q), (1, .int x)] := hl
  refine lv_iconst (v := 0) hx hb dX4_fixes_0 (by decide) ?_
  exact k_topi (x' := b2i (fixS 0 x)) (by first | ((try simp only [fixS] at  ⊢) <;> simp [b2i]; done) | (simp_all [fixS, b2i]; done)) (fin () 1 _ _ _ trivial X dX4_fixes_1)
set_option maxRecDepth 100000 in
set_option maxHeartbeats 4000000 in
theorem c_X1_fixes (l : Launch) (E : EE) (q : Nat) (ci : Nat) (x : Int32) (hci13 : ci < 13) : Kd l yX1_fixes cX1_fixes 2 (some .boolean) 0 0 E (pW E q ci) [.ref q, .int x] (some (.int (b2i (fixS 3 x)))) (pW E q ci) := by
  refine Kn.ofWi (by decide +kernel) (Nat.le_of_ble_eq_true rfl) (fun _ _ => b2i_nar _) ?_
  intro pg ev s0 mm below meth cd Q K X fin ls hl
  have hx := K.1
  have hb := K.2.1
  obtain ⟨⟨Cn, Tn, Nn⟩, hci⟩ : ∃ z, vwCl[ci]? = some z := ⟨_, List.getElem?_eq_getElem hci13⟩
  have hl : lv_has ls 2 [(0, .ref q), (1, .int x)] := hl
  refine lv_iconst (v := 1) hx hb dX1_fixes_0 (by decide) ?_
  exact k_topi (x' := b2i (fixS 3 x)) (by first | ((try simp only [fixS] at  ⊢) <;> simp [b2i]; done) | (simp_all [fixS, b2i]; done)) (fin () 1 _ _ _ trivial X dX1_fixes_1)
set_option maxRecDepth 100000 in
set_option maxHeartbeats 4000000 in
theorem c_X3_fixes (l : Launch) (E : EE) (q : Nat) (ci : Nat) (x : Int32) (hci13 : ci < 13) : Kd l yX3_fixes cX3_fixes 2 (some .boolean) 0 0 E (pW E q ci) [.ref q, .int x] (some (.int (b2i (fixS 4 x)))) (pW E q ci) := by
  refine Kn.ofWi (by decide +kernel) (Nat.le_of_ble_eq_true rfl) (fun _ _ => b2i_nar _) ?_
  intro pg ev s0 mm below meth cd Q K X fin ls hl
  have hx := K.1
  have hb := K.2.1
  obtain ⟨⟨Cn, Tn, Nn⟩, hci⟩ : ∃ z, vwCl[ci]? = some z := ⟨_, List.getElem?_eq_getElem hci13⟩
  have hl : lv_has ls 2 [(0, .ref q), (1, .int x)] := hl
  refine lv_iload_n hx hb dX3_fixes_0 rfl (lv_at hl 1 rfl) ?_
  refine lv_iconst (v := 5) hx hb dX3_fixes_1 (by decide) ?_
  refine k_icmp_lt (x := x) (y := 5) hx hb 9 dX3_fixes_2 (by decide) (fun c2 => ?_) (fun c2 => ?_)
  · refine lv_iconst (v := 0) hx hb dX3_fixes_9 (by decide) ?_
    exact k_topi (x' := b2i (fixS 4 x)) (by first | ((try simp only [fixS] at c2 ⊢) <;> simp [b2i, c2]; done) | (simp_all [fixS, b2i]; done)) (fin () 10 _ _ _ trivial X dX3_fixes_10)
  · refine lv_iconst (v := 1) hx hb dX3_fixes_5 (by decide) ?_
    refine lv_goto (tgt := 10) hx hb dX3_fixes_6 (by decide) ?_
    exact k_topi (x' := b2i (fixS 4 x)) (by first | ((try simp only [fixS] at c2 ⊢) <;> simp [b2i, c2]; done) | (simp_all [fixS, b2i]; done)) (fin () 10 _ _ _ trivial X dX3_fixes_10)
