set_option maxRecDepth 100000 in
set_option maxHeartbeats 4000000 in
theorem law_loop {p : Program} {l : Launch} {e : Env} {s : State} {m : MethodId} {below : List Frame} {meth : Method} {c : Code} {E : EE} {A : Nat → Prop} {b0 L : Nat} {xs : Nat → Int32} {a b : Nat → Nat} (K : Kx p s m #[Value.ref b0] meth c code 4 RL E A) (hr : meth.sig.returnType = ret) (hA : ∀ q, A q → s.heap.size ≤ q) (hX : va_X b0 L xs s s.heap) (hbl : b0 < s.heap.size) (hbA : ¬ A b0) (hL : L ≤ 3072) : ∀ (fu i : Nat), i ≤ L + 6 → L + 6 < i + fu → Nx p l e s m below meth c E A b0 a b i 18 := by
  intro fu
  induction fu with
  | zero => intro i h1 h2; omega
  | succ fu ih =>
    intro i hiL hfu f g h h2 ik one wo tp tl tk ts te tn rb rz rn td wf tch tk2 tb ta tv bad H locs ls hI X hl
    have hx := K.1
    have hb := K.2.1
    refine lv_iload_n hx hb dL_law_18 rfl (lv_at hl 0 rfl) ?_
    refine lv_aload_n hx hb dL_law_19 rfl (lv_at hl 3 rfl) ?_
    refine va_slen hx hb hX hbl hbA X.2.2 dL_law_20 ?_
    refine lv_bipush (v := 6) hx hb dL_law_21 (by decide) ?_
    refine lv_isub hx hb dL_law_23 ?_
    refine k_icmp_gt (x := nI i) (y := nI L - 6) hx hb 1358 dL_law_24 (by decide) (fun c24 => ?_) (fun c24 => ?_)
    · refine lv_iconst (v := 1) hx hb dL_law_1358 (by decide) ?_
      refine va_forget (fun q hq => hA _ (X.2.2.2.2 q hq)) ?_
      exact lw_ret hx hb hr K.2.2.2.2.2.2 dL_law_1359
    · have hi : i + 6 ≤ L := by
        have := mt (law_cmp (by omega) hL).mpr c24
        omega
      have hbrk : Nx p l e s m below meth c E A b0 a b i 1352 := by
        intro f g h h2 ik one wo tp tl tk ts te tn rb rz rn td wf tch tk2 tb ta tv bad H locs ls hI X hl
        refine lv_iinc (v := nI (i + 6)) (lv' := [(3, .int (nI (i + 6))), (2, .ref (b 0)), (1, .ref (a 0)), (0, .ref b0)]) hx hb dL_law_1352 hl (k := 0) rfl (nI_add i 6) (by decide) rfl (fun ls hl => ?_)
        refine lv_goto (tgt := 18) hx hb dL_law_1355 (by decide) ?_
        exact ih (i + 6) (by omega) (by omega) _ _ _ _ _ _ _ _ _ _ _ _ _ _ _ _ _ _ _ _ _ _ _ _ _ _ _ hI X hl
      refine lv_aload_n hx hb dL_law_27 rfl (lv_at hl 3 rfl) ?_
      refine lv_iload_n hx hb dL_law_28 rfl (lv_at hl 0 rfl) ?_
      refine va_sld hx hb hX hbl hbA X.2.2 (vp_in_nI (show i < L by omega) (by omega)) dL_law_29 ?_
      refine lv_bipush (v := 63) hx hb dL_law_30 (by decide) ?_
      refine lv_iand hx hb dL_law_32 ?_
      generalize (xs (nI i).toNatClampNeg &&& 63) = vv
      by_cases w0 : vv = 0
      · refine k_topi (x' := 0) w0 ?_
        refine lv_tableIn (off := 171) (tgt := 204) hx hb dL_law_33 (by decide) (by decide) rfl (by decide) ?_
        exact lc_0 K hX hbl hbA hi hL hbrk _ _ _ _ _ _ _ _ _ _ _ _ _ _ _ _ _ _ _ _ _ _ _ _ _ _ _ hI X hl
      by_cases w1 : vv = 1
      · refine k_topi (x' := 1) w1 ?_
        refine lv_tableIn (off := 194) (tgt := 227) hx hb dL_law_33 (by decide) (by decide) rfl (by decide) ?_
        exact lc_1 K hX hbl hbA hi hL hbrk _ _ _ _ _ _ _ _ _ _ _ _ _ _ _ _ _ _ _ _ _ _ _ _ _ _ _ hI X hl
      by_cases w2 : vv = 2
      · refine k_topi (x' := 2) w2 ?_
        refine lv_tableIn (off := 217) (tgt := 250) hx hb dL_law_33 (by decide) (by decide) rfl (by decide) ?_
        exact lc_2 K hX hbl hbA hi hL hbrk _ _ _ _ _ _ _ _ _ _ _ _ _ _ _ _ _ _ _ _ _ _ _ _ _ _ _ hI X hl
      by_cases w3 : vv = 3
      · refine k_topi (x' := 3) w3 ?_
        refine lv_tableIn (off := 250) (tgt := 283) hx hb dL_law_33 (by decide) (by decide) rfl (by decide) ?_
        exact lc_3 K hX hbl hbA hi hL hbrk _ _ _ _ _ _ _ _ _ _ _ _ _ _ _ _ _ _ _ _ _ _ _ _ _ _ _ hI X hl
      by_cases w4 : vv = 4
      · refine k_topi (x' := 4) w4 ?_
        refine lv_tableIn (off := 293) (tgt := 326) hx hb dL_law_33 (by decide) (by decide) rfl (by decide) ?_
        exact lc_4 K hX hbl hbA hi hL hbrk _ _ _ _ _ _ _ _ _ _ _ _ _ _ _ _ _ _ _ _ _ _ _ _ _ _ _ hI X hl
      by_cases w5 : vv = 5
      · refine k_topi (x' := 5) w5 ?_
        refine lv_tableIn (off := 316) (tgt := 349) hx hb dL_law_33 (by decide) (by decide) rfl (by decide) ?_
        exact lc_5 K hX hbl hbA hi hL hbrk _ _ _ _ _ _ _ _ _ _ _ _ _ _ _ _ _ _ _ _ _ _ _ _ _ _ _ hI X hl
      by_cases w6 : vv = 6
      · refine k_topi (x' := 6) w6 ?_
        refine lv_tableIn (off := 339) (tgt := 372) hx hb dL_law_33 (by decide) (by decide) rfl (by decide) ?_
        exact lc_6 K hX hbl hbA hi hL hbrk _ _ _ _ _ _ _ _ _ _ _ _ _ _ _ _ _ _ _ _ _ _ _ _ _ _ _ hI X hl
      by_cases w7 : vv = 7
      · refine k_topi (x' := 7) w7 ?_
        refine lv_tableIn (off := 362) (tgt := 395) hx hb dL_law_33 (by decide) (by decide) rfl (by decide) ?_
        exact lc_7 K hX hbl hbA hi hL hbrk _ _ _ _ _ _ _ _ _ _ _ _ _ _ _ _ _ _ _ _ _ _ _ _ _ _ _ hI X hl
      by_cases w8 : vv = 8
      · refine k_topi (x' := 8) w8 ?_
        refine lv_tableIn (off := 395) (tgt := 428) hx hb dL_law_33 (by decide) (by decide) rfl (by decide) ?_
        exact lc_8 K hX hbl hbA hi hL hbrk _ _ _ _ _ _ _ _ _ _ _ _ _ _ _ _ _ _ _ _ _ _ _ _ _ _ _ hI X hl
      by_cases w9 : vv = 9
      · refine k_topi (x' := 9) w9 ?_
        refine lv_tableIn (off := 438) (tgt := 471) hx hb dL_law_33 (by decide) (by decide) rfl (by decide) ?_
        exact lc_9 K hX hbl hbA hi hL hbrk _ _ _ _ _ _ _ _ _ _ _ _ _ _ _ _ _ _ _ _ _ _ _ _ _ _ _ hI X hl
      by_cases w10 : vv = 10
      · refine k_topi (x' := 10) w10 ?_
        refine lv_tableIn (off := 471) (tgt := 504) hx hb dL_law_33 (by decide) (by decide) rfl (by decide) ?_
        exact lc_10 K hX hbl hbA hi hL hbrk _ _ _ _ _ _ _ _ _ _ _ _ _ _ _ _ _ _ _ _ _ _ _ _ _ _ _ hI X hl
      by_cases w11 : vv = 11
      · refine k_topi (x' := 11) w11 ?_
        refine lv_tableIn (off := 504) (tgt := 537) hx hb dL_law_33 (by decide) (by decide) rfl (by decide) ?_
        exact lc_11 K hX hbl hbA hi hL hbrk _ _ _ _ _ _ _ _ _ _ _ _ _ _ _ _ _ _ _ _ _ _ _ _ _ _ _ hI X hl
      by_cases w12 : vv = 12
      · refine k_topi (x' := 12) w12 ?_
        refine lv_tableIn (off := 537) (tgt := 570) hx hb dL_law_33 (by decide) (by decide) rfl (by decide) ?_
        exact lc_12 K hX hbl hbA hi hL hbrk _ _ _ _ _ _ _ _ _ _ _ _ _ _ _ _ _ _ _ _ _ _ _ _ _ _ _ hI X hl
      by_cases w13 : vv = 13
      · refine k_topi (x' := 13) w13 ?_
        refine lv_tableIn (off := 570) (tgt := 603) hx hb dL_law_33 (by decide) (by decide) rfl (by decide) ?_
        exact lc_13 K hX hbl hbA hi hL hbrk _ _ _ _ _ _ _ _ _ _ _ _ _ _ _ _ _ _ _ _ _ _ _ _ _ _ _ hI X hl
      by_cases w14 : vv = 14
      · refine k_topi (x' := 14) w14 ?_
        refine lv_tableIn (off := 593) (tgt := 626) hx hb dL_law_33 (by decide) (by decide) rfl (by decide) ?_
        exact lc_14 K hX hbl hbA hi hL hbrk _ _ _ _ _ _ _ _ _ _ _ _ _ _ _ _ _ _ _ _ _ _ _ _ _ _ _ hI X hl
      by_cases w15 : vv = 15
      · refine k_topi (x' := 15) w15 ?_
        refine lv_tableIn (off := 636) (tgt := 669) hx hb dL_law_33 (by decide) (by decide) rfl (by decide) ?_
        exact lc_15 K hX hbl hbA hi hL hbrk _ _ _ _ _ _ _ _ _ _ _ _ _ _ _ _ _ _ _ _ _ _ _ _ _ _ _ hI X hl
      by_cases w16 : vv = 16
      · refine k_topi (x' := 16) w16 ?_
        refine lv_tableIn (off := 669) (tgt := 702) hx hb dL_law_33 (by decide) (by decide) rfl (by decide) ?_
        exact lc_16 K hX hbl hbA hi hL hbrk _ _ _ _ _ _ _ _ _ _ _ _ _ _ _ _ _ _ _ _ _ _ _ _ _ _ _ hI X hl
      by_cases w17 : vv = 17
      · refine k_topi (x' := 17) w17 ?_
        refine lv_tableIn (off := 682) (tgt := 715) hx hb dL_law_33 (by decide) (by decide) rfl (by decide) ?_
        exact lc_17 K hX hbl hbA hi hL hbrk _ _ _ _ _ _ _ _ _ _ _ _ _ _ _ _ _ _ _ _ _ _ _ _ _ _ _ hI X hl
      by_cases w18 : vv = 18
      · refine k_topi (x' := 18) w18 ?_
        refine lv_tableIn (off := 705) (tgt := 738) hx hb dL_law_33 (by decide) (by decide) rfl (by decide) ?_
        exact lc_18 K hX hbl hbA hi hL hbrk _ _ _ _ _ _ _ _ _ _ _ _ _ _ _ _ _ _ _ _ _ _ _ _ _ _ _ hI X hl
      by_cases w19 : vv = 19
      · refine k_topi (x' := 19) w19 ?_
        refine lv_tableIn (off := 738) (tgt := 771) hx hb dL_law_33 (by decide) (by decide) rfl (by decide) ?_
        exact lc_19 K hX hbl hbA hi hL hbrk _ _ _ _ _ _ _ _ _ _ _ _ _ _ _ _ _ _ _ _ _ _ _ _ _ _ _ hI X hl
      by_cases w20 : vv = 20
      · refine k_topi (x' := 20) w20 ?_
        refine lv_tableIn (off := 771) (tgt := 804) hx hb dL_law_33 (by decide) (by decide) rfl (by decide) ?_
        exact lc_20 K hX hbl hbA hi hL hbrk _ _ _ _ _ _ _ _ _ _ _ _ _ _ _ _ _ _ _ _ _ _ _ _ _ _ _ hI X hl
      by_cases w21 : vv = 21
      · refine k_topi (x' := 21) w21 ?_
        refine lv_tableIn (off := 804) (tgt := 837) hx hb dL_law_33 (by decide) (by decide) rfl (by decide) ?_
        exact lc_21 K hX hbl hbA hi hL hbrk _ _ _ _ _ _ _ _ _ _ _ _ _ _ _ _ _ _ _ _ _ _ _ _ _ _ _ hI X hl
      by_cases w22 : vv = 22
      · refine k_topi (x' := 22) w22 ?_
        refine lv_tableIn (off := 817) (tgt := 850) hx hb dL_law_33 (by decide) (by decide) rfl (by decide) ?_
        exact lc_22 K hX hbl hbA hi hL hbrk _ _ _ _ _ _ _ _ _ _ _ _ _ _ _ _ _ _ _ _ _ _ _ _ _ _ _ hI X hl
      by_cases w23 : vv = 23
      · refine k_topi (x' := 23) w23 ?_
        refine lv_tableIn (off := 840) (tgt := 873) hx hb dL_law_33 (by decide) (by decide) rfl (by decide) ?_
        exact lc_23 K hX hbl hbA hi hL hbrk _ _ _ _ _ _ _ _ _ _ _ _ _ _ _ _ _ _ _ _ _ _ _ _ _ _ _ hI X hl
      by_cases w24 : vv = 24
      · refine k_topi (x' := 24) w24 ?_
        refine lv_tableIn (off := 863) (tgt := 896) hx hb dL_law_33 (by decide) (by decide) rfl (by decide) ?_
        exact lc_24 K hX hbl hbA hi hL hbrk _ _ _ _ _ _ _ _ _ _ _ _ _ _ _ _ _ _ _ _ _ _ _ _ _ _ _ hI X hl
      by_cases w25 : vv = 25
      · refine k_topi (x' := 25) w25 ?_
        refine lv_tableIn (off := 886) (tgt := 919) hx hb dL_law_33 (by decide) (by decide) rfl (by decide) ?_
        exact lc_25 K hX hbl hbA hi hL hbrk _ _ _ _ _ _ _ _ _ _ _ _ _ _ _ _ _ _ _ _ _ _ _ _ _ _ _ hI X hl
      by_cases w26 : vv = 26
      · refine k_topi (x' := 26) w26 ?_
        refine lv_tableIn (off := 919) (tgt := 952) hx hb dL_law_33 (by decide) (by decide) rfl (by decide) ?_
        exact lc_26 K hX hbl hbA hi hL hbrk _ _ _ _ _ _ _ _ _ _ _ _ _ _ _ _ _ _ _ _ _ _ _ _ _ _ _ hI X hl
      by_cases w27 : vv = 27
      · refine k_topi (x' := 27) w27 ?_
        refine lv_tableIn (off := 932) (tgt := 965) hx hb dL_law_33 (by decide) (by decide) rfl (by decide) ?_
        exact lc_27 K hX hbl hbA hi hL hbrk _ _ _ _ _ _ _ _ _ _ _ _ _ _ _ _ _ _ _ _ _ _ _ _ _ _ _ hI X hl
      by_cases w28 : vv = 28
      · refine k_topi (x' := 28) w28 ?_
        refine lv_tableIn (off := 945) (tgt := 978) hx hb dL_law_33 (by decide) (by decide) rfl (by decide) ?_
        exact lc_28 K hX hbl hbA hi hL hbrk _ _ _ _ _ _ _ _ _ _ _ _ _ _ _ _ _ _ _ _ _ _ _ _ _ _ _ hI X hl
      by_cases w29 : vv = 29
      · refine k_topi (x' := 29) w29 ?_
        refine lv_tableIn (off := 988) (tgt := 1021) hx hb dL_law_33 (by decide) (by decide) rfl (by decide) ?_
        exact lc_29 K hX hbl hbA hi hL hbrk _ _ _ _ _ _ _ _ _ _ _ _ _ _ _ _ _ _ _ _ _ _ _ _ _ _ _ hI X hl
      by_cases w30 : vv = 30
      · refine k_topi (x' := 30) w30 ?_
        refine lv_tableIn (off := 1062) (tgt := 1095) hx hb dL_law_33 (by decide) (by decide) rfl (by decide) ?_
        exact lc_30 K hX hbl hbA hi hL hbrk _ _ _ _ _ _ _ _ _ _ _ _ _ _ _ _ _ _ _ _ _ _ _ _ _ _ _ hI X hl
      by_cases w31 : vv = 31
      · refine k_topi (x' := 31) w31 ?_
        refine lv_tableIn (off := 1125) (tgt := 1158) hx hb dL_law_33 (by decide) (by decide) rfl (by decide) ?_
        exact lc_31 K hX hbl hbA hi hL hbrk _ _ _ _ _ _ _ _ _ _ _ _ _ _ _ _ _ _ _ _ _ _ _ _ _ _ _ hI X hl
      by_cases w32 : vv = 32
      · refine k_topi (x' := 32) w32 ?_
        refine lv_tableIn (off := 1158) (tgt := 1191) hx hb dL_law_33 (by decide) (by decide) rfl (by decide) ?_
        exact lc_32 K hX hbl hbA hi hL hbrk _ _ _ _ _ _ _ _ _ _ _ _ _ _ _ _ _ _ _ _ _ _ _ _ _ _ _ hI X hl
      by_cases w33 : vv = 33
      · refine k_topi (x' := 33) w33 ?_
        refine lv_tableIn (off := 1191) (tgt := 1224) hx hb dL_law_33 (by decide) (by decide) rfl (by decide) ?_
        exact lc_33 K hX hbl hbA hi hL hbrk _ _ _ _ _ _ _ _ _ _ _ _ _ _ _ _ _ _ _ _ _ _ _ _ _ _ _ hI X hl
      by_cases w34 : vv = 34
      · refine k_topi (x' := 34) w34 ?_
        refine lv_tableIn (off := 1234) (tgt := 1267) hx hb dL_law_33 (by decide) (by decide) rfl (by decide) ?_
        exact lc_34 K hX hbl hbA hi hL hbrk _ _ _ _ _ _ _ _ _ _ _ _ _ _ _ _ _ _ _ _ _ _ _ _ _ _ _ hI X hl
      by_cases w35 : vv = 35
      · refine k_topi (x' := 35) w35 ?_
        refine lv_tableIn (off := 1247) (tgt := 1280) hx hb dL_law_33 (by decide) (by decide) rfl (by decide) ?_
        exact lc_35 K hX hbl hbA hi hL hbrk _ _ _ _ _ _ _ _ _ _ _ _ _ _ _ _ _ _ _ _ _ _ _ _ _ _ _ hI X hl
      by_cases w36 : vv = 36
      · refine k_topi (x' := 36) w36 ?_
        refine lv_tableIn (off := 1260) (tgt := 1293) hx hb dL_law_33 (by decide) (by decide) rfl (by decide) ?_
        exact lc_36 K hX hbl hbA hi hL hbrk _ _ _ _ _ _ _ _ _ _ _ _ _ _ _ _ _ _ _ _ _ _ _ _ _ _ _ hI X hl
      by_cases w37 : vv = 37
      · refine k_topi (x' := 37) w37 ?_
        refine lv_tableIn (off := 1273) (tgt := 1306) hx hb dL_law_33 (by decide) (by decide) rfl (by decide) ?_
        exact lc_37 K hX hbl hbA hi hL hbrk _ _ _ _ _ _ _ _ _ _ _ _ _ _ _ _ _ _ _ _ _ _ _ _ _ _ _ hI X hl
      by_cases w38 : vv = 38
      · refine k_topi (x' := 38) w38 ?_
        refine lv_tableIn (off := 1296) (tgt := 1329) hx hb dL_law_33 (by decide) (by decide) rfl (by decide) ?_
        exact lc_38 K hX hbl hbA hi hL hbrk _ _ _ _ _ _ _ _ _ _ _ _ _ _ _ _ _ _ _ _ _ _ _ _ _ _ _ hI X hl
      refine lv_tableOut (tgt := 1352) hx hb dL_law_33 (by have h0 := sw_ne (n := 0) (by decide) w0; have h1 := sw_ne (n := 1) (by decide) w1; have h2 := sw_ne (n := 2) (by decide) w2; have h3 := sw_ne (n := 3) (by decide) w3; have h4 := sw_ne (n := 4) (by decide) w4; have h5 := sw_ne (n := 5) (by decide) w5; have h6 := sw_ne (n := 6) (by decide) w6; have h7 := sw_ne (n := 7) (by decide) w7; have h8 := sw_ne (n := 8) (by decide) w8; have h9 := sw_ne (n := 9) (by decide) w9; have h10 := sw_ne (n := 10) (by decide) w10; have h11 := sw_ne (n := 11) (by decide) w11; have h12 := sw_ne (n := 12) (by decide) w12; have h13 := sw_ne (n := 13) (by decide) w13; have h14 := sw_ne (n := 14) (by decide) w14; have h15 := sw_ne (n := 15) (by decide) w15; have h16 := sw_ne (n := 16) (by decide) w16; have h17 := sw_ne (n := 17) (by decide) w17; have h18 := sw_ne (n := 18) (by decide) w18; have h19 := sw_ne (n := 19) (by decide) w19; have h20 := sw_ne (n := 20) (by decide) w20; have h21 := sw_ne (n := 21) (by decide) w21; have h22 := sw_ne (n := 22) (by decide) w22; have h23 := sw_ne (n := 23) (by decide) w23; have h24 := sw_ne (n := 24) (by decide) w24; have h25 := sw_ne (n := 25) (by decide) w25; have h26 := sw_ne (n := 26) (by decide) w26; have h27 := sw_ne (n := 27) (by decide) w27; have h28 := sw_ne (n := 28) (by decide) w28; have h29 := sw_ne (n := 29) (by decide) w29; have h30 := sw_ne (n := 30) (by decide) w30; have h31 := sw_ne (n := 31) (by decide) w31; have h32 := sw_ne (n := 32) (by decide) w32; have h33 := sw_ne (n := 33) (by decide) w33; have h34 := sw_ne (n := 34) (by decide) w34; have h35 := sw_ne (n := 35) (by decide) w35; have h36 := sw_ne (n := 36) (by decide) w36; have h37 := sw_ne (n := 37) (by decide) w37; have h38 := sw_ne (n := 38) (by decide) w38; omega) (by decide) ?_
      exact hbrk _ _ _ _ _ _ _ _ _ _ _ _ _ _ _ _ _ _ _ _ _ _ _ _ _ _ _ hI X hl
