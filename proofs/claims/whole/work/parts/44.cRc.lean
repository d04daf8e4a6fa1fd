set_option maxRecDepth 100000 in
set_option maxHeartbeats 4000000 in
theorem c_X11_copy (l : Launch) (E : EE) (a : Nat → Nat) (f : St) (g : St) (h : St) (ik : Int32) (one : Int32) (wo : Int32) (tp : Nat → Int32) (tl : Int32) (tk : Int32) (ts : Int32) (te : Int32) (tn : Int32) (rb : Nat → Int32) (rz : Nat → Int32) (rn : Nat → Nat → Int64) (td : Nat → Int32) (x : Int32) (y : Int32) (z : Int32) (v : Int32) (w : Int32) (J : InvS rz) : Kd l yX11_copy cX11_copy 6 (some .int) 2 42 E (clsW E a f g h ik one wo tp tl tk ts te tn rb rz rn td) [.ref (a 0), .int x, .int y, .int z, .int v, .int w] (some (.int ((oCopy rb rz rn td x y z v w).1))) (clsW E a f g h ik one wo tp tl tk ts te tn rb rz ((oCopy rb rz rn td x y z v w).2.1) ((oCopy rb rz rn td x y z v w).2.2)) := by
  refine Kn.ofWi (by decide +kernel) (Nat.le_of_ble_eq_true rfl) (fun _ _ => rfl) ?_
  intro pg ev s0 mm below meth cd Q K X fin ls hl
  have hx := K.1
  have hb := K.2.1
  have hl : lv_has ls 6 [(0, .ref (a 0)), (1, .int x), (2, .int y), (3, .int z), (4, .int v), (5, .int w)] := hl
  refine lv_iload_n hx hb dX11_copy_0 rfl (lv_at hl 1 rfl) ?_
  refine k_callS K X gs_X11_227 (As := [.int x]) (c_X11_noSheet l E x) [] rfl (by decide +kernel) (fun _ => rfl) (by decide) rfl hl.1 (rest := []) rfl (Nat.le_of_ble_eq_true rfl) dX11_copy_1 (st1 := fun _ => [.int (b2i (!inR x 0 3))]) (fun _ => rfl) (fun _ H locs _ X => ?_)
  have X : Wd E _ _ (clsW E a f g h ik one wo tp tl tk ts te tn rb rz rn td) _ _ := X
  refine k_ifneB (B := (!inR x 0 3)) hx hb 14 dX11_copy_4 (by decide) (fun c4 => ?_) (fun c4 => ?_)
  · have hx0 : inR x 0 3 = false := by simpa using c4
    refine lv_aload_n hx hb dX11_copy_14 rfl (lv_at hl 0 rfl) ?_
    refine lv_iconst (v := 0) hx hb dX11_copy_15 (by decide) ?_
    refine k_callV K X gv_X11_84 (As := [.int 0]) (c_X11_finding l E a f g h ik one wo tp tl tk ts te tn rb rz rn td 0 (by decide)) [0, 1, 2, 3, 4, 5, 6, 7, 8, 9, 10, 11, 12, 13, 14, 15, 16, 17, 18, 19, 20, 21, 22, 23, 24, 25, 26, 27, 28, 29, 30, 31, 32, 33, 34, 35, 36, 37, 38, 39, 40, 41, 42] clsW_idC (by decide +kernel) (fun _ => clsW_fst) 0 11 rfl rfl (by decide) rfl hl.1 (rest := []) rfl (Nat.le_of_ble_eq_true rfl) dX11_copy_16 (st1 := fun _ => [.int (fnd 0)]) (fun _ => rfl) (fun _ H locs _ X => ?_)
    have X : Wd E _ _ (clsW E a f g h ik one wo tp tl tk ts te tn rb rz rn (fdU td 0)) _ _ := X.eq clsW_idP
    exact k_topi (x' := (oCopy rb rz rn td x y z v w).1) (by simp [oCopy, hx0]) (fin () 19 _ _ _ trivial (X.eq (by simp [oCopy, hx0])) dX11_copy_19)
  · have hx0 : inR x 0 3 = true := by simpa using c4
    obtain ⟨k, hk, rfl, -⟩ := inR_nat (n := 4) (by decide) (by decide) hx0
    have ek : (nI k).toNatClampNeg = k := nI_clamp (by omega)
    refine lv_iload_n hx hb dX11_copy_7 rfl (lv_at hl 3 rfl) ?_
    refine k_callS K X gs_X11_227 (As := [.int z]) (c_X11_noSheet l E z) [] rfl (by decide +kernel) (fun _ => rfl) (by decide) rfl hl.1 (rest := []) rfl (Nat.le_of_ble_eq_true rfl) dX11_copy_8 (st1 := fun _ => [.int (b2i (!inR z 0 3))]) (fun _ => rfl) (fun _ H locs _ X => ?_)
    have X : Wd E _ _ (clsW E a f g h ik one wo tp tl tk ts te tn rb rz rn td) _ _ := X
    refine k_ifeqB (B := (!inR z 0 3)) hx hb 20 dX11_copy_11 (by decide) (fun c11 => ?_) (fun c11 => ?_)
    · have hy0 : inR z 0 3 = true := by simpa using c11
      obtain ⟨j, hj, rfl, -⟩ := inR_nat (n := 4) (by decide) (by decide) hy0
      have ej : (nI j).toNatClampNeg = j := nI_clamp (by omega)
      refine lv_aload_n hx hb dX11_copy_20 rfl (lv_at hl 0 rfl) ?_
      refine k_get K X 0 rfl fg_X11_71 (v := .ref (a 26)) rfl dX11_copy_21 ?_
      rcases (show k = 0 ∨ k = 1 ∨ k = 2 ∨ k = 3 by omega) with rfl | rfl | rfl | rfl
      · have hzx := (J 0 (by decide)).2
        refine lv_iload_n hx hb dX11_copy_24 rfl (lv_at hl 1 rfl) ?_
        refine k_aaldN (C := "SlipWall$Row") K X 26 3 rfl rfl (k := 0) (by omega) (by decide) (r := a 27) rfl dX11_copy_25 ?_
        refine k_callV K X gv_X11_236 (As := []) (c_X7_isMissing l E (fun j => a (27 + j)) (rb 0) (rz 0) (rn 0)) [27, 28] clsW_s14C (by decide +kernel) (fun _ => rowW_fst) 0 7 rfl rfl (by decide) rfl hl.1 (rest := []) rfl (Nat.le_of_ble_eq_true rfl) dX11_copy_26 (st1 := fun _ => [.int (b2i (decide ((rb 0) = 0)))]) (fun _ => rfl) (fun _ H locs _ X => ?_)
        have X : Wd E _ _ (clsW E a f g h ik one wo tp tl tk ts te tn rb rz rn td) _ _ := X.eq clsW_s14P
        refine k_ifneB (B := (decide ((rb 0) = 0))) hx hb 44 dX11_copy_29 (by decide) (fun c29 => ?_) (fun c29 => ?_)
        · refine lv_aload_n hx hb dX11_copy_44 rfl (lv_at hl 0 rfl) ?_
          refine lv_iconst (v := 5) hx hb dX11_copy_45 (by decide) ?_
          refine k_callV K X gv_X11_84 (As := [.int 5]) (c_X11_finding l E a f g h ik one wo tp tl tk ts te tn rb rz rn td 5 (by decide)) [0, 1, 2, 3, 4, 5, 6, 7, 8, 9, 10, 11, 12, 13, 14, 15, 16, 17, 18, 19, 20, 21, 22, 23, 24, 25, 26, 27, 28, 29, 30, 31, 32, 33, 34, 35, 36, 37, 38, 39, 40, 41, 42] clsW_idC (by decide +kernel) (fun _ => clsW_fst) 0 11 rfl rfl (by decide) rfl hl.1 (rest := []) rfl (Nat.le_of_ble_eq_true rfl) dX11_copy_46 (st1 := fun _ => [.int (fnd 5)]) (fun _ => rfl) (fun _ H locs _ X => ?_)
          have X : Wd E _ _ (clsW E a f g h ik one wo tp tl tk ts te tn rb rz rn (fdU td 5)) _ _ := X.eq clsW_idP
          exact k_topi (x' := (oCopy rb rz rn td (nI 0) y (nI j) v w).1) (by simp [oCopy, hx0, ek, hy0, ej, c29]) (fin () 49 _ _ _ trivial (X.eq (by simp [oCopy, hx0, ek, hy0, ej, c29])) dX11_copy_49)
        · refine lv_aload_n hx hb dX11_copy_32 rfl (lv_at hl 0 rfl) ?_
          refine k_get K X 0 rfl fg_X11_71 (v := .ref (a 26)) rfl dX11_copy_33 ?_
          rcases (show j = 0 ∨ j = 1 ∨ j = 2 ∨ j = 3 by omega) with rfl | rfl | rfl | rfl
          · have hzy := (J 0 (by decide)).2
            refine lv_iload_n hx hb dX11_copy_36 rfl (lv_at hl 3 rfl) ?_
            refine k_aaldN (C := "SlipWall$Row") K X 26 3 rfl rfl (k := 0) (by omega) (by decide) (r := a 27) rfl dX11_copy_37 ?_
            refine k_callV K X gv_X11_236 (As := []) (c_X7_isMissing l E (fun j => a (27 + j)) (rb 0) (rz 0) (rn 0)) [27, 28] clsW_s14C (by decide +kernel) (fun _ => rowW_fst) 0 7 rfl rfl (by decide) rfl hl.1 (rest := []) rfl (Nat.le_of_ble_eq_true rfl) dX11_copy_38 (st1 := fun _ => [.int (b2i (decide ((rb 0) = 0)))]) (fun _ => rfl) (fun _ H locs _ X => ?_)
            have X : Wd E _ _ (clsW E a f g h ik one wo tp tl tk ts te tn rb rz rn td) _ _ := X.eq clsW_s14P
            refine k_ifeqB (B := (decide ((rb 0) = 0))) hx hb 50 dX11_copy_41 (by decide) (fun c41 => ?_) (fun c41 => ?_)
            · refine lv_aload_n hx hb dX11_copy_50 rfl (lv_at hl 0 rfl) ?_
              refine k_get K X 0 rfl fg_X11_71 (v := .ref (a 26)) rfl dX11_copy_51 ?_
              refine lv_iload_n hx hb dX11_copy_54 rfl (lv_at hl 1 rfl) ?_
              refine k_aaldN (C := "SlipWall$Row") K X 26 3 rfl rfl (k := 0) (by omega) (by decide) (r := a 27) rfl dX11_copy_55 ?_
              refine k_getN K X 27 rfl fg_X11_247 (v := .int (rb 0)) rfl dX11_copy_56 ?_
              refine lv_aload_n hx hb dX11_copy_59 rfl (lv_at hl 0 rfl) ?_
              refine k_get K X 0 rfl fg_X11_71 (v := .ref (a 26)) rfl dX11_copy_60 ?_
              refine lv_iload_n hx hb dX11_copy_63 rfl (lv_at hl 3 rfl) ?_
              refine k_aaldN (C := "SlipWall$Row") K X 26 3 rfl rfl (k := 0) (by omega) (by decide) (r := a 27) rfl dX11_copy_64 ?_
              refine k_getN K X 27 rfl fg_X11_247 (v := .int (rb 0)) rfl dX11_copy_65 ?_
              refine k_icmp_eq (x := rb 0) (y := rb 0) hx hb 77 dX11_copy_68 (by decide) (fun c68 => ?_) (fun c68 => ?_)
              · refine lv_aload_n hx hb dX11_copy_77 rfl (lv_at hl 0 rfl) ?_
                refine k_get K X 0 rfl fg_X11_71 (v := .ref (a 26)) rfl dX11_copy_78 ?_
                refine lv_iload_n hx hb dX11_copy_81 rfl (lv_at hl 1 rfl) ?_
                refine k_aaldN (C := "SlipWall$Row") K X 26 3 rfl rfl (k := 0) (by omega) (by decide) (r := a 27) rfl dX11_copy_82 ?_
                refine lv_iload_n hx hb dX11_copy_83 rfl (lv_at hl 2 rfl) ?_
                refine lv_iload hx hb dX11_copy_84 (lv_at hl 5 rfl) ?_
                refine k_callV K X gv_X11_250 (As := [.int y, .int w]) (c_X7_hasFrom l E (fun j => a (27 + j)) (rb 0) (rz 0) (rn 0) y w) [27, 28] clsW_s14C (by decide +kernel) (fun _ => rowW_fst) 0 7 rfl rfl (by decide) rfl hl.1 (rest := []) rfl (Nat.le_of_ble_eq_true rfl) dX11_copy_86 (st1 := fun _ => [.int (b2i (hasR (rz 0) y w))]) (fun _ => rfl) (fun _ H locs _ X => ?_)
                have X : Wd E _ _ (clsW E a f g h ik one wo tp tl tk ts te tn rb rz rn td) _ _ := X.eq clsW_s14P
                refine k_ifeqB (B := (hasR (rz 0) y w)) hx hb 108 dX11_copy_89 (by decide) (fun c89 => ?_) (fun c89 => ?_)
                · refine lv_aload_n hx hb dX11_copy_108 rfl (lv_at hl 0 rfl) ?_
                  refine lv_iconst (v := 0) hx hb dX11_copy_109 (by decide) ?_
                  refine k_callV K X gv_X11_84 (As := [.int 0]) (c_X11_finding l E a f g h ik one wo tp tl tk ts te tn rb rz rn td 0 (by decide)) [0, 1, 2, 3, 4, 5, 6, 7, 8, 9, 10, 11, 12, 13, 14, 15, 16, 17, 18, 19, 20, 21, 22, 23, 24, 25, 26, 27, 28, 29, 30, 31, 32, 33, 34, 35, 36, 37, 38, 39, 40, 41, 42] clsW_idC (by decide +kernel) (fun _ => clsW_fst) 0 11 rfl rfl (by decide) rfl hl.1 (rest := []) rfl (Nat.le_of_ble_eq_true rfl) dX11_copy_110 (st1 := fun _ => [.int (fnd 0)]) (fun _ => rfl) (fun _ H locs _ X => ?_)
                  have X : Wd E _ _ (clsW E a f g h ik one wo tp tl tk ts te tn rb rz rn (fdU td 0)) _ _ := X.eq clsW_idP
                  exact k_topi (x' := (oCopy rb rz rn td (nI 0) y (nI 0) v w).1) (by simp [oCopy, hx0, ek, hy0, ej, c29, c41, c89]) (fin () 113 _ _ _ trivial (X.eq (by simp [oCopy, hx0, ek, hy0, ej, c29, c41, c89])) dX11_copy_113)
                · obtain ⟨a1, c1, rfl, rfl, hac⟩ := hasR_nat (J 0 (by decide)).1 hzx c89
                  have ea1 : (nI a1).toNatClampNeg = a1 := nI_clamp (by omega)
                  have ec1 : (nI c1).toNatClampNeg = c1 := nI_clamp (by omega)
                  refine lv_aload_n hx hb dX11_copy_92 rfl (lv_at hl 0 rfl) ?_
                  refine k_get K X 0 rfl fg_X11_71 (v := .ref (a 26)) rfl dX11_copy_93 ?_
                  refine lv_iload_n hx hb dX11_copy_96 rfl (lv_at hl 3 rfl) ?_
                  refine k_aaldN (C := "SlipWall$Row") K X 26 3 rfl rfl (k := 0) (by omega) (by decide) (r := a 27) rfl dX11_copy_97 ?_
                  refine lv_iload hx hb dX11_copy_98 (lv_at hl 4 rfl) ?_
                  refine lv_iload hx hb dX11_copy_100 (lv_at hl 5 rfl) ?_
                  refine k_callV K X gv_X11_250 (As := [.int v, .int (nI c1)]) (c_X7_hasFrom l E (fun j => a (27 + j)) (rb 0) (rz 0) (rn 0) v (nI c1)) [27, 28] clsW_s14C (by decide +kernel) (fun _ => rowW_fst) 0 7 rfl rfl (by decide) rfl hl.1 (rest := []) rfl (Nat.le_of_ble_eq_true rfl) dX11_copy_102 (st1 := fun _ => [.int (b2i (hasR (rz 0) v (nI c1)))]) (fun _ => rfl) (fun _ H locs _ X => ?_)
                  have X : Wd E _ _ (clsW E a f g h ik one wo tp tl tk ts te tn rb rz rn td) _ _ := X.eq clsW_s14P
                  refine k_ifneB (B := (hasR (rz 0) v (nI c1))) hx hb 114 dX11_copy_105 (by decide) (fun c105 => ?_) (fun c105 => ?_)
                  · obtain ⟨b1, rfl, hbc⟩ := hasR_nat2 (J 0 (by decide)).1 hzy (by omega) c105
                    have eb1 : (nI b1).toNatClampNeg = b1 := nI_clamp (by omega)
                    refine lv_aload_n hx hb dX11_copy_114 rfl (lv_at hl 0 rfl) ?_
                    refine k_get K X 0 rfl fg_X11_71 (v := .ref (a 26)) rfl dX11_copy_115 ?_
                    refine lv_iload_n hx hb dX11_copy_118 rfl (lv_at hl 1 rfl) ?_
                    refine k_aaldN (C := "SlipWall$Row") K X 26 3 rfl rfl (k := 0) (by omega) (by decide) (r := a 27) rfl dX11_copy_119 ?_
                    refine k_getN K X 27 rfl fg_X11_240 (v := .ref (a 28)) rfl dX11_copy_120 ?_
                    refine lv_iload_n hx hb dX11_copy_123 rfl (lv_at hl 2 rfl) ?_
                    refine lv_aload_n hx hb dX11_copy_124 rfl (lv_at hl 0 rfl) ?_
                    refine k_get K X 0 rfl fg_X11_71 (v := .ref (a 26)) rfl dX11_copy_125 ?_
                    refine lv_iload_n hx hb dX11_copy_128 rfl (lv_at hl 3 rfl) ?_
                    refine k_aaldN (C := "SlipWall$Row") K X 26 3 rfl rfl (k := 0) (by omega) (by decide) (r := a 27) rfl dX11_copy_129 ?_
                    refine k_getN K X 27 rfl fg_X11_240 (v := .ref (a 28)) rfl dX11_copy_130 ?_
                    refine lv_iload hx hb dX11_copy_133 (lv_at hl 4 rfl) ?_
                    refine lv_iload hx hb dX11_copy_135 (lv_at hl 5 rfl) ?_
                    refine k_copyl K X ⟨Mw_at 801 (by decide +kernel) (by decide +kernel), Mw_at 575 (by decide +kernel) (by decide +kernel), Mw_at 574 (by decide +kernel) (by decide +kernel), Mw_at 77 (by decide +kernel) (by decide +kernel)⟩ 28 28 (i := a1) (j := b1) (c := c1) rfl rfl (by omega) (by omega) hl.1 (by decide) (Nat.le_of_ble_eq_true rfl) dX11_copy_137 (fun H locs X => ?_)
                    have X : Wd E _ _ (clsW E a f g h ik one wo tp tl tk ts te tn rb rz (setRL rn 0 (va_cpy (rn 0) (rn 0) a1 b1 c1)) td) _ _ := X
                    refine lv_iload hx hb dX11_copy_140 (lv_at hl 5 rfl) ?_
                    exact k_topi (x' := (oCopy rb rz rn td (nI 0) (nI a1) (nI 0) (nI b1) (nI c1)).1) (by simp [oCopy, hx0, ek, hy0, ej, c29, c41, c89, ea1, ec1, c105, eb1]) (fin () 142 _ _ _ trivial (X.eq (by simp [oCopy, hx0, ek, hy0, ej, c29, c41, c89, ea1, ec1, c105, eb1])) dX11_copy_142)
                  · refine lv_aload_n hx hb dX11_copy_108 rfl (lv_at hl 0 rfl) ?_
                    refine lv_iconst (v := 0) hx hb dX11_copy_109 (by decide) ?_
                    refine k_callV K X gv_X11_84 (As := [.int 0]) (c_X11_finding l E a f g h ik one wo tp tl tk ts te tn rb rz rn td 0 (by decide)) [0, 1, 2, 3, 4, 5, 6, 7, 8, 9, 10, 11, 12, 13, 14, 15, 16, 17, 18, 19, 20, 21, 22, 23, 24, 25, 26, 27, 28, 29, 30, 31, 32, 33, 34, 35, 36, 37, 38, 39, 40, 41, 42] clsW_idC (by decide +kernel) (fun _ => clsW_fst) 0 11 rfl rfl (by decide) rfl hl.1 (rest := []) rfl (Nat.le_of_ble_eq_true rfl) dX11_copy_110 (st1 := fun _ => [.int (fnd 0)]) (fun _ => rfl) (fun _ H locs _ X => ?_)
                    have X : Wd E _ _ (clsW E a f g h ik one wo tp tl tk ts te tn rb rz rn (fdU td 0)) _ _ := X.eq clsW_idP
                    exact k_topi (x' := (oCopy rb rz rn td (nI 0) (nI a1) (nI 0) v (nI c1)).1) (by simp [oCopy, hx0, ek, hy0, ej, c29, c41, c89, ea1, ec1, c105]) (fin () 113 _ _ _ trivial (X.eq (by simp [oCopy, hx0, ek, hy0, ej, c29, c41, c89, ea1, ec1, c105])) dX11_copy_113)
              · exact absurd rfl c68
            · exact absurd (c29.symm.trans c41) (by decide)
          · have hzy := (J 1 (by decide)).2
            refine lv_iload_n hx hb dX11_copy_36 rfl (lv_at hl 3 rfl) ?_
            refine k_aaldN (C := "SlipWall$Row") K X 26 3 rfl rfl (k := 1) (by omega) (by decide) (r := a 29) rfl dX11_copy_37 ?_
            refine k_callV K X gv_X11_236 (As := []) (c_X7_isMissing l E (fun j => a (29 + j)) (rb 1) (rz 1) (rn 1)) [29, 30] clsW_s15C (by decide +kernel) (fun _ => rowW_fst) 0 7 rfl rfl (by decide) rfl hl.1 (rest := []) rfl (Nat.le_of_ble_eq_true rfl) dX11_copy_38 (st1 := fun _ => [.int (b2i (decide ((rb 1) = 0)))]) (fun _ => rfl) (fun _ H locs _ X => ?_)
            have X : Wd E _ _ (clsW E a f g h ik one wo tp tl tk ts te tn rb rz rn td) _ _ := X.eq clsW_s15P
            refine k_ifeqB (B := (decide ((rb 1) = 0))) hx hb 50 dX11_copy_41 (by decide) (fun c41 => ?_) (fun c41 => ?_)
            · refine lv_aload_n hx hb dX11_copy_50 rfl (lv_at hl 0 rfl) ?_
              refine k_get K X 0 rfl fg_X11_71 (v := .ref (a 26)) rfl dX11_copy_51 ?_
              refine lv_iload_n hx hb dX11_copy_54 rfl (lv_at hl 1 rfl) ?_
              refine k_aaldN (C := "SlipWall$Row") K X 26 3 rfl rfl (k := 0) (by omega) (by decide) (r := a 27) rfl dX11_copy_55 ?_
              refine k_getN K X 27 rfl fg_X11_247 (v := .int (rb 0)) rfl dX11_copy_56 ?_
              refine lv_aload_n hx hb dX11_copy_59 rfl (lv_at hl 0 rfl) ?_
              refine k_get K X 0 rfl fg_X11_71 (v := .ref (a 26)) rfl dX11_copy_60 ?_
              refine lv_iload_n hx hb dX11_copy_63 rfl (lv_at hl 3 rfl) ?_
              refine k_aaldN (C := "SlipWall$Row") K X 26 3 rfl rfl (k := 1) (by omega) (by decide) (r := a 29) rfl dX11_copy_64 ?_
              refine k_getN K X 29 rfl fg_X11_247 (v := .int (rb 1)) rfl dX11_copy_65 ?_
              refine k_icmp_eq (x := rb 0) (y := rb 1) hx hb 77 dX11_copy_68 (by decide) (fun c68 => ?_) (fun c68 => ?_)
              · refine lv_aload_n hx hb dX11_copy_77 rfl (lv_at hl 0 rfl) ?_
                refine k_get K X 0 rfl fg_X11_71 (v := .ref (a 26)) rfl dX11_copy_78 ?_
                refine lv_iload_n hx hb dX11_copy_81 rfl (lv_at hl 1 rfl) ?_
                refine k_aaldN (C := "SlipWall$Row") K X 26 3 rfl rfl (k := 0) (by omega) (by decide) (r := a 27) rfl dX11_copy_82 ?_
                refine lv_iload_n hx hb dX11_copy_83 rfl (lv_at hl 2 rfl) ?_
                refine lv_iload hx hb dX11_copy_84 (lv_at hl 5 rfl) ?_
                refine k_callV K X gv_X11_250 (As := [.int y, .int w]) (c_X7_hasFrom l E (fun j => a (27 + j)) (rb 0) (rz 0) (rn 0) y w) [27, 28] clsW_s14C (by decide +kernel) (fun _ => rowW_fst) 0 7 rfl rfl (by decide) rfl hl.1 (rest := []) rfl (Nat.le_of_ble_eq_true rfl) dX11_copy_86 (st1 := fun _ => [.int (b2i (hasR (rz 0) y w))]) (fun _ => rfl) (fun _ H locs _ X => ?_)
                have X : Wd E _ _ (clsW E a f g h ik one wo tp tl tk ts te tn rb rz rn td) _ _ := X.eq clsW_s14P
                refine k_ifeqB (B := (hasR (rz 0) y w)) hx hb 108 dX11_copy_89 (by decide) (fun c89 => ?_) (fun c89 => ?_)
                · refine lv_aload_n hx hb dX11_copy_108 rfl (lv_at hl 0 rfl) ?_
                  refine lv_iconst (v := 0) hx hb dX11_copy_109 (by decide) ?_
                  refine k_callV K X gv_X11_84 (As := [.int 0]) (c_X11_finding l E a f g h ik one wo tp tl tk ts te tn rb rz rn td 0 (by decide)) [0, 1, 2, 3, 4, 5, 6, 7, 8, 9, 10, 11, 12, 13, 14, 15, 16, 17, 18, 19, 20, 21, 22, 23, 24, 25, 26, 27, 28, 29, 30, 31, 32, 33, 34, 35, 36, 37, 38, 39, 40, 41, 42] clsW_idC (by decide +kernel) (fun _ => clsW_fst) 0 11 rfl rfl (by decide) rfl hl.1 (rest := []) rfl (Nat.le_of_ble_eq_true rfl) dX11_copy_110 (st1 := fun _ => [.int (fnd 0)]) (fun _ => rfl) (fun _ H locs _ X => ?_)
                  have X : Wd E _ _ (clsW E a f g h ik one wo tp tl tk ts te tn rb rz rn (fdU td 0)) _ _ := X.eq clsW_idP
                  exact k_topi (x' := (oCopy rb rz rn td (nI 0) y (nI 1) v w).1) (by simp [oCopy, hx0, ek, hy0, ej, c29, c41, c68, c89]) (fin () 113 _ _ _ trivial (X.eq (by simp [oCopy, hx0, ek, hy0, ej, c29, c41, c68, c89])) dX11_copy_113)
                · obtain ⟨a1, c1, rfl, rfl, hac⟩ := hasR_nat (J 0 (by decide)).1 hzx c89
                  have ea1 : (nI a1).toNatClampNeg = a1 := nI_clamp (by omega)
                  have ec1 : (nI c1).toNatClampNeg = c1 := nI_clamp (by omega)
                  refine lv_aload_n hx hb dX11_copy_92 rfl (lv_at hl 0 rfl) ?_
                  refine k_get K X 0 rfl fg_X11_71 (v := .ref (a 26)) rfl dX11_copy_93 ?_
                  refine lv_iload_n hx hb dX11_copy_96 rfl (lv_at hl 3 rfl) ?_
                  refine k_aaldN (C := "SlipWall$Row") K X 26 3 rfl rfl (k := 1) (by omega) (by decide) (r := a 29) rfl dX11_copy_97 ?_
                  refine lv_iload hx hb dX11_copy_98 (lv_at hl 4 rfl) ?_
                  refine lv_iload hx hb dX11_copy_100 (lv_at hl 5 rfl) ?_
                  refine k_callV K X gv_X11_250 (As := [.int v, .int (nI c1)]) (c_X7_hasFrom l E (fun j => a (29 + j)) (rb 1) (rz 1) (rn 1) v (nI c1)) [29, 30] clsW_s15C (by decide +kernel) (fun _ => rowW_fst) 0 7 rfl rfl (by decide) rfl hl.1 (rest := []) rfl (Nat.le_of_ble_eq_true rfl) dX11_copy_102 (st1 := fun _ => [.int (b2i (hasR (rz 1) v (nI c1)))]) (fun _ => rfl) (fun _ H locs _ X => ?_)
                  have X : Wd E _ _ (clsW E a f g h ik one wo tp tl tk ts te tn rb rz rn td) _ _ := X.eq clsW_s15P
                  refine k_ifneB (B := (hasR (rz 1) v (nI c1))) hx hb 114 dX11_copy_105 (by decide) (fun c105 => ?_) (fun c105 => ?_)
                  · obtain ⟨b1, rfl, hbc⟩ := hasR_nat2 (J 1 (by decide)).1 hzy (by omega) c105
                    have eb1 : (nI b1).toNatClampNeg = b1 := nI_clamp (by omega)
                    refine lv_aload_n hx hb dX11_copy_114 rfl (lv_at hl 0 rfl) ?_
                    refine k_get K X 0 rfl fg_X11_71 (v := .ref (a 26)) rfl dX11_copy_115 ?_
                    refine lv_iload_n hx hb dX11_copy_118 rfl (lv_at hl 1 rfl) ?_
                    refine k_aaldN (C := "SlipWall$Row") K X 26 3 rfl rfl (k := 0) (by omega) (by decide) (r := a 27) rfl dX11_copy_119 ?_
                    refine k_getN K X 27 rfl fg_X11_240 (v := .ref (a 28)) rfl dX11_copy_120 ?_
                    refine lv_iload_n hx hb dX11_copy_123 rfl (lv_at hl 2 rfl) ?_
                    refine lv_aload_n hx hb dX11_copy_124 rfl (lv_at hl 0 rfl) ?_
                    refine k_get K X 0 rfl fg_X11_71 (v := .ref (a 26)) rfl dX11_copy_125 ?_
                    refine lv_iload_n hx hb dX11_copy_128 rfl (lv_at hl 3 rfl) ?_
                    refine k_aaldN (C := "SlipWall$Row") K X 26 3 rfl rfl (k := 1) (by omega) (by decide) (r := a 29) rfl dX11_copy_129 ?_
                    refine k_getN K X 29 rfl fg_X11_240 (v := .ref (a 30)) rfl dX11_copy_130 ?_
                    refine lv_iload hx hb dX11_copy_133 (lv_at hl 4 rfl) ?_
                    refine lv_iload hx hb dX11_copy_135 (lv_at hl 5 rfl) ?_
                    refine k_copyl K X ⟨Mw_at 801 (by decide +kernel) (by decide +kernel), Mw_at 575 (by decide +kernel) (by decide +kernel), Mw_at 574 (by decide +kernel) (by decide +kernel), Mw_at 77 (by decide +kernel) (by decide +kernel)⟩ 28 30 (i := a1) (j := b1) (c := c1) rfl rfl (by omega) (by omega) hl.1 (by decide) (Nat.le_of_ble_eq_true rfl) dX11_copy_137 (fun H locs X => ?_)
                    have X : Wd E _ _ (clsW E a f g h ik one wo tp tl tk ts te tn rb rz (setRL rn 1 (va_cpy (rn 0) (rn 1) a1 b1 c1)) td) _ _ := X
                    refine lv_iload hx hb dX11_copy_140 (lv_at hl 5 rfl) ?_
                    exact k_topi (x' := (oCopy rb rz rn td (nI 0) (nI a1) (nI 1) (nI b1) (nI c1)).1) (by simp [oCopy, hx0, ek, hy0, ej, c29, c41, c68, c89, ea1, ec1, c105, eb1]) (fin () 142 _ _ _ trivial (X.eq (by simp [oCopy, hx0, ek, hy0, ej, c29, c41, c68, c89, ea1, ec1, c105, eb1])) dX11_copy_142)
                  · refine lv_aload_n hx hb dX11_copy_108 rfl (lv_at hl 0 rfl) ?_
                    refine lv_iconst (v := 0) hx hb dX11_copy_109 (by decide) ?_
                    refine k_callV K X gv_X11_84 (As := [.int 0]) (c_X11_finding l E a f g h ik one wo tp tl tk ts te tn rb rz rn td 0 (by decide)) [0, 1, 2, 3, 4, 5, 6, 7, 8, 9, 10, 11, 12, 13, 14, 15, 16, 17, 18, 19, 20, 21, 22, 23, 24, 25, 26, 27, 28, 29, 30, 31, 32, 33, 34, 35, 36, 37, 38, 39, 40, 41, 42] clsW_idC (by decide +kernel) (fun _ => clsW_fst) 0 11 rfl rfl (by decide) rfl hl.1 (rest := []) rfl (Nat.le_of_ble_eq_true rfl) dX11_copy_110 (st1 := fun _ => [.int (fnd 0)]) (fun _ => rfl) (fun _ H locs _ X => ?_)
                    have X : Wd E _ _ (clsW E a f g h ik one wo tp tl tk ts te tn rb rz rn (fdU td 0)) _ _ := X.eq clsW_idP
                    exact k_topi (x' := (oCopy rb rz rn td (nI 0) (nI a1) (nI 1) v (nI c1)).1) (by simp [oCopy, hx0, ek, hy0, ej, c29, c41, c68, c89, ea1, ec1, c105]) (fin () 113 _ _ _ trivial (X.eq (by simp [oCopy, hx0, ek, hy0, ej, c29, c41, c68, c89, ea1, ec1, c105])) dX11_copy_113)
              · refine lv_aload_n hx hb dX11_copy_71 rfl (lv_at hl 0 rfl) ?_
                refine lv_iconst (v := 2) hx hb dX11_copy_72 (by decide) ?_
                refine k_callV K X gv_X11_84 (As := [.int 2]) (c_X11_finding l E a f g h ik one wo tp tl tk ts te tn rb rz rn td 2 (by decide)) [0, 1, 2, 3, 4, 5, 6, 7, 8, 9, 10, 11, 12, 13, 14, 15, 16, 17, 18, 19, 20, 21, 22, 23, 24, 25, 26, 27, 28, 29, 30, 31, 32, 33, 34, 35, 36, 37, 38, 39, 40, 41, 42] clsW_idC (by decide +kernel) (fun _ => clsW_fst) 0 11 rfl rfl (by decide) rfl hl.1 (rest := []) rfl (Nat.le_of_ble_eq_true rfl) dX11_copy_73 (st1 := fun _ => [.int (fnd 2)]) (fun _ => rfl) (fun _ H locs _ X => ?_)
                have X : Wd E _ _ (clsW E a f g h ik one wo tp tl tk ts te tn rb rz rn (fdU td 2)) _ _ := X.eq clsW_idP
                exact k_topi (x' := (oCopy rb rz rn td (nI 0) y (nI 1) v w).1) (by simp [oCopy, hx0, ek, hy0, ej, c29, c41, c68]) (fin () 76 _ _ _ trivial (X.eq (by simp [oCopy, hx0, ek, hy0, ej, c29, c41, c68])) dX11_copy_76)
            · refine lv_aload_n hx hb dX11_copy_44 rfl (lv_at hl 0 rfl) ?_
              refine lv_iconst (v := 5) hx hb dX11_copy_45 (by decide) ?_
              refine k_callV K X gv_X11_84 (As := [.int 5]) (c_X11_finding l E a f g h ik one wo tp tl tk ts te tn rb rz rn td 5 (by decide)) [0, 1, 2, 3, 4, 5, 6, 7, 8, 9, 10, 11, 12, 13, 14, 15, 16, 17, 18, 19, 20, 21, 22, 23, 24, 25, 26, 27, 28, 29, 30, 31, 32, 33, 34, 35, 36, 37, 38, 39, 40, 41, 42] clsW_idC (by decide +kernel) (fun _ => clsW_fst) 0 11 rfl rfl (by decide) rfl hl.1 (rest := []) rfl (Nat.le_of_ble_eq_true rfl) dX11_copy_46 (st1 := fun _ => [.int (fnd 5)]) (fun _ => rfl) (fun _ H locs _ X => ?_)
              have X : Wd E _ _ (clsW E a f g h ik one wo tp tl tk ts te tn rb rz rn (fdU td 5)) _ _ := X.eq clsW_idP
              exact k_topi (x' := (oCopy rb rz rn td (nI 0) y (nI 1) v w).1) (by simp [oCopy, hx0, ek, hy0, ej, c29, c41]) (fin () 49 _ _ _ trivial (X.eq (by simp [oCopy, hx0, ek, hy0, ej, c29, c41])) dX11_copy_49)
          · have hzy := (J 2 (by decide)).2
            refine lv_iload_n hx hb dX11_copy_36 rfl (lv_at hl 3 rfl) ?_
            refine k_aaldN (C := "SlipWall$Row") K X 26 3 rfl rfl (k := 2) (by omega) (by decide) (r := a 31) rfl dX11_copy_37 ?_
            refine k_callV K X gv_X11_236 (As := []) (c_X7_isMissing l E (fun j => a (31 + j)) (rb 2) (rz 2) (rn 2)) [31, 32] clsW_s16C (by decide +kernel) (fun _ => rowW_fst) 0 7 rfl rfl (by decide) rfl hl.1 (rest := []) rfl (Nat.le_of_ble_eq_true rfl) dX11_copy_38 (st1 := fun _ => [.int (b2i (decide ((rb 2) = 0)))]) (fun _ => rfl) (fun _ H locs _ X => ?_)
            have X : Wd E _ _ (clsW E a f g h ik one wo tp tl tk ts te tn rb rz rn td) _ _ := X.eq clsW_s16P
            refine k_ifeqB (B := (decide ((rb 2) = 0))) hx hb 50 dX11_copy_41 (by decide) (fun c41 => ?_) (fun c41 => ?_)
            · refine lv_aload_n hx hb dX11_copy_50 rfl (lv_at hl 0 rfl) ?_
              refine k_get K X 0 rfl fg_X11_71 (v := .ref (a 26)) rfl dX11_copy_51 ?_
              refine lv_iload_n hx hb dX11_copy_54 rfl (lv_at hl 1 rfl) ?_
              refine k_aaldN (C := "SlipWall$Row") K X 26 3 rfl rfl (k := 0) (by omega) (by decide) (r := a 27) rfl dX11_copy_55 ?_
              refine k_getN K X 27 rfl fg_X11_247 (v := .int (rb 0)) rfl dX11_copy_56 ?_
              refine lv_aload_n hx hb dX11_copy_59 rfl (lv_at hl 0 rfl) ?_
              refine k_get K X 0 rfl fg_X11_71 (v := .ref (a 26)) rfl dX11_copy_60 ?_
              refine lv_iload_n hx hb dX11_copy_63 rfl (lv_at hl 3 rfl) ?_
              refine k_aaldN (C := "SlipWall$Row") K X 26 3 rfl rfl (k := 2) (by omega) (by decide) (r := a 31) rfl dX11_copy_64 ?_
              refine k_getN K X 31 rfl fg_X11_247 (v := .int (rb 2)) rfl dX11_copy_65 ?_
              refine k_icmp_eq (x := rb 0) (y := rb 2) hx hb 77 dX11_copy_68 (by decide) (fun c68 => ?_) (fun c68 => ?_)
              · refine lv_aload_n hx hb dX11_copy_77 rfl (lv_at hl 0 rfl) ?_
                refine k_get K X 0 rfl fg_X11_71 (v := .ref (a 26)) rfl dX11_copy_78 ?_
                refine lv_iload_n hx hb dX11_copy_81 rfl (lv_at hl 1 rfl) ?_
                refine k_aaldN (C := "SlipWall$Row") K X 26 3 rfl rfl (k := 0) (by omega) (by decide) (r := a 27) rfl dX11_copy_82 ?_
                refine lv_iload_n hx hb dX11_copy_83 rfl (lv_at hl 2 rfl) ?_
                refine lv_iload hx hb dX11_copy_84 (lv_at hl 5 rfl) ?_
                refine k_callV K X gv_X11_250 (As := [.int y, .int w]) (c_X7_hasFrom l E (fun j => a (27 + j)) (rb 0) (rz 0) (rn 0) y w) [27, 28] clsW_s14C (by decide +kernel) (fun _ => rowW_fst) 0 7 rfl rfl (by decide) rfl hl.1 (rest := []) rfl (Nat.le_of_ble_eq_true rfl) dX11_copy_86 (st1 := fun _ => [.int (b2i (hasR (rz 0) y w))]) (fun _ => rfl) (fun _ H locs _ X => ?_)
                have X : Wd E _ _ (clsW E a f g h ik one wo tp tl tk ts te tn rb rz rn td) _ _ := X.eq clsW_s14P
                refine k_ifeqB (B := (hasR (rz 0) y w)) hx hb 108 dX11_copy_89 (by decide) (fun c89 => ?_) (fun c89 => ?_)
                · refine lv_aload_n hx hb dX11_copy_108 rfl (lv_at hl 0 rfl) ?_
                  refine lv_iconst (v := 0) hx hb dX11_copy_109 (by decide) ?_
                  refine k_callV K X gv_X11_84 (As := [.int 0]) (c_X11_finding l E a f g h ik one wo tp tl tk ts te tn rb rz rn td 0 (by decide)) [0, 1, 2, 3, 4, 5, 6, 7, 8, 9, 10, 11, 12, 13, 14, 15, 16, 17, 18, 19, 20, 21, 22, 23, 24, 25, 26, 27, 28, 29, 30, 31, 32, 33, 34, 35, 36, 37, 38, 39, 40, 41, 42] clsW_idC (by decide +kernel) (fun _ => clsW_fst) 0 11 rfl rfl (by decide) rfl hl.1 (rest := []) rfl (Nat.le_of_ble_eq_true rfl) dX11_copy_110 (st1 := fun _ => [.int (fnd 0)]) (fun _ => rfl) (fun _ H locs _ X => ?_)
                  have X : Wd E _ _ (clsW E a f g h ik one wo tp tl tk ts te tn rb rz rn (fdU td 0)) _ _ := X.eq clsW_idP
                  exact k_topi (x' := (oCopy rb rz rn td (nI 0) y (nI 2) v w).1) (by simp [oCopy, hx0, ek, hy0, ej, c29, c41, c68, c89]) (fin () 113 _ _ _ trivial (X.eq (by simp [oCopy, hx0, ek, hy0, ej, c29, c41, c68, c89])) dX11_copy_113)
                · obtain ⟨a1, c1, rfl, rfl, hac⟩ := hasR_nat (J 0 (by decide)).1 hzx c89
                  have ea1 : (nI a1).toNatClampNeg = a1 := nI_clamp (by omega)
                  have ec1 : (nI c1).toNatClampNeg = c1 := nI_clamp (by omega)
                  refine lv_aload_n hx hb dX11_copy_92 rfl (lv_at hl 0 rfl) ?_
                  refine k_get K X 0 rfl fg_X11_71 (v := .ref (a 26)) rfl dX11_copy_93 ?_
                  refine lv_iload_n hx hb dX11_copy_96 rfl (lv_at hl 3 rfl) ?_
                  refine k_aaldN (C := "SlipWall$Row") K X 26 3 rfl rfl (k := 2) (by omega) (by decide) (r := a 31) rfl dX11_copy_97 ?_
                  refine lv_iload hx hb dX11_copy_98 (lv_at hl 4 rfl) ?_
                  refine lv_iload hx hb dX11_copy_100 (lv_at hl 5 rfl) ?_
                  refine k_callV K X gv_X11_250 (As := [.int v, .int (nI c1)]) (c_X7_hasFrom l E (fun j => a (31 + j)) (rb 2) (rz 2) (rn 2) v (nI c1)) [31, 32] clsW_s16C (by decide +kernel) (fun _ => rowW_fst) 0 7 rfl rfl (by decide) rfl hl.1 (rest := []) rfl (Nat.le_of_ble_eq_true rfl) dX11_copy_102 (st1 := fun _ => [.int (b2i (hasR (rz 2) v (nI c1)))]) (fun _ => rfl) (fun _ H locs _ X => ?_)
                  have X : Wd E _ _ (clsW E a f g h ik one wo tp tl tk ts te tn rb rz rn td) _ _ := X.eq clsW_s16P
                  refine k_ifneB (B := (hasR (rz 2) v (nI c1))) hx hb 114 dX11_copy_105 (by decide) (fun c105 => ?_) (fun c105 => ?_)
                  · obtain ⟨b1, rfl, hbc⟩ := hasR_nat2 (J 2 (by decide)).1 hzy (by omega) c105
                    have eb1 : (nI b1).toNatClampNeg = b1 := nI_clamp (by omega)
                    refine lv_aload_n hx hb dX11_copy_114 rfl (lv_at hl 0 rfl) ?_
                    refine k_get K X 0 rfl fg_X11_71 (v := .ref (a 26)) rfl dX11_copy_115 ?_
                    refine lv_iload_n hx hb dX11_copy_118 rfl (lv_at hl 1 rfl) ?_
                    refine k_aaldN (C := "SlipWall$Row") K X 26 3 rfl rfl (k := 0) (by omega) (by decide) (r := a 27) rfl dX11_copy_119 ?_
                    refine k_getN K X 27 rfl fg_X11_240 (v := .ref (a 28)) rfl dX11_copy_120 ?_
                    refine lv_iload_n hx hb dX11_copy_123 rfl (lv_at hl 2 rfl) ?_
                    refine lv_aload_n hx hb dX11_copy_124 rfl (lv_at hl 0 rfl) ?_
                    refine k_get K X 0 rfl fg_X11_71 (v := .ref (a 26)) rfl dX11_copy_125 ?_
                    refine lv_iload_n hx hb dX11_copy_128 rfl (lv_at hl 3 rfl) ?_
                    refine k_aaldN (C := "SlipWall$Row") K X 26 3 rfl rfl (k := 2) (by omega) (by decide) (r := a 31) rfl dX11_copy_129 ?_
                    refine k_getN K X 31 rfl fg_X11_240 (v := .ref (a 32)) rfl dX11_copy_130 ?_
                    refine lv_iload hx hb dX11_copy_133 (lv_at hl 4 rfl) ?_
                    refine lv_iload hx hb dX11_copy_135 (lv_at hl 5 rfl) ?_
                    refine k_copyl K X ⟨Mw_at 801 (by decide +kernel) (by decide +kernel), Mw_at 575 (by decide +kernel) (by decide +kernel), Mw_at 574 (by decide +kernel) (by decide +kernel), Mw_at 77 (by decide +kernel) (by decide +kernel)⟩ 28 32 (i := a1) (j := b1) (c := c1) rfl rfl (by omega) (by omega) hl.1 (by decide) (Nat.le_of_ble_eq_true rfl) dX11_copy_137 (fun H locs X => ?_)
                    have X : Wd E _ _ (clsW E a f g h ik one wo tp tl tk ts te tn rb rz (setRL rn 2 (va_cpy (rn 0) (rn 2) a1 b1 c1)) td) _ _ := X
                    refine lv_iload hx hb dX11_copy_140 (lv_at hl 5 rfl) ?_
                    exact k_topi (x' := (oCopy rb rz rn td (nI 0) (nI a1) (nI 2) (nI b1) (nI c1)).1) (by simp [oCopy, hx0, ek, hy0, ej, c29, c41, c68, c89, ea1, ec1, c105, eb1]) (fin () 142 _ _ _ trivial (X.eq (by simp [oCopy, hx0, ek, hy0, ej, c29, c41, c68, c89, ea1, ec1, c105, eb1])) dX11_copy_142)
                  · refine lv_aload_n hx hb dX11_copy_108 rfl (lv_at hl 0 rfl) ?_
                    refine lv_iconst (v := 0) hx hb dX11_copy_109 (by decide) ?_
                    refine k_callV K X gv_X11_84 (As := [.int 0]) (c_X11_finding l E a f g h ik one wo tp tl tk ts te tn rb rz rn td 0 (by decide)) [0, 1, 2, 3, 4, 5, 6, 7, 8, 9, 10, 11, 12, 13, 14, 15, 16, 17, 18, 19, 20, 21, 22, 23, 24, 25, 26, 27, 28, 29, 30, 31, 32, 33, 34, 35, 36, 37, 38, 39, 40, 41, 42] clsW_idC (by decide +kernel) (fun _ => clsW_fst) 0 11 rfl rfl (by decide) rfl hl.1 (rest := []) rfl (Nat.le_of_ble_eq_true rfl) dX11_copy_110 (st1 := fun _ => [.int (fnd 0)]) (fun _ => rfl) (fun _ H locs _ X => ?_)
                    have X : Wd E _ _ (clsW E a f g h ik one wo tp tl tk ts te tn rb rz rn (fdU td 0)) _ _ := X.eq clsW_idP
                    exact k_topi (x' := (oCopy rb rz rn td (nI 0) (nI a1) (nI 2) v (nI c1)).1) (by simp [oCopy, hx0, ek, hy0, ej, c29, c41, c68, c89, ea1, ec1, c105]) (fin () 113 _ _ _ trivial (X.eq (by simp [oCopy, hx0, ek, hy0, ej, c29, c41, c68, c89, ea1, ec1, c105])) dX11_copy_113)
              · refine lv_aload_n hx hb dX11_copy_71 rfl (lv_at hl 0 rfl) ?_
                refine lv_iconst (v := 2) hx hb dX11_copy_72 (by decide) ?_
                refine k_callV K X gv_X11_84 (As := [.int 2]) (c_X11_finding l E a f g h ik one wo tp tl tk ts te tn rb rz rn td 2 (by decide)) [0, 1, 2, 3, 4, 5, 6, 7, 8, 9, 10, 11, 12, 13, 14, 15, 16, 17, 18, 19, 20, 21, 22, 23, 24, 25, 26, 27, 28, 29, 30, 31, 32, 33, 34, 35, 36, 37, 38, 39, 40, 41, 42] clsW_idC (by decide +kernel) (fun _ => clsW_fst) 0 11 rfl rfl (by decide) rfl hl.1 (rest := []) rfl (Nat.le_of_ble_eq_true rfl) dX11_copy_73 (st1 := fun _ => [.int (fnd 2)]) (fun _ => rfl) (fun _ H locs _ X => ?_)
                have X : Wd E _ _ (clsW E a f g h ik one wo tp tl tk ts te tn rb rz rn (fdU td 2)) _ _ := X.eq clsW_idP
                exact k_topi (x' := (oCopy rb rz rn td (nI 0) y (nI 2) v w).1) (by simp [oCopy, hx0, ek, hy0, ej, c29, c41, c68]) (fin () 76 _ _ _ trivial (X.eq (by simp [oCopy, hx0, ek, hy0, ej, c29, c41, c68])) dX11_copy_76)
            · refine lv_aload_n hx hb dX11_copy_44 rfl (lv_at hl 0 rfl) ?_
              refine lv_iconst (v := 5) hx hb dX11_copy_45 (by decide) ?_
              refine k_callV K X gv_X11_84 (As := [.int 5]) (c_X11_finding l E a f g h ik one wo tp tl tk ts te tn rb rz rn td 5 (by decide)) [0, 1, 2, 3, 4, 5, 6, 7, 8, 9, 10, 11, 12, 13, 14, 15, 16, 17, 18, 19, 20, 21, 22, 23, 24, 25, 26, 27, 28, 29, 30, 31, 32, 33, 34, 35, 36, 37, 38, 39, 40, 41, 42] clsW_idC (by decide +kernel) (fun _ => clsW_fst) 0 11 rfl rfl (by decide) rfl hl.1 (rest := []) rfl (Nat.le_of_ble_eq_true rfl) dX11_copy_46 (st1 := fun _ => [.int (fnd 5)]) (fun _ => rfl) (fun _ H locs _ X => ?_)
              have X : Wd E _ _ (clsW E a f g h ik one wo tp tl tk ts te tn rb rz rn (fdU td 5)) _ _ := X.eq clsW_idP
              exact k_topi (x' := (oCopy rb rz rn td (nI 0) y (nI 2) v w).1) (by simp [oCopy, hx0, ek, hy0, ej, c29, c41]) (fin () 49 _ _ _ trivial (X.eq (by simp [oCopy, hx0, ek, hy0, ej, c29, c41])) dX11_copy_49)
          · have hzy := (J 3 (by decide)).2
            refine lv_iload_n hx hb dX11_copy_36 rfl (lv_at hl 3 rfl) ?_
            refine k_aaldN (C := "SlipWall$Row") K X 26 3 rfl rfl (k := 3) (by omega) (by decide) (r := a 33) rfl dX11_copy_37 ?_
            refine k_callV K X gv_X11_236 (As := []) (c_X7_isMissing l E (fun j => a (33 + j)) (rb 3) (rz 3) (rn 3)) [33, 34] clsW_s17C (by decide +kernel) (fun _ => rowW_fst) 0 7 rfl rfl (by decide) rfl hl.1 (rest := []) rfl (Nat.le_of_ble_eq_true rfl) dX11_copy_38 (st1 := fun _ => [.int (b2i (decide ((rb 3) = 0)))]) (fun _ => rfl) (fun _ H locs _ X => ?_)
            have X : Wd E _ _ (clsW E a f g h ik one wo tp tl tk ts te tn rb rz rn td) _ _ := X.eq clsW_s17P
            refine k_ifeqB (B := (decide ((rb 3) = 0))) hx hb 50 dX11_copy_41 (by decide) (fun c41 => ?_) (fun c41 => ?_)
            · refine lv_aload_n hx hb dX11_copy_50 rfl (lv_at hl 0 rfl) ?_
              refine k_get K X 0 rfl fg_X11_71 (v := .ref (a 26)) rfl dX11_copy_51 ?_
              refine lv_iload_n hx hb dX11_copy_54 rfl (lv_at hl 1 rfl) ?_
              refine k_aaldN (C := "SlipWall$Row") K X 26 3 rfl rfl (k := 0) (by omega) (by decide) (r := a 27) rfl dX11_copy_55 ?_
              refine k_getN K X 27 rfl fg_X11_247 (v := .int (rb 0)) rfl dX11_copy_56 ?_
              refine lv_aload_n hx hb dX11_copy_59 rfl (lv_at hl 0 rfl) ?_
              refine k_get K X 0 rfl fg_X11_71 (v := .ref (a 26)) rfl dX11_copy_60 ?_
              refine lv_iload_n hx hb dX11_copy_63 rfl (lv_at hl 3 rfl) ?_
              refine k_aaldN (C := "SlipWall$Row") K X 26 3 rfl rfl (k := 3) (by omega) (by decide) (r := a 33) rfl dX11_copy_64 ?_
              refine k_getN K X 33 rfl fg_X11_247 (v := .int (rb 3)) rfl dX11_copy_65 ?_
              refine k_icmp_eq (x := rb 0) (y := rb 3) hx hb 77 dX11_copy_68 (by decide) (fun c68 => ?_) (fun c68 => ?_)
              · refine lv_aload_n hx hb dX11_copy_77 rfl (lv_at hl 0 rfl) ?_
                refine k_get K X 0 rfl fg_X11_71 (v := .ref (a 26)) rfl dX11_copy_78 ?_
                refine lv_iload_n hx hb dX11_copy_81 rfl (lv_at hl 1 rfl) ?_
                refine k_aaldN (C := "SlipWall$Row") K X 26 3 rfl rfl (k := 0) (by omega) (by decide) (r := a 27) rfl dX11_copy_82 ?_
                refine lv_iload_n hx hb dX11_copy_83 rfl (lv_at hl 2 rfl) ?_
                refine lv_iload hx hb dX11_copy_84 (lv_at hl 5 rfl) ?_
                refine k_callV K X gv_X11_250 (As := [.int y, .int w]) (c_X7_hasFrom l E (fun j => a (27 + j)) (rb 0) (rz 0) (rn 0) y w) [27, 28] clsW_s14C (by decide +kernel) (fun _ => rowW_fst) 0 7 rfl rfl (by decide) rfl hl.1 (rest := []) rfl (Nat.le_of_ble_eq_true rfl) dX11_copy_86 (st1 := fun _ => [.int (b2i (hasR (rz 0) y w))]) (fun _ => rfl) (fun _ H locs _ X => ?_)
                have X : Wd E _ _ (clsW E a f g h ik one wo tp tl tk ts te tn rb rz rn td) _ _ := X.eq clsW_s14P
                refine k_ifeqB (B := (hasR (rz 0) y w)) hx hb 108 dX11_copy_89 (by decide) (fun c89 => ?_) (fun c89 => ?_)
                · refine lv_aload_n hx hb dX11_copy_108 rfl (lv_at hl 0 rfl) ?_
                  refine lv_iconst (v := 0) hx hb dX11_copy_109 (by decide) ?_
                  refine k_callV K X gv_X11_84 (As := [.int 0]) (c_X11_finding l E a f g h ik one wo tp tl tk ts te tn rb rz rn td 0 (by decide)) [0, 1, 2, 3, 4, 5, 6, 7, 8, 9, 10, 11, 12, 13, 14, 15, 16, 17, 18, 19, 20, 21, 22, 23, 24, 25, 26, 27, 28, 29, 30, 31, 32, 33, 34, 35, 36, 37, 38, 39, 40, 41, 42] clsW_idC (by decide +kernel) (fun _ => clsW_fst) 0 11 rfl rfl (by decide) rfl hl.1 (rest := []) rfl (Nat.le_of_ble_eq_true rfl) dX11_copy_110 (st1 := fun _ => [.int (fnd 0)]) (fun _ => rfl) (fun _ H locs _ X => ?_)
                  have X : Wd E _ _ (clsW E a f g h ik one wo tp tl tk ts te tn rb rz rn (fdU td 0)) _ _ := X.eq clsW_idP
                  exact k_topi (x' := (oCopy rb rz rn td (nI 0) y (nI 3) v w).1) (by simp [oCopy, hx0, ek, hy0, ej, c29, c41, c68, c89]) (fin () 113 _ _ _ trivial (X.eq (by simp [oCopy, hx0, ek, hy0, ej, c29, c41, c68, c89])) dX11_copy_113)
                · obtain ⟨a1, c1, rfl, rfl, hac⟩ := hasR_nat (J 0 (by decide)).1 hzx c89
                  have ea1 : (nI a1).toNatClampNeg = a1 := nI_clamp (by omega)
                  have ec1 : (nI c1).toNatClampNeg = c1 := nI_clamp (by omega)
                  refine lv_aload_n hx hb dX11_copy_92 rfl (lv_at hl 0 rfl) ?_
                  refine k_get K X 0 rfl fg_X11_71 (v := .ref (a 26)) rfl dX11_copy_93 ?_
                  refine lv_iload_n hx hb dX11_copy_96 rfl (lv_at hl 3 rfl) ?_
                  refine k_aaldN (C := "SlipWall$Row") K X 26 3 rfl rfl (k := 3) (by omega) (by decide) (r := a 33) rfl dX11_copy_97 ?_
                  refine lv_iload hx hb dX11_copy_98 (lv_at hl 4 rfl) ?_
                  refine lv_iload hx hb dX11_copy_100 (lv_at hl 5 rfl) ?_
                  refine k_callV K X gv_X11_250 (As := [.int v, .int (nI c1)]) (c_X7_hasFrom l E (fun j => a (33 + j)) (rb 3) (rz 3) (rn 3) v (nI c1)) [33, 34] clsW_s17C (by decide +kernel) (fun _ => rowW_fst) 0 7 rfl rfl (by decide) rfl hl.1 (rest := []) rfl (Nat.le_of_ble_eq_true rfl) dX11_copy_102 (st1 := fun _ => [.int (b2i (hasR (rz 3) v (nI c1)))]) (fun _ => rfl) (fun _ H locs _ X => ?_)
                  have X : Wd E _ _ (clsW E a f g h ik one wo tp tl tk ts te tn rb rz rn td) _ _ := X.eq clsW_s17P
                  refine k_ifneB (B := (hasR (rz 3) v (nI c1))) hx hb 114 dX11_copy_105 (by decide) (fun c105 => ?_) (fun c105 => ?_)
                  · obtain ⟨b1, rfl, hbc⟩ := hasR_nat2 (J 3 (by decide)).1 hzy (by omega) c105
                    have eb1 : (nI b1).toNatClampNeg = b1 := nI_clamp (by omega)
                    refine lv_aload_n hx hb dX11_copy_114 rfl (lv_at hl 0 rfl) ?_
                    refine k_get K X 0 rfl fg_X11_71 (v := .ref (a 26)) rfl dX11_copy_115 ?_
                    refine lv_iload_n hx hb dX11_copy_118 rfl (lv_at hl 1 rfl) ?_
                    refine k_aaldN (C := "SlipWall$Row") K X 26 3 rfl rfl (k := 0) (by omega) (by decide) (r := a 27) rfl dX11_copy_119 ?_
                    refine k_getN K X 27 rfl fg_X11_240 (v := .ref (a 28)) rfl dX11_copy_120 ?_
                    refine lv_iload_n hx hb dX11_copy_123 rfl (lv_at hl 2 rfl) ?_
                    refine lv_aload_n hx hb dX11_copy_124 rfl (lv_at hl 0 rfl) ?_
                    refine k_get K X 0 rfl fg_X11_71 (v := .ref (a 26)) rfl dX11_copy_125 ?_
                    refine lv_iload_n hx hb dX11_copy_128 rfl (lv_at hl 3 rfl) ?_
                    refine k_aaldN (C := "SlipWall$Row") K X 26 3 rfl rfl (k := 3) (by omega) (by decide) (r := a 33) rfl dX11_copy_129 ?_
                    refine k_getN K X 33 rfl fg_X11_240 (v := .ref (a 34)) rfl dX11_copy_130 ?_
                    refine lv_iload hx hb dX11_copy_133 (lv_at hl 4 rfl) ?_
                    refine lv_iload hx hb dX11_copy_135 (lv_at hl 5 rfl) ?_
                    refine k_copyl K X ⟨Mw_at 801 (by decide +kernel) (by decide +kernel), Mw_at 575 (by decide +kernel) (by decide +kernel), Mw_at 574 (by decide +kernel) (by decide +kernel), Mw_at 77 (by decide +kernel) (by decide +kernel)⟩ 28 34 (i := a1) (j := b1) (c := c1) rfl rfl (by omega) (by omega) hl.1 (by decide) (Nat.le_of_ble_eq_true rfl) dX11_copy_137 (fun H locs X => ?_)
                    have X : Wd E _ _ (clsW E a f g h ik one wo tp tl tk ts te tn rb rz (setRL rn 3 (va_cpy (rn 0) (rn 3) a1 b1 c1)) td) _ _ := X
                    refine lv_iload hx hb dX11_copy_140 (lv_at hl 5 rfl) ?_
                    exact k_topi (x' := (oCopy rb rz rn td (nI 0) (nI a1) (nI 3) (nI b1) (nI c1)).1) (by simp [oCopy, hx0, ek, hy0, ej, c29, c41, c68, c89, ea1, ec1, c105, eb1]) (fin () 142 _ _ _ trivial (X.eq (by simp [oCopy, hx0, ek, hy0, ej, c29, c41, c68, c89, ea1, ec1, c105, eb1])) dX11_copy_142)
                  · refine lv_aload_n hx hb dX11_copy_108 rfl (lv_at hl 0 rfl) ?_
                    refine lv_iconst (v := 0) hx hb dX11_copy_109 (by decide) ?_
                    refine k_callV K X gv_X11_84 (As := [.int 0]) (c_X11_finding l E a f g h ik one wo tp tl tk ts te tn rb rz rn td 0 (by decide)) [0, 1, 2, 3, 4, 5, 6, 7, 8, 9, 10, 11, 12, 13, 14, 15, 16, 17, 18, 19, 20, 21, 22, 23, 24, 25, 26, 27, 28, 29, 30, 31, 32, 33, 34, 35, 36, 37, 38, 39, 40, 41, 42] clsW_idC (by decide +kernel) (fun _ => clsW_fst) 0 11 rfl rfl (by decide) rfl hl.1 (rest := []) rfl (Nat.le_of_ble_eq_true rfl) dX11_copy_110 (st1 := fun _ => [.int (fnd 0)]) (fun _ => rfl) (fun _ H locs _ X => ?_)
                    have X : Wd E _ _ (clsW E a f g h ik one wo tp tl tk ts te tn rb rz rn (fdU td 0)) _ _ := X.eq clsW_idP
                    exact k_topi (x' := (oCopy rb rz rn td (nI 0) (nI a1) (nI 3) v (nI c1)).1) (by simp [oCopy, hx0, ek, hy0, ej, c29, c41, c68, c89, ea1, ec1, c105]) (fin () 113 _ _ _ trivial (X.eq (by simp [oCopy, hx0, ek, hy0, ej, c29, c41, c68, c89, ea1, ec1, c105])) dX11_copy_113)
              · refine lv_aload_n hx hb dX11_copy_71 rfl (lv_at hl 0 rfl) ?_
                refine lv_iconst (v := 2) hx hb dX11_copy_72 (by decide) ?_
                refine k_callV K X gv_X11_84 (As := [.int 2]) (c_X11_finding l E a f g h ik one wo tp tl tk ts te tn rb rz rn td 2 (by decide)) [0, 1, 2, 3, 4, 5, 6, 7, 8, 9, 10, 11, 12, 13, 14, 15, 16, 17, 18, 19, 20, 21, 22, 23, 24, 25, 26, 27, 28, 29, 30, 31, 32, 33, 34, 35, 36, 37, 38, 39, 40, 41, 42] clsW_idC (by decide +kernel) (fun _ => clsW_fst) 0 11 rfl rfl (by decide) rfl hl.1 (rest := []) rfl (Nat.le_of_ble_eq_true rfl) dX11_copy_73 (st1 := fun _ => [.int (fnd 2)]) (fun _ => rfl) (fun _ H locs _ X => ?_)
                have X : Wd E _ _ (clsW E a f g h ik one wo tp tl tk ts te tn rb rz rn (fdU td 2)) _ _ := X.eq clsW_idP
                exact k_topi (x' := (oCopy rb rz rn td (nI 0) y (nI 3) v w).1) (by simp [oCopy, hx0, ek, hy0, ej, c29, c41, c68]) (fin () 76 _ _ _ trivial (X.eq (by simp [oCopy, hx0, ek, hy0, ej, c29, c41, c68])) dX11_copy_76)
            · refine lv_aload_n hx hb dX11_copy_44 rfl (lv_at hl 0 rfl) ?_
              refine lv_iconst (v := 5) hx hb dX11_copy_45 (by decide) ?_
              refine k_callV K X gv_X11_84 (As := [.int 5]) (c_X11_finding l E a f g h ik one wo tp tl tk ts te tn rb rz rn td 5 (by decide)) [0, 1, 2, 3, 4, 5, 6, 7, 8, 9, 10, 11, 12, 13, 14, 15, 16, 17, 18, 19, 20, 21, 22, 23, 24, 25, 26, 27, 28, 29, 30, 31, 32, 33, 34, 35, 36, 37, 38, 39, 40, 41, 42] clsW_idC (by decide +kernel) (fun _ => clsW_fst) 0 11 rfl rfl (by decide) rfl hl.1 (rest := []) rfl (Nat.le_of_ble_eq_true rfl) dX11_copy_46 (st1 := fun _ => [.int (fnd 5)]) (fun _ => rfl) (fun _ H locs _ X => ?_)
              have X : Wd E _ _ (clsW E a f g h ik one wo tp tl tk ts te tn rb rz rn (fdU td 5)) _ _ := X.eq clsW_idP
              exact k_topi (x' := (oCopy rb rz rn td (nI 0) y (nI 3) v w).1) (by simp [oCopy, hx0, ek, hy0, ej, c29, c41]) (fin () 49 _ _ _ trivial (X.eq (by simp [oCopy, hx0, ek, hy0, ej, c29, c41])) dX11_copy_49)
      · have hzx := (J 1 (by decide)).2
        refine lv_iload_n hx hb dX11_copy_24 rfl (lv_at hl 1 rfl) ?_
        refine k_aaldN (C := "SlipWall$Row") K X 26 3 rfl rfl (k := 1) (by omega) (by decide) (r := a 29) rfl dX11_copy_25 ?_
        refine k_callV K X gv_X11_236 (As := []) (c_X7_isMissing l E (fun j => a (29 + j)) (rb 1) (rz 1) (rn 1)) [29, 30] clsW_s15C (by decide +kernel) (fun _ => rowW_fst) 0 7 rfl rfl (by decide) rfl hl.1 (rest := []) rfl (Nat.le_of_ble_eq_true rfl) dX11_copy_26 (st1 := fun _ => [.int (b2i (decide ((rb 1) = 0)))]) (fun _ => rfl) (fun _ H locs _ X => ?_)
        have X : Wd E _ _ (clsW E a f g h ik one wo tp tl tk ts te tn rb rz rn td) _ _ := X.eq clsW_s15P
        refine k_ifneB (B := (decide ((rb 1) = 0))) hx hb 44 dX11_copy_29 (by decide) (fun c29 => ?_) (fun c29 => ?_)
        · refine lv_aload_n hx hb dX11_copy_44 rfl (lv_at hl 0 rfl) ?_
          refine lv_iconst (v := 5) hx hb dX11_copy_45 (by decide) ?_
          refine k_callV K X gv_X11_84 (As := [.int 5]) (c_X11_finding l E a f g h ik one wo tp tl tk ts te tn rb rz rn td 5 (by decide)) [0, 1, 2, 3, 4, 5, 6, 7, 8, 9, 10, 11, 12, 13, 14, 15, 16, 17, 18, 19, 20, 21, 22, 23, 24, 25, 26, 27, 28, 29, 30, 31, 32, 33, 34, 35, 36, 37, 38, 39, 40, 41, 42] clsW_idC (by decide +kernel) (fun _ => clsW_fst) 0 11 rfl rfl (by decide) rfl hl.1 (rest := []) rfl (Nat.le_of_ble_eq_true rfl) dX11_copy_46 (st1 := fun _ => [.int (fnd 5)]) (fun _ => rfl) (fun _ H locs _ X => ?_)
          have X : Wd E _ _ (clsW E a f g h ik one wo tp tl tk ts te tn rb rz rn (fdU td 5)) _ _ := X.eq clsW_idP
          exact k_topi (x' := (oCopy rb rz rn td (nI 1) y (nI j) v w).1) (by simp [oCopy, hx0, ek, hy0, ej, c29]) (fin () 49 _ _ _ trivial (X.eq (by simp [oCopy, hx0, ek, hy0, ej, c29])) dX11_copy_49)
        · refine lv_aload_n hx hb dX11_copy_32 rfl (lv_at hl 0 rfl) ?_
          refine k_get K X 0 rfl fg_X11_71 (v := .ref (a 26)) rfl dX11_copy_33 ?_
          rcases (show j = 0 ∨ j = 1 ∨ j = 2 ∨ j = 3 by omega) with rfl | rfl | rfl | rfl
          · have hzy := (J 0 (by decide)).2
            refine lv_iload_n hx hb dX11_copy_36 rfl (lv_at hl 3 rfl) ?_
            refine k_aaldN (C := "SlipWall$Row") K X 26 3 rfl rfl (k := 0) (by omega) (by decide) (r := a 27) rfl dX11_copy_37 ?_
            refine k_callV K X gv_X11_236 (As := []) (c_X7_isMissing l E (fun j => a (27 + j)) (rb 0) (rz 0) (rn 0)) [27, 28] clsW_s14C (by decide +kernel) (fun _ => rowW_fst) 0 7 rfl rfl (by decide) rfl hl.1 (rest := []) rfl (Nat.le_of_ble_eq_true rfl) dX11_copy_38 (st1 := fun _ => [.int (b2i (decide ((rb 0) = 0)))]) (fun _ => rfl) (fun _ H locs _ X => ?_)
            have X : Wd E _ _ (clsW E a f g h ik one wo tp tl tk ts te tn rb rz rn td) _ _ := X.eq clsW_s14P
            refine k_ifeqB (B := (decide ((rb 0) = 0))) hx hb 50 dX11_copy_41 (by decide) (fun c41 => ?_) (fun c41 => ?_)
            · refine lv_aload_n hx hb dX11_copy_50 rfl (lv_at hl 0 rfl) ?_
              refine k_get K X 0 rfl fg_X11_71 (v := .ref (a 26)) rfl dX11_copy_51 ?_
              refine lv_iload_n hx hb dX11_copy_54 rfl (lv_at hl 1 rfl) ?_
              refine k_aaldN (C := "SlipWall$Row") K X 26 3 rfl rfl (k := 1) (by omega) (by decide) (r := a 29) rfl dX11_copy_55 ?_
              refine k_getN K X 29 rfl fg_X11_247 (v := .int (rb 1)) rfl dX11_copy_56 ?_
              refine lv_aload_n hx hb dX11_copy_59 rfl (lv_at hl 0 rfl) ?_
              refine k_get K X 0 rfl fg_X11_71 (v := .ref (a 26)) rfl dX11_copy_60 ?_
              refine lv_iload_n hx hb dX11_copy_63 rfl (lv_at hl 3 rfl) ?_
              refine k_aaldN (C := "SlipWall$Row") K X 26 3 rfl rfl (k := 0) (by omega) (by decide) (r := a 27) rfl dX11_copy_64 ?_
              refine k_getN K X 27 rfl fg_X11_247 (v := .int (rb 0)) rfl dX11_copy_65 ?_
              refine k_icmp_eq (x := rb 1) (y := rb 0) hx hb 77 dX11_copy_68 (by decide) (fun c68 => ?_) (fun c68 => ?_)
              · refine lv_aload_n hx hb dX11_copy_77 rfl (lv_at hl 0 rfl) ?_
                refine k_get K X 0 rfl fg_X11_71 (v := .ref (a 26)) rfl dX11_copy_78 ?_
                refine lv_iload_n hx hb dX11_copy_81 rfl (lv_at hl 1 rfl) ?_
                refine k_aaldN (C := "SlipWall$Row") K X 26 3 rfl rfl (k := 1) (by omega) (by decide) (r := a 29) rfl dX11_copy_82 ?_
                refine lv_iload_n hx hb dX11_copy_83 rfl (lv_at hl 2 rfl) ?_
                refine lv_iload hx hb dX11_copy_84 (lv_at hl 5 rfl) ?_
                refine k_callV K X gv_X11_250 (As := [.int y, .int w]) (c_X7_hasFrom l E (fun j => a (29 + j)) (rb 1) (rz 1) (rn 1) y w) [29, 30] clsW_s15C (by decide +kernel) (fun _ => rowW_fst) 0 7 rfl rfl (by decide) rfl hl.1 (rest := []) rfl (Nat.le_of_ble_eq_true rfl) dX11_copy_86 (st1 := fun _ => [.int (b2i (hasR (rz 1) y w))]) (fun _ => rfl) (fun _ H locs _ X => ?_)
                have X : Wd E _ _ (clsW E a f g h ik one wo tp tl tk ts te tn rb rz rn td) _ _ := X.eq clsW_s15P
                refine k_ifeqB (B := (hasR (rz 1) y w)) hx hb 108 dX11_copy_89 (by decide) (fun c89 => ?_) (fun c89 => ?_)
                · refine lv_aload_n hx hb dX11_copy_108 rfl (lv_at hl 0 rfl) ?_
                  refine lv_iconst (v := 0) hx hb dX11_copy_109 (by decide) ?_
                  refine k_callV K X gv_X11_84 (As := [.int 0]) (c_X11_finding l E a f g h ik one wo tp tl tk ts te tn rb rz rn td 0 (by decide)) [0, 1, 2, 3, 4, 5, 6, 7, 8, 9, 10, 11, 12, 13, 14, 15, 16, 17, 18, 19, 20, 21, 22, 23, 24, 25, 26, 27, 28, 29, 30, 31, 32, 33, 34, 35, 36, 37, 38, 39, 40, 41, 42] clsW_idC (by decide +kernel) (fun _ => clsW_fst) 0 11 rfl rfl (by decide) rfl hl.1 (rest := []) rfl (Nat.le_of_ble_eq_true rfl) dX11_copy_110 (st1 := fun _ => [.int (fnd 0)]) (fun _ => rfl) (fun _ H locs _ X => ?_)
                  have X : Wd E _ _ (clsW E a f g h ik one wo tp tl tk ts te tn rb rz rn (fdU td 0)) _ _ := X.eq clsW_idP
                  exact k_topi (x' := (oCopy rb rz rn td (nI 1) y (nI 0) v w).1) (by simp [oCopy, hx0, ek, hy0, ej, c29, c41, c68, c89]) (fin () 113 _ _ _ trivial (X.eq (by simp [oCopy, hx0, ek, hy0, ej, c29, c41, c68, c89])) dX11_copy_113)
                · obtain ⟨a1, c1, rfl, rfl, hac⟩ := hasR_nat (J 1 (by decide)).1 hzx c89
                  have ea1 : (nI a1).toNatClampNeg = a1 := nI_clamp (by omega)
                  have ec1 : (nI c1).toNatClampNeg = c1 := nI_clamp (by omega)
                  refine lv_aload_n hx hb dX11_copy_92 rfl (lv_at hl 0 rfl) ?_
                  refine k_get K X 0 rfl fg_X11_71 (v := .ref (a 26)) rfl dX11_copy_93 ?_
                  refine lv_iload_n hx hb dX11_copy_96 rfl (lv_at hl 3 rfl) ?_
                  refine k_aaldN (C := "SlipWall$Row") K X 26 3 rfl rfl (k := 0) (by omega) (by decide) (r := a 27) rfl dX11_copy_97 ?_
                  refine lv_iload hx hb dX11_copy_98 (lv_at hl 4 rfl) ?_
                  refine lv_iload hx hb dX11_copy_100 (lv_at hl 5 rfl) ?_
                  refine k_callV K X gv_X11_250 (As := [.int v, .int (nI c1)]) (c_X7_hasFrom l E (fun j => a (27 + j)) (rb 0) (rz 0) (rn 0) v (nI c1)) [27, 28] clsW_s14C (by decide +kernel) (fun _ => rowW_fst) 0 7 rfl rfl (by decide) rfl hl.1 (rest := []) rfl (Nat.le_of_ble_eq_true rfl) dX11_copy_102 (st1 := fun _ => [.int (b2i (hasR (rz 0) v (nI c1)))]) (fun _ => rfl) (fun _ H locs _ X => ?_)
                  have X : Wd E _ _ (clsW E a f g h ik one wo tp tl tk ts te tn rb rz rn td) _ _ := X.eq clsW_s14P
                  refine k_ifneB (B := (hasR (rz 0) v (nI c1))) hx hb 114 dX11_copy_105 (by decide) (fun c105 => ?_) (fun c105 => ?_)
                  · obtain ⟨b1, rfl, hbc⟩ := hasR_nat2 (J 0 (by decide)).1 hzy (by omega) c105
                    have eb1 : (nI b1).toNatClampNeg = b1 := nI_clamp (by omega)
                    refine lv_aload_n hx hb dX11_copy_114 rfl (lv_at hl 0 rfl) ?_
                    refine k_get K X 0 rfl fg_X11_71 (v := .ref (a 26)) rfl dX11_copy_115 ?_
                    refine lv_iload_n hx hb dX11_copy_118 rfl (lv_at hl 1 rfl) ?_
                    refine k_aaldN (C := "SlipWall$Row") K X 26 3 rfl rfl (k := 1) (by omega) (by decide) (r := a 29) rfl dX11_copy_119 ?_
                    refine k_getN K X 29 rfl fg_X11_240 (v := .ref (a 30)) rfl dX11_copy_120 ?_
                    refine lv_iload_n hx hb dX11_copy_123 rfl (lv_at hl 2 rfl) ?_
                    refine lv_aload_n hx hb dX11_copy_124 rfl (lv_at hl 0 rfl) ?_
                    refine k_get K X 0 rfl fg_X11_71 (v := .ref (a 26)) rfl dX11_copy_125 ?_
                    refine lv_iload_n hx hb dX11_copy_128 rfl (lv_at hl 3 rfl) ?_
                    refine k_aaldN (C := "SlipWall$Row") K X 26 3 rfl rfl (k := 0) (by omega) (by decide) (r := a 27) rfl dX11_copy_129 ?_
                    refine k_getN K X 27 rfl fg_X11_240 (v := .ref (a 28)) rfl dX11_copy_130 ?_
                    refine lv_iload hx hb dX11_copy_133 (lv_at hl 4 rfl) ?_
                    refine lv_iload hx hb dX11_copy_135 (lv_at hl 5 rfl) ?_
                    refine k_copyl K X ⟨Mw_at 801 (by decide +kernel) (by decide +kernel), Mw_at 575 (by decide +kernel) (by decide +kernel), Mw_at 574 (by decide +kernel) (by decide +kernel), Mw_at 77 (by decide +kernel) (by decide +kernel)⟩ 30 28 (i := a1) (j := b1) (c := c1) rfl rfl (by omega) (by omega) hl.1 (by decide) (Nat.le_of_ble_eq_true rfl) dX11_copy_137 (fun H locs X => ?_)
                    have X : Wd E _ _ (clsW E a f g h ik one wo tp tl tk ts te tn rb rz (setRL rn 0 (va_cpy (rn 1) (rn 0) a1 b1 c1)) td) _ _ := X
                    refine lv_iload hx hb dX11_copy_140 (lv_at hl 5 rfl) ?_
                    exact k_topi (x' := (oCopy rb rz rn td (nI 1) (nI a1) (nI 0) (nI b1) (nI c1)).1) (by simp [oCopy, hx0, ek, hy0, ej, c29, c41, c68, c89, ea1, ec1, c105, eb1]) (fin () 142 _ _ _ trivial (X.eq (by simp [oCopy, hx0, ek, hy0, ej, c29, c41, c68, c89, ea1, ec1, c105, eb1])) dX11_copy_142)
                  · refine lv_aload_n hx hb dX11_copy_108 rfl (lv_at hl 0 rfl) ?_
                    refine lv_iconst (v := 0) hx hb dX11_copy_109 (by decide) ?_
                    refine k_callV K X gv_X11_84 (As := [.int 0]) (c_X11_finding l E a f g h ik one wo tp tl tk ts te tn rb rz rn td 0 (by decide)) [0, 1, 2, 3, 4, 5, 6, 7, 8, 9, 10, 11, 12, 13, 14, 15, 16, 17, 18, 19, 20, 21, 22, 23, 24, 25, 26, 27, 28, 29, 30, 31, 32, 33, 34, 35, 36, 37, 38, 39, 40, 41, 42] clsW_idC (by decide +kernel) (fun _ => clsW_fst) 0 11 rfl rfl (by decide) rfl hl.1 (rest := []) rfl (Nat.le_of_ble_eq_true rfl) dX11_copy_110 (st1 := fun _ => [.int (fnd 0)]) (fun _ => rfl) (fun _ H locs _ X => ?_)
                    have X : Wd E _ _ (clsW E a f g h ik one wo tp tl tk ts te tn rb rz rn (fdU td 0)) _ _ := X.eq clsW_idP
                    exact k_topi (x' := (oCopy rb rz rn td (nI 1) (nI a1) (nI 0) v (nI c1)).1) (by simp [oCopy, hx0, ek, hy0, ej, c29, c41, c68, c89, ea1, ec1, c105]) (fin () 113 _ _ _ trivial (X.eq (by simp [oCopy, hx0, ek, hy0, ej, c29, c41, c68, c89, ea1, ec1, c105])) dX11_copy_113)
              · refine lv_aload_n hx hb dX11_copy_71 rfl (lv_at hl 0 rfl) ?_
                refine lv_iconst (v := 2) hx hb dX11_copy_72 (by decide) ?_
                refine k_callV K X gv_X11_84 (As := [.int 2]) (c_X11_finding l E a f g h ik one wo tp tl tk ts te tn rb rz rn td 2 (by decide)) [0, 1, 2, 3, 4, 5, 6, 7, 8, 9, 10, 11, 12, 13, 14, 15, 16, 17, 18, 19, 20, 21, 22, 23, 24, 25, 26, 27, 28, 29, 30, 31, 32, 33, 34, 35, 36, 37, 38, 39, 40, 41, 42] clsW_idC (by decide +kernel) (fun _ => clsW_fst) 0 11 rfl rfl (by decide) rfl hl.1 (rest := []) rfl (Nat.le_of_ble_eq_true rfl) dX11_copy_73 (st1 := fun _ => [.int (fnd 2)]) (fun _ => rfl) (fun _ H locs _ X => ?_)
                have X : Wd E _ _ (clsW E a f g h ik one wo tp tl tk ts te tn rb rz rn (fdU td 2)) _ _ := X.eq clsW_idP
                exact k_topi (x' := (oCopy rb rz rn td (nI 1) y (nI 0) v w).1) (by simp [oCopy, hx0, ek, hy0, ej, c29, c41, c68]) (fin () 76 _ _ _ trivial (X.eq (by simp [oCopy, hx0, ek, hy0, ej, c29, c41, c68])) dX11_copy_76)
            · refine lv_aload_n hx hb dX11_copy_44 rfl (lv_at hl 0 rfl) ?_
              refine lv_iconst (v := 5) hx hb dX11_copy_45 (by decide) ?_
              refine k_callV K X gv_X11_84 (As := [.int 5]) (c_X11_finding l E a f g h ik one wo tp tl tk ts te tn rb rz rn td 5 (by decide)) [0, 1, 2, 3, 4, 5, 6, 7, 8, 9, 10, 11, 12, 13, 14, 15, 16, 17, 18, 19, 20, 21, 22, 23, 24, 25, 26, 27, 28, 29, 30, 31, 32, 33, 34, 35, 36, 37, 38, 39, 40, 41, 42] clsW_idC (by decide +kernel) (fun _ => clsW_fst) 0 11 rfl rfl (by decide) rfl hl.1 (rest := []) rfl (Nat.le_of_ble_eq_true rfl) dX11_copy_46 (st1 := fun _ => [.int (fnd 5)]) (fun _ => rfl) (fun _ H locs _ X => ?_)
              have X : Wd E _ _ (clsW E a f g h ik one wo tp tl tk ts te tn rb rz rn (fdU td 5)) _ _ := X.eq clsW_idP
              exact k_topi (x' := (oCopy rb rz rn td (nI 1) y (nI 0) v w).1) (by simp [oCopy, hx0, ek, hy0, ej, c29, c41]) (fin () 49 _ _ _ trivial (X.eq (by simp [oCopy, hx0, ek, hy0, ej, c29, c41])) dX11_copy_49)
          · have hzy := (J 1 (by decide)).2
            refine lv_iload_n hx hb dX11_copy_36 rfl (lv_at hl 3 rfl) ?_
            refine k_aaldN (C := "SlipWall$Row") K X 26 3 rfl rfl (k := 1) (by omega) (by decide) (r := a 29) rfl dX11_copy_37 ?_
            refine k_callV K X gv_X11_236 (As := []) (c_X7_isMissing l E (fun j => a (29 + j)) (rb 1) (rz 1) (rn 1)) [29, 30] clsW_s15C (by decide +kernel) (fun _ => rowW_fst) 0 7 rfl rfl (by decide) rfl hl.1 (rest := []) rfl (Nat.le_of_ble_eq_true rfl) dX11_copy_38 (st1 := fun _ => [.int (b2i (decide ((rb 1) = 0)))]) (fun _ => rfl) (fun _ H locs _ X => ?_)
            have X : Wd E _ _ (clsW E a f g h ik one wo tp tl tk ts te tn rb rz rn td) _ _ := X.eq clsW_s15P
            refine k_ifeqB (B := (decide ((rb 1) = 0))) hx hb 50 dX11_copy_41 (by decide) (fun c41 => ?_) (fun c41 => ?_)
            · refine lv_aload_n hx hb dX11_copy_50 rfl (lv_at hl 0 rfl) ?_
              refine k_get K X 0 rfl fg_X11_71 (v := .ref (a 26)) rfl dX11_copy_51 ?_
              refine lv_iload_n hx hb dX11_copy_54 rfl (lv_at hl 1 rfl) ?_
              refine k_aaldN (C := "SlipWall$Row") K X 26 3 rfl rfl (k := 1) (by omega) (by decide) (r := a 29) rfl dX11_copy_55 ?_
              refine k_getN K X 29 rfl fg_X11_247 (v := .int (rb 1)) rfl dX11_copy_56 ?_
              refine lv_aload_n hx hb dX11_copy_59 rfl (lv_at hl 0 rfl) ?_
              refine k_get K X 0 rfl fg_X11_71 (v := .ref (a 26)) rfl dX11_copy_60 ?_
              refine lv_iload_n hx hb dX11_copy_63 rfl (lv_at hl 3 rfl) ?_
              refine k_aaldN (C := "SlipWall$Row") K X 26 3 rfl rfl (k := 1) (by omega) (by decide) (r := a 29) rfl dX11_copy_64 ?_
              refine k_getN K X 29 rfl fg_X11_247 (v := .int (rb 1)) rfl dX11_copy_65 ?_
              refine k_icmp_eq (x := rb 1) (y := rb 1) hx hb 77 dX11_copy_68 (by decide) (fun c68 => ?_) (fun c68 => ?_)
              · refine lv_aload_n hx hb dX11_copy_77 rfl (lv_at hl 0 rfl) ?_
                refine k_get K X 0 rfl fg_X11_71 (v := .ref (a 26)) rfl dX11_copy_78 ?_
                refine lv_iload_n hx hb dX11_copy_81 rfl (lv_at hl 1 rfl) ?_
                refine k_aaldN (C := "SlipWall$Row") K X 26 3 rfl rfl (k := 1) (by omega) (by decide) (r := a 29) rfl dX11_copy_82 ?_
                refine lv_iload_n hx hb dX11_copy_83 rfl (lv_at hl 2 rfl) ?_
                refine lv_iload hx hb dX11_copy_84 (lv_at hl 5 rfl) ?_
                refine k_callV K X gv_X11_250 (As := [.int y, .int w]) (c_X7_hasFrom l E (fun j => a (29 + j)) (rb 1) (rz 1) (rn 1) y w) [29, 30] clsW_s15C (by decide +kernel) (fun _ => rowW_fst) 0 7 rfl rfl (by decide) rfl hl.1 (rest := []) rfl (Nat.le_of_ble_eq_true rfl) dX11_copy_86 (st1 := fun _ => [.int (b2i (hasR (rz 1) y w))]) (fun _ => rfl) (fun _ H locs _ X => ?_)
                have X : Wd E _ _ (clsW E a f g h ik one wo tp tl tk ts te tn rb rz rn td) _ _ := X.eq clsW_s15P
                refine k_ifeqB (B := (hasR (rz 1) y w)) hx hb 108 dX11_copy_89 (by decide) (fun c89 => ?_) (fun c89 => ?_)
                · refine lv_aload_n hx hb dX11_copy_108 rfl (lv_at hl 0 rfl) ?_
                  refine lv_iconst (v := 0) hx hb dX11_copy_109 (by decide) ?_
                  refine k_callV K X gv_X11_84 (As := [.int 0]) (c_X11_finding l E a f g h ik one wo tp tl tk ts te tn rb rz rn td 0 (by decide)) [0, 1, 2, 3, 4, 5, 6, 7, 8, 9, 10, 11, 12, 13, 14, 15, 16, 17, 18, 19, 20, 21, 22, 23, 24, 25, 26, 27, 28, 29, 30, 31, 32, 33, 34, 35, 36, 37, 38, 39, 40, 41, 42] clsW_idC (by decide +kernel) (fun _ => clsW_fst) 0 11 rfl rfl (by decide) rfl hl.1 (rest := []) rfl (Nat.le_of_ble_eq_true rfl) dX11_copy_110 (st1 := fun _ => [.int (fnd 0)]) (fun _ => rfl) (fun _ H locs _ X => ?_)
                  have X : Wd E _ _ (clsW E a f g h ik one wo tp tl tk ts te tn rb rz rn (fdU td 0)) _ _ := X.eq clsW_idP
                  exact k_topi (x' := (oCopy rb rz rn td (nI 1) y (nI 1) v w).1) (by simp [oCopy, hx0, ek, hy0, ej, c29, c41, c89]) (fin () 113 _ _ _ trivial (X.eq (by simp [oCopy, hx0, ek, hy0, ej, c29, c41, c89])) dX11_copy_113)
                · obtain ⟨a1, c1, rfl, rfl, hac⟩ := hasR_nat (J 1 (by decide)).1 hzx c89
                  have ea1 : (nI a1).toNatClampNeg = a1 := nI_clamp (by omega)
                  have ec1 : (nI c1).toNatClampNeg = c1 := nI_clamp (by omega)
                  refine lv_aload_n hx hb dX11_copy_92 rfl (lv_at hl 0 rfl) ?_
                  refine k_get K X 0 rfl fg_X11_71 (v := .ref (a 26)) rfl dX11_copy_93 ?_
                  refine lv_iload_n hx hb dX11_copy_96 rfl (lv_at hl 3 rfl) ?_
                  refine k_aaldN (C := "SlipWall$Row") K X 26 3 rfl rfl (k := 1) (by omega) (by decide) (r := a 29) rfl dX11_copy_97 ?_
                  refine lv_iload hx hb dX11_copy_98 (lv_at hl 4 rfl) ?_
                  refine lv_iload hx hb dX11_copy_100 (lv_at hl 5 rfl) ?_
                  refine k_callV K X gv_X11_250 (As := [.int v, .int (nI c1)]) (c_X7_hasFrom l E (fun j => a (29 + j)) (rb 1) (rz 1) (rn 1) v (nI c1)) [29, 30] clsW_s15C (by decide +kernel) (fun _ => rowW_fst) 0 7 rfl rfl (by decide) rfl hl.1 (rest := []) rfl (Nat.le_of_ble_eq_true rfl) dX11_copy_102 (st1 := fun _ => [.int (b2i (hasR (rz 1) v (nI c1)))]) (fun _ => rfl) (fun _ H locs _ X => ?_)
                  have X : Wd E _ _ (clsW E a f g h ik one wo tp tl tk ts te tn rb rz rn td) _ _ := X.eq clsW_s15P
                  refine k_ifneB (B := (hasR (rz 1) v (nI c1))) hx hb 114 dX11_copy_105 (by decide) (fun c105 => ?_) (fun c105 => ?_)
                  · obtain ⟨b1, rfl, hbc⟩ := hasR_nat2 (J 1 (by decide)).1 hzy (by omega) c105
                    have eb1 : (nI b1).toNatClampNeg = b1 := nI_clamp (by omega)
                    refine lv_aload_n hx hb dX11_copy_114 rfl (lv_at hl 0 rfl) ?_
                    refine k_get K X 0 rfl fg_X11_71 (v := .ref (a 26)) rfl dX11_copy_115 ?_
                    refine lv_iload_n hx hb dX11_copy_118 rfl (lv_at hl 1 rfl) ?_
                    refine k_aaldN (C := "SlipWall$Row") K X 26 3 rfl rfl (k := 1) (by omega) (by decide) (r := a 29) rfl dX11_copy_119 ?_
                    refine k_getN K X 29 rfl fg_X11_240 (v := .ref (a 30)) rfl dX11_copy_120 ?_
                    refine lv_iload_n hx hb dX11_copy_123 rfl (lv_at hl 2 rfl) ?_
                    refine lv_aload_n hx hb dX11_copy_124 rfl (lv_at hl 0 rfl) ?_
                    refine k_get K X 0 rfl fg_X11_71 (v := .ref (a 26)) rfl dX11_copy_125 ?_
                    refine lv_iload_n hx hb dX11_copy_128 rfl (lv_at hl 3 rfl) ?_
                    refine k_aaldN (C := "SlipWall$Row") K X 26 3 rfl rfl (k := 1) (by omega) (by decide) (r := a 29) rfl dX11_copy_129 ?_
                    refine k_getN K X 29 rfl fg_X11_240 (v := .ref (a 30)) rfl dX11_copy_130 ?_
                    refine lv_iload hx hb dX11_copy_133 (lv_at hl 4 rfl) ?_
                    refine lv_iload hx hb dX11_copy_135 (lv_at hl 5 rfl) ?_
                    refine k_copyl K X ⟨Mw_at 801 (by decide +kernel) (by decide +kernel), Mw_at 575 (by decide +kernel) (by decide +kernel), Mw_at 574 (by decide +kernel) (by decide +kernel), Mw_at 77 (by decide +kernel) (by decide +kernel)⟩ 30 30 (i := a1) (j := b1) (c := c1) rfl rfl (by omega) (by omega) hl.1 (by decide) (Nat.le_of_ble_eq_true rfl) dX11_copy_137 (fun H locs X => ?_)
                    have X : Wd E _ _ (clsW E a f g h ik one wo tp tl tk ts te tn rb rz (setRL rn 1 (va_cpy (rn 1) (rn 1) a1 b1 c1)) td) _ _ := X
                    refine lv_iload hx hb dX11_copy_140 (lv_at hl 5 rfl) ?_
                    exact k_topi (x' := (oCopy rb rz rn td (nI 1) (nI a1) (nI 1) (nI b1) (nI c1)).1) (by simp [oCopy, hx0, ek, hy0, ej, c29, c41, c89, ea1, ec1, c105, eb1]) (fin () 142 _ _ _ trivial (X.eq (by simp [oCopy, hx0, ek, hy0, ej, c29, c41, c89, ea1, ec1, c105, eb1])) dX11_copy_142)
                  · refine lv_aload_n hx hb dX11_copy_108 rfl (lv_at hl 0 rfl) ?_
                    refine lv_iconst (v := 0) hx hb dX11_copy_109 (by decide) ?_
                    refine k_callV K X gv_X11_84 (As := [.int 0]) (c_X11_finding l E a f g h ik one wo tp tl tk ts te tn rb rz rn td 0 (by decide)) [0, 1, 2, 3, 4, 5, 6, 7, 8, 9, 10, 11, 12, 13, 14, 15, 16, 17, 18, 19, 20, 21, 22, 23, 24, 25, 26, 27, 28, 29, 30, 31, 32, 33, 34, 35, 36, 37, 38, 39, 40, 41, 42] clsW_idC (by decide +kernel) (fun _ => clsW_fst) 0 11 rfl rfl (by decide) rfl hl.1 (rest := []) rfl (Nat.le_of_ble_eq_true rfl) dX11_copy_110 (st1 := fun _ => [.int (fnd 0)]) (fun _ => rfl) (fun _ H locs _ X => ?_)
                    have X : Wd E _ _ (clsW E a f g h ik one wo tp tl tk ts te tn rb rz rn (fdU td 0)) _ _ := X.eq clsW_idP
                    exact k_topi (x' := (oCopy rb rz rn td (nI 1) (nI a1) (nI 1) v (nI c1)).1) (by simp [oCopy, hx0, ek, hy0, ej, c29, c41, c89, ea1, ec1, c105]) (fin () 113 _ _ _ trivial (X.eq (by simp [oCopy, hx0, ek, hy0, ej, c29, c41, c89, ea1, ec1, c105])) dX11_copy_113)
              · exact absurd rfl c68
            · exact absurd (c29.symm.trans c41) (by decide)
          · have hzy := (J 2 (by decide)).2
            refine lv_iload_n hx hb dX11_copy_36 rfl (lv_at hl 3 rfl) ?_
            refine k_aaldN (C := "SlipWall$Row") K X 26 3 rfl rfl (k := 2) (by omega) (by decide) (r := a 31) rfl dX11_copy_37 ?_
            refine k_callV K X gv_X11_236 (As := []) (c_X7_isMissing l E (fun j => a (31 + j)) (rb 2) (rz 2) (rn 2)) [31, 32] clsW_s16C (by decide +kernel) (fun _ => rowW_fst) 0 7 rfl rfl (by decide) rfl hl.1 (rest := []) rfl (Nat.le_of_ble_eq_true rfl) dX11_copy_38 (st1 := fun _ => [.int (b2i (decide ((rb 2) = 0)))]) (fun _ => rfl) (fun _ H locs _ X => ?_)
            have X : Wd E _ _ (clsW E a f g h ik one wo tp tl tk ts te tn rb rz rn td) _ _ := X.eq clsW_s16P
            refine k_ifeqB (B := (decide ((rb 2) = 0))) hx hb 50 dX11_copy_41 (by decide) (fun c41 => ?_) (fun c41 => ?_)
            · refine lv_aload_n hx hb dX11_copy_50 rfl (lv_at hl 0 rfl) ?_
              refine k_get K X 0 rfl fg_X11_71 (v := .ref (a 26)) rfl dX11_copy_51 ?_
              refine lv_iload_n hx hb dX11_copy_54 rfl (lv_at hl 1 rfl) ?_
              refine k_aaldN (C := "SlipWall$Row") K X 26 3 rfl rfl (k := 1) (by omega) (by decide) (r := a 29) rfl dX11_copy_55 ?_
              refine k_getN K X 29 rfl fg_X11_247 (v := .int (rb 1)) rfl dX11_copy_56 ?_
              refine lv_aload_n hx hb dX11_copy_59 rfl (lv_at hl 0 rfl) ?_
              refine k_get K X 0 rfl fg_X11_71 (v := .ref (a 26)) rfl dX11_copy_60 ?_
              refine lv_iload_n hx hb dX11_copy_63 rfl (lv_at hl 3 rfl) ?_
              refine k_aaldN (C := "SlipWall$Row") K X 26 3 rfl rfl (k := 2) (by omega) (by decide) (r := a 31) rfl dX11_copy_64 ?_
              refine k_getN K X 31 rfl fg_X11_247 (v := .int (rb 2)) rfl dX11_copy_65 ?_
              refine k_icmp_eq (x := rb 1) (y := rb 2) hx hb 77 dX11_copy_68 (by decide) (fun c68 => ?_) (fun c68 => ?_)
              · refine lv_aload_n hx hb dX11_copy_77 rfl (lv_at hl 0 rfl) ?_
                refine k_get K X 0 rfl fg_X11_71 (v := .ref (a 26)) rfl dX11_copy_78 ?_
                refine lv_iload_n hx hb dX11_copy_81 rfl (lv_at hl 1 rfl) ?_
                refine k_aaldN (C := "SlipWall$Row") K X 26 3 rfl rfl (k := 1) (by omega) (by decide) (r := a 29) rfl dX11_copy_82 ?_
                refine lv_iload_n hx hb dX11_copy_83 rfl (lv_at hl 2 rfl) ?_
                refine lv_iload hx hb dX11_copy_84 (lv_at hl 5 rfl) ?_
                refine k_callV K X gv_X11_250 (As := [.int y, .int w]) (c_X7_hasFrom l E (fun j => a (29 + j)) (rb 1) (rz 1) (rn 1) y w) [29, 30] clsW_s15C (by decide +kernel) (fun _ => rowW_fst) 0 7 rfl rfl (by decide) rfl hl.1 (rest := []) rfl (Nat.le_of_ble_eq_true rfl) dX11_copy_86 (st1 := fun _ => [.int (b2i (hasR (rz 1) y w))]) (fun _ => rfl) (fun _ H locs _ X => ?_)
                have X : Wd E _ _ (clsW E a f g h ik one wo tp tl tk ts te tn rb rz rn td) _ _ := X.eq clsW_s15P
                refine k_ifeqB (B := (hasR (rz 1) y w)) hx hb 108 dX11_copy_89 (by decide) (fun c89 => ?_) (fun c89 => ?_)
                · refine lv_aload_n hx hb dX11_copy_108 rfl (lv_at hl 0 rfl) ?_
                  refine lv_iconst (v := 0) hx hb dX11_copy_109 (by decide) ?_
                  refine k_callV K X gv_X11_84 (As := [.int 0]) (c_X11_finding l E a f g h ik one wo tp tl tk ts te tn rb rz rn td 0 (by decide)) [0, 1, 2, 3, 4, 5, 6, 7, 8, 9, 10, 11, 12, 13, 14, 15, 16, 17, 18, 19, 20, 21, 22, 23, 24, 25, 26, 27, 28, 29, 30, 31, 32, 33, 34, 35, 36, 37, 38, 39, 40, 41, 42] clsW_idC (by decide +kernel) (fun _ => clsW_fst) 0 11 rfl rfl (by decide) rfl hl.1 (rest := []) rfl (Nat.le_of_ble_eq_true rfl) dX11_copy_110 (st1 := fun _ => [.int (fnd 0)]) (fun _ => rfl) (fun _ H locs _ X => ?_)
                  have X : Wd E _ _ (clsW E a f g h ik one wo tp tl tk ts te tn rb rz rn (fdU td 0)) _ _ := X.eq clsW_idP
                  exact k_topi (x' := (oCopy rb rz rn td (nI 1) y (nI 2) v w).1) (by simp [oCopy, hx0, ek, hy0, ej, c29, c41, c68, c89]) (fin () 113 _ _ _ trivial (X.eq (by simp [oCopy, hx0, ek, hy0, ej, c29, c41, c68, c89])) dX11_copy_113)
                · obtain ⟨a1, c1, rfl, rfl, hac⟩ := hasR_nat (J 1 (by decide)).1 hzx c89
                  have ea1 : (nI a1).toNatClampNeg = a1 := nI_clamp (by omega)
                  have ec1 : (nI c1).toNatClampNeg = c1 := nI_clamp (by omega)
                  refine lv_aload_n hx hb dX11_copy_92 rfl (lv_at hl 0 rfl) ?_
                  refine k_get K X 0 rfl fg_X11_71 (v := .ref (a 26)) rfl dX11_copy_93 ?_
                  refine lv_iload_n hx hb dX11_copy_96 rfl (lv_at hl 3 rfl) ?_
                  refine k_aaldN (C := "SlipWall$Row") K X 26 3 rfl rfl (k := 2) (by omega) (by decide) (r := a 31) rfl dX11_copy_97 ?_
                  refine lv_iload hx hb dX11_copy_98 (lv_at hl 4 rfl) ?_
                  refine lv_iload hx hb dX11_copy_100 (lv_at hl 5 rfl) ?_
                  refine k_callV K X gv_X11_250 (As := [.int v, .int (nI c1)]) (c_X7_hasFrom l E (fun j => a (31 + j)) (rb 2) (rz 2) (rn 2) v (nI c1)) [31, 32] clsW_s16C (by decide +kernel) (fun _ => rowW_fst) 0 7 rfl rfl (by decide) rfl hl.1 (rest := []) rfl (Nat.le_of_ble_eq_true rfl) dX11_copy_102 (st1 := fun _ => [.int (b2i (hasR (rz 2) v (nI c1)))]) (fun _ => rfl) (fun _ H locs _ X => ?_)
                  have X : Wd E _ _ (clsW E a f g h ik one wo tp tl tk ts te tn rb rz rn td) _ _ := X.eq clsW_s16P
                  refine k_ifneB (B := (hasR (rz 2) v (nI c1))) hx hb 114 dX11_copy_105 (by decide) (fun c105 => ?_) (fun c105 => ?_)
                  · obtain ⟨b1, rfl, hbc⟩ := hasR_nat2 (J 2 (by decide)).1 hzy (by omega) c105
                    have eb1 : (nI b1).toNatClampNeg = b1 := nI_clamp (by omega)
                    refine lv_aload_n hx hb dX11_copy_114 rfl (lv_at hl 0 rfl) ?_
                    refine k_get K X 0 rfl fg_X11_71 (v := .ref (a 26)) rfl dX11_copy_115 ?_
                    refine lv_iload_n hx hb dX11_copy_118 rfl (lv_at hl 1 rfl) ?_
                    refine k_aaldN (C := "SlipWall$Row") K X 26 3 rfl rfl (k := 1) (by omega) (by decide) (r := a 29) rfl dX11_copy_119 ?_
                    refine k_getN K X 29 rfl fg_X11_240 (v := .ref (a 30)) rfl dX11_copy_120 ?_
                    refine lv_iload_n hx hb dX11_copy_123 rfl (lv_at hl 2 rfl) ?_
                    refine lv_aload_n hx hb dX11_copy_124 rfl (lv_at hl 0 rfl) ?_
                    refine k_get K X 0 rfl fg_X11_71 (v := .ref (a 26)) rfl dX11_copy_125 ?_
                    refine lv_iload_n hx hb dX11_copy_128 rfl (lv_at hl 3 rfl) ?_
                    refine k_aaldN (C := "SlipWall$Row") K X 26 3 rfl rfl (k := 2) (by omega) (by decide) (r := a 31) rfl dX11_copy_129 ?_
                    refine k_getN K X 31 rfl fg_X11_240 (v := .ref (a 32)) rfl dX11_copy_130 ?_
                    refine lv_iload hx hb dX11_copy_133 (lv_at hl 4 rfl) ?_
                    refine lv_iload hx hb dX11_copy_135 (lv_at hl 5 rfl) ?_
                    refine k_copyl K X ⟨Mw_at 801 (by decide +kernel) (by decide +kernel), Mw_at 575 (by decide +kernel) (by decide +kernel), Mw_at 574 (by decide +kernel) (by decide +kernel), Mw_at 77 (by decide +kernel) (by decide +kernel)⟩ 30 32 (i := a1) (j := b1) (c := c1) rfl rfl (by omega) (by omega) hl.1 (by decide) (Nat.le_of_ble_eq_true rfl) dX11_copy_137 (fun H locs X => ?_)
                    have X : Wd E _ _ (clsW E a f g h ik one wo tp tl tk ts te tn rb rz (setRL rn 2 (va_cpy (rn 1) (rn 2) a1 b1 c1)) td) _ _ := X
                    refine lv_iload hx hb dX11_copy_140 (lv_at hl 5 rfl) ?_
                    exact k_topi (x' := (oCopy rb rz rn td (nI 1) (nI a1) (nI 2) (nI b1) (nI c1)).1) (by simp [oCopy, hx0, ek, hy0, ej, c29, c41, c68, c89, ea1, ec1, c105, eb1]) (fin () 142 _ _ _ trivial (X.eq (by simp [oCopy, hx0, ek, hy0, ej, c29, c41, c68, c89, ea1, ec1, c105, eb1])) dX11_copy_142)
                  · refine lv_aload_n hx hb dX11_copy_108 rfl (lv_at hl 0 rfl) ?_
                    refine lv_iconst (v := 0) hx hb dX11_copy_109 (by decide) ?_
                    refine k_callV K X gv_X11_84 (As := [.int 0]) (c_X11_finding l E a f g h ik one wo tp tl tk ts te tn rb rz rn td 0 (by decide)) [0, 1, 2, 3, 4, 5, 6, 7, 8, 9, 10, 11, 12, 13, 14, 15, 16, 17, 18, 19, 20, 21, 22, 23, 24, 25, 26, 27, 28, 29, 30, 31, 32, 33, 34, 35, 36, 37, 38, 39, 40, 41, 42] clsW_idC (by decide +kernel) (fun _ => clsW_fst) 0 11 rfl rfl (by decide) rfl hl.1 (rest := []) rfl (Nat.le_of_ble_eq_true rfl) dX11_copy_110 (st1 := fun _ => [.int (fnd 0)]) (fun _ => rfl) (fun _ H locs _ X => ?_)
                    have X : Wd E _ _ (clsW E a f g h ik one wo tp tl tk ts te tn rb rz rn (fdU td 0)) _ _ := X.eq clsW_idP
                    exact k_topi (x' := (oCopy rb rz rn td (nI 1) (nI a1) (nI 2) v (nI c1)).1) (by simp [oCopy, hx0, ek, hy0, ej, c29, c41, c68, c89, ea1, ec1, c105]) (fin () 113 _ _ _ trivial (X.eq (by simp [oCopy, hx0, ek, hy0, ej, c29, c41, c68, c89, ea1, ec1, c105])) dX11_copy_113)
              · refine lv_aload_n hx hb dX11_copy_71 rfl (lv_at hl 0 rfl) ?_
                refine lv_iconst (v := 2) hx hb dX11_copy_72 (by decide) ?_
                refine k_callV K X gv_X11_84 (As := [.int 2]) (c_X11_finding l E a f g h ik one wo tp tl tk ts te tn rb rz rn td 2 (by decide)) [0, 1, 2, 3, 4, 5, 6, 7, 8, 9, 10, 11, 12, 13, 14, 15, 16, 17, 18, 19, 20, 21, 22, 23, 24, 25, 26, 27, 28, 29, 30, 31, 32, 33, 34, 35, 36, 37, 38, 39, 40, 41, 42] clsW_idC (by decide +kernel) (fun _ => clsW_fst) 0 11 rfl rfl (by decide) rfl hl.1 (rest := []) rfl (Nat.le_of_ble_eq_true rfl) dX11_copy_73 (st1 := fun _ => [.int (fnd 2)]) (fun _ => rfl) (fun _ H locs _ X => ?_)
                have X : Wd E _ _ (clsW E a f g h ik one wo tp tl tk ts te tn rb rz rn (fdU td 2)) _ _ := X.eq clsW_idP
                exact k_topi (x' := (oCopy rb rz rn td (nI 1) y (nI 2) v w).1) (by simp [oCopy, hx0, ek, hy0, ej, c29, c41, c68]) (fin () 76 _ _ _ trivial (X.eq (by simp [oCopy, hx0, ek, hy0, ej, c29, c41, c68])) dX11_copy_76)
            · refine lv_aload_n hx hb dX11_copy_44 rfl (lv_at hl 0 rfl) ?_
              refine lv_iconst (v := 5) hx hb dX11_copy_45 (by decide) ?_
              refine k_callV K X gv_X11_84 (As := [.int 5]) (c_X11_finding l E a f g h ik one wo tp tl tk ts te tn rb rz rn td 5 (by decide)) [0, 1, 2, 3, 4, 5, 6, 7, 8, 9, 10, 11, 12, 13, 14, 15, 16, 17, 18, 19, 20, 21, 22, 23, 24, 25, 26, 27, 28, 29, 30, 31, 32, 33, 34, 35, 36, 37, 38, 39, 40, 41, 42] clsW_idC (by decide +kernel) (fun _ => clsW_fst) 0 11 rfl rfl (by decide) rfl hl.1 (rest := []) rfl (Nat.le_of_ble_eq_true rfl) dX11_copy_46 (st1 := fun _ => [.int (fnd 5)]) (fun _ => rfl) (fun _ H locs _ X => ?_)
              have X : Wd E _ _ (clsW E a f g h ik one wo tp tl tk ts te tn rb rz rn (fdU td 5)) _ _ := X.eq clsW_idP
              exact k_topi (x' := (oCopy rb rz rn td (nI 1) y (nI 2) v w).1) (by simp [oCopy, hx0, ek, hy0, ej, c29, c41]) (fin () 49 _ _ _ trivial (X.eq (by simp [oCopy, hx0, ek, hy0, ej, c29, c41])) dX11_copy_49)
          · have hzy := (J 3 (by decide)).2
            refine lv_iload_n hx hb dX11_copy_36 rfl (lv_at hl 3 rfl) ?_
            refine k_aaldN (C := "SlipWall$Row") K X 26 3 rfl rfl (k := 3) (by omega) (by decide) (r := a 33) rfl dX11_copy_37 ?_
            refine k_callV K X gv_X11_236 (As := []) (c_X7_isMissing l E (fun j => a (33 + j)) (rb 3) (rz 3) (rn 3)) [33, 34] clsW_s17C (by decide +kernel) (fun _ => rowW_fst) 0 7 rfl rfl (by decide) rfl hl.1 (rest := []) rfl (Nat.le_of_ble_eq_true rfl) dX11_copy_38 (st1 := fun _ => [.int (b2i (decide ((rb 3) = 0)))]) (fun _ => rfl) (fun _ H locs _ X => ?_)
            have X : Wd E _ _ (clsW E a f g h ik one wo tp tl tk ts te tn rb rz rn td) _ _ := X.eq clsW_s17P
            refine k_ifeqB (B := (decide ((rb 3) = 0))) hx hb 50 dX11_copy_41 (by decide) (fun c41 => ?_) (fun c41 => ?_)
            · refine lv_aload_n hx hb dX11_copy_50 rfl (lv_at hl 0 rfl) ?_
              refine k_get K X 0 rfl fg_X11_71 (v := .ref (a 26)) rfl dX11_copy_51 ?_
              refine lv_iload_n hx hb dX11_copy_54 rfl (lv_at hl 1 rfl) ?_
              refine k_aaldN (C := "SlipWall$Row") K X 26 3 rfl rfl (k := 1) (by omega) (by decide) (r := a 29) rfl dX11_copy_55 ?_
              refine k_getN K X 29 rfl fg_X11_247 (v := .int (rb 1)) rfl dX11_copy_56 ?_
              refine lv_aload_n hx hb dX11_copy_59 rfl (lv_at hl 0 rfl) ?_
              refine k_get K X 0 rfl fg_X11_71 (v := .ref (a 26)) rfl dX11_copy_60 ?_
              refine lv_iload_n hx hb dX11_copy_63 rfl (lv_at hl 3 rfl) ?_
              refine k_aaldN (C := "SlipWall$Row") K X 26 3 rfl rfl (k := 3) (by omega) (by decide) (r := a 33) rfl dX11_copy_64 ?_
              refine k_getN K X 33 rfl fg_X11_247 (v := .int (rb 3)) rfl dX11_copy_65 ?_
              refine k_icmp_eq (x := rb 1) (y := rb 3) hx hb 77 dX11_copy_68 (by decide) (fun c68 => ?_) (fun c68 => ?_)
              · refine lv_aload_n hx hb dX11_copy_77 rfl (lv_at hl 0 rfl) ?_
                refine k_get K X 0 rfl fg_X11_71 (v := .ref (a 26)) rfl dX11_copy_78 ?_
                refine lv_iload_n hx hb dX11_copy_81 rfl (lv_at hl 1 rfl) ?_
                refine k_aaldN (C := "SlipWall$Row") K X 26 3 rfl rfl (k := 1) (by omega) (by decide) (r := a 29) rfl dX11_copy_82 ?_
                refine lv_iload_n hx hb dX11_copy_83 rfl (lv_at hl 2 rfl) ?_
                refine lv_iload hx hb dX11_copy_84 (lv_at hl 5 rfl) ?_
                refine k_callV K X gv_X11_250 (As := [.int y, .int w]) (c_X7_hasFrom l E (fun j => a (29 + j)) (rb 1) (rz 1) (rn 1) y w) [29, 30] clsW_s15C (by decide +kernel) (fun _ => rowW_fst) 0 7 rfl rfl (by decide) rfl hl.1 (rest := []) rfl (Nat.le_of_ble_eq_true rfl) dX11_copy_86 (st1 := fun _ => [.int (b2i (hasR (rz 1) y w))]) (fun _ => rfl) (fun _ H locs _ X => ?_)
                have X : Wd E _ _ (clsW E a f g h ik one wo tp tl tk ts te tn rb rz rn td) _ _ := X.eq clsW_s15P
                refine k_ifeqB (B := (hasR (rz 1) y w)) hx hb 108 dX11_copy_89 (by decide) (fun c89 => ?_) (fun c89 => ?_)
                · refine lv_aload_n hx hb dX11_copy_108 rfl (lv_at hl 0 rfl) ?_
                  refine lv_iconst (v := 0) hx hb dX11_copy_109 (by decide) ?_
                  refine k_callV K X gv_X11_84 (As := [.int 0]) (c_X11_finding l E a f g h ik one wo tp tl tk ts te tn rb rz rn td 0 (by decide)) [0, 1, 2, 3, 4, 5, 6, 7, 8, 9, 10, 11, 12, 13, 14, 15, 16, 17, 18, 19, 20, 21, 22, 23, 24, 25, 26, 27, 28, 29, 30, 31, 32, 33, 34, 35, 36, 37, 38, 39, 40, 41, 42] clsW_idC (by decide +kernel) (fun _ => clsW_fst) 0 11 rfl rfl (by decide) rfl hl.1 (rest := []) rfl (Nat.le_of_ble_eq_true rfl) dX11_copy_110 (st1 := fun _ => [.int (fnd 0)]) (fun _ => rfl) (fun _ H locs _ X => ?_)
                  have X : Wd E _ _ (clsW E a f g h ik one wo tp tl tk ts te tn rb rz rn (fdU td 0)) _ _ := X.eq clsW_idP
                  exact k_topi (x' := (oCopy rb rz rn td (nI 1) y (nI 3) v w).1) (by simp [oCopy, hx0, ek, hy0, ej, c29, c41, c68, c89]) (fin () 113 _ _ _ trivial (X.eq (by simp [oCopy, hx0, ek, hy0, ej, c29, c41, c68, c89])) dX11_copy_113)
                · obtain ⟨a1, c1, rfl, rfl, hac⟩ := hasR_nat (J 1 (by decide)).1 hzx c89
                  have ea1 : (nI a1).toNatClampNeg = a1 := nI_clamp (by omega)
                  have ec1 : (nI c1).toNatClampNeg = c1 := nI_clamp (by omega)
                  refine lv_aload_n hx hb dX11_copy_92 rfl (lv_at hl 0 rfl) ?_
                  refine k_get K X 0 rfl fg_X11_71 (v := .ref (a 26)) rfl dX11_copy_93 ?_
                  refine lv_iload_n hx hb dX11_copy_96 rfl (lv_at hl 3 rfl) ?_
                  refine k_aaldN (C := "SlipWall$Row") K X 26 3 rfl rfl (k := 3) (by omega) (by decide) (r := a 33) rfl dX11_copy_97 ?_
                  refine lv_iload hx hb dX11_copy_98 (lv_at hl 4 rfl) ?_
                  refine lv_iload hx hb dX11_copy_100 (lv_at hl 5 rfl) ?_
                  refine k_callV K X gv_X11_250 (As := [.int v, .int (nI c1)]) (c_X7_hasFrom l E (fun j => a (33 + j)) (rb 3) (rz 3) (rn 3) v (nI c1)) [33, 34] clsW_s17C (by decide +kernel) (fun _ => rowW_fst) 0 7 rfl rfl (by decide) rfl hl.1 (rest := []) rfl (Nat.le_of_ble_eq_true rfl) dX11_copy_102 (st1 := fun _ => [.int (b2i (hasR (rz 3) v (nI c1)))]) (fun _ => rfl) (fun _ H locs _ X => ?_)
                  have X : Wd E _ _ (clsW E a f g h ik one wo tp tl tk ts te tn rb rz rn td) _ _ := X.eq clsW_s17P
                  refine k_ifneB (B := (hasR (rz 3) v (nI c1))) hx hb 114 dX11_copy_105 (by decide) (fun c105 => ?_) (fun c105 => ?_)
                  · obtain ⟨b1, rfl, hbc⟩ := hasR_nat2 (J 3 (by decide)).1 hzy (by omega) c105
                    have eb1 : (nI b1).toNatClampNeg = b1 := nI_clamp (by omega)
                    refine lv_aload_n hx hb dX11_copy_114 rfl (lv_at hl 0 rfl) ?_
                    refine k_get K X 0 rfl fg_X11_71 (v := .ref (a 26)) rfl dX11_copy_115 ?_
                    refine lv_iload_n hx hb dX11_copy_118 rfl (lv_at hl 1 rfl) ?_
                    refine k_aaldN (C := "SlipWall$Row") K X 26 3 rfl rfl (k := 1) (by omega) (by decide) (r := a 29) rfl dX11_copy_119 ?_
                    refine k_getN K X 29 rfl fg_X11_240 (v := .ref (a 30)) rfl dX11_copy_120 ?_
                    refine lv_iload_n hx hb dX11_copy_123 rfl (lv_at hl 2 rfl) ?_
                    refine lv_aload_n hx hb dX11_copy_124 rfl (lv_at hl 0 rfl) ?_
                    refine k_get K X 0 rfl fg_X11_71 (v := .ref (a 26)) rfl dX11_copy_125 ?_
                    refine lv_iload_n hx hb dX11_copy_128 rfl (lv_at hl 3 rfl) ?_
                    refine k_aaldN (C := "SlipWall$Row") K X 26 3 rfl rfl (k := 3) (by omega) (by decide) (r := a 33) rfl dX11_copy_129 ?_
                    refine k_getN K X 33 rfl fg_X11_240 (v := .ref (a 34)) rfl dX11_copy_130 ?_
                    refine lv_iload hx hb dX11_copy_133 (lv_at hl 4 rfl) ?_
                    refine lv_iload hx hb dX11_copy_135 (lv_at hl 5 rfl) ?_
                    refine k_copyl K X ⟨Mw_at 801 (by decide +kernel) (by decide +kernel), Mw_at 575 (by decide +kernel) (by decide +kernel), Mw_at 574 (by decide +kernel) (by decide +kernel), Mw_at 77 (by decide +kernel) (by decide +kernel)⟩ 30 34 (i := a1) (j := b1) (c := c1) rfl rfl (by omega) (by omega) hl.1 (by decide) (Nat.le_of_ble_eq_true rfl) dX11_copy_137 (fun H locs X => ?_)
                    have X : Wd E _ _ (clsW E a f g h ik one wo tp tl tk ts te tn rb rz (setRL rn 3 (va_cpy (rn 1) (rn 3) a1 b1 c1)) td) _ _ := X
                    refine lv_iload hx hb dX11_copy_140 (lv_at hl 5 rfl) ?_
                    exact k_topi (x' := (oCopy rb rz rn td (nI 1) (nI a1) (nI 3) (nI b1) (nI c1)).1) (by simp [oCopy, hx0, ek, hy0, ej, c29, c41, c68, c89, ea1, ec1, c105, eb1]) (fin () 142 _ _ _ trivial (X.eq (by simp [oCopy, hx0, ek, hy0, ej, c29, c41, c68, c89, ea1, ec1, c105, eb1])) dX11_copy_142)
                  · refine lv_aload_n hx hb dX11_copy_108 rfl (lv_at hl 0 rfl) ?_
                    refine lv_iconst (v := 0) hx hb dX11_copy_109 (by decide) ?_
                    refine k_callV K X gv_X11_84 (As := [.int 0]) (c_X11_finding l E a f g h ik one wo tp tl tk ts te tn rb rz rn td 0 (by decide)) [0, 1, 2, 3, 4, 5, 6, 7, 8, 9, 10, 11, 12, 13, 14, 15, 16, 17, 18, 19, 20, 21, 22, 23, 24, 25, 26, 27, 28, 29, 30, 31, 32, 33, 34, 35, 36, 37, 38, 39, 40, 41, 42] clsW_idC (by decide +kernel) (fun _ => clsW_fst) 0 11 rfl rfl (by decide) rfl hl.1 (rest := []) rfl (Nat.le_of_ble_eq_true rfl) dX11_copy_110 (st1 := fun _ => [.int (fnd 0)]) (fun _ => rfl) (fun _ H locs _ X => ?_)
                    have X : Wd E _ _ (clsW E a f g h ik one wo tp tl tk ts te tn rb rz rn (fdU td 0)) _ _ := X.eq clsW_idP
                    exact k_topi (x' := (oCopy rb rz rn td (nI 1) (nI a1) (nI 3) v (nI c1)).1) (by simp [oCopy, hx0, ek, hy0, ej, c29, c41, c68, c89, ea1, ec1, c105]) (fin () 113 _ _ _ trivial (X.eq (by simp [oCopy, hx0, ek, hy0, ej, c29, c41, c68, c89, ea1, ec1, c105])) dX11_copy_113)
              · refine lv_aload_n hx hb dX11_copy_71 rfl (lv_at hl 0 rfl) ?_
                refine lv_iconst (v := 2) hx hb dX11_copy_72 (by decide) ?_
                refine k_callV K X gv_X11_84 (As := [.int 2]) (c_X11_finding l E a f g h ik one wo tp tl tk ts te tn rb rz rn td 2 (by decide)) [0, 1, 2, 3, 4, 5, 6, 7, 8, 9, 10, 11, 12, 13, 14, 15, 16, 17, 18, 19, 20, 21, 22, 23, 24, 25, 26, 27, 28, 29, 30, 31, 32, 33, 34, 35, 36, 37, 38, 39, 40, 41, 42] clsW_idC (by decide +kernel) (fun _ => clsW_fst) 0 11 rfl rfl (by decide) rfl hl.1 (rest := []) rfl (Nat.le_of_ble_eq_true rfl) dX11_copy_73 (st1 := fun _ => [.int (fnd 2)]) (fun _ => rfl) (fun _ H locs _ X => ?_)
                have X : Wd E _ _ (clsW E a f g h ik one wo tp tl tk ts te tn rb rz rn (fdU td 2)) _ _ := X.eq clsW_idP
                exact k_topi (x' := (oCopy rb rz rn td (nI 1) y (nI 3) v w).1) (by simp [oCopy, hx0, ek, hy0, ej, c29, c41, c68]) (fin () 76 _ _ _ trivial (X.eq (by simp [oCopy, hx0, ek, hy0, ej, c29, c41, c68])) dX11_copy_76)
            · refine lv_aload_n hx hb dX11_copy_44 rfl (lv_at hl 0 rfl) ?_
              refine lv_iconst (v := 5) hx hb dX11_copy_45 (by decide) ?_
              refine k_callV K X gv_X11_84 (As := [.int 5]) (c_X11_finding l E a f g h ik one wo tp tl tk ts te tn rb rz rn td 5 (by decide)) [0, 1, 2, 3, 4, 5, 6, 7, 8, 9, 10, 11, 12, 13, 14, 15, 16, 17, 18, 19, 20, 21, 22, 23, 24, 25, 26, 27, 28, 29, 30, 31, 32, 33, 34, 35, 36, 37, 38, 39, 40, 41, 42] clsW_idC (by decide +kernel) (fun _ => clsW_fst) 0 11 rfl rfl (by decide) rfl hl.1 (rest := []) rfl (Nat.le_of_ble_eq_true rfl) dX11_copy_46 (st1 := fun _ => [.int (fnd 5)]) (fun _ => rfl) (fun _ H locs _ X => ?_)
              have X : Wd E _ _ (clsW E a f g h ik one wo tp tl tk ts te tn rb rz rn (fdU td 5)) _ _ := X.eq clsW_idP
              exact k_topi (x' := (oCopy rb rz rn td (nI 1) y (nI 3) v w).1) (by simp [oCopy, hx0, ek, hy0, ej, c29, c41]) (fin () 49 _ _ _ trivial (X.eq (by simp [oCopy, hx0, ek, hy0, ej, c29, c41])) dX11_copy_49)
      · have hzx := (J 2 (by decide)).2
        refine lv_iload_n hx hb dX11_copy_24 rfl (lv_at hl 1 rfl) ?_
        refine k_aaldN (C := "SlipWall$Row") K X 26 3 rfl rfl (k := 2) (by omega) (by decide) (r := a 31) rfl dX11_copy_25 ?_
        refine k_callV K X gv_X11_236 (As := []) (c_X7_isMissing l E (fun j => a (31 + j)) (rb 2) (rz 2) (rn 2)) [31, 32] clsW_s16C (by decide +kernel) (fun _ => rowW_fst) 0 7 rfl rfl (by decide) rfl hl.1 (rest := []) rfl (Nat.le_of_ble_eq_true rfl) dX11_copy_26 (st1 := fun _ => [.int (b2i (decide ((rb 2) = 0)))]) (fun _ => rfl) (fun _ H locs _ X => ?_)
        have X : Wd E _ _ (clsW E a f g h ik one wo tp tl tk ts te tn rb rz rn td) _ _ := X.eq clsW_s16P
        refine k_ifneB (B := (decide ((rb 2) = 0))) hx hb 44 dX11_copy_29 (by decide) (fun c29 => ?_) (fun c29 => ?_)
        · refine lv_aload_n hx hb dX11_copy_44 rfl (lv_at hl 0 rfl) ?_
          refine lv_iconst (v := 5) hx hb dX11_copy_45 (by decide) ?_
          refine k_callV K X gv_X11_84 (As := [.int 5]) (c_X11_finding l E a f g h ik one wo tp tl tk ts te tn rb rz rn td 5 (by decide)) [0, 1, 2, 3, 4, 5, 6, 7, 8, 9, 10, 11, 12, 13, 14, 15, 16, 17, 18, 19, 20, 21, 22, 23, 24, 25, 26, 27, 28, 29, 30, 31, 32, 33, 34, 35, 36, 37, 38, 39, 40, 41, 42] clsW_idC (by decide +kernel) (fun _ => clsW_fst) 0 11 rfl rfl (by decide) rfl hl.1 (rest := []) rfl (Nat.le_of_ble_eq_true rfl) dX11_copy_46 (st1 := fun _ => [.int (fnd 5)]) (fun _ => rfl) (fun _ H locs _ X => ?_)
          have X : Wd E _ _ (clsW E a f g h ik one wo tp tl tk ts te tn rb rz rn (fdU td 5)) _ _ := X.eq clsW_idP
          exact k_topi (x' := (oCopy rb rz rn td (nI 2) y (nI j) v w).1) (by simp [oCopy, hx0, ek, hy0, ej, c29]) (fin () 49 _ _ _ trivial (X.eq (by simp [oCopy, hx0, ek, hy0, ej, c29])) dX11_copy_49)
        · refine lv_aload_n hx hb dX11_copy_32 rfl (lv_at hl 0 rfl) ?_
          refine k_get K X 0 rfl fg_X11_71 (v := .ref (a 26)) rfl dX11_copy_33 ?_
          rcases (show j = 0 ∨ j = 1 ∨ j = 2 ∨ j = 3 by omega) with rfl | rfl | rfl | rfl
          · have hzy := (J 0 (by decide)).2
            refine lv_iload_n hx hb dX11_copy_36 rfl (lv_at hl 3 rfl) ?_
            refine k_aaldN (C := "SlipWall$Row") K X 26 3 rfl rfl (k := 0) (by omega) (by decide) (r := a 27) rfl dX11_copy_37 ?_
            refine k_callV K X gv_X11_236 (As := []) (c_X7_isMissing l E (fun j => a (27 + j)) (rb 0) (rz 0) (rn 0)) [27, 28] clsW_s14C (by decide +kernel) (fun _ => rowW_fst) 0 7 rfl rfl (by decide) rfl hl.1 (rest := []) rfl (Nat.le_of_ble_eq_true rfl) dX11_copy_38 (st1 := fun _ => [.int (b2i (decide ((rb 0) = 0)))]) (fun _ => rfl) (fun _ H locs _ X => ?_)
            have X : Wd E _ _ (clsW E a f g h ik one wo tp tl tk ts te tn rb rz rn td) _ _ := X.eq clsW_s14P
            refine k_ifeqB (B := (decide ((rb 0) = 0))) hx hb 50 dX11_copy_41 (by decide) (fun c41 => ?_) (fun c41 => ?_)
            · refine lv_aload_n hx hb dX11_copy_50 rfl (lv_at hl 0 rfl) ?_
              refine k_get K X 0 rfl fg_X11_71 (v := .ref (a 26)) rfl dX11_copy_51 ?_
              refine lv_iload_n hx hb dX11_copy_54 rfl (lv_at hl 1 rfl) ?_
              refine k_aaldN (C := "SlipWall$Row") K X 26 3 rfl rfl (k := 2) (by omega) (by decide) (r := a 31) rfl dX11_copy_55 ?_
              refine k_getN K X 31 rfl fg_X11_247 (v := .int (rb 2)) rfl dX11_copy_56 ?_
              refine lv_aload_n hx hb dX11_copy_59 rfl (lv_at hl 0 rfl) ?_
              refine k_get K X 0 rfl fg_X11_71 (v := .ref (a 26)) rfl dX11_copy_60 ?_
              refine lv_iload_n hx hb dX11_copy_63 rfl (lv_at hl 3 rfl) ?_
              refine k_aaldN (C := "SlipWall$Row") K X 26 3 rfl rfl (k := 0) (by omega) (by decide) (r := a 27) rfl dX11_copy_64 ?_
              refine k_getN K X 27 rfl fg_X11_247 (v := .int (rb 0)) rfl dX11_copy_65 ?_
              refine k_icmp_eq (x := rb 2) (y := rb 0) hx hb 77 dX11_copy_68 (by decide) (fun c68 => ?_) (fun c68 => ?_)
              · refine lv_aload_n hx hb dX11_copy_77 rfl (lv_at hl 0 rfl) ?_
                refine k_get K X 0 rfl fg_X11_71 (v := .ref (a 26)) rfl dX11_copy_78 ?_
                refine lv_iload_n hx hb dX11_copy_81 rfl (lv_at hl 1 rfl) ?_
                refine k_aaldN (C := "SlipWall$Row") K X 26 3 rfl rfl (k := 2) (by omega) (by decide) (r := a 31) rfl dX11_copy_82 ?_
                refine lv_iload_n hx hb dX11_copy_83 rfl (lv_at hl 2 rfl) ?_
                refine lv_iload hx hb dX11_copy_84 (lv_at hl 5 rfl) ?_
                refine k_callV K X gv_X11_250 (As := [.int y, .int w]) (c_X7_hasFrom l E (fun j => a (31 + j)) (rb 2) (rz 2) (rn 2) y w) [31, 32] clsW_s16C (by decide +kernel) (fun _ => rowW_fst) 0 7 rfl rfl (by decide) rfl hl.1 (rest := []) rfl (Nat.le_of_ble_eq_true rfl) dX11_copy_86 (st1 := fun _ => [.int (b2i (hasR (rz 2) y w))]) (fun _ => rfl) (fun _ H locs _ X => ?_)
                have X : Wd E _ _ (clsW E a f g h ik one wo tp tl tk ts te tn rb rz rn td) _ _ := X.eq clsW_s16P
                refine k_ifeqB (B := (hasR (rz 2) y w)) hx hb 108 dX11_copy_89 (by decide) (fun c89 => ?_) (fun c89 => ?_)
                · refine lv_aload_n hx hb dX11_copy_108 rfl (lv_at hl 0 rfl) ?_
                  refine lv_iconst (v := 0) hx hb dX11_copy_109 (by decide) ?_
                  refine k_callV K X gv_X11_84 (As := [.int 0]) (c_X11_finding l E a f g h ik one wo tp tl tk ts te tn rb rz rn td 0 (by decide)) [0, 1, 2, 3, 4, 5, 6, 7, 8, 9, 10, 11, 12, 13, 14, 15, 16, 17, 18, 19, 20, 21, 22, 23, 24, 25, 26, 27, 28, 29, 30, 31, 32, 33, 34, 35, 36, 37, 38, 39, 40, 41, 42] clsW_idC (by decide +kernel) (fun _ => clsW_fst) 0 11 rfl rfl (by decide) rfl hl.1 (rest := []) rfl (Nat.le_of_ble_eq_true rfl) dX11_copy_110 (st1 := fun _ => [.int (fnd 0)]) (fun _ => rfl) (fun _ H locs _ X => ?_)
                  have X : Wd E _ _ (clsW E a f g h ik one wo tp tl tk ts te tn rb rz rn (fdU td 0)) _ _ := X.eq clsW_idP
                  exact k_topi (x' := (oCopy rb rz rn td (nI 2) y (nI 0) v w).1) (by simp [oCopy, hx0, ek, hy0, ej, c29, c41, c68, c89]) (fin () 113 _ _ _ trivial (X.eq (by simp [oCopy, hx0, ek, hy0, ej, c29, c41, c68, c89])) dX11_copy_113)
                · obtain ⟨a1, c1, rfl, rfl, hac⟩ := hasR_nat (J 2 (by decide)).1 hzx c89
                  have ea1 : (nI a1).toNatClampNeg = a1 := nI_clamp (by omega)
                  have ec1 : (nI c1).toNatClampNeg = c1 := nI_clamp (by omega)
                  refine lv_aload_n hx hb dX11_copy_92 rfl (lv_at hl 0 rfl) ?_
                  refine k_get K X 0 rfl fg_X11_71 (v := .ref (a 26)) rfl dX11_copy_93 ?_
                  refine lv_iload_n hx hb dX11_copy_96 rfl (lv_at hl 3 rfl) ?_
                  refine k_aaldN (C := "SlipWall$Row") K X 26 3 rfl rfl (k := 0) (by omega) (by decide) (r := a 27) rfl dX11_copy_97 ?_
                  refine lv_iload hx hb dX11_copy_98 (lv_at hl 4 rfl) ?_
                  refine lv_iload hx hb dX11_copy_100 (lv_at hl 5 rfl) ?_
                  refine k_callV K X gv_X11_250 (As := [.int v, .int (nI c1)]) (c_X7_hasFrom l E (fun j => a (27 + j)) (rb 0) (rz 0) (rn 0) v (nI c1)) [27, 28] clsW_s14C (by decide +kernel) (fun _ => rowW_fst) 0 7 rfl rfl (by decide) rfl hl.1 (rest := []) rfl (Nat.le_of_ble_eq_true rfl) dX11_copy_102 (st1 := fun _ => [.int (b2i (hasR (rz 0) v (nI c1)))]) (fun _ => rfl) (fun _ H locs _ X => ?_)
                  have X : Wd E _ _ (clsW E a f g h ik one wo tp tl tk ts te tn rb rz rn td) _ _ := X.eq clsW_s14P
                  refine k_ifneB (B := (hasR (rz 0) v (nI c1))) hx hb 114 dX11_copy_105 (by decide) (fun c105 => ?_) (fun c105 => ?_)
                  · obtain ⟨b1, rfl, hbc⟩ := hasR_nat2 (J 0 (by decide)).1 hzy (by omega) c105
                    have eb1 : (nI b1).toNatClampNeg = b1 := nI_clamp (by omega)
                    refine lv_aload_n hx hb dX11_copy_114 rfl (lv_at hl 0 rfl) ?_
                    refine k_get K X 0 rfl fg_X11_71 (v := .ref (a 26)) rfl dX11_copy_115 ?_
                    refine lv_iload_n hx hb dX11_copy_118 rfl (lv_at hl 1 rfl) ?_
                    refine k_aaldN (C := "SlipWall$Row") K X 26 3 rfl rfl (k := 2) (by omega) (by decide) (r := a 31) rfl dX11_copy_119 ?_
                    refine k_getN K X 31 rfl fg_X11_240 (v := .ref (a 32)) rfl dX11_copy_120 ?_
                    refine lv_iload_n hx hb dX11_copy_123 rfl (lv_at hl 2 rfl) ?_
                    refine lv_aload_n hx hb dX11_copy_124 rfl (lv_at hl 0 rfl) ?_
                    refine k_get K X 0 rfl fg_X11_71 (v := .ref (a 26)) rfl dX11_copy_125 ?_
                    refine lv_iload_n hx hb dX11_copy_128 rfl (lv_at hl 3 rfl) ?_
                    refine k_aaldN (C := "SlipWall$Row") K X 26 3 rfl rfl (k := 0) (by omega) (by decide) (r := a 27) rfl dX11_copy_129 ?_
                    refine k_getN K X 27 rfl fg_X11_240 (v := .ref (a 28)) rfl dX11_copy_130 ?_
                    refine lv_iload hx hb dX11_copy_133 (lv_at hl 4 rfl) ?_
                    refine lv_iload hx hb dX11_copy_135 (lv_at hl 5 rfl) ?_
                    refine k_copyl K X ⟨Mw_at 801 (by decide +kernel) (by decide +kernel), Mw_at 575 (by decide +kernel) (by decide +kernel), Mw_at 574 (by decide +kernel) (by decide +kernel), Mw_at 77 (by decide +kernel) (by decide +kernel)⟩ 32 28 (i := a1) (j := b1) (c := c1) rfl rfl (by omega) (by omega) hl.1 (by decide) (Nat.le_of_ble_eq_true rfl) dX11_copy_137 (fun H locs X => ?_)
                    have X : Wd E _ _ (clsW E a f g h ik one wo tp tl tk ts te tn rb rz (setRL rn 0 (va_cpy (rn 2) (rn 0) a1 b1 c1)) td) _ _ := X
                    refine lv_iload hx hb dX11_copy_140 (lv_at hl 5 rfl) ?_
                    exact k_topi (x' := (oCopy rb rz rn td (nI 2) (nI a1) (nI 0) (nI b1) (nI c1)).1) (by simp [oCopy, hx0, ek, hy0, ej, c29, c41, c68, c89, ea1, ec1, c105, eb1]) (fin () 142 _ _ _ trivial (X.eq (by simp [oCopy, hx0, ek, hy0, ej, c29, c41, c68, c89, ea1, ec1, c105, eb1])) dX11_copy_142)
                  · refine lv_aload_n hx hb dX11_copy_108 rfl (lv_at hl 0 rfl) ?_
                    refine lv_iconst (v := 0) hx hb dX11_copy_109 (by decide) ?_
                    refine k_callV K X gv_X11_84 (As := [.int 0]) (c_X11_finding l E a f g h ik one wo tp tl tk ts te tn rb rz rn td 0 (by decide)) [0, 1, 2, 3, 4, 5, 6, 7, 8, 9, 10, 11, 12, 13, 14, 15, 16, 17, 18, 19, 20, 21, 22, 23, 24, 25, 26, 27, 28, 29, 30, 31, 32, 33, 34, 35, 36, 37, 38, 39, 40, 41, 42] clsW_idC (by decide +kernel) (fun _ => clsW_fst) 0 11 rfl rfl (by decide) rfl hl.1 (rest := []) rfl (Nat.le_of_ble_eq_true rfl) dX11_copy_110 (st1 := fun _ => [.int (fnd 0)]) (fun _ => rfl) (fun _ H locs _ X => ?_)
                    have X : Wd E _ _ (clsW E a f g h ik one wo tp tl tk ts te tn rb rz rn (fdU td 0)) _ _ := X.eq clsW_idP
                    exact k_topi (x' := (oCopy rb rz rn td (nI 2) (nI a1) (nI 0) v (nI c1)).1) (by simp [oCopy, hx0, ek, hy0, ej, c29, c41, c68, c89, ea1, ec1, c105]) (fin () 113 _ _ _ trivial (X.eq (by simp [oCopy, hx0, ek, hy0, ej, c29, c41, c68, c89, ea1, ec1, c105])) dX11_copy_113)
              · refine lv_aload_n hx hb dX11_copy_71 rfl (lv_at hl 0 rfl) ?_
                refine lv_iconst (v := 2) hx hb dX11_copy_72 (by decide) ?_
                refine k_callV K X gv_X11_84 (As := [.int 2]) (c_X11_finding l E a f g h ik one wo tp tl tk ts te tn rb rz rn td 2 (by decide)) [0, 1, 2, 3, 4, 5, 6, 7, 8, 9, 10, 11, 12, 13, 14, 15, 16, 17, 18, 19, 20, 21, 22, 23, 24, 25, 26, 27, 28, 29, 30, 31, 32, 33, 34, 35, 36, 37, 38, 39, 40, 41, 42] clsW_idC (by decide +kernel) (fun _ => clsW_fst) 0 11 rfl rfl (by decide) rfl hl.1 (rest := []) rfl (Nat.le_of_ble_eq_true rfl) dX11_copy_73 (st1 := fun _ => [.int (fnd 2)]) (fun _ => rfl) (fun _ H locs _ X => ?_)
                have X : Wd E _ _ (clsW E a f g h ik one wo tp tl tk ts te tn rb rz rn (fdU td 2)) _ _ := X.eq clsW_idP
                exact k_topi (x' := (oCopy rb rz rn td (nI 2) y (nI 0) v w).1) (by simp [oCopy, hx0, ek, hy0, ej, c29, c41, c68]) (fin () 76 _ _ _ trivial (X.eq (by simp [oCopy, hx0, ek, hy0, ej, c29, c41, c68])) dX11_copy_76)
            · refine lv_aload_n hx hb dX11_copy_44 rfl (lv_at hl 0 rfl) ?_
              refine lv_iconst (v := 5) hx hb dX11_copy_45 (by decide) ?_
              refine k_callV K X gv_X11_84 (As := [.int 5]) (c_X11_finding l E a f g h ik one wo tp tl tk ts te tn rb rz rn td 5 (by decide)) [0, 1, 2, 3, 4, 5, 6, 7, 8, 9, 10, 11, 12, 13, 14, 15, 16, 17, 18, 19, 20, 21, 22, 23, 24, 25, 26, 27, 28, 29, 30, 31, 32, 33, 34, 35, 36, 37, 38, 39, 40, 41, 42] clsW_idC (by decide +kernel) (fun _ => clsW_fst) 0 11 rfl rfl (by decide) rfl hl.1 (rest := []) rfl (Nat.le_of_ble_eq_true rfl) dX11_copy_46 (st1 := fun _ => [.int (fnd 5)]) (fun _ => rfl) (fun _ H locs _ X => ?_)
              have X : Wd E _ _ (clsW E a f g h ik one wo tp tl tk ts te tn rb rz rn (fdU td 5)) _ _ := X.eq clsW_idP
              exact k_topi (x' := (oCopy rb rz rn td (nI 2) y (nI 0) v w).1) (by simp [oCopy, hx0, ek, hy0, ej, c29, c41]) (fin () 49 _ _ _ trivial (X.eq (by simp [oCopy, hx0, ek, hy0, ej, c29, c41])) dX11_copy_49)
          · have hzy := (J 1 (by decide)).2
            refine lv_iload_n hx hb dX11_copy_36 rfl (lv_at hl 3 rfl) ?_
            refine k_aaldN (C := "SlipWall$Row") K X 26 3 rfl rfl (k := 1) (by omega) (by decide) (r := a 29) rfl dX11_copy_37 ?_
            refine k_callV K X gv_X11_236 (As := []) (c_X7_isMissing l E (fun j => a (29 + j)) (rb 1) (rz 1) (rn 1)) [29, 30] clsW_s15C (by decide +kernel) (fun _ => rowW_fst) 0 7 rfl rfl (by decide) rfl hl.1 (rest := []) rfl (Nat.le_of_ble_eq_true rfl) dX11_copy_38 (st1 := fun _ => [.int (b2i (decide ((rb 1) = 0)))]) (fun _ => rfl) (fun _ H locs _ X => ?_)
            have X : Wd E _ _ (clsW E a f g h ik one wo tp tl tk ts te tn rb rz rn td) _ _ := X.eq clsW_s15P
            refine k_ifeqB (B := (decide ((rb 1) = 0))) hx hb 50 dX11_copy_41 (by decide) (fun c41 => ?_) (fun c41 => ?_)
            · refine lv_aload_n hx hb dX11_copy_50 rfl (lv_at hl 0 rfl) ?_
              refine k_get K X 0 rfl fg_X11_71 (v := .ref (a 26)) rfl dX11_copy_51 ?_
              refine lv_iload_n hx hb dX11_copy_54 rfl (lv_at hl 1 rfl) ?_
              refine k_aaldN (C := "SlipWall$Row") K X 26 3 rfl rfl (k := 2) (by omega) (by decide) (r := a 31) rfl dX11_copy_55 ?_
              refine k_getN K X 31 rfl fg_X11_247 (v := .int (rb 2)) rfl dX11_copy_56 ?_
              refine lv_aload_n hx hb dX11_copy_59 rfl (lv_at hl 0 rfl) ?_
              refine k_get K X 0 rfl fg_X11_71 (v := .ref (a 26)) rfl dX11_copy_60 ?_
              refine lv_iload_n hx hb dX11_copy_63 rfl (lv_at hl 3 rfl) ?_
              refine k_aaldN (C := "SlipWall$Row") K X 26 3 rfl rfl (k := 1) (by omega) (by decide) (r := a 29) rfl dX11_copy_64 ?_
              refine k_getN K X 29 rfl fg_X11_247 (v := .int (rb 1)) rfl dX11_copy_65 ?_
              refine k_icmp_eq (x := rb 2) (y := rb 1) hx hb 77 dX11_copy_68 (by decide) (fun c68 => ?_) (fun c68 => ?_)
              · refine lv_aload_n hx hb dX11_copy_77 rfl (lv_at hl 0 rfl) ?_
                refine k_get K X 0 rfl fg_X11_71 (v := .ref (a 26)) rfl dX11_copy_78 ?_
                refine lv_iload_n hx hb dX11_copy_81 rfl (lv_at hl 1 rfl) ?_
                refine k_aaldN (C := "SlipWall$Row") K X 26 3 rfl rfl (k := 2) (by omega) (by decide) (r := a 31) rfl dX11_copy_82 ?_
                refine lv_iload_n hx hb dX11_copy_83 rfl (lv_at hl 2 rfl) ?_
                refine lv_iload hx hb dX11_copy_84 (lv_at hl 5 rfl) ?_
                refine k_callV K X gv_X11_250 (As := [.int y, .int w]) (c_X7_hasFrom l E (fun j => a (31 + j)) (rb 2) (rz 2) (rn 2) y w) [31, 32] clsW_s16C (by decide +kernel) (fun _ => rowW_fst) 0 7 rfl rfl (by decide) rfl hl.1 (rest := []) rfl (Nat.le_of_ble_eq_true rfl) dX11_copy_86 (st1 := fun _ => [.int (b2i (hasR (rz 2) y w))]) (fun _ => rfl) (fun _ H locs _ X => ?_)
                have X : Wd E _ _ (clsW E a f g h ik one wo tp tl tk ts te tn rb rz rn td) _ _ := X.eq clsW_s16P
                refine k_ifeqB (B := (hasR (rz 2) y w)) hx hb 108 dX11_copy_89 (by decide) (fun c89 => ?_) (fun c89 => ?_)
                · refine lv_aload_n hx hb dX11_copy_108 rfl (lv_at hl 0 rfl) ?_
                  refine lv_iconst (v := 0) hx hb dX11_copy_109 (by decide) ?_
                  refine k_callV K X gv_X11_84 (As := [.int 0]) (c_X11_finding l E a f g h ik one wo tp tl tk ts te tn rb rz rn td 0 (by decide)) [0, 1, 2, 3, 4, 5, 6, 7, 8, 9, 10, 11, 12, 13, 14, 15, 16, 17, 18, 19, 20, 21, 22, 23, 24, 25, 26, 27, 28, 29, 30, 31, 32, 33, 34, 35, 36, 37, 38, 39, 40, 41, 42] clsW_idC (by decide +kernel) (fun _ => clsW_fst) 0 11 rfl rfl (by decide) rfl hl.1 (rest := []) rfl (Nat.le_of_ble_eq_true rfl) dX11_copy_110 (st1 := fun _ => [.int (fnd 0)]) (fun _ => rfl) (fun _ H locs _ X => ?_)
                  have X : Wd E _ _ (clsW E a f g h ik one wo tp tl tk ts te tn rb rz rn (fdU td 0)) _ _ := X.eq clsW_idP
                  exact k_topi (x' := (oCopy rb rz rn td (nI 2) y (nI 1) v w).1) (by simp [oCopy, hx0, ek, hy0, ej, c29, c41, c68, c89]) (fin () 113 _ _ _ trivial (X.eq (by simp [oCopy, hx0, ek, hy0, ej, c29, c41, c68, c89])) dX11_copy_113)
                · obtain ⟨a1, c1, rfl, rfl, hac⟩ := hasR_nat (J 2 (by decide)).1 hzx c89
                  have ea1 : (nI a1).toNatClampNeg = a1 := nI_clamp (by omega)
                  have ec1 : (nI c1).toNatClampNeg = c1 := nI_clamp (by omega)
                  refine lv_aload_n hx hb dX11_copy_92 rfl (lv_at hl 0 rfl) ?_
                  refine k_get K X 0 rfl fg_X11_71 (v := .ref (a 26)) rfl dX11_copy_93 ?_
                  refine lv_iload_n hx hb dX11_copy_96 rfl (lv_at hl 3 rfl) ?_
                  refine k_aaldN (C := "SlipWall$Row") K X 26 3 rfl rfl (k := 1) (by omega) (by decide) (r := a 29) rfl dX11_copy_97 ?_
                  refine lv_iload hx hb dX11_copy_98 (lv_at hl 4 rfl) ?_
                  refine lv_iload hx hb dX11_copy_100 (lv_at hl 5 rfl) ?_
                  refine k_callV K X gv_X11_250 (As := [.int v, .int (nI c1)]) (c_X7_hasFrom l E (fun j => a (29 + j)) (rb 1) (rz 1) (rn 1) v (nI c1)) [29, 30] clsW_s15C (by decide +kernel) (fun _ => rowW_fst) 0 7 rfl rfl (by decide) rfl hl.1 (rest := []) rfl (Nat.le_of_ble_eq_true rfl) dX11_copy_102 (st1 := fun _ => [.int (b2i (hasR (rz 1) v (nI c1)))]) (fun _ => rfl) (fun _ H locs _ X => ?_)
                  have X : Wd E _ _ (clsW E a f g h ik one wo tp tl tk ts te tn rb rz rn td) _ _ := X.eq clsW_s15P
                  refine k_ifneB (B := (hasR (rz 1) v (nI c1))) hx hb 114 dX11_copy_105 (by decide) (fun c105 => ?_) (fun c105 => ?_)
                  · obtain ⟨b1, rfl, hbc⟩ := hasR_nat2 (J 1 (by decide)).1 hzy (by omega) c105
                    have eb1 : (nI b1).toNatClampNeg = b1 := nI_clamp (by omega)
                    refine lv_aload_n hx hb dX11_copy_114 rfl (lv_at hl 0 rfl) ?_
                    refine k_get K X 0 rfl fg_X11_71 (v := .ref (a 26)) rfl dX11_copy_115 ?_
                    refine lv_iload_n hx hb dX11_copy_118 rfl (lv_at hl 1 rfl) ?_
                    refine k_aaldN (C := "SlipWall$Row") K X 26 3 rfl rfl (k := 2) (by omega) (by decide) (r := a 31) rfl dX11_copy_119 ?_
                    refine k_getN K X 31 rfl fg_X11_240 (v := .ref (a 32)) rfl dX11_copy_120 ?_
                    refine lv_iload_n hx hb dX11_copy_123 rfl (lv_at hl 2 rfl) ?_
                    refine lv_aload_n hx hb dX11_copy_124 rfl (lv_at hl 0 rfl) ?_
                    refine k_get K X 0 rfl fg_X11_71 (v := .ref (a 26)) rfl dX11_copy_125 ?_
                    refine lv_iload_n hx hb dX11_copy_128 rfl (lv_at hl 3 rfl) ?_
                    refine k_aaldN (C := "SlipWall$Row") K X 26 3 rfl rfl (k := 1) (by omega) (by decide) (r := a 29) rfl dX11_copy_129 ?_
                    refine k_getN K X 29 rfl fg_X11_240 (v := .ref (a 30)) rfl dX11_copy_130 ?_
                    refine lv_iload hx hb dX11_copy_133 (lv_at hl 4 rfl) ?_
                    refine lv_iload hx hb dX11_copy_135 (lv_at hl 5 rfl) ?_
                    refine k_copyl K X ⟨Mw_at 801 (by decide +kernel) (by decide +kernel), Mw_at 575 (by decide +kernel) (by decide +kernel), Mw_at 574 (by decide +kernel) (by decide +kernel), Mw_at 77 (by decide +kernel) (by decide +kernel)⟩ 32 30 (i := a1) (j := b1) (c := c1) rfl rfl (by omega) (by omega) hl.1 (by decide) (Nat.le_of_ble_eq_true rfl) dX11_copy_137 (fun H locs X => ?_)
                    have X : Wd E _ _ (clsW E a f g h ik one wo tp tl tk ts te tn rb rz (setRL rn 1 (va_cpy (rn 2) (rn 1) a1 b1 c1)) td) _ _ := X
                    refine lv_iload hx hb dX11_copy_140 (lv_at hl 5 rfl) ?_
                    exact k_topi (x' := (oCopy rb rz rn td (nI 2) (nI a1) (nI 1) (nI b1) (nI c1)).1) (by simp [oCopy, hx0, ek, hy0, ej, c29, c41, c68, c89, ea1, ec1, c105, eb1]) (fin () 142 _ _ _ trivial (X.eq (by simp [oCopy, hx0, ek, hy0, ej, c29, c41, c68, c89, ea1, ec1, c105, eb1])) dX11_copy_142)
                  · refine lv_aload_n hx hb dX11_copy_108 rfl (lv_at hl 0 rfl) ?_
                    refine lv_iconst (v := 0) hx hb dX11_copy_109 (by decide) ?_
                    refine k_callV K X gv_X11_84 (As := [.int 0]) (c_X11_finding l E a f g h ik one wo tp tl tk ts te tn rb rz rn td 0 (by decide)) [0, 1, 2, 3, 4, 5, 6, 7, 8, 9, 10, 11, 12, 13, 14, 15, 16, 17, 18, 19, 20, 21, 22, 23, 24, 25, 26, 27, 28, 29, 30, 31, 32, 33, 34, 35, 36, 37, 38, 39, 40, 41, 42] clsW_idC (by decide +kernel) (fun _ => clsW_fst) 0 11 rfl rfl (by decide) rfl hl.1 (rest := []) rfl (Nat.le_of_ble_eq_true rfl) dX11_copy_110 (st1 := fun _ => [.int (fnd 0)]) (fun _ => rfl) (fun _ H locs _ X => ?_)
                    have X : Wd E _ _ (clsW E a f g h ik one wo tp tl tk ts te tn rb rz rn (fdU td 0)) _ _ := X.eq clsW_idP
                    exact k_topi (x' := (oCopy rb rz rn td (nI 2) (nI a1) (nI 1) v (nI c1)).1) (by simp [oCopy, hx0, ek, hy0, ej, c29, c41, c68, c89, ea1, ec1, c105]) (fin () 113 _ _ _ trivial (X.eq (by simp [oCopy, hx0, ek, hy0, ej, c29, c41, c68, c89, ea1, ec1, c105])) dX11_copy_113)
              · refine lv_aload_n hx hb dX11_copy_71 rfl (lv_at hl 0 rfl) ?_
                refine lv_iconst (v := 2) hx hb dX11_copy_72 (by decide) ?_
                refine k_callV K X gv_X11_84 (As := [.int 2]) (c_X11_finding l E a f g h ik one wo tp tl tk ts te tn rb rz rn td 2 (by decide)) [0, 1, 2, 3, 4, 5, 6, 7, 8, 9, 10, 11, 12, 13, 14, 15, 16, 17, 18, 19, 20, 21, 22, 23, 24, 25, 26, 27, 28, 29, 30, 31, 32, 33, 34, 35, 36, 37, 38, 39, 40, 41, 42] clsW_idC (by decide +kernel) (fun _ => clsW_fst) 0 11 rfl rfl (by decide) rfl hl.1 (rest := []) rfl (Nat.le_of_ble_eq_true rfl) dX11_copy_73 (st1 := fun _ => [.int (fnd 2)]) (fun _ => rfl) (fun _ H locs _ X => ?_)
                have X : Wd E _ _ (clsW E a f g h ik one wo tp tl tk ts te tn rb rz rn (fdU td 2)) _ _ := X.eq clsW_idP
                exact k_topi (x' := (oCopy rb rz rn td (nI 2) y (nI 1) v w).1) (by simp [oCopy, hx0, ek, hy0, ej, c29, c41, c68]) (fin () 76 _ _ _ trivial (X.eq (by simp [oCopy, hx0, ek, hy0, ej, c29, c41, c68])) dX11_copy_76)
            · refine lv_aload_n hx hb dX11_copy_44 rfl (lv_at hl 0 rfl) ?_
              refine lv_iconst (v := 5) hx hb dX11_copy_45 (by decide) ?_
              refine k_callV K X gv_X11_84 (As := [.int 5]) (c_X11_finding l E a f g h ik one wo tp tl tk ts te tn rb rz rn td 5 (by decide)) [0, 1, 2, 3, 4, 5, 6, 7, 8, 9, 10, 11, 12, 13, 14, 15, 16, 17, 18, 19, 20, 21, 22, 23, 24, 25, 26, 27, 28, 29, 30, 31, 32, 33, 34, 35, 36, 37, 38, 39, 40, 41, 42] clsW_idC (by decide +kernel) (fun _ => clsW_fst) 0 11 rfl rfl (by decide) rfl hl.1 (rest := []) rfl (Nat.le_of_ble_eq_true rfl) dX11_copy_46 (st1 := fun _ => [.int (fnd 5)]) (fun _ => rfl) (fun _ H locs _ X => ?_)
              have X : Wd E _ _ (clsW E a f g h ik one wo tp tl tk ts te tn rb rz rn (fdU td 5)) _ _ := X.eq clsW_idP
              exact k_topi (x' := (oCopy rb rz rn td (nI 2) y (nI 1) v w).1) (by simp [oCopy, hx0, ek, hy0, ej, c29, c41]) (fin () 49 _ _ _ trivial (X.eq (by simp [oCopy, hx0, ek, hy0, ej, c29, c41])) dX11_copy_49)
          · have hzy := (J 2 (by decide)).2
            refine lv_iload_n hx hb dX11_copy_36 rfl (lv_at hl 3 rfl) ?_
            refine k_aaldN (C := "SlipWall$Row") K X 26 3 rfl rfl (k := 2) (by omega) (by decide) (r := a 31) rfl dX11_copy_37 ?_
            refine k_callV K X gv_X11_236 (As := []) (c_X7_isMissing l E (fun j => a (31 + j)) (rb 2) (rz 2) (rn 2)) [31, 32] clsW_s16C (by decide +kernel) (fun _ => rowW_fst) 0 7 rfl rfl (by decide) rfl hl.1 (rest := []) rfl (Nat.le_of_ble_eq_true rfl) dX11_copy_38 (st1 := fun _ => [.int (b2i (decide ((rb 2) = 0)))]) (fun _ => rfl) (fun _ H locs _ X => ?_)
            have X : Wd E _ _ (clsW E a f g h ik one wo tp tl tk ts te tn rb rz rn td) _ _ := X.eq clsW_s16P
            refine k_ifeqB (B := (decide ((rb 2) = 0))) hx hb 50 dX11_copy_41 (by decide) (fun c41 => ?_) (fun c41 => ?_)
            · refine lv_aload_n hx hb dX11_copy_50 rfl (lv_at hl 0 rfl) ?_
              refine k_get K X 0 rfl fg_X11_71 (v := .ref (a 26)) rfl dX11_copy_51 ?_
              refine lv_iload_n hx hb dX11_copy_54 rfl (lv_at hl 1 rfl) ?_
              refine k_aaldN (C := "SlipWall$Row") K X 26 3 rfl rfl (k := 2) (by omega) (by decide) (r := a 31) rfl dX11_copy_55 ?_
              refine k_getN K X 31 rfl fg_X11_247 (v := .int (rb 2)) rfl dX11_copy_56 ?_
              refine lv_aload_n hx hb dX11_copy_59 rfl (lv_at hl 0 rfl) ?_
              refine k_get K X 0 rfl fg_X11_71 (v := .ref (a 26)) rfl dX11_copy_60 ?_
              refine lv_iload_n hx hb dX11_copy_63 rfl (lv_at hl 3 rfl) ?_
              refine k_aaldN (C := "SlipWall$Row") K X 26 3 rfl rfl (k := 2) (by omega) (by decide) (r := a 31) rfl dX11_copy_64 ?_
              refine k_getN K X 31 rfl fg_X11_247 (v := .int (rb 2)) rfl dX11_copy_65 ?_
              refine k_icmp_eq (x := rb 2) (y := rb 2) hx hb 77 dX11_copy_68 (by decide) (fun c68 => ?_) (fun c68 => ?_)
              · refine lv_aload_n hx hb dX11_copy_77 rfl (lv_at hl 0 rfl) ?_
                refine k_get K X 0 rfl fg_X11_71 (v := .ref (a 26)) rfl dX11_copy_78 ?_
                refine lv_iload_n hx hb dX11_copy_81 rfl (lv_at hl 1 rfl) ?_
                refine k_aaldN (C := "SlipWall$Row") K X 26 3 rfl rfl (k := 2) (by omega) (by decide) (r := a 31) rfl dX11_copy_82 ?_
                refine lv_iload_n hx hb dX11_copy_83 rfl (lv_at hl 2 rfl) ?_
                refine lv_iload hx hb dX11_copy_84 (lv_at hl 5 rfl) ?_
                refine k_callV K X gv_X11_250 (As := [.int y, .int w]) (c_X7_hasFrom l E (fun j => a (31 + j)) (rb 2) (rz 2) (rn 2) y w) [31, 32] clsW_s16C (by decide +kernel) (fun _ => rowW_fst) 0 7 rfl rfl (by decide) rfl hl.1 (rest := []) rfl (Nat.le_of_ble_eq_true rfl) dX11_copy_86 (st1 := fun _ => [.int (b2i (hasR (rz 2) y w))]) (fun _ => rfl) (fun _ H locs _ X => ?_)
                have X : Wd E _ _ (clsW E a f g h ik one wo tp tl tk ts te tn rb rz rn td) _ _ := X.eq clsW_s16P
                refine k_ifeqB (B := (hasR (rz 2) y w)) hx hb 108 dX11_copy_89 (by decide) (fun c89 => ?_) (fun c89 => ?_)
                · refine lv_aload_n hx hb dX11_copy_108 rfl (lv_at hl 0 rfl) ?_
                  refine lv_iconst (v := 0) hx hb dX11_copy_109 (by decide) ?_
                  refine k_callV K X gv_X11_84 (As := [.int 0]) (c_X11_finding l E a f g h ik one wo tp tl tk ts te tn rb rz rn td 0 (by decide)) [0, 1, 2, 3, 4, 5, 6, 7, 8, 9, 10, 11, 12, 13, 14, 15, 16, 17, 18, 19, 20, 21, 22, 23, 24, 25, 26, 27, 28, 29, 30, 31, 32, 33, 34, 35, 36, 37, 38, 39, 40, 41, 42] clsW_idC (by decide +kernel) (fun _ => clsW_fst) 0 11 rfl rfl (by decide) rfl hl.1 (rest := []) rfl (Nat.le_of_ble_eq_true rfl) dX11_copy_110 (st1 := fun _ => [.int (fnd 0)]) (fun _ => rfl) (fun _ H locs _ X => ?_)
                  have X : Wd E _ _ (clsW E a f g h ik one wo tp tl tk ts te tn rb rz rn (fdU td 0)) _ _ := X.eq clsW_idP
                  exact k_topi (x' := (oCopy rb rz rn td (nI 2) y (nI 2) v w).1) (by simp [oCopy, hx0, ek, hy0, ej, c29, c41, c89]) (fin () 113 _ _ _ trivial (X.eq (by simp [oCopy, hx0, ek, hy0, ej, c29, c41, c89])) dX11_copy_113)
                · obtain ⟨a1, c1, rfl, rfl, hac⟩ := hasR_nat (J 2 (by decide)).1 hzx c89
                  have ea1 : (nI a1).toNatClampNeg = a1 := nI_clamp (by omega)
                  have ec1 : (nI c1).toNatClampNeg = c1 := nI_clamp (by omega)
                  refine lv_aload_n hx hb dX11_copy_92 rfl (lv_at hl 0 rfl) ?_
                  refine k_get K X 0 rfl fg_X11_71 (v := .ref (a 26)) rfl dX11_copy_93 ?_
                  refine lv_iload_n hx hb dX11_copy_96 rfl (lv_at hl 3 rfl) ?_
                  refine k_aaldN (C := "SlipWall$Row") K X 26 3 rfl rfl (k := 2) (by omega) (by decide) (r := a 31) rfl dX11_copy_97 ?_
                  refine lv_iload hx hb dX11_copy_98 (lv_at hl 4 rfl) ?_
                  refine lv_iload hx hb dX11_copy_100 (lv_at hl 5 rfl) ?_
                  refine k_callV K X gv_X11_250 (As := [.int v, .int (nI c1)]) (c_X7_hasFrom l E (fun j => a (31 + j)) (rb 2) (rz 2) (rn 2) v (nI c1)) [31, 32] clsW_s16C (by decide +kernel) (fun _ => rowW_fst) 0 7 rfl rfl (by decide) rfl hl.1 (rest := []) rfl (Nat.le_of_ble_eq_true rfl) dX11_copy_102 (st1 := fun _ => [.int (b2i (hasR (rz 2) v (nI c1)))]) (fun _ => rfl) (fun _ H locs _ X => ?_)
                  have X : Wd E _ _ (clsW E a f g h ik one wo tp tl tk ts te tn rb rz rn td) _ _ := X.eq clsW_s16P
                  refine k_ifneB (B := (hasR (rz 2) v (nI c1))) hx hb 114 dX11_copy_105 (by decide) (fun c105 => ?_) (fun c105 => ?_)
                  · obtain ⟨b1, rfl, hbc⟩ := hasR_nat2 (J 2 (by decide)).1 hzy (by omega) c105
                    have eb1 : (nI b1).toNatClampNeg = b1 := nI_clamp (by omega)
                    refine lv_aload_n hx hb dX11_copy_114 rfl (lv_at hl 0 rfl) ?_
                    refine k_get K X 0 rfl fg_X11_71 (v := .ref (a 26)) rfl dX11_copy_115 ?_
                    refine lv_iload_n hx hb dX11_copy_118 rfl (lv_at hl 1 rfl) ?_
                    refine k_aaldN (C := "SlipWall$Row") K X 26 3 rfl rfl (k := 2) (by omega) (by decide) (r := a 31) rfl dX11_copy_119 ?_
                    refine k_getN K X 31 rfl fg_X11_240 (v := .ref (a 32)) rfl dX11_copy_120 ?_
                    refine lv_iload_n hx hb dX11_copy_123 rfl (lv_at hl 2 rfl) ?_
                    refine lv_aload_n hx hb dX11_copy_124 rfl (lv_at hl 0 rfl) ?_
                    refine k_get K X 0 rfl fg_X11_71 (v := .ref (a 26)) rfl dX11_copy_125 ?_
                    refine lv_iload_n hx hb dX11_copy_128 rfl (lv_at hl 3 rfl) ?_
                    refine k_aaldN (C := "SlipWall$Row") K X 26 3 rfl rfl (k := 2) (by omega) (by decide) (r := a 31) rfl dX11_copy_129 ?_
                    refine k_getN K X 31 rfl fg_X11_240 (v := .ref (a 32)) rfl dX11_copy_130 ?_
                    refine lv_iload hx hb dX11_copy_133 (lv_at hl 4 rfl) ?_
                    refine lv_iload hx hb dX11_copy_135 (lv_at hl 5 rfl) ?_
                    refine k_copyl K X ⟨Mw_at 801 (by decide +kernel) (by decide +kernel), Mw_at 575 (by decide +kernel) (by decide +kernel), Mw_at 574 (by decide +kernel) (by decide +kernel), Mw_at 77 (by decide +kernel) (by decide +kernel)⟩ 32 32 (i := a1) (j := b1) (c := c1) rfl rfl (by omega) (by omega) hl.1 (by decide) (Nat.le_of_ble_eq_true rfl) dX11_copy_137 (fun H locs X => ?_)
                    have X : Wd E _ _ (clsW E a f g h ik one wo tp tl tk ts te tn rb rz (setRL rn 2 (va_cpy (rn 2) (rn 2) a1 b1 c1)) td) _ _ := X
                    refine lv_iload hx hb dX11_copy_140 (lv_at hl 5 rfl) ?_
                    exact k_topi (x' := (oCopy rb rz rn td (nI 2) (nI a1) (nI 2) (nI b1) (nI c1)).1) (by simp [oCopy, hx0, ek, hy0, ej, c29, c41, c89, ea1, ec1, c105, eb1]) (fin () 142 _ _ _ trivial (X.eq (by simp [oCopy, hx0, ek, hy0, ej, c29, c41, c89, ea1, ec1, c105, eb1])) dX11_copy_142)
                  · refine lv_aload_n hx hb dX11_copy_108 rfl (lv_at hl 0 rfl) ?_
                    refine lv_iconst (v := 0) hx hb dX11_copy_109 (by decide) ?_
                    refine k_callV K X gv_X11_84 (As := [.int 0]) (c_X11_finding l E a f g h ik one wo tp tl tk ts te tn rb rz rn td 0 (by decide)) [0, 1, 2, 3, 4, 5, 6, 7, 8, 9, 10, 11, 12, 13, 14, 15, 16, 17, 18, 19, 20, 21, 22, 23, 24, 25, 26, 27, 28, 29, 30, 31, 32, 33, 34, 35, 36, 37, 38, 39, 40, 41, 42] clsW_idC (by decide +kernel) (fun _ => clsW_fst) 0 11 rfl rfl (by decide) rfl hl.1 (rest := []) rfl (Nat.le_of_ble_eq_true rfl) dX11_copy_110 (st1 := fun _ => [.int (fnd 0)]) (fun _ => rfl) (fun _ H locs _ X => ?_)
                    have X : Wd E _ _ (clsW E a f g h ik one wo tp tl tk ts te tn rb rz rn (fdU td 0)) _ _ := X.eq clsW_idP
                    exact k_topi (x' := (oCopy rb rz rn td (nI 2) (nI a1) (nI 2) v (nI c1)).1) (by simp [oCopy, hx0, ek, hy0, ej, c29, c41, c89, ea1, ec1, c105]) (fin () 113 _ _ _ trivial (X.eq (by simp [oCopy, hx0, ek, hy0, ej, c29, c41, c89, ea1, ec1, c105])) dX11_copy_113)
              · exact absurd rfl c68
            · exact absurd (c29.symm.trans c41) (by decide)
          · have hzy := (J 3 (by decide)).2
            refine lv_iload_n hx hb dX11_copy_36 rfl (lv_at hl 3 rfl) ?_
            refine k_aaldN (C := "SlipWall$Row") K X 26 3 rfl rfl (k := 3) (by omega) (by decide) (r := a 33) rfl dX11_copy_37 ?_
            refine k_callV K X gv_X11_236 (As := []) (c_X7_isMissing l E (fun j => a (33 + j)) (rb 3) (rz 3) (rn 3)) [33, 34] clsW_s17C (by decide +kernel) (fun _ => rowW_fst) 0 7 rfl rfl (by decide) rfl hl.1 (rest := []) rfl (Nat.le_of_ble_eq_true rfl) dX11_copy_38 (st1 := fun _ => [.int (b2i (decide ((rb 3) = 0)))]) (fun _ => rfl) (fun _ H locs _ X => ?_)
            have X : Wd E _ _ (clsW E a f g h ik one wo tp tl tk ts te tn rb rz rn td) _ _ := X.eq clsW_s17P
            refine k_ifeqB (B := (decide ((rb 3) = 0))) hx hb 50 dX11_copy_41 (by decide) (fun c41 => ?_) (fun c41 => ?_)
            · refine lv_aload_n hx hb dX11_copy_50 rfl (lv_at hl 0 rfl) ?_
              refine k_get K X 0 rfl fg_X11_71 (v := .ref (a 26)) rfl dX11_copy_51 ?_
              refine lv_iload_n hx hb dX11_copy_54 rfl (lv_at hl 1 rfl) ?_
              refine k_aaldN (C := "SlipWall$Row") K X 26 3 rfl rfl (k := 2) (by omega) (by decide) (r := a 31) rfl dX11_copy_55 ?_
              refine k_getN K X 31 rfl fg_X11_247 (v := .int (rb 2)) rfl dX11_copy_56 ?_
              refine lv_aload_n hx hb dX11_copy_59 rfl (lv_at hl 0 rfl) ?_
              refine k_get K X 0 rfl fg_X11_71 (v := .ref (a 26)) rfl dX11_copy_60 ?_
              refine lv_iload_n hx hb dX11_copy_63 rfl (lv_at hl 3 rfl) ?_
              refine k_aaldN (C := "SlipWall$Row") K X 26 3 rfl rfl (k := 3) (by omega) (by decide) (r := a 33) rfl dX11_copy_64 ?_
              refine k_getN K X 33 rfl fg_X11_247 (v := .int (rb 3)) rfl dX11_copy_65 ?_
              refine k_icmp_eq (x := rb 2) (y := rb 3) hx hb 77 dX11_copy_68 (by decide) (fun c68 => ?_) (fun c68 => ?_)
              · refine lv_aload_n hx hb dX11_copy_77 rfl (lv_at hl 0 rfl) ?_
                refine k_get K X 0 rfl fg_X11_71 (v := .ref (a 26)) rfl dX11_copy_78 ?_
                refine lv_iload_n hx hb dX11_copy_81 rfl (lv_at hl 1 rfl) ?_
                refine k_aaldN (C := "SlipWall$Row") K X 26 3 rfl rfl (k := 2) (by omega) (by decide) (r := a 31) rfl dX11_copy_82 ?_
                refine lv_iload_n hx hb dX11_copy_83 rfl (lv_at hl 2 rfl) ?_
                refine lv_iload hx hb dX11_copy_84 (lv_at hl 5 rfl) ?_
                refine k_callV K X gv_X11_250 (As := [.int y, .int w]) (c_X7_hasFrom l E (fun j => a (31 + j)) (rb 2) (rz 2) (rn 2) y w) [31, 32] clsW_s16C (by decide +kernel) (fun _ => rowW_fst) 0 7 rfl rfl (by decide) rfl hl.1 (rest := []) rfl (Nat.le_of_ble_eq_true rfl) dX11_copy_86 (st1 := fun _ => [.int (b2i (hasR (rz 2) y w))]) (fun _ => rfl) (fun _ H locs _ X => ?_)
                have X : Wd E _ _ (clsW E a f g h ik one wo tp tl tk ts te tn rb rz rn td) _ _ := X.eq clsW_s16P
                refine k_ifeqB (B := (hasR (rz 2) y w)) hx hb 108 dX11_copy_89 (by decide) (fun c89 => ?_) (fun c89 => ?_)
                · refine lv_aload_n hx hb dX11_copy_108 rfl (lv_at hl 0 rfl) ?_
                  refine lv_iconst (v := 0) hx hb dX11_copy_109 (by decide) ?_
                  refine k_callV K X gv_X11_84 (As := [.int 0]) (c_X11_finding l E a f g h ik one wo tp tl tk ts te tn rb rz rn td 0 (by decide)) [0, 1, 2, 3, 4, 5, 6, 7, 8, 9, 10, 11, 12, 13, 14, 15, 16, 17, 18, 19, 20, 21, 22, 23, 24, 25, 26, 27, 28, 29, 30, 31, 32, 33, 34, 35, 36, 37, 38, 39, 40, 41, 42] clsW_idC (by decide +kernel) (fun _ => clsW_fst) 0 11 rfl rfl (by decide) rfl hl.1 (rest := []) rfl (Nat.le_of_ble_eq_true rfl) dX11_copy_110 (st1 := fun _ => [.int (fnd 0)]) (fun _ => rfl) (fun _ H locs _ X => ?_)
                  have X : Wd E _ _ (clsW E a f g h ik one wo tp tl tk ts te tn rb rz rn (fdU td 0)) _ _ := X.eq clsW_idP
                  exact k_topi (x' := (oCopy rb rz rn td (nI 2) y (nI 3) v w).1) (by simp [oCopy, hx0, ek, hy0, ej, c29, c41, c68, c89]) (fin () 113 _ _ _ trivial (X.eq (by simp [oCopy, hx0, ek, hy0, ej, c29, c41, c68, c89])) dX11_copy_113)
                · obtain ⟨a1, c1, rfl, rfl, hac⟩ := hasR_nat (J 2 (by decide)).1 hzx c89
                  have ea1 : (nI a1).toNatClampNeg = a1 := nI_clamp (by omega)
                  have ec1 : (nI c1).toNatClampNeg = c1 := nI_clamp (by omega)
                  refine lv_aload_n hx hb dX11_copy_92 rfl (lv_at hl 0 rfl) ?_
                  refine k_get K X 0 rfl fg_X11_71 (v := .ref (a 26)) rfl dX11_copy_93 ?_
                  refine lv_iload_n hx hb dX11_copy_96 rfl (lv_at hl 3 rfl) ?_
                  refine k_aaldN (C := "SlipWall$Row") K X 26 3 rfl rfl (k := 3) (by omega) (by decide) (r := a 33) rfl dX11_copy_97 ?_
                  refine lv_iload hx hb dX11_copy_98 (lv_at hl 4 rfl) ?_
                  refine lv_iload hx hb dX11_copy_100 (lv_at hl 5 rfl) ?_
                  refine k_callV K X gv_X11_250 (As := [.int v, .int (nI c1)]) (c_X7_hasFrom l E (fun j => a (33 + j)) (rb 3) (rz 3) (rn 3) v (nI c1)) [33, 34] clsW_s17C (by decide +kernel) (fun _ => rowW_fst) 0 7 rfl rfl (by decide) rfl hl.1 (rest := []) rfl (Nat.le_of_ble_eq_true rfl) dX11_copy_102 (st1 := fun _ => [.int (b2i (hasR (rz 3) v (nI c1)))]) (fun _ => rfl) (fun _ H locs _ X => ?_)
                  have X : Wd E _ _ (clsW E a f g h ik one wo tp tl tk ts te tn rb rz rn td) _ _ := X.eq clsW_s17P
                  refine k_ifneB (B := (hasR (rz 3) v (nI c1))) hx hb 114 dX11_copy_105 (by decide) (fun c105 => ?_) (fun c105 => ?_)
                  · obtain ⟨b1, rfl, hbc⟩ := hasR_nat2 (J 3 (by decide)).1 hzy (by omega) c105
                    have eb1 : (nI b1).toNatClampNeg = b1 := nI_clamp (by omega)
                    refine lv_aload_n hx hb dX11_copy_114 rfl (lv_at hl 0 rfl) ?_
                    refine k_get K X 0 rfl fg_X11_71 (v := .ref (a 26)) rfl dX11_copy_115 ?_
                    refine lv_iload_n hx hb dX11_copy_118 rfl (lv_at hl 1 rfl) ?_
                    refine k_aaldN (C := "SlipWall$Row") K X 26 3 rfl rfl (k := 2) (by omega) (by decide) (r := a 31) rfl dX11_copy_119 ?_
                    refine k_getN K X 31 rfl fg_X11_240 (v := .ref (a 32)) rfl dX11_copy_120 ?_
                    refine lv_iload_n hx hb dX11_copy_123 rfl (lv_at hl 2 rfl) ?_
                    refine lv_aload_n hx hb dX11_copy_124 rfl (lv_at hl 0 rfl) ?_
                    refine k_get K X 0 rfl fg_X11_71 (v := .ref (a 26)) rfl dX11_copy_125 ?_
                    refine lv_iload_n hx hb dX11_copy_128 rfl (lv_at hl 3 rfl) ?_
                    refine k_aaldN (C := "SlipWall$Row") K X 26 3 rfl rfl (k := 3) (by omega) (by decide) (r := a 33) rfl dX11_copy_129 ?_
                    refine k_getN K X 33 rfl fg_X11_240 (v := .ref (a 34)) rfl dX11_copy_130 ?_
                    refine lv_iload hx hb dX11_copy_133 (lv_at hl 4 rfl) ?_
                    refine lv_iload hx hb dX11_copy_135 (lv_at hl 5 rfl) ?_
                    refine k_copyl K X ⟨Mw_at 801 (by decide +kernel) (by decide +kernel), Mw_at 575 (by decide +kernel) (by decide +kernel), Mw_at 574 (by decide +kernel) (by decide +kernel), Mw_at 77 (by decide +kernel) (by decide +kernel)⟩ 32 34 (i := a1) (j := b1) (c := c1) rfl rfl (by omega) (by omega) hl.1 (by decide) (Nat.le_of_ble_eq_true rfl) dX11_copy_137 (fun H locs X => ?_)
                    have X : Wd E _ _ (clsW E a f g h ik one wo tp tl tk ts te tn rb rz (setRL rn 3 (va_cpy (rn 2) (rn 3) a1 b1 c1)) td) _ _ := X
                    refine lv_iload hx hb dX11_copy_140 (lv_at hl 5 rfl) ?_
                    exact k_topi (x' := (oCopy rb rz rn td (nI 2) (nI a1) (nI 3) (nI b1) (nI c1)).1) (by simp [oCopy, hx0, ek, hy0, ej, c29, c41, c68, c89, ea1, ec1, c105, eb1]) (fin () 142 _ _ _ trivial (X.eq (by simp [oCopy, hx0, ek, hy0, ej, c29, c41, c68, c89, ea1, ec1, c105, eb1])) dX11_copy_142)
                  · refine lv_aload_n hx hb dX11_copy_108 rfl (lv_at hl 0 rfl) ?_
                    refine lv_iconst (v := 0) hx hb dX11_copy_109 (by decide) ?_
                    refine k_callV K X gv_X11_84 (As := [.int 0]) (c_X11_finding l E a f g h ik one wo tp tl tk ts te tn rb rz rn td 0 (by decide)) [0, 1, 2, 3, 4, 5, 6, 7, 8, 9, 10, 11, 12, 13, 14, 15, 16, 17, 18, 19, 20, 21, 22, 23, 24, 25, 26, 27, 28, 29, 30, 31, 32, 33, 34, 35, 36, 37, 38, 39, 40, 41, 42] clsW_idC (by decide +kernel) (fun _ => clsW_fst) 0 11 rfl rfl (by decide) rfl hl.1 (rest := []) rfl (Nat.le_of_ble_eq_true rfl) dX11_copy_110 (st1 := fun _ => [.int (fnd 0)]) (fun _ => rfl) (fun _ H locs _ X => ?_)
                    have X : Wd E _ _ (clsW E a f g h ik one wo tp tl tk ts te tn rb rz rn (fdU td 0)) _ _ := X.eq clsW_idP
                    exact k_topi (x' := (oCopy rb rz rn td (nI 2) (nI a1) (nI 3) v (nI c1)).1) (by simp [oCopy, hx0, ek, hy0, ej, c29, c41, c68, c89, ea1, ec1, c105]) (fin () 113 _ _ _ trivial (X.eq (by simp [oCopy, hx0, ek, hy0, ej, c29, c41, c68, c89, ea1, ec1, c105])) dX11_copy_113)
              · refine lv_aload_n hx hb dX11_copy_71 rfl (lv_at hl 0 rfl) ?_
                refine lv_iconst (v := 2) hx hb dX11_copy_72 (by decide) ?_
                refine k_callV K X gv_X11_84 (As := [.int 2]) (c_X11_finding l E a f g h ik one wo tp tl tk ts te tn rb rz rn td 2 (by decide)) [0, 1, 2, 3, 4, 5, 6, 7, 8, 9, 10, 11, 12, 13, 14, 15, 16, 17, 18, 19, 20, 21, 22, 23, 24, 25, 26, 27, 28, 29, 30, 31, 32, 33, 34, 35, 36, 37, 38, 39, 40, 41, 42] clsW_idC (by decide +kernel) (fun _ => clsW_fst) 0 11 rfl rfl (by decide) rfl hl.1 (rest := []) rfl (Nat.le_of_ble_eq_true rfl) dX11_copy_73 (st1 := fun _ => [.int (fnd 2)]) (fun _ => rfl) (fun _ H locs _ X => ?_)
                have X : Wd E _ _ (clsW E a f g h ik one wo tp tl tk ts te tn rb rz rn (fdU td 2)) _ _ := X.eq clsW_idP
                exact k_topi (x' := (oCopy rb rz rn td (nI 2) y (nI 3) v w).1) (by simp [oCopy, hx0, ek, hy0, ej, c29, c41, c68]) (fin () 76 _ _ _ trivial (X.eq (by simp [oCopy, hx0, ek, hy0, ej, c29, c41, c68])) dX11_copy_76)
            · refine lv_aload_n hx hb dX11_copy_44 rfl (lv_at hl 0 rfl) ?_
              refine lv_iconst (v := 5) hx hb dX11_copy_45 (by decide) ?_
              refine k_callV K X gv_X11_84 (As := [.int 5]) (c_X11_finding l E a f g h ik one wo tp tl tk ts te tn rb rz rn td 5 (by decide)) [0, 1, 2, 3, 4, 5, 6, 7, 8, 9, 10, 11, 12, 13, 14, 15, 16, 17, 18, 19, 20, 21, 22, 23, 24, 25, 26, 27, 28, 29, 30, 31, 32, 33, 34, 35, 36, 37, 38, 39, 40, 41, 42] clsW_idC (by decide +kernel) (fun _ => clsW_fst) 0 11 rfl rfl (by decide) rfl hl.1 (rest := []) rfl (Nat.le_of_ble_eq_true rfl) dX11_copy_46 (st1 := fun _ => [.int (fnd 5)]) (fun _ => rfl) (fun _ H locs _ X => ?_)
              have X : Wd E _ _ (clsW E a f g h ik one wo tp tl tk ts te tn rb rz rn (fdU td 5)) _ _ := X.eq clsW_idP
              exact k_topi (x' := (oCopy rb rz rn td (nI 2) y (nI 3) v w).1) (by simp [oCopy, hx0, ek, hy0, ej, c29, c41]) (fin () 49 _ _ _ trivial (X.eq (by simp [oCopy, hx0, ek, hy0, ej, c29, c41])) dX11_copy_49)
      · have hzx := (J 3 (by decide)).2
        refine lv_iload_n hx hb dX11_copy_24 rfl (lv_at hl 1 rfl) ?_
        refine k_aaldN (C := "SlipWall$Row") K X 26 3 rfl rfl (k := 3) (by omega) (by decide) (r := a 33) rfl dX11_copy_25 ?_
        refine k_callV K X gv_X11_236 (As := []) (c_X7_isMissing l E (fun j => a (33 + j)) (rb 3) (rz 3) (rn 3)) [33, 34] clsW_s17C (by decide +kernel) (fun _ => rowW_fst) 0 7 rfl rfl (by decide) rfl hl.1 (rest := []) rfl (Nat.le_of_ble_eq_true rfl) dX11_copy_26 (st1 := fun _ => [.int (b2i (decide ((rb 3) = 0)))]) (fun _ => rfl) (fun _ H locs _ X => ?_)
        have X : Wd E _ _ (clsW E a f g h ik one wo tp tl tk ts te tn rb rz rn td) _ _ := X.eq clsW_s17P
        refine k_ifneB (B := (decide ((rb 3) = 0))) hx hb 44 dX11_copy_29 (by decide) (fun c29 => ?_) (fun c29 => ?_)
        · refine lv_aload_n hx hb dX11_copy_44 rfl (lv_at hl 0 rfl) ?_
          refine lv_iconst (v := 5) hx hb dX11_copy_45 (by decide) ?_
          refine k_callV K X gv_X11_84 (As := [.int 5]) (c_X11_finding l E a f g h ik one wo tp tl tk ts te tn rb rz rn td 5 (by decide)) [0, 1, 2, 3, 4, 5, 6, 7, 8, 9, 10, 11, 12, 13, 14, 15, 16, 17, 18, 19, 20, 21, 22, 23, 24, 25, 26, 27, 28, 29, 30, 31, 32, 33, 34, 35, 36, 37, 38, 39, 40, 41, 42] clsW_idC (by decide +kernel) (fun _ => clsW_fst) 0 11 rfl rfl (by decide) rfl hl.1 (rest := []) rfl (Nat.le_of_ble_eq_true rfl) dX11_copy_46 (st1 := fun _ => [.int (fnd 5)]) (fun _ => rfl) (fun _ H locs _ X => ?_)
          have X : Wd E _ _ (clsW E a f g h ik one wo tp tl tk ts te tn rb rz rn (fdU td 5)) _ _ := X.eq clsW_idP
          exact k_topi (x' := (oCopy rb rz rn td (nI 3) y (nI j) v w).1) (by simp [oCopy, hx0, ek, hy0, ej, c29]) (fin () 49 _ _ _ trivial (X.eq (by simp [oCopy, hx0, ek, hy0, ej, c29])) dX11_copy_49)
        · refine lv_aload_n hx hb dX11_copy_32 rfl (lv_at hl 0 rfl) ?_
          refine k_get K X 0 rfl fg_X11_71 (v := .ref (a 26)) rfl dX11_copy_33 ?_
          rcases (show j = 0 ∨ j = 1 ∨ j = 2 ∨ j = 3 by omega) with rfl | rfl | rfl | rfl
          · have hzy := (J 0 (by decide)).2
            refine lv_iload_n hx hb dX11_copy_36 rfl (lv_at hl 3 rfl) ?_
            refine k_aaldN (C := "SlipWall$Row") K X 26 3 rfl rfl (k := 0) (by omega) (by decide) (r := a 27) rfl dX11_copy_37 ?_
            refine k_callV K X gv_X11_236 (As := []) (c_X7_isMissing l E (fun j => a (27 + j)) (rb 0) (rz 0) (rn 0)) [27, 28] clsW_s14C (by decide +kernel) (fun _ => rowW_fst) 0 7 rfl rfl (by decide) rfl hl.1 (rest := []) rfl (Nat.le_of_ble_eq_true rfl) dX11_copy_38 (st1 := fun _ => [.int (b2i (decide ((rb 0) = 0)))]) (fun _ => rfl) (fun _ H locs _ X => ?_)
            have X : Wd E _ _ (clsW E a f g h ik one wo tp tl tk ts te tn rb rz rn td) _ _ := X.eq clsW_s14P
            refine k_ifeqB (B := (decide ((rb 0) = 0))) hx hb 50 dX11_copy_41 (by decide) (fun c41 => ?_) (fun c41 => ?_)
            · refine lv_aload_n hx hb dX11_copy_50 rfl (lv_at hl 0 rfl) ?_
              refine k_get K X 0 rfl fg_X11_71 (v := .ref (a 26)) rfl dX11_copy_51 ?_
              refine lv_iload_n hx hb dX11_copy_54 rfl (lv_at hl 1 rfl) ?_
              refine k_aaldN (C := "SlipWall$Row") K X 26 3 rfl rfl (k := 3) (by omega) (by decide) (r := a 33) rfl dX11_copy_55 ?_
              refine k_getN K X 33 rfl fg_X11_247 (v := .int (rb 3)) rfl dX11_copy_56 ?_
              refine lv_aload_n hx hb dX11_copy_59 rfl (lv_at hl 0 rfl) ?_
              refine k_get K X 0 rfl fg_X11_71 (v := .ref (a 26)) rfl dX11_copy_60 ?_
              refine lv_iload_n hx hb dX11_copy_63 rfl (lv_at hl 3 rfl) ?_
              refine k_aaldN (C := "SlipWall$Row") K X 26 3 rfl rfl (k := 0) (by omega) (by decide) (r := a 27) rfl dX11_copy_64 ?_
              refine k_getN K X 27 rfl fg_X11_247 (v := .int (rb 0)) rfl dX11_copy_65 ?_
              refine k_icmp_eq (x := rb 3) (y := rb 0) hx hb 77 dX11_copy_68 (by decide) (fun c68 => ?_) (fun c68 => ?_)
              · refine lv_aload_n hx hb dX11_copy_77 rfl (lv_at hl 0 rfl) ?_
                refine k_get K X 0 rfl fg_X11_71 (v := .ref (a 26)) rfl dX11_copy_78 ?_
                refine lv_iload_n hx hb dX11_copy_81 rfl (lv_at hl 1 rfl) ?_
                refine k_aaldN (C := "SlipWall$Row") K X 26 3 rfl rfl (k := 3) (by omega) (by decide) (r := a 33) rfl dX11_copy_82 ?_
                refine lv_iload_n hx hb dX11_copy_83 rfl (lv_at hl 2 rfl) ?_
                refine lv_iload hx hb dX11_copy_84 (lv_at hl 5 rfl) ?_
                refine k_callV K X gv_X11_250 (As := [.int y, .int w]) (c_X7_hasFrom l E (fun j => a (33 + j)) (rb 3) (rz 3) (rn 3) y w) [33, 34] clsW_s17C (by decide +kernel) (fun _ => rowW_fst) 0 7 rfl rfl (by decide) rfl hl.1 (rest := []) rfl (Nat.le_of_ble_eq_true rfl) dX11_copy_86 (st1 := fun _ => [.int (b2i (hasR (rz 3) y w))]) (fun _ => rfl) (fun _ H locs _ X => ?_)
                have X : Wd E _ _ (clsW E a f g h ik one wo tp tl tk ts te tn rb rz rn td) _ _ := X.eq clsW_s17P
                refine k_ifeqB (B := (hasR (rz 3) y w)) hx hb 108 dX11_copy_89 (by decide) (fun c89 => ?_) (fun c89 => ?_)
                · refine lv_aload_n hx hb dX11_copy_108 rfl (lv_at hl 0 rfl) ?_
                  refine lv_iconst (v := 0) hx hb dX11_copy_109 (by decide) ?_
                  refine k_callV K X gv_X11_84 (As := [.int 0]) (c_X11_finding l E a f g h ik one wo tp tl tk ts te tn rb rz rn td 0 (by decide)) [0, 1, 2, 3, 4, 5, 6, 7, 8, 9, 10, 11, 12, 13, 14, 15, 16, 17, 18, 19, 20, 21, 22, 23, 24, 25, 26, 27, 28, 29, 30, 31, 32, 33, 34, 35, 36, 37, 38, 39, 40, 41, 42] clsW_idC (by decide +kernel) (fun _ => clsW_fst) 0 11 rfl rfl (by decide) rfl hl.1 (rest := []) rfl (Nat.le_of_ble_eq_true rfl) dX11_copy_110 (st1 := fun _ => [.int (fnd 0)]) (fun _ => rfl) (fun _ H locs _ X => ?_)
                  have X : Wd E _ _ (clsW E a f g h ik one wo tp tl tk ts te tn rb rz rn (fdU td 0)) _ _ := X.eq clsW_idP
                  exact k_topi (x' := (oCopy rb rz rn td (nI 3) y (nI 0) v w).1) (by simp [oCopy, hx0, ek, hy0, ej, c29, c41, c68, c89]) (fin () 113 _ _ _ trivial (X.eq (by simp [oCopy, hx0, ek, hy0, ej, c29, c41, c68, c89])) dX11_copy_113)
                · obtain ⟨a1, c1, rfl, rfl, hac⟩ := hasR_nat (J 3 (by decide)).1 hzx c89
                  have ea1 : (nI a1).toNatClampNeg = a1 := nI_clamp (by omega)
                  have ec1 : (nI c1).toNatClampNeg = c1 := nI_clamp (by omega)
                  refine lv_aload_n hx hb dX11_copy_92 rfl (lv_at hl 0 rfl) ?_
                  refine k_get K X 0 rfl fg_X11_71 (v := .ref (a 26)) rfl dX11_copy_93 ?_
                  refine lv_iload_n hx hb dX11_copy_96 rfl (lv_at hl 3 rfl) ?_
                  refine k_aaldN (C := "SlipWall$Row") K X 26 3 rfl rfl (k := 0) (by omega) (by decide) (r := a 27) rfl dX11_copy_97 ?_
                  refine lv_iload hx hb dX11_copy_98 (lv_at hl 4 rfl) ?_
                  refine lv_iload hx hb dX11_copy_100 (lv_at hl 5 rfl) ?_
                  refine k_callV K X gv_X11_250 (As := [.int v, .int (nI c1)]) (c_X7_hasFrom l E (fun j => a (27 + j)) (rb 0) (rz 0) (rn 0) v (nI c1)) [27, 28] clsW_s14C (by decide +kernel) (fun _ => rowW_fst) 0 7 rfl rfl (by decide) rfl hl.1 (rest := []) rfl (Nat.le_of_ble_eq_true rfl) dX11_copy_102 (st1 := fun _ => [.int (b2i (hasR (rz 0) v (nI c1)))]) (fun _ => rfl) (fun _ H locs _ X => ?_)
                  have X : Wd E _ _ (clsW E a f g h ik one wo tp tl tk ts te tn rb rz rn td) _ _ := X.eq clsW_s14P
                  refine k_ifneB (B := (hasR (rz 0) v (nI c1))) hx hb 114 dX11_copy_105 (by decide) (fun c105 => ?_) (fun c105 => ?_)
                  · obtain ⟨b1, rfl, hbc⟩ := hasR_nat2 (J 0 (by decide)).1 hzy (by omega) c105
                    have eb1 : (nI b1).toNatClampNeg = b1 := nI_clamp (by omega)
                    refine lv_aload_n hx hb dX11_copy_114 rfl (lv_at hl 0 rfl) ?_
                    refine k_get K X 0 rfl fg_X11_71 (v := .ref (a 26)) rfl dX11_copy_115 ?_
                    refine lv_iload_n hx hb dX11_copy_118 rfl (lv_at hl 1 rfl) ?_
                    refine k_aaldN (C := "SlipWall$Row") K X 26 3 rfl rfl (k := 3) (by omega) (by decide) (r := a 33) rfl dX11_copy_119 ?_
                    refine k_getN K X 33 rfl fg_X11_240 (v := .ref (a 34)) rfl dX11_copy_120 ?_
                    refine lv_iload_n hx hb dX11_copy_123 rfl (lv_at hl 2 rfl) ?_
                    refine lv_aload_n hx hb dX11_copy_124 rfl (lv_at hl 0 rfl) ?_
                    refine k_get K X 0 rfl fg_X11_71 (v := .ref (a 26)) rfl dX11_copy_125 ?_
                    refine lv_iload_n hx hb dX11_copy_128 rfl (lv_at hl 3 rfl) ?_
                    refine k_aaldN (C := "SlipWall$Row") K X 26 3 rfl rfl (k := 0) (by omega) (by decide) (r := a 27) rfl dX11_copy_129 ?_
                    refine k_getN K X 27 rfl fg_X11_240 (v := .ref (a 28)) rfl dX11_copy_130 ?_
                    refine lv_iload hx hb dX11_copy_133 (lv_at hl 4 rfl) ?_
                    refine lv_iload hx hb dX11_copy_135 (lv_at hl 5 rfl) ?_
                    refine k_copyl K X ⟨Mw_at 801 (by decide +kernel) (by decide +kernel), Mw_at 575 (by decide +kernel) (by decide +kernel), Mw_at 574 (by decide +kernel) (by decide +kernel), Mw_at 77 (by decide +kernel) (by decide +kernel)⟩ 34 28 (i := a1) (j := b1) (c := c1) rfl rfl (by omega) (by omega) hl.1 (by decide) (Nat.le_of_ble_eq_true rfl) dX11_copy_137 (fun H locs X => ?_)
                    have X : Wd E _ _ (clsW E a f g h ik one wo tp tl tk ts te tn rb rz (setRL rn 0 (va_cpy (rn 3) (rn 0) a1 b1 c1)) td) _ _ := X
                    refine lv_iload hx hb dX11_copy_140 (lv_at hl 5 rfl) ?_
                    exact k_topi (x' := (oCopy rb rz rn td (nI 3) (nI a1) (nI 0) (nI b1) (nI c1)).1) (by simp [oCopy, hx0, ek, hy0, ej, c29, c41, c68, c89, ea1, ec1, c105, eb1]) (fin () 142 _ _ _ trivial (X.eq (by simp [oCopy, hx0, ek, hy0, ej, c29, c41, c68, c89, ea1, ec1, c105, eb1])) dX11_copy_142)
                  · refine lv_aload_n hx hb dX11_copy_108 rfl (lv_at hl 0 rfl) ?_
                    refine lv_iconst (v := 0) hx hb dX11_copy_109 (by decide) ?_
                    refine k_callV K X gv_X11_84 (As := [.int 0]) (c_X11_finding l E a f g h ik one wo tp tl tk ts te tn rb rz rn td 0 (by decide)) [0, 1, 2, 3, 4, 5, 6, 7, 8, 9, 10, 11, 12, 13, 14, 15, 16, 17, 18, 19, 20, 21, 22, 23, 24, 25, 26, 27, 28, 29, 30, 31, 32, 33, 34, 35, 36, 37, 38, 39, 40, 41, 42] clsW_idC (by decide +kernel) (fun _ => clsW_fst) 0 11 rfl rfl (by decide) rfl hl.1 (rest := []) rfl (Nat.le_of_ble_eq_true rfl) dX11_copy_110 (st1 := fun _ => [.int (fnd 0)]) (fun _ => rfl) (fun _ H locs _ X => ?_)
                    have X : Wd E _ _ (clsW E a f g h ik one wo tp tl tk ts te tn rb rz rn (fdU td 0)) _ _ := X.eq clsW_idP
                    exact k_topi (x' := (oCopy rb rz rn td (nI 3) (nI a1) (nI 0) v (nI c1)).1) (by simp [oCopy, hx0, ek, hy0, ej, c29, c41, c68, c89, ea1, ec1, c105]) (fin () 113 _ _ _ trivial (X.eq (by simp [oCopy, hx0, ek, hy0, ej, c29, c41, c68, c89, ea1, ec1, c105])) dX11_copy_113)
              · refine lv_aload_n hx hb dX11_copy_71 rfl (lv_at hl 0 rfl) ?_
                refine lv_iconst (v := 2) hx hb dX11_copy_72 (by decide) ?_
                refine k_callV K X gv_X11_84 (As := [.int 2]) (c_X11_finding l E a f g h ik one wo tp tl tk ts te tn rb rz rn td 2 (by decide)) [0, 1, 2, 3, 4, 5, 6, 7, 8, 9, 10, 11, 12, 13, 14, 15, 16, 17, 18, 19, 20, 21, 22, 23, 24, 25, 26, 27, 28, 29, 30, 31, 32, 33, 34, 35, 36, 37, 38, 39, 40, 41, 42] clsW_idC (by decide +kernel) (fun _ => clsW_fst) 0 11 rfl rfl (by decide) rfl hl.1 (rest := []) rfl (Nat.le_of_ble_eq_true rfl) dX11_copy_73 (st1 := fun _ => [.int (fnd 2)]) (fun _ => rfl) (fun _ H locs _ X => ?_)
                have X : Wd E _ _ (clsW E a f g h ik one wo tp tl tk ts te tn rb rz rn (fdU td 2)) _ _ := X.eq clsW_idP
                exact k_topi (x' := (oCopy rb rz rn td (nI 3) y (nI 0) v w).1) (by simp [oCopy, hx0, ek, hy0, ej, c29, c41, c68]) (fin () 76 _ _ _ trivial (X.eq (by simp [oCopy, hx0, ek, hy0, ej, c29, c41, c68])) dX11_copy_76)
            · refine lv_aload_n hx hb dX11_copy_44 rfl (lv_at hl 0 rfl) ?_
              refine lv_iconst (v := 5) hx hb dX11_copy_45 (by decide) ?_
              refine k_callV K X gv_X11_84 (As := [.int 5]) (c_X11_finding l E a f g h ik one wo tp tl tk ts te tn rb rz rn td 5 (by decide)) [0, 1, 2, 3, 4, 5, 6, 7, 8, 9, 10, 11, 12, 13, 14, 15, 16, 17, 18, 19, 20, 21, 22, 23, 24, 25, 26, 27, 28, 29, 30, 31, 32, 33, 34, 35, 36, 37, 38, 39, 40, 41, 42] clsW_idC (by decide +kernel) (fun _ => clsW_fst) 0 11 rfl rfl (by decide) rfl hl.1 (rest := []) rfl (Nat.le_of_ble_eq_true rfl) dX11_copy_46 (st1 := fun _ => [.int (fnd 5)]) (fun _ => rfl) (fun _ H locs _ X => ?_)
              have X : Wd E _ _ (clsW E a f g h ik one wo tp tl tk ts te tn rb rz rn (fdU td 5)) _ _ := X.eq clsW_idP
              exact k_topi (x' := (oCopy rb rz rn td (nI 3) y (nI 0) v w).1) (by simp [oCopy, hx0, ek, hy0, ej, c29, c41]) (fin () 49 _ _ _ trivial (X.eq (by simp [oCopy, hx0, ek, hy0, ej, c29, c41])) dX11_copy_49)
          · have hzy := (J 1 (by decide)).2
            refine lv_iload_n hx hb dX11_copy_36 rfl (lv_at hl 3 rfl) ?_
            refine k_aaldN (C := "SlipWall$Row") K X 26 3 rfl rfl (k := 1) (by omega) (by decide) (r := a 29) rfl dX11_copy_37 ?_
            refine k_callV K X gv_X11_236 (As := []) (c_X7_isMissing l E (fun j => a (29 + j)) (rb 1) (rz 1) (rn 1)) [29, 30] clsW_s15C (by decide +kernel) (fun _ => rowW_fst) 0 7 rfl rfl (by decide) rfl hl.1 (rest := []) rfl (Nat.le_of_ble_eq_true rfl) dX11_copy_38 (st1 := fun _ => [.int (b2i (decide ((rb 1) = 0)))]) (fun _ => rfl) (fun _ H locs _ X => ?_)
            have X : Wd E _ _ (clsW E a f g h ik one wo tp tl tk ts te tn rb rz rn td) _ _ := X.eq clsW_s15P
            refine k_ifeqB (B := (decide ((rb 1) = 0))) hx hb 50 dX11_copy_41 (by decide) (fun c41 => ?_) (fun c41 => ?_)
            · refine lv_aload_n hx hb dX11_copy_50 rfl (lv_at hl 0 rfl) ?_
              refine k_get K X 0 rfl fg_X11_71 (v := .ref (a 26)) rfl dX11_copy_51 ?_
              refine lv_iload_n hx hb dX11_copy_54 rfl (lv_at hl 1 rfl) ?_
              refine k_aaldN (C := "SlipWall$Row") K X 26 3 rfl rfl (k := 3) (by omega) (by decide) (r := a 33) rfl dX11_copy_55 ?_
              refine k_getN K X 33 rfl fg_X11_247 (v := .int (rb 3)) rfl dX11_copy_56 ?_
              refine lv_aload_n hx hb dX11_copy_59 rfl (lv_at hl 0 rfl) ?_
              refine k_get K X 0 rfl fg_X11_71 (v := .ref (a 26)) rfl dX11_copy_60 ?_
              refine lv_iload_n hx hb dX11_copy_63 rfl (lv_at hl 3 rfl) ?_
              refine k_aaldN (C := "SlipWall$Row") K X 26 3 rfl rfl (k := 1) (by omega) (by decide) (r := a 29) rfl dX11_copy_64 ?_
              refine k_getN K X 29 rfl fg_X11_247 (v := .int (rb 1)) rfl dX11_copy_65 ?_
              refine k_icmp_eq (x := rb 3) (y := rb 1) hx hb 77 dX11_copy_68 (by decide) (fun c68 => ?_) (fun c68 => ?_)
              · refine lv_aload_n hx hb dX11_copy_77 rfl (lv_at hl 0 rfl) ?_
                refine k_get K X 0 rfl fg_X11_71 (v := .ref (a 26)) rfl dX11_copy_78 ?_
                refine lv_iload_n hx hb dX11_copy_81 rfl (lv_at hl 1 rfl) ?_
                refine k_aaldN (C := "SlipWall$Row") K X 26 3 rfl rfl (k := 3) (by omega) (by decide) (r := a 33) rfl dX11_copy_82 ?_
                refine lv_iload_n hx hb dX11_copy_83 rfl (lv_at hl 2 rfl) ?_
                refine lv_iload hx hb dX11_copy_84 (lv_at hl 5 rfl) ?_
                refine k_callV K X gv_X11_250 (As := [.int y, .int w]) (c_X7_hasFrom l E (fun j => a (33 + j)) (rb 3) (rz 3) (rn 3) y w) [33, 34] clsW_s17C (by decide +kernel) (fun _ => rowW_fst) 0 7 rfl rfl (by decide) rfl hl.1 (rest := []) rfl (Nat.le_of_ble_eq_true rfl) dX11_copy_86 (st1 := fun _ => [.int (b2i (hasR (rz 3) y w))]) (fun _ => rfl) (fun _ H locs _ X => ?_)
                have X : Wd E _ _ (clsW E a f g h ik one wo tp tl tk ts te tn rb rz rn td) _ _ := X.eq clsW_s17P
                refine k_ifeqB (B := (hasR (rz 3) y w)) hx hb 108 dX11_copy_89 (by decide) (fun c89 => ?_) (fun c89 => ?_)
                · refine lv_aload_n hx hb dX11_copy_108 rfl (lv_at hl 0 rfl) ?_
                  refine lv_iconst (v := 0) hx hb dX11_copy_109 (by decide) ?_
                  refine k_callV K X gv_X11_84 (As := [.int 0]) (c_X11_finding l E a f g h ik one wo tp tl tk ts te tn rb rz rn td 0 (by decide)) [0, 1, 2, 3, 4, 5, 6, 7, 8, 9, 10, 11, 12, 13, 14, 15, 16, 17, 18, 19, 20, 21, 22, 23, 24, 25, 26, 27, 28, 29, 30, 31, 32, 33, 34, 35, 36, 37, 38, 39, 40, 41, 42] clsW_idC (by decide +kernel) (fun _ => clsW_fst) 0 11 rfl rfl (by decide) rfl hl.1 (rest := []) rfl (Nat.le_of_ble_eq_true rfl) dX11_copy_110 (st1 := fun _ => [.int (fnd 0)]) (fun _ => rfl) (fun _ H locs _ X => ?_)
                  have X : Wd E _ _ (clsW E a f g h ik one wo tp tl tk ts te tn rb rz rn (fdU td 0)) _ _ := X.eq clsW_idP
                  exact k_topi (x' := (oCopy rb rz rn td (nI 3) y (nI 1) v w).1) (by simp [oCopy, hx0, ek, hy0, ej, c29, c41, c68, c89]) (fin () 113 _ _ _ trivial (X.eq (by simp [oCopy, hx0, ek, hy0, ej, c29, c41, c68, c89])) dX11_copy_113)
                · obtain ⟨a1, c1, rfl, rfl, hac⟩ := hasR_nat (J 3 (by decide)).1 hzx c89
                  have ea1 : (nI a1).toNatClampNeg = a1 := nI_clamp (by omega)
                  have ec1 : (nI c1).toNatClampNeg = c1 := nI_clamp (by omega)
                  refine lv_aload_n hx hb dX11_copy_92 rfl (lv_at hl 0 rfl) ?_
                  refine k_get K X 0 rfl fg_X11_71 (v := .ref (a 26)) rfl dX11_copy_93 ?_
                  refine lv_iload_n hx hb dX11_copy_96 rfl (lv_at hl 3 rfl) ?_
                  refine k_aaldN (C := "SlipWall$Row") K X 26 3 rfl rfl (k := 1) (by omega) (by decide) (r := a 29) rfl dX11_copy_97 ?_
                  refine lv_iload hx hb dX11_copy_98 (lv_at hl 4 rfl) ?_
                  refine lv_iload hx hb dX11_copy_100 (lv_at hl 5 rfl) ?_
                  refine k_callV K X gv_X11_250 (As := [.int v, .int (nI c1)]) (c_X7_hasFrom l E (fun j => a (29 + j)) (rb 1) (rz 1) (rn 1) v (nI c1)) [29, 30] clsW_s15C (by decide +kernel) (fun _ => rowW_fst) 0 7 rfl rfl (by decide) rfl hl.1 (rest := []) rfl (Nat.le_of_ble_eq_true rfl) dX11_copy_102 (st1 := fun _ => [.int (b2i (hasR (rz 1) v (nI c1)))]) (fun _ => rfl) (fun _ H locs _ X => ?_)
                  have X : Wd E _ _ (clsW E a f g h ik one wo tp tl tk ts te tn rb rz rn td) _ _ := X.eq clsW_s15P
                  refine k_ifneB (B := (hasR (rz 1) v (nI c1))) hx hb 114 dX11_copy_105 (by decide) (fun c105 => ?_) (fun c105 => ?_)
                  · obtain ⟨b1, rfl, hbc⟩ := hasR_nat2 (J 1 (by decide)).1 hzy (by omega) c105
                    have eb1 : (nI b1).toNatClampNeg = b1 := nI_clamp (by omega)
                    refine lv_aload_n hx hb dX11_copy_114 rfl (lv_at hl 0 rfl) ?_
                    refine k_get K X 0 rfl fg_X11_71 (v := .ref (a 26)) rfl dX11_copy_115 ?_
                    refine lv_iload_n hx hb dX11_copy_118 rfl (lv_at hl 1 rfl) ?_
                    refine k_aaldN (C := "SlipWall$Row") K X 26 3 rfl rfl (k := 3) (by omega) (by decide) (r := a 33) rfl dX11_copy_119 ?_
                    refine k_getN K X 33 rfl fg_X11_240 (v := .ref (a 34)) rfl dX11_copy_120 ?_
                    refine lv_iload_n hx hb dX11_copy_123 rfl (lv_at hl 2 rfl) ?_
                    refine lv_aload_n hx hb dX11_copy_124 rfl (lv_at hl 0 rfl) ?_
                    refine k_get K X 0 rfl fg_X11_71 (v := .ref (a 26)) rfl dX11_copy_125 ?_
                    refine lv_iload_n hx hb dX11_copy_128 rfl (lv_at hl 3 rfl) ?_
                    refine k_aaldN (C := "SlipWall$Row") K X 26 3 rfl rfl (k := 1) (by omega) (by decide) (r := a 29) rfl dX11_copy_129 ?_
                    refine k_getN K X 29 rfl fg_X11_240 (v := .ref (a 30)) rfl dX11_copy_130 ?_
                    refine lv_iload hx hb dX11_copy_133 (lv_at hl 4 rfl) ?_
                    refine lv_iload hx hb dX11_copy_135 (lv_at hl 5 rfl) ?_
                    refine k_copyl K X ⟨Mw_at 801 (by decide +kernel) (by decide +kernel), Mw_at 575 (by decide +kernel) (by decide +kernel), Mw_at 574 (by decide +kernel) (by decide +kernel), Mw_at 77 (by decide +kernel) (by decide +kernel)⟩ 34 30 (i := a1) (j := b1) (c := c1) rfl rfl (by omega) (by omega) hl.1 (by decide) (Nat.le_of_ble_eq_true rfl) dX11_copy_137 (fun H locs X => ?_)
                    have X : Wd E _ _ (clsW E a f g h ik one wo tp tl tk ts te tn rb rz (setRL rn 1 (va_cpy (rn 3) (rn 1) a1 b1 c1)) td) _ _ := X
                    refine lv_iload hx hb dX11_copy_140 (lv_at hl 5 rfl) ?_
                    exact k_topi (x' := (oCopy rb rz rn td (nI 3) (nI a1) (nI 1) (nI b1) (nI c1)).1) (by simp [oCopy, hx0, ek, hy0, ej, c29, c41, c68, c89, ea1, ec1, c105, eb1]) (fin () 142 _ _ _ trivial (X.eq (by simp [oCopy, hx0, ek, hy0, ej, c29, c41, c68, c89, ea1, ec1, c105, eb1])) dX11_copy_142)
                  · refine lv_aload_n hx hb dX11_copy_108 rfl (lv_at hl 0 rfl) ?_
                    refine lv_iconst (v := 0) hx hb dX11_copy_109 (by decide) ?_
                    refine k_callV K X gv_X11_84 (As := [.int 0]) (c_X11_finding l E a f g h ik one wo tp tl tk ts te tn rb rz rn td 0 (by decide)) [0, 1, 2, 3, 4, 5, 6, 7, 8, 9, 10, 11, 12, 13, 14, 15, 16, 17, 18, 19, 20, 21, 22, 23, 24, 25, 26, 27, 28, 29, 30, 31, 32, 33, 34, 35, 36, 37, 38, 39, 40, 41, 42] clsW_idC (by decide +kernel) (fun _ => clsW_fst) 0 11 rfl rfl (by decide) rfl hl.1 (rest := []) rfl (Nat.le_of_ble_eq_true rfl) dX11_copy_110 (st1 := fun _ => [.int (fnd 0)]) (fun _ => rfl) (fun _ H locs _ X => ?_)
                    have X : Wd E _ _ (clsW E a f g h ik one wo tp tl tk ts te tn rb rz rn (fdU td 0)) _ _ := X.eq clsW_idP
                    exact k_topi (x' := (oCopy rb rz rn td (nI 3) (nI a1) (nI 1) v (nI c1)).1) (by simp [oCopy, hx0, ek, hy0, ej, c29, c41, c68, c89, ea1, ec1, c105]) (fin () 113 _ _ _ trivial (X.eq (by simp [oCopy, hx0, ek, hy0, ej, c29, c41, c68, c89, ea1, ec1, c105])) dX11_copy_113)
              · refine lv_aload_n hx hb dX11_copy_71 rfl (lv_at hl 0 rfl) ?_
                refine lv_iconst (v := 2) hx hb dX11_copy_72 (by decide) ?_
                refine k_callV K X gv_X11_84 (As := [.int 2]) (c_X11_finding l E a f g h ik one wo tp tl tk ts te tn rb rz rn td 2 (by decide)) [0, 1, 2, 3, 4, 5, 6, 7, 8, 9, 10, 11, 12, 13, 14, 15, 16, 17, 18, 19, 20, 21, 22, 23, 24, 25, 26, 27, 28, 29, 30, 31, 32, 33, 34, 35, 36, 37, 38, 39, 40, 41, 42] clsW_idC (by decide +kernel) (fun _ => clsW_fst) 0 11 rfl rfl (by decide) rfl hl.1 (rest := []) rfl (Nat.le_of_ble_eq_true rfl) dX11_copy_73 (st1 := fun _ => [.int (fnd 2)]) (fun _ => rfl) (fun _ H locs _ X => ?_)
                have X : Wd E _ _ (clsW E a f g h ik one wo tp tl tk ts te tn rb rz rn (fdU td 2)) _ _ := X.eq clsW_idP
                exact k_topi (x' := (oCopy rb rz rn td (nI 3) y (nI 1) v w).1) (by simp [oCopy, hx0, ek, hy0, ej, c29, c41, c68]) (fin () 76 _ _ _ trivial (X.eq (by simp [oCopy, hx0, ek, hy0, ej, c29, c41, c68])) dX11_copy_76)
            · refine lv_aload_n hx hb dX11_copy_44 rfl (lv_at hl 0 rfl) ?_
              refine lv_iconst (v := 5) hx hb dX11_copy_45 (by decide) ?_
              refine k_callV K X gv_X11_84 (As := [.int 5]) (c_X11_finding l E a f g h ik one wo tp tl tk ts te tn rb rz rn td 5 (by decide)) [0, 1, 2, 3, 4, 5, 6, 7, 8, 9, 10, 11, 12, 13, 14, 15, 16, 17, 18, 19, 20, 21, 22, 23, 24, 25, 26, 27, 28, 29, 30, 31, 32, 33, 34, 35, 36, 37, 38, 39, 40, 41, 42] clsW_idC (by decide +kernel) (fun _ => clsW_fst) 0 11 rfl rfl (by decide) rfl hl.1 (rest := []) rfl (Nat.le_of_ble_eq_true rfl) dX11_copy_46 (st1 := fun _ => [.int (fnd 5)]) (fun _ => rfl) (fun _ H locs _ X => ?_)
              have X : Wd E _ _ (clsW E a f g h ik one wo tp tl tk ts te tn rb rz rn (fdU td 5)) _ _ := X.eq clsW_idP
              exact k_topi (x' := (oCopy rb rz rn td (nI 3) y (nI 1) v w).1) (by simp [oCopy, hx0, ek, hy0, ej, c29, c41]) (fin () 49 _ _ _ trivial (X.eq (by simp [oCopy, hx0, ek, hy0, ej, c29, c41])) dX11_copy_49)
          · have hzy := (J 2 (by decide)).2
            refine lv_iload_n hx hb dX11_copy_36 rfl (lv_at hl 3 rfl) ?_
            refine k_aaldN (C := "SlipWall$Row") K X 26 3 rfl rfl (k := 2) (by omega) (by decide) (r := a 31) rfl dX11_copy_37 ?_
            refine k_callV K X gv_X11_236 (As := []) (c_X7_isMissing l E (fun j => a (31 + j)) (rb 2) (rz 2) (rn 2)) [31, 32] clsW_s16C (by decide +kernel) (fun _ => rowW_fst) 0 7 rfl rfl (by decide) rfl hl.1 (rest := []) rfl (Nat.le_of_ble_eq_true rfl) dX11_copy_38 (st1 := fun _ => [.int (b2i (decide ((rb 2) = 0)))]) (fun _ => rfl) (fun _ H locs _ X => ?_)
            have X : Wd E _ _ (clsW E a f g h ik one wo tp tl tk ts te tn rb rz rn td) _ _ := X.eq clsW_s16P
            refine k_ifeqB (B := (decide ((rb 2) = 0))) hx hb 50 dX11_copy_41 (by decide) (fun c41 => ?_) (fun c41 => ?_)
            · refine lv_aload_n hx hb dX11_copy_50 rfl (lv_at hl 0 rfl) ?_
              refine k_get K X 0 rfl fg_X11_71 (v := .ref (a 26)) rfl dX11_copy_51 ?_
              refine lv_iload_n hx hb dX11_copy_54 rfl (lv_at hl 1 rfl) ?_
              refine k_aaldN (C := "SlipWall$Row") K X 26 3 rfl rfl (k := 3) (by omega) (by decide) (r := a 33) rfl dX11_copy_55 ?_
              refine k_getN K X 33 rfl fg_X11_247 (v := .int (rb 3)) rfl dX11_copy_56 ?_
              refine lv_aload_n hx hb dX11_copy_59 rfl (lv_at hl 0 rfl) ?_
              refine k_get K X 0 rfl fg_X11_71 (v := .ref (a 26)) rfl dX11_copy_60 ?_
              refine lv_iload_n hx hb dX11_copy_63 rfl (lv_at hl 3 rfl) ?_
              refine k_aaldN (C := "SlipWall$Row") K X 26 3 rfl rfl (k := 2) (by omega) (by decide) (r := a 31) rfl dX11_copy_64 ?_
              refine k_getN K X 31 rfl fg_X11_247 (v := .int (rb 2)) rfl dX11_copy_65 ?_
              refine k_icmp_eq (x := rb 3) (y := rb 2) hx hb 77 dX11_copy_68 (by decide) (fun c68 => ?_) (fun c68 => ?_)
              · refine lv_aload_n hx hb dX11_copy_77 rfl (lv_at hl 0 rfl) ?_
                refine k_get K X 0 rfl fg_X11_71 (v := .ref (a 26)) rfl dX11_copy_78 ?_
                refine lv_iload_n hx hb dX11_copy_81 rfl (lv_at hl 1 rfl) ?_
                refine k_aaldN (C := "SlipWall$Row") K X 26 3 rfl rfl (k := 3) (by omega) (by decide) (r := a 33) rfl dX11_copy_82 ?_
                refine lv_iload_n hx hb dX11_copy_83 rfl (lv_at hl 2 rfl) ?_
                refine lv_iload hx hb dX11_copy_84 (lv_at hl 5 rfl) ?_
                refine k_callV K X gv_X11_250 (As := [.int y, .int w]) (c_X7_hasFrom l E (fun j => a (33 + j)) (rb 3) (rz 3) (rn 3) y w) [33, 34] clsW_s17C (by decide +kernel) (fun _ => rowW_fst) 0 7 rfl rfl (by decide) rfl hl.1 (rest := []) rfl (Nat.le_of_ble_eq_true rfl) dX11_copy_86 (st1 := fun _ => [.int (b2i (hasR (rz 3) y w))]) (fun _ => rfl) (fun _ H locs _ X => ?_)
                have X : Wd E _ _ (clsW E a f g h ik one wo tp tl tk ts te tn rb rz rn td) _ _ := X.eq clsW_s17P
                refine k_ifeqB (B := (hasR (rz 3) y w)) hx hb 108 dX11_copy_89 (by decide) (fun c89 => ?_) (fun c89 => ?_)
                · refine lv_aload_n hx hb dX11_copy_108 rfl (lv_at hl 0 rfl) ?_
                  refine lv_iconst (v := 0) hx hb dX11_copy_109 (by decide) ?_
                  refine k_callV K X gv_X11_84 (As := [.int 0]) (c_X11_finding l E a f g h ik one wo tp tl tk ts te tn rb rz rn td 0 (by decide)) [0, 1, 2, 3, 4, 5, 6, 7, 8, 9, 10, 11, 12, 13, 14, 15, 16, 17, 18, 19, 20, 21, 22, 23, 24, 25, 26, 27, 28, 29, 30, 31, 32, 33, 34, 35, 36, 37, 38, 39, 40, 41, 42] clsW_idC (by decide +kernel) (fun _ => clsW_fst) 0 11 rfl rfl (by decide) rfl hl.1 (rest := []) rfl (Nat.le_of_ble_eq_true rfl) dX11_copy_110 (st1 := fun _ => [.int (fnd 0)]) (fun _ => rfl) (fun _ H locs _ X => ?_)
                  have X : Wd E _ _ (clsW E a f g h ik one wo tp tl tk ts te tn rb rz rn (fdU td 0)) _ _ := X.eq clsW_idP
                  exact k_topi (x' := (oCopy rb rz rn td (nI 3) y (nI 2) v w).1) (by simp [oCopy, hx0, ek, hy0, ej, c29, c41, c68, c89]) (fin () 113 _ _ _ trivial (X.eq (by simp [oCopy, hx0, ek, hy0, ej, c29, c41, c68, c89])) dX11_copy_113)
                · obtain ⟨a1, c1, rfl, rfl, hac⟩ := hasR_nat (J 3 (by decide)).1 hzx c89
                  have ea1 : (nI a1).toNatClampNeg = a1 := nI_clamp (by omega)
                  have ec1 : (nI c1).toNatClampNeg = c1 := nI_clamp (by omega)
                  refine lv_aload_n hx hb dX11_copy_92 rfl (lv_at hl 0 rfl) ?_
                  refine k_get K X 0 rfl fg_X11_71 (v := .ref (a 26)) rfl dX11_copy_93 ?_
                  refine lv_iload_n hx hb dX11_copy_96 rfl (lv_at hl 3 rfl) ?_
                  refine k_aaldN (C := "SlipWall$Row") K X 26 3 rfl rfl (k := 2) (by omega) (by decide) (r := a 31) rfl dX11_copy_97 ?_
                  refine lv_iload hx hb dX11_copy_98 (lv_at hl 4 rfl) ?_
                  refine lv_iload hx hb dX11_copy_100 (lv_at hl 5 rfl) ?_
                  refine k_callV K X gv_X11_250 (As := [.int v, .int (nI c1)]) (c_X7_hasFrom l E (fun j => a (31 + j)) (rb 2) (rz 2) (rn 2) v (nI c1)) [31, 32] clsW_s16C (by decide +kernel) (fun _ => rowW_fst) 0 7 rfl rfl (by decide) rfl hl.1 (rest := []) rfl (Nat.le_of_ble_eq_true rfl) dX11_copy_102 (st1 := fun _ => [.int (b2i (hasR (rz 2) v (nI c1)))]) (fun _ => rfl) (fun _ H locs _ X => ?_)
                  have X : Wd E _ _ (clsW E a f g h ik one wo tp tl tk ts te tn rb rz rn td) _ _ := X.eq clsW_s16P
                  refine k_ifneB (B := (hasR (rz 2) v (nI c1))) hx hb 114 dX11_copy_105 (by decide) (fun c105 => ?_) (fun c105 => ?_)
                  · obtain ⟨b1, rfl, hbc⟩ := hasR_nat2 (J 2 (by decide)).1 hzy (by omega) c105
                    have eb1 : (nI b1).toNatClampNeg = b1 := nI_clamp (by omega)
                    refine lv_aload_n hx hb dX11_copy_114 rfl (lv_at hl 0 rfl) ?_
                    refine k_get K X 0 rfl fg_X11_71 (v := .ref (a 26)) rfl dX11_copy_115 ?_
                    refine lv_iload_n hx hb dX11_copy_118 rfl (lv_at hl 1 rfl) ?_
                    refine k_aaldN (C := "SlipWall$Row") K X 26 3 rfl rfl (k := 3) (by omega) (by decide) (r := a 33) rfl dX11_copy_119 ?_
                    refine k_getN K X 33 rfl fg_X11_240 (v := .ref (a 34)) rfl dX11_copy_120 ?_
                    refine lv_iload_n hx hb dX11_copy_123 rfl (lv_at hl 2 rfl) ?_
                    refine lv_aload_n hx hb dX11_copy_124 rfl (lv_at hl 0 rfl) ?_
                    refine k_get K X 0 rfl fg_X11_71 (v := .ref (a 26)) rfl dX11_copy_125 ?_
                    refine lv_iload_n hx hb dX11_copy_128 rfl (lv_at hl 3 rfl) ?_
                    refine k_aaldN (C := "SlipWall$Row") K X 26 3 rfl rfl (k := 2) (by omega) (by decide) (r := a 31) rfl dX11_copy_129 ?_
                    refine k_getN K X 31 rfl fg_X11_240 (v := .ref (a 32)) rfl dX11_copy_130 ?_
                    refine lv_iload hx hb dX11_copy_133 (lv_at hl 4 rfl) ?_
                    refine lv_iload hx hb dX11_copy_135 (lv_at hl 5 rfl) ?_
                    refine k_copyl K X ⟨Mw_at 801 (by decide +kernel) (by decide +kernel), Mw_at 575 (by decide +kernel) (by decide +kernel), Mw_at 574 (by decide +kernel) (by decide +kernel), Mw_at 77 (by decide +kernel) (by decide +kernel)⟩ 34 32 (i := a1) (j := b1) (c := c1) rfl rfl (by omega) (by omega) hl.1 (by decide) (Nat.le_of_ble_eq_true rfl) dX11_copy_137 (fun H locs X => ?_)
                    have X : Wd E _ _ (clsW E a f g h ik one wo tp tl tk ts te tn rb rz (setRL rn 2 (va_cpy (rn 3) (rn 2) a1 b1 c1)) td) _ _ := X
                    refine lv_iload hx hb dX11_copy_140 (lv_at hl 5 rfl) ?_
                    exact k_topi (x' := (oCopy rb rz rn td (nI 3) (nI a1) (nI 2) (nI b1) (nI c1)).1) (by simp [oCopy, hx0, ek, hy0, ej, c29, c41, c68, c89, ea1, ec1, c105, eb1]) (fin () 142 _ _ _ trivial (X.eq (by simp [oCopy, hx0, ek, hy0, ej, c29, c41, c68, c89, ea1, ec1, c105, eb1])) dX11_copy_142)
                  · refine lv_aload_n hx hb dX11_copy_108 rfl (lv_at hl 0 rfl) ?_
                    refine lv_iconst (v := 0) hx hb dX11_copy_109 (by decide) ?_
                    refine k_callV K X gv_X11_84 (As := [.int 0]) (c_X11_finding l E a f g h ik one wo tp tl tk ts te tn rb rz rn td 0 (by decide)) [0, 1, 2, 3, 4, 5, 6, 7, 8, 9, 10, 11, 12, 13, 14, 15, 16, 17, 18, 19, 20, 21, 22, 23, 24, 25, 26, 27, 28, 29, 30, 31, 32, 33, 34, 35, 36, 37, 38, 39, 40, 41, 42] clsW_idC (by decide +kernel) (fun _ => clsW_fst) 0 11 rfl rfl (by decide) rfl hl.1 (rest := []) rfl (Nat.le_of_ble_eq_true rfl) dX11_copy_110 (st1 := fun _ => [.int (fnd 0)]) (fun _ => rfl) (fun _ H locs _ X => ?_)
                    have X : Wd E _ _ (clsW E a f g h ik one wo tp tl tk ts te tn rb rz rn (fdU td 0)) _ _ := X.eq clsW_idP
                    exact k_topi (x' := (oCopy rb rz rn td (nI 3) (nI a1) (nI 2) v (nI c1)).1) (by simp [oCopy, hx0, ek, hy0, ej, c29, c41, c68, c89, ea1, ec1, c105]) (fin () 113 _ _ _ trivial (X.eq (by simp [oCopy, hx0, ek, hy0, ej, c29, c41, c68, c89, ea1, ec1, c105])) dX11_copy_113)
              · refine lv_aload_n hx hb dX11_copy_71 rfl (lv_at hl 0 rfl) ?_
                refine lv_iconst (v := 2) hx hb dX11_copy_72 (by decide) ?_
                refine k_callV K X gv_X11_84 (As := [.int 2]) (c_X11_finding l E a f g h ik one wo tp tl tk ts te tn rb rz rn td 2 (by decide)) [0, 1, 2, 3, 4, 5, 6, 7, 8, 9, 10, 11, 12, 13, 14, 15, 16, 17, 18, 19, 20, 21, 22, 23, 24, 25, 26, 27, 28, 29, 30, 31, 32, 33, 34, 35, 36, 37, 38, 39, 40, 41, 42] clsW_idC (by decide +kernel) (fun _ => clsW_fst) 0 11 rfl rfl (by decide) rfl hl.1 (rest := []) rfl (Nat.le_of_ble_eq_true rfl) dX11_copy_73 (st1 := fun _ => [.int (fnd 2)]) (fun _ => rfl) (fun _ H locs _ X => ?_)
                have X : Wd E _ _ (clsW E a f g h ik one wo tp tl tk ts te tn rb rz rn (fdU td 2)) _ _ := X.eq clsW_idP
                exact k_topi (x' := (oCopy rb rz rn td (nI 3) y (nI 2) v w).1) (by simp [oCopy, hx0, ek, hy0, ej, c29, c41, c68]) (fin () 76 _ _ _ trivial (X.eq (by simp [oCopy, hx0, ek, hy0, ej, c29, c41, c68])) dX11_copy_76)
            · refine lv_aload_n hx hb dX11_copy_44 rfl (lv_at hl 0 rfl) ?_
              refine lv_iconst (v := 5) hx hb dX11_copy_45 (by decide) ?_
              refine k_callV K X gv_X11_84 (As := [.int 5]) (c_X11_finding l E a f g h ik one wo tp tl tk ts te tn rb rz rn td 5 (by decide)) [0, 1, 2, 3, 4, 5, 6, 7, 8, 9, 10, 11, 12, 13, 14, 15, 16, 17, 18, 19, 20, 21, 22, 23, 24, 25, 26, 27, 28, 29, 30, 31, 32, 33, 34, 35, 36, 37, 38, 39, 40, 41, 42] clsW_idC (by decide +kernel) (fun _ => clsW_fst) 0 11 rfl rfl (by decide) rfl hl.1 (rest := []) rfl (Nat.le_of_ble_eq_true rfl) dX11_copy_46 (st1 := fun _ => [.int (fnd 5)]) (fun _ => rfl) (fun _ H locs _ X => ?_)
              have X : Wd E _ _ (clsW E a f g h ik one wo tp tl tk ts te tn rb rz rn (fdU td 5)) _ _ := X.eq clsW_idP
              exact k_topi (x' := (oCopy rb rz rn td (nI 3) y (nI 2) v w).1) (by simp [oCopy, hx0, ek, hy0, ej, c29, c41]) (fin () 49 _ _ _ trivial (X.eq (by simp [oCopy, hx0, ek, hy0, ej, c29, c41])) dX11_copy_49)
          · have hzy := (J 3 (by decide)).2
            refine lv_iload_n hx hb dX11_copy_36 rfl (lv_at hl 3 rfl) ?_
            refine k_aaldN (C := "SlipWall$Row") K X 26 3 rfl rfl (k := 3) (by omega) (by decide) (r := a 33) rfl dX11_copy_37 ?_
            refine k_callV K X gv_X11_236 (As := []) (c_X7_isMissing l E (fun j => a (33 + j)) (rb 3) (rz 3) (rn 3)) [33, 34] clsW_s17C (by decide +kernel) (fun _ => rowW_fst) 0 7 rfl rfl (by decide) rfl hl.1 (rest := []) rfl (Nat.le_of_ble_eq_true rfl) dX11_copy_38 (st1 := fun _ => [.int (b2i (decide ((rb 3) = 0)))]) (fun _ => rfl) (fun _ H locs _ X => ?_)
            have X : Wd E _ _ (clsW E a f g h ik one wo tp tl tk ts te tn rb rz rn td) _ _ := X.eq clsW_s17P
            refine k_ifeqB (B := (decide ((rb 3) = 0))) hx hb 50 dX11_copy_41 (by decide) (fun c41 => ?_) (fun c41 => ?_)
            · refine lv_aload_n hx hb dX11_copy_50 rfl (lv_at hl 0 rfl) ?_
              refine k_get K X 0 rfl fg_X11_71 (v := .ref (a 26)) rfl dX11_copy_51 ?_
              refine lv_iload_n hx hb dX11_copy_54 rfl (lv_at hl 1 rfl) ?_
              refine k_aaldN (C := "SlipWall$Row") K X 26 3 rfl rfl (k := 3) (by omega) (by decide) (r := a 33) rfl dX11_copy_55 ?_
              refine k_getN K X 33 rfl fg_X11_247 (v := .int (rb 3)) rfl dX11_copy_56 ?_
              refine lv_aload_n hx hb dX11_copy_59 rfl (lv_at hl 0 rfl) ?_
              refine k_get K X 0 rfl fg_X11_71 (v := .ref (a 26)) rfl dX11_copy_60 ?_
              refine lv_iload_n hx hb dX11_copy_63 rfl (lv_at hl 3 rfl) ?_
              refine k_aaldN (C := "SlipWall$Row") K X 26 3 rfl rfl (k := 3) (by omega) (by decide) (r := a 33) rfl dX11_copy_64 ?_
              refine k_getN K X 33 rfl fg_X11_247 (v := .int (rb 3)) rfl dX11_copy_65 ?_
              refine k_icmp_eq (x := rb 3) (y := rb 3) hx hb 77 dX11_copy_68 (by decide) (fun c68 => ?_) (fun c68 => ?_)
              · refine lv_aload_n hx hb dX11_copy_77 rfl (lv_at hl 0 rfl) ?_
                refine k_get K X 0 rfl fg_X11_71 (v := .ref (a 26)) rfl dX11_copy_78 ?_
                refine lv_iload_n hx hb dX11_copy_81 rfl (lv_at hl 1 rfl) ?_
                refine k_aaldN (C := "SlipWall$Row") K X 26 3 rfl rfl (k := 3) (by omega) (by decide) (r := a 33) rfl dX11_copy_82 ?_
                refine lv_iload_n hx hb dX11_copy_83 rfl (lv_at hl 2 rfl) ?_
                refine lv_iload hx hb dX11_copy_84 (lv_at hl 5 rfl) ?_
                refine k_callV K X gv_X11_250 (As := [.int y, .int w]) (c_X7_hasFrom l E (fun j => a (33 + j)) (rb 3) (rz 3) (rn 3) y w) [33, 34] clsW_s17C (by decide +kernel) (fun _ => rowW_fst) 0 7 rfl rfl (by decide) rfl hl.1 (rest := []) rfl (Nat.le_of_ble_eq_true rfl) dX11_copy_86 (st1 := fun _ => [.int (b2i (hasR (rz 3) y w))]) (fun _ => rfl) (fun _ H locs _ X => ?_)
                have X : Wd E _ _ (clsW E a f g h ik one wo tp tl tk ts te tn rb rz rn td) _ _ := X.eq clsW_s17P
                refine k_ifeqB (B := (hasR (rz 3) y w)) hx hb 108 dX11_copy_89 (by decide) (fun c89 => ?_) (fun c89 => ?_)
                · refine lv_aload_n hx hb dX11_copy_108 rfl (lv_at hl 0 rfl) ?_
                  refine lv_iconst (v := 0) hx hb dX11_copy_109 (by decide) ?_
                  refine k_callV K X gv_X11_84 (As := [.int 0]) (c_X11_finding l E a f g h ik one wo tp tl tk ts te tn rb rz rn td 0 (by decide)) [0, 1, 2, 3, 4, 5, 6, 7, 8, 9, 10, 11, 12, 13, 14, 15, 16, 17, 18, 19, 20, 21, 22, 23, 24, 25, 26, 27, 28, 29, 30, 31, 32, 33, 34, 35, 36, 37, 38, 39, 40, 41, 42] clsW_idC (by decide +kernel) (fun _ => clsW_fst) 0 11 rfl rfl (by decide) rfl hl.1 (rest := []) rfl (Nat.le_of_ble_eq_true rfl) dX11_copy_110 (st1 := fun _ => [.int (fnd 0)]) (fun _ => rfl) (fun _ H locs _ X => ?_)
                  have X : Wd E _ _ (clsW E a f g h ik one wo tp tl tk ts te tn rb rz rn (fdU td 0)) _ _ := X.eq clsW_idP
                  exact k_topi (x' := (oCopy rb rz rn td (nI 3) y (nI 3) v w).1) (by simp [oCopy, hx0, ek, hy0, ej, c29, c41, c89]) (fin () 113 _ _ _ trivial (X.eq (by simp [oCopy, hx0, ek, hy0, ej, c29, c41, c89])) dX11_copy_113)
                · obtain ⟨a1, c1, rfl, rfl, hac⟩ := hasR_nat (J 3 (by decide)).1 hzx c89
                  have ea1 : (nI a1).toNatClampNeg = a1 := nI_clamp (by omega)
                  have ec1 : (nI c1).toNatClampNeg = c1 := nI_clamp (by omega)
                  refine lv_aload_n hx hb dX11_copy_92 rfl (lv_at hl 0 rfl) ?_
                  refine k_get K X 0 rfl fg_X11_71 (v := .ref (a 26)) rfl dX11_copy_93 ?_
                  refine lv_iload_n hx hb dX11_copy_96 rfl (lv_at hl 3 rfl) ?_
                  refine k_aaldN (C := "SlipWall$Row") K X 26 3 rfl rfl (k := 3) (by omega) (by decide) (r := a 33) rfl dX11_copy_97 ?_
                  refine lv_iload hx hb dX11_copy_98 (lv_at hl 4 rfl) ?_
                  refine lv_iload hx hb dX11_copy_100 (lv_at hl 5 rfl) ?_
                  refine k_callV K X gv_X11_250 (As := [.int v, .int (nI c1)]) (c_X7_hasFrom l E (fun j => a (33 + j)) (rb 3) (rz 3) (rn 3) v (nI c1)) [33, 34] clsW_s17C (by decide +kernel) (fun _ => rowW_fst) 0 7 rfl rfl (by decide) rfl hl.1 (rest := []) rfl (Nat.le_of_ble_eq_true rfl) dX11_copy_102 (st1 := fun _ => [.int (b2i (hasR (rz 3) v (nI c1)))]) (fun _ => rfl) (fun _ H locs _ X => ?_)
                  have X : Wd E _ _ (clsW E a f g h ik one wo tp tl tk ts te tn rb rz rn td) _ _ := X.eq clsW_s17P
                  refine k_ifneB (B := (hasR (rz 3) v (nI c1))) hx hb 114 dX11_copy_105 (by decide) (fun c105 => ?_) (fun c105 => ?_)
                  · obtain ⟨b1, rfl, hbc⟩ := hasR_nat2 (J 3 (by decide)).1 hzy (by omega) c105
                    have eb1 : (nI b1).toNatClampNeg = b1 := nI_clamp (by omega)
                    refine lv_aload_n hx hb dX11_copy_114 rfl (lv_at hl 0 rfl) ?_
                    refine k_get K X 0 rfl fg_X11_71 (v := .ref (a 26)) rfl dX11_copy_115 ?_
                    refine lv_iload_n hx hb dX11_copy_118 rfl (lv_at hl 1 rfl) ?_
                    refine k_aaldN (C := "SlipWall$Row") K X 26 3 rfl rfl (k := 3) (by omega) (by decide) (r := a 33) rfl dX11_copy_119 ?_
                    refine k_getN K X 33 rfl fg_X11_240 (v := .ref (a 34)) rfl dX11_copy_120 ?_
                    refine lv_iload_n hx hb dX11_copy_123 rfl (lv_at hl 2 rfl) ?_
                    refine lv_aload_n hx hb dX11_copy_124 rfl (lv_at hl 0 rfl) ?_
                    refine k_get K X 0 rfl fg_X11_71 (v := .ref (a 26)) rfl dX11_copy_125 ?_
                    refine lv_iload_n hx hb dX11_copy_128 rfl (lv_at hl 3 rfl) ?_
                    refine k_aaldN (C := "SlipWall$Row") K X 26 3 rfl rfl (k := 3) (by omega) (by decide) (r := a 33) rfl dX11_copy_129 ?_
                    refine k_getN K X 33 rfl fg_X11_240 (v := .ref (a 34)) rfl dX11_copy_130 ?_
                    refine lv_iload hx hb dX11_copy_133 (lv_at hl 4 rfl) ?_
                    refine lv_iload hx hb dX11_copy_135 (lv_at hl 5 rfl) ?_
                    refine k_copyl K X ⟨Mw_at 801 (by decide +kernel) (by decide +kernel), Mw_at 575 (by decide +kernel) (by decide +kernel), Mw_at 574 (by decide +kernel) (by decide +kernel), Mw_at 77 (by decide +kernel) (by decide +kernel)⟩ 34 34 (i := a1) (j := b1) (c := c1) rfl rfl (by omega) (by omega) hl.1 (by decide) (Nat.le_of_ble_eq_true rfl) dX11_copy_137 (fun H locs X => ?_)
                    have X : Wd E _ _ (clsW E a f g h ik one wo tp tl tk ts te tn rb rz (setRL rn 3 (va_cpy (rn 3) (rn 3) a1 b1 c1)) td) _ _ := X
                    refine lv_iload hx hb dX11_copy_140 (lv_at hl 5 rfl) ?_
                    exact k_topi (x' := (oCopy rb rz rn td (nI 3) (nI a1) (nI 3) (nI b1) (nI c1)).1) (by simp [oCopy, hx0, ek, hy0, ej, c29, c41, c89, ea1, ec1, c105, eb1]) (fin () 142 _ _ _ trivial (X.eq (by simp [oCopy, hx0, ek, hy0, ej, c29, c41, c89, ea1, ec1, c105, eb1])) dX11_copy_142)
                  · refine lv_aload_n hx hb dX11_copy_108 rfl (lv_at hl 0 rfl) ?_
                    refine lv_iconst (v := 0) hx hb dX11_copy_109 (by decide) ?_
                    refine k_callV K X gv_X11_84 (As := [.int 0]) (c_X11_finding l E a f g h ik one wo tp tl tk ts te tn rb rz rn td 0 (by decide)) [0, 1, 2, 3, 4, 5, 6, 7, 8, 9, 10, 11, 12, 13, 14, 15, 16, 17, 18, 19, 20, 21, 22, 23, 24, 25, 26, 27, 28, 29, 30, 31, 32, 33, 34, 35, 36, 37, 38, 39, 40, 41, 42] clsW_idC (by decide +kernel) (fun _ => clsW_fst) 0 11 rfl rfl (by decide) rfl hl.1 (rest := []) rfl (Nat.le_of_ble_eq_true rfl) dX11_copy_110 (st1 := fun _ => [.int (fnd 0)]) (fun _ => rfl) (fun _ H locs _ X => ?_)
                    have X : Wd E _ _ (clsW E a f g h ik one wo tp tl tk ts te tn rb rz rn (fdU td 0)) _ _ := X.eq clsW_idP
                    exact k_topi (x' := (oCopy rb rz rn td (nI 3) (nI a1) (nI 3) v (nI c1)).1) (by simp [oCopy, hx0, ek, hy0, ej, c29, c41, c89, ea1, ec1, c105]) (fin () 113 _ _ _ trivial (X.eq (by simp [oCopy, hx0, ek, hy0, ej, c29, c41, c89, ea1, ec1, c105])) dX11_copy_113)
              · exact absurd rfl c68
            · exact absurd (c29.symm.trans c41) (by decide)
    · have hy0 : inR z 0 3 = false := by simpa using c11
      refine lv_aload_n hx hb dX11_copy_14 rfl (lv_at hl 0 rfl) ?_
      refine lv_iconst (v := 0) hx hb dX11_copy_15 (by decide) ?_
      refine k_callV K X gv_X11_84 (As := [.int 0]) (c_X11_finding l E a f g h ik one wo tp tl tk ts te tn rb rz rn td 0 (by decide)) [0, 1, 2, 3, 4, 5, 6, 7, 8, 9, 10, 11, 12, 13, 14, 15, 16, 17, 18, 19, 20, 21, 22, 23, 24, 25, 26, 27, 28, 29, 30, 31, 32, 33, 34, 35, 36, 37, 38, 39, 40, 41, 42] clsW_idC (by decide +kernel) (fun _ => clsW_fst) 0 11 rfl rfl (by decide) rfl hl.1 (rest := []) rfl (Nat.le_of_ble_eq_true rfl) dX11_copy_16 (st1 := fun _ => [.int (fnd 0)]) (fun _ => rfl) (fun _ H locs _ X => ?_)
      have X : Wd E _ _ (clsW E a f g h ik one wo tp tl tk ts te tn rb rz rn (fdU td 0)) _ _ := X.eq clsW_idP
      exact k_topi (x' := (oCopy rb rz rn td (nI k) y z v w).1) (by simp [oCopy, hx0, ek, hy0]) (fin () 19 _ _ _ trivial (X.eq (by simp [oCopy, hx0, ek, hy0])) dX11_copy_19)
