def doneL (P : Nat) : Nat → Nat → Nat → St → Option Nat
  | 0, _, _, _ => none
  | n + 1, i, j, g => if P ≤ i - j then some j else doneL P n (i + 1) (if tcF g = 0 then j else i + 1) (goF g)
def oDone (f : St) (td : Nat → Int32) : R3 := match doneL (pe f) (201 + pe f) 0 0 f with
  | none => bad3 3 f td
  | some k => (nI k, f, td)
def mvL (k : Nat) : Nat → Nat → St → Option Nat
  | 0, _, _ => none
  | n + 1, i, g => if tcF g &&& (1 <<< (nI k &&& 31)) = 0 then mvL k n (i + 1) (goF g) else some i
def oMoved (f : St) (td : Nat → Int32) (x : Int32) : R3 := cond (isS f x) (match mvL x.toNatClampNeg 200 1 f with
  | none => bad3 3 f td
  | some k => (nI k, f, td)) (bad3 0 f td)
def orNone (b : Int32) (f : St) (td : Nat → Int32) : R3 := if b = -1 then bad3 3 f td else (b, f, td)
def oRule (f : St) (td : Nat → Int32) (x y : Int32) : R3 := cond (isP f x && inR y 1 100) ((bsL (fun _ => true) (fun v => bcF (wayF (goN y.toNatClampNeg (up2 f 0 1 (nI v))) x.toNatClampNeg)) (fun v => nI v) 21 0 (-1) 0).1, f, td) (bad3 0 f td)
def oSend (f : St) (td : Nat → Int32) (x y : Int32) : R3 := cond (isP f x && inR y 1 100) (orNone (bsL (fun v => !decide (v = x.toNatClampNeg) && decide (f 5 v = 0)) (fun v => bcF (wayF (goN y.toNatClampNeg (up2 f 5 v 1)) x.toNatClampNeg)) (fun v => nI v) (pe f) 0 (-1) 0).1 f td) (bad3 0 f td)
def oKind (f : St) (td : Nat → Int32) (x y : Int32) : R3 := cond (isP f x && inR y 1 100) ((bsL (fun _ => true) (fun v => bcF (wayF (goN y.toNatClampNeg (up2 f 4 x.toNatClampNeg (nI v))) x.toNatClampNeg)) (fun v => nI v) 6 0 (-1) 0).1, f, td) (bad3 0 f td)
def prL (f : St) : Nat → Nat → Int32 → Int32 → Int32 × Int32
  | 0, _, one, wo => (one, wo)
  | n + 1, i, one, wo => prL f n (i + 1) (bsL (fun _ => true) (fun b => nI (sameF f i b)) (fun b => nI (10 * i + b)) (pe f - (i + 1)) (i + 1) one wo).1 (bsL (fun _ => true) (fun b => nI (sameF f i b)) (fun b => nI (10 * i + b)) (pe f - (i + 1)) (i + 1) one wo).2
def oPair (f : St) (td : Nat → Int32) : R3 := orNone (prL f (pe f) 0 (-1) 0).1 f td
def oFix (f : St) (td : Nat → Int32) (x : Int32) : R3 := cond (inR x 1 60) (orNone (bsL (fun v => decide (f 3 v = 0)) (fun v => 0 - allF (goN x.toNatClampNeg (up2 f 3 v 1))) (fun v => nI v) (sl f) 0 (-1) 0).1 f td) (bad3 0 f td)
def oWinner (f : St) (td : Nat → Int32) (x : Int32) : R3 := cond (inR x 0 200) (orNone (bsL (fun _ => true) (fun v => bcF (wayF (goN x.toNatClampNeg f) v)) (fun v => nI v) (pe (goN x.toNatClampNeg f)) 0 (-1) 0).1 f td) (bad3 0 f td)
def oLargest (f : St) (td : Nat → Int32) (x : Int32) : R3 := cond (inR x 0 200) ((bsL (fun _ => true) (fun v => bcF (inF (goN x.toNatClampNeg f) (nI v))) (fun v => nI v) 6 0 (-1) 0).1, f, td) (bad3 0 f td)
theorem Inv.up01 {T : Nat} {f : St} (I : Inv T f) (v : Int32) : Inv T (up2 f 0 1 v) := by
  obtain ⟨a1, a2, a3, a4, a5, a6⟩ := I
  exact ⟨a1, a2, a3, a4, a5, a6⟩
theorem Inv.up5 {T : Nat} {f : St} (I : Inv T f) (k : Nat) (v : Int32) : Inv T (up2 f 5 k v) := by
  obtain ⟨a1, a2, a3, a4, a5, a6⟩ := I
  exact ⟨a1, a2, a3, a4, a5, a6⟩
theorem Inv.up4 {T : Nat} {f : St} (I : Inv T f) (k : Nat) {v : Nat} (hv : v < 6) : Inv T (up2 f 4 k (nI v)) := by
  obtain ⟨a1, a2, a3, a4, a5, a6⟩ := I
  refine ⟨a1, a2, a3, a4, fun p hp => ?_, a6⟩
  have e : (up2 f 4 k (nI v)) 4 p = if p = k then nI v else f 4 p := rfl
  unfold kn
  rw [e]
  split
  · rw [nI_clamp (by omega)]
    exact ⟨rfl, hv⟩
  · exact a5 p hp
theorem Inv.up3 {T : Nat} {f : St} (I : Inv T f) (k : Nat) {v : Int32} (hv : v = 0 ∨ v = 1) : Inv T (up2 f 3 k v) := by
  refine I.of rfl rfl rfl (fun s hs => ⟨?_, I.mv hs, I.gr hs⟩)
  show upd (f 3) k v s = 0 ∨ upd (f 3) k v s = 1
  rw [upd_eq]
  split
  · exact hv
  · exact I.fx hs
theorem Inv.up31 {T : Nat} {f : St} (I : Inv T f) (k : Nat) : Inv T (up2 f 3 k 1) := I.up3 k (Or.inr rfl)
set_option maxRecDepth 100000 in
set_option maxHeartbeats 4000000 in
theorem c_X11_on (l : Launch) (E : EE) (a : Nat → Nat) (f : St) (g : St) (h : St) (ik : Int32) (one : Int32) (wo : Int32) (tp : Nat → Int32) (tl : Int32) (tk : Int32) (ts : Int32) (te : Int32) (tn : Int32) (rb : Nat → Int32) (rz : Nat → Int32) (rn : Nat → Nat → Int64) (td : Nat → Int32) (T : Nat) (x : Int32) (y : Int32) (z : Int32) (I : Inv T f) (hT : T < 999000) : Kn l yX11_on cX11_on 4 (some .int) 7 161 E (clsW E a f g h ik one wo tp tl tk ts te tn rb rz rn td) [.ref (a 0), .int x, .int y, .int z] (S := St) (fun _ => True) (fun _ => (some (.int ((oOn f td x y z).1)))) (fun u => (clsW E a ((oOn f td x y z).2.1) u h ik one wo tp tl tk ts te tn rb rz rn ((oOn f td x y z).2.2))) := by
  refine Kn.ofWi (by decide +kernel) (Nat.le_of_ble_eq_true rfl) (fun _ _ => rfl) ?_
  intro pg ev s0 mm below meth cd Q K X fin ls hl
  have hx := K.1
  have hb := K.2.1
  have hs10 := I.s10
  have hp6 := I.p6
  have hl : lv_has ls 4 [(0, .ref (a 0)), (1, .int x), (2, .int y), (3, .int z)] := hl
  refine lv_aload_n hx hb dX11_on_0 rfl (lv_at hl 0 rfl) ?_
  refine lv_iload_n hx hb dX11_on_1 rfl (lv_at hl 1 rfl) ?_
  refine k_callV K X gv_X11_99 (As := [.int x]) (c_X11_noSlip l E a f g h ik one wo tp tl tk ts te tn rb rz rn td x) [0, 1, 2, 3, 4, 5, 6, 7, 8, 9, 10, 11, 12, 13, 14, 15, 16, 17, 18, 19, 20, 21, 22, 23, 24, 25, 26, 27, 28, 29, 30, 31, 32, 33, 34, 35, 36, 37, 38, 39, 40, 41, 42] clsW_idC (by decide +kernel) (fun _ => clsW_fst) 0 11 rfl rfl (by decide) rfl hl.1 (rest := []) rfl (Nat.le_of_ble_eq_true rfl) dX11_on_2 (st1 := fun _ => [.int (b2i (!isS f x))]) (fun _ => rfl) (fun _ H locs _ X => ?_)
  have X : Wd E _ _ (clsW E a f g h ik one wo tp tl tk ts te tn rb rz rn td) _ _ := X.eq clsW_idP
  refine k_ifneB (B := (!isS f x)) hx hb 28 dX11_on_5 (by decide) (fun c5 => ?_) (fun c5 => ?_)
  · have hx0 : isS f x = false := by simpa using c5
    refine lv_aload_n hx hb dX11_on_28 rfl (lv_at hl 0 rfl) ?_
    refine lv_iconst (v := 0) hx hb dX11_on_29 (by decide) ?_
    refine k_callV K X gv_X11_84 (As := [.int 0]) (c_X11_finding l E a f g h ik one wo tp tl tk ts te tn rb rz rn td 0 (by decide)) [0, 1, 2, 3, 4, 5, 6, 7, 8, 9, 10, 11, 12, 13, 14, 15, 16, 17, 18, 19, 20, 21, 22, 23, 24, 25, 26, 27, 28, 29, 30, 31, 32, 33, 34, 35, 36, 37, 38, 39, 40, 41, 42] clsW_idC (by decide +kernel) (fun _ => clsW_fst) 0 11 rfl rfl (by decide) rfl hl.1 (rest := []) rfl (Nat.le_of_ble_eq_true rfl) dX11_on_30 (st1 := fun _ => [.int (fnd 0)]) (fun _ => rfl) (fun _ H locs _ X => ?_)
    have X : Wd E _ _ (clsW E a f g h ik one wo tp tl tk ts te tn rb rz rn (fdU td 0)) _ _ := X.eq clsW_idP
    exact k_topi (x' := (oOn f td x y z).1) (by simp [oOn, bad3, hx0]) (fin (g) 33 _ _ _ trivial (X.eq (by simp [oOn, bad3, hx0])) dX11_on_33)
  · have hx0 : isS f x = true := by simpa using c5
    obtain ⟨k, hk, rfl⟩ := isS_nat I hx0
    have ek : (nI k).toNatClampNeg = k := nI_clamp (by omega)
    refine lv_iload_n hx hb dX11_on_8 rfl (lv_at hl 2 rfl) ?_
    refine lv_iconst (v := 0) hx hb dX11_on_9 (by decide) ?_
    refine lv_sipush (v := 200) hx hb dX11_on_10 (by decide) ?_
    refine k_callS K X gs_X11_80 (As := [.int y, .int 0, .int 200]) (c_X11_within l E y 0 200) [] rfl (by decide +kernel) (fun _ => rfl) (by decide) rfl hl.1 (rest := []) rfl (Nat.le_of_ble_eq_true rfl) dX11_on_13 (st1 := fun _ => [.int (b2i (inR y 0 200))]) (fun _ => rfl) (fun _ H locs _ X => ?_)
    have X : Wd E _ _ (clsW E a f g h ik one wo tp tl tk ts te tn rb rz rn td) _ _ := X
    refine k_ifeqB (B := (inR y 0 200)) hx hb 28 dX11_on_16 (by decide) (fun c16 => ?_) (fun c16 => ?_)
    · refine lv_aload_n hx hb dX11_on_28 rfl (lv_at hl 0 rfl) ?_
      refine lv_iconst (v := 0) hx hb dX11_on_29 (by decide) ?_
      refine k_callV K X gv_X11_84 (As := [.int 0]) (c_X11_finding l E a f g h ik one wo tp tl tk ts te tn rb rz rn td 0 (by decide)) [0, 1, 2, 3, 4, 5, 6, 7, 8, 9, 10, 11, 12, 13, 14, 15, 16, 17, 18, 19, 20, 21, 22, 23, 24, 25, 26, 27, 28, 29, 30, 31, 32, 33, 34, 35, 36, 37, 38, 39, 40, 41, 42] clsW_idC (by decide +kernel) (fun _ => clsW_fst) 0 11 rfl rfl (by decide) rfl hl.1 (rest := []) rfl (Nat.le_of_ble_eq_true rfl) dX11_on_30 (st1 := fun _ => [.int (fnd 0)]) (fun _ => rfl) (fun _ H locs _ X => ?_)
      have X : Wd E _ _ (clsW E a f g h ik one wo tp tl tk ts te tn rb rz rn (fdU td 0)) _ _ := X.eq clsW_idP
      exact k_topi (x' := (oOn f td (nI k) y z).1) (by simp [oOn, bad3, hx0, ek, c16]) (fin (g) 33 _ _ _ trivial (X.eq (by simp [oOn, bad3, hx0, ek, c16])) dX11_on_33)
    · obtain ⟨u, hu, rfl, hul, huh⟩ := inR_nat (n := 201) (by decide) (by decide) c16
      have hul : 0 ≤ u := by have h0 : ((0 : Int32).toInt) = 0 := (by decide); omega
      have eu : (nI u).toNatClampNeg = u := nI_clamp (by omega)
      refine lv_iload_n hx hb dX11_on_19 rfl (lv_at hl 3 rfl) ?_
      refine lv_iconst (v := 0) hx hb dX11_on_20 (by decide) ?_
      refine lv_iconst (v := 2) hx hb dX11_on_21 (by decide) ?_
      refine k_callS K X gs_X11_80 (As := [.int z, .int 0, .int 2]) (c_X11_within l E z 0 2) [] rfl (by decide +kernel) (fun _ => rfl) (by decide) rfl hl.1 (rest := []) rfl (Nat.le_of_ble_eq_true rfl) dX11_on_22 (st1 := fun _ => [.int (b2i (inR z 0 2))]) (fun _ => rfl) (fun _ H locs _ X => ?_)
      have X : Wd E _ _ (clsW E a f g h ik one wo tp tl tk ts te tn rb rz rn td) _ _ := X
      refine k_ifneB (B := (inR z 0 2)) hx hb 34 dX11_on_25 (by decide) (fun c25 => ?_) (fun c25 => ?_)
      · obtain ⟨w, hw, rfl, hwl, hwh⟩ := inR_nat (n := 3) (by decide) (by decide) c25
        have hwl : 0 ≤ w := by have h0 : ((0 : Int32).toInt) = 0 := (by decide); omega
        have ew : (nI w).toNatClampNeg = w := nI_clamp (by omega)
        refine lv_aload_n hx hb dX11_on_34 rfl (lv_at hl 0 rfl) ?_
        refine lv_iload_n hx hb dX11_on_35 rfl (lv_at hl 2 rfl) ?_
        refine k_callV K X gv_X11_186 (As := [.int (nI u)]) (c_X11_tryOn l E a f g h ik one wo tp tl tk ts te tn rb rz rn td T u I (by omega)) [0, 1, 2, 3, 4, 5, 6, 7, 8, 9, 10, 11, 12, 13, 14, 15, 16, 17, 18, 19, 20, 21, 22, 23, 24, 25, 26, 27, 28, 29, 30, 31, 32, 33, 34, 35, 36, 37, 38, 39, 40, 41, 42] clsW_idC (by decide +kernel) (fun _ => clsW_fst) 0 11 rfl rfl (by decide) rfl hl.1 (rest := []) rfl (Nat.le_of_ble_eq_true rfl) dX11_on_36 (st1 := fun _ => []) (fun _ => rfl) (fun _ H locs _ X => ?_)
        have X : Wd E _ _ (clsW E a f (goN u f) h ik one wo tp tl tk ts te tn rb rz rn td) _ _ := X.eq clsW_idP
        refine lv_iload_n hx hb dX11_on_39 rfl (lv_at hl 3 rfl) ?_
        have hnc : w < 3 := hw
        rcases (show w = 0 ∨ w = 1 ∨ w = 2 by omega) with en | en | en
        · subst en
          refine k_topi (x' := 0) rfl ?_
          refine lv_lookup (off := 28) (tgt := 68) hx hb dX11_on_40 (by decide) (by decide) (by decide) ?_
          refine lv_aload_n hx hb dX11_on_68 rfl (lv_at hl 0 rfl) ?_
          refine k_get K X 0 rfl fg_X11_36 (v := .ref (a 8)) rfl dX11_on_69 ?_
          refine k_getN K X 8 rfl fg_X11_103 (v := .ref (a 9)) rfl dX11_on_72 ?_
          refine lv_iload_n hx hb dX11_on_75 rfl (lv_at hl 1 rfl) ?_
          refine k_ialdN K X 9 rfl (k := k) (by omega) (by decide) dX11_on_76 (v := (goN u f) 1 k) rfl ?_
          exact k_topi (x' := (oOn f td (nI k) (nI u) (nI 0)).1) (by simp [oOn, bad3, hx0, ek, c16, eu, c25, ew]) (fin ((goN u f)) 77 _ _ _ trivial (X.eq (by simp [oOn, bad3, hx0, ek, c16, eu, c25, ew])) dX11_on_77)
        · subst en
          refine k_topi (x' := 1) rfl ?_
          refine lv_lookup (off := 38) (tgt := 78) hx hb dX11_on_40 (by decide) (by decide) (by decide) ?_
          refine lv_aload_n hx hb dX11_on_78 rfl (lv_at hl 0 rfl) ?_
          refine k_get K X 0 rfl fg_X11_36 (v := .ref (a 8)) rfl dX11_on_79 ?_
          refine k_getN K X 8 rfl fg_X11_106 (v := .ref (a 10)) rfl dX11_on_82 ?_
          refine lv_iload_n hx hb dX11_on_85 rfl (lv_at hl 1 rfl) ?_
          refine k_ialdN K X 10 rfl (k := k) (by omega) (by decide) dX11_on_86 (v := (goN u f) 2 k) rfl ?_
          exact k_topi (x' := (oOn f td (nI k) (nI u) (nI 1)).1) (by simp [oOn, bad3, hx0, ek, c16, eu, c25, ew]) (fin ((goN u f)) 87 _ _ _ trivial (X.eq (by simp [oOn, bad3, hx0, ek, c16, eu, c25, ew])) dX11_on_87)
        · subst en
          refine k_topi (x' := 2) rfl ?_
          refine lv_lookup (off := 48) (tgt := 88) hx hb dX11_on_40 (by decide) (by decide) (by decide) ?_
          refine lv_aload_n hx hb dX11_on_88 rfl (lv_at hl 0 rfl) ?_
          refine k_get K X 0 rfl fg_X11_36 (v := .ref (a 8)) rfl dX11_on_89 ?_
          refine k_getN K X 8 rfl fg_X11_109 (v := .ref (a 11)) rfl dX11_on_92 ?_
          refine lv_iload_n hx hb dX11_on_95 rfl (lv_at hl 1 rfl) ?_
          refine k_ialdN K X 11 rfl (k := k) (by omega) (by decide) dX11_on_96 (v := (goN u f) 3 k) rfl ?_
          exact k_topi (x' := (oOn f td (nI k) (nI u) (nI 2)).1) (by simp [oOn, bad3, hx0, ek, c16, eu, c25, ew]) (fin ((goN u f)) 97 _ _ _ trivial (X.eq (by simp [oOn, bad3, hx0, ek, c16, eu, c25, ew])) dX11_on_97)
      · refine lv_aload_n hx hb dX11_on_28 rfl (lv_at hl 0 rfl) ?_
        refine lv_iconst (v := 0) hx hb dX11_on_29 (by decide) ?_
        refine k_callV K X gv_X11_84 (As := [.int 0]) (c_X11_finding l E a f g h ik one wo tp tl tk ts te tn rb rz rn td 0 (by decide)) [0, 1, 2, 3, 4, 5, 6, 7, 8, 9, 10, 11, 12, 13, 14, 15, 16, 17, 18, 19, 20, 21, 22, 23, 24, 25, 26, 27, 28, 29, 30, 31, 32, 33, 34, 35, 36, 37, 38, 39, 40, 41, 42] clsW_idC (by decide +kernel) (fun _ => clsW_fst) 0 11 rfl rfl (by decide) rfl hl.1 (rest := []) rfl (Nat.le_of_ble_eq_true rfl) dX11_on_30 (st1 := fun _ => [.int (fnd 0)]) (fun _ => rfl) (fun _ H locs _ X => ?_)
        have X : Wd E _ _ (clsW E a f g h ik one wo tp tl tk ts te tn rb rz rn (fdU td 0)) _ _ := X.eq clsW_idP
        exact k_topi (x' := (oOn f td (nI k) (nI u) z).1) (by simp [oOn, bad3, hx0, ek, c16, eu, c25]) (fin (g) 33 _ _ _ trivial (X.eq (by simp [oOn, bad3, hx0, ek, c16, eu, c25])) dX11_on_33)
set_option maxRecDepth 100000 in
set_option maxHeartbeats 4000000 in
theorem c_X11_way (l : Launch) (E : EE) (a : Nat → Nat) (f : St) (g : St) (h : St) (ik : Int32) (one : Int32) (wo : Int32) (tp : Nat → Int32) (tl : Int32) (tk : Int32) (ts : Int32) (te : Int32) (tn : Int32) (rb : Nat → Int32) (rz : Nat → Int32) (rn : Nat → Nat → Int64) (td : Nat → Int32) (T : Nat) (x : Int32) (y : Int32) (I : Inv T f) (hT : T < 999000) : Kn l yX11_way cX11_way 3 (some .int) 7 162 E (clsW E a f g h ik one wo tp tl tk ts te tn rb rz rn td) [.ref (a 0), .int x, .int y] (S := St) (fun _ => True) (fun _ => (some (.int ((oWay f td x y).1)))) (fun u => (clsW E a ((oWay f td x y).2.1) u h ik one wo tp tl tk ts te tn rb rz rn ((oWay f td x y).2.2))) := by
  refine Kn.ofWi (by decide +kernel) (Nat.le_of_ble_eq_true rfl) (fun _ _ => rfl) ?_
  intro pg ev s0 mm below meth cd Q K X fin ls hl
  have hx := K.1
  have hb := K.2.1
  have hs10 := I.s10
  have hp6 := I.p6
  have hl : lv_has ls 3 [(0, .ref (a 0)), (1, .int x), (2, .int y)] := hl
  refine lv_aload_n hx hb dX11_way_0 rfl (lv_at hl 0 rfl) ?_
  refine lv_iload_n hx hb dX11_way_1 rfl (lv_at hl 1 rfl) ?_
  refine k_callV K X gv_X11_147 (As := [.int x]) (c_X11_noPerson l E a f g h ik one wo tp tl tk ts te tn rb rz rn td x) [0, 1, 2, 3, 4, 5, 6, 7, 8, 9, 10, 11, 12, 13, 14, 15, 16, 17, 18, 19, 20, 21, 22, 23, 24, 25, 26, 27, 28, 29, 30, 31, 32, 33, 34, 35, 36, 37, 38, 39, 40, 41, 42] clsW_idC (by decide +kernel) (fun _ => clsW_fst) 0 11 rfl rfl (by decide) rfl hl.1 (rest := []) rfl (Nat.le_of_ble_eq_true rfl) dX11_way_2 (st1 := fun _ => [.int (b2i (!isP f x))]) (fun _ => rfl) (fun _ H locs _ X => ?_)
  have X : Wd E _ _ (clsW E a f g h ik one wo tp tl tk ts te tn rb rz rn td) _ _ := X.eq clsW_idP
  refine k_ifneB (B := (!isP f x)) hx hb 19 dX11_way_5 (by decide) (fun c5 => ?_) (fun c5 => ?_)
  · have hx0 : isP f x = false := by simpa using c5
    refine lv_aload_n hx hb dX11_way_19 rfl (lv_at hl 0 rfl) ?_
    refine lv_iconst (v := 0) hx hb dX11_way_20 (by decide) ?_
    refine k_callV K X gv_X11_84 (As := [.int 0]) (c_X11_finding l E a f g h ik one wo tp tl tk ts te tn rb rz rn td 0 (by decide)) [0, 1, 2, 3, 4, 5, 6, 7, 8, 9, 10, 11, 12, 13, 14, 15, 16, 17, 18, 19, 20, 21, 22, 23, 24, 25, 26, 27, 28, 29, 30, 31, 32, 33, 34, 35, 36, 37, 38, 39, 40, 41, 42] clsW_idC (by decide +kernel) (fun _ => clsW_fst) 0 11 rfl rfl (by decide) rfl hl.1 (rest := []) rfl (Nat.le_of_ble_eq_true rfl) dX11_way_21 (st1 := fun _ => [.int (fnd 0)]) (fun _ => rfl) (fun _ H locs _ X => ?_)
    have X : Wd E _ _ (clsW E a f g h ik one wo tp tl tk ts te tn rb rz rn (fdU td 0)) _ _ := X.eq clsW_idP
    exact k_topi (x' := (oWay f td x y).1) (by simp [oWay, bad3, hx0]) (fin (g) 24 _ _ _ trivial (X.eq (by simp [oWay, bad3, hx0])) dX11_way_24)
  · have hx0 : isP f x = true := by simpa using c5
    obtain ⟨k, hk, rfl⟩ := isP_nat I hx0
    have ek : (nI k).toNatClampNeg = k := nI_clamp (by omega)
    refine lv_iload_n hx hb dX11_way_8 rfl (lv_at hl 2 rfl) ?_
    refine lv_iconst (v := 0) hx hb dX11_way_9 (by decide) ?_
    refine lv_sipush (v := 200) hx hb dX11_way_10 (by decide) ?_
    refine k_callS K X gs_X11_80 (As := [.int y, .int 0, .int 200]) (c_X11_within l E y 0 200) [] rfl (by decide +kernel) (fun _ => rfl) (by decide) rfl hl.1 (rest := []) rfl (Nat.le_of_ble_eq_true rfl) dX11_way_13 (st1 := fun _ => [.int (b2i (inR y 0 200))]) (fun _ => rfl) (fun _ H locs _ X => ?_)
    have X : Wd E _ _ (clsW E a f g h ik one wo tp tl tk ts te tn rb rz rn td) _ _ := X
    refine k_ifneB (B := (inR y 0 200)) hx hb 25 dX11_way_16 (by decide) (fun c16 => ?_) (fun c16 => ?_)
    · obtain ⟨u, hu, rfl, hul, huh⟩ := inR_nat (n := 201) (by decide) (by decide) c16
      have hul : 0 ≤ u := by have h0 : ((0 : Int32).toInt) = 0 := (by decide); omega
      have eu : (nI u).toNatClampNeg = u := nI_clamp (by omega)
      refine lv_aload_n hx hb dX11_way_25 rfl (lv_at hl 0 rfl) ?_
      refine k_get K X 0 rfl fg_X11_36 (v := .ref (a 8)) rfl dX11_way_26 ?_
      refine lv_aload_n hx hb dX11_way_29 rfl (lv_at hl 0 rfl) ?_
      refine k_get K X 0 rfl fg_X11_30 (v := .ref (a 1)) rfl dX11_way_30 ?_
      refine k_callV K X gv_X11_189 (As := [.ref (a 1)]) (c_X6_copyFrom l E (fun j => a (8 + j)) (fun j => a (1 + j)) (fun j => a (36 + j)) g f) [8, 9, 10, 11, 12, 13, 14, 1, 2, 3, 4, 5, 6, 7] clsW_s8C (by decide +kernel) (fun _ => room2_fst) 0 6 rfl rfl (by decide) rfl hl.1 (rest := []) rfl (Nat.le_of_ble_eq_true rfl) dX11_way_33 (st1 := fun _ => []) (fun _ => rfl) (fun _ H locs _ X => ?_)
      have X : Wd E _ _ (clsW E a f f h ik one wo tp tl tk ts te tn rb rz rn td) _ _ := X.eq clsW_s8P
      refine lv_aload_n hx hb dX11_way_36 rfl (lv_at hl 0 rfl) ?_
      refine lv_iload_n hx hb dX11_way_37 rfl (lv_at hl 1 rfl) ?_
      refine lv_iload_n hx hb dX11_way_38 rfl (lv_at hl 2 rfl) ?_
      refine k_callV K X gv_X11_193 (As := [.int (nI k), .int (nI u)]) (c_X11_wayOfTrial l E a f f h ik one wo tp tl tk ts te tn rb rz rn td T k u I (by omega) (by omega)) [0, 1, 2, 3, 4, 5, 6, 7, 8, 9, 10, 11, 12, 13, 14, 15, 16, 17, 18, 19, 20, 21, 22, 23, 24, 25, 26, 27, 28, 29, 30, 31, 32, 33, 34, 35, 36, 37, 38, 39, 40, 41, 42] clsW_idC (by decide +kernel) (fun _ => clsW_fst) 0 11 rfl rfl (by decide) rfl hl.1 (rest := []) rfl (Nat.le_of_ble_eq_true rfl) dX11_way_39 (st1 := fun _ => [.int (bcF (wayF (goN u f) k))]) (fun _ => rfl) (fun _ H locs _ X => ?_)
      have X : Wd E _ _ (clsW E a f (goN u f) h ik one wo tp tl tk ts te tn rb rz rn td) _ _ := X.eq clsW_idP
      exact k_topi (x' := (oWay f td (nI k) (nI u)).1) (by simp [oWay, bad3, hx0, ek, c16, eu]) (fin ((goN u f)) 42 _ _ _ trivial (X.eq (by simp [oWay, bad3, hx0, ek, c16, eu])) dX11_way_42)
    · refine lv_aload_n hx hb dX11_way_19 rfl (lv_at hl 0 rfl) ?_
      refine lv_iconst (v := 0) hx hb dX11_way_20 (by decide) ?_
      refine k_callV K X gv_X11_84 (As := [.int 0]) (c_X11_finding l E a f g h ik one wo tp tl tk ts te tn rb rz rn td 0 (by decide)) [0, 1, 2, 3, 4, 5, 6, 7, 8, 9, 10, 11, 12, 13, 14, 15, 16, 17, 18, 19, 20, 21, 22, 23, 24, 25, 26, 27, 28, 29, 30, 31, 32, 33, 34, 35, 36, 37, 38, 39, 40, 41, 42] clsW_idC (by decide +kernel) (fun _ => clsW_fst) 0 11 rfl rfl (by decide) rfl hl.1 (rest := []) rfl (Nat.le_of_ble_eq_true rfl) dX11_way_21 (st1 := fun _ => [.int (fnd 0)]) (fun _ => rfl) (fun _ H locs _ X => ?_)
      have X : Wd E _ _ (clsW E a f g h ik one wo tp tl tk ts te tn rb rz rn (fdU td 0)) _ _ := X.eq clsW_idP
      exact k_topi (x' := (oWay f td (nI k) y).1) (by simp [oWay, bad3, hx0, ek, c16]) (fin (g) 24 _ _ _ trivial (X.eq (by simp [oWay, bad3, hx0, ek, c16])) dX11_way_24)
set_option maxRecDepth 100000 in
set_option maxHeartbeats 4000000 in
theorem c_X11_done (l : Launch) (E : EE) (a : Nat → Nat) (f : St) (g : St) (h : St) (ik : Int32) (one : Int32) (wo : Int32) (tp : Nat → Int32) (tl : Int32) (tk : Int32) (ts : Int32) (te : Int32) (tn : Int32) (rb : Nat → Int32) (rz : Nat → Int32) (rn : Nat → Nat → Int64) (td : Nat → Int32) (T : Nat) (I : Inv T f) (hT : T < 999000) : Kn l yX11_done cX11_done 3 (some .int) 5 118 E (clsW E a f g h ik one wo tp tl tk ts te tn rb rz rn td) [.ref (a 0)] (S := St) (fun _ => True) (fun _ => (some (.int ((oDone f td).1)))) (fun u => (clsW E a ((oDone f td).2.1) u h ik one wo tp tl tk ts te tn rb rz rn ((oDone f td).2.2))) := by
  refine Kn.ofWi (by decide +kernel) (Nat.le_of_ble_eq_true rfl) (fun _ _ => rfl) ?_
  intro pg ev s0 mm below meth cd Q K X fin ls hl
  have hx := K.1
  have hb := K.2.1
  have hs10 := I.s10
  have hp6 := I.p6
  have hl : lv_has ls 3 [(0, .ref (a 0))] := hl
  refine lv_aload_n hx hb dX11_done_0 rfl (lv_at hl 0 rfl) ?_
  refine k_get K X 0 rfl fg_X11_36 (v := .ref (a 8)) rfl dX11_done_1 ?_
  refine lv_aload_n hx hb dX11_done_4 rfl (lv_at hl 0 rfl) ?_
  refine k_get K X 0 rfl fg_X11_30 (v := .ref (a 1)) rfl dX11_done_5 ?_
  refine k_callV K X gv_X11_189 (As := [.ref (a 1)]) (c_X6_copyFrom l E (fun j => a (8 + j)) (fun j => a (1 + j)) (fun j => a (36 + j)) g f) [8, 9, 10, 11, 12, 13, 14, 1, 2, 3, 4, 5, 6, 7] clsW_s8C (by decide +kernel) (fun _ => room2_fst) 0 6 rfl rfl (by decide) rfl hl.1 (rest := []) rfl (Nat.le_of_ble_eq_true rfl) dX11_done_8 (st1 := fun _ => []) (fun _ => rfl) (fun _ H locs _ X => ?_)
  have X : Wd E _ _ (clsW E a f f h ik one wo tp tl tk ts te tn rb rz rn td) _ _ := X.eq clsW_s8P
  refine lv_iconst (v := 0) hx hb dX11_done_11 (by decide) ?_
  refine lv_istore_n (lv' := [(1, .int 0), (0, .ref (a 0))]) hx hb dX11_done_12 rfl hl (by decide) rfl (fun ls hl => ?_)
  refine lv_iconst (v := 0) hx hb dX11_done_13 (by decide) ?_
  refine lv_istore_n (lv' := [(2, .int 0), (1, .int 0), (0, .ref (a 0))]) hx hb dX11_done_14 rfl hl (by decide) rfl (fun ls hl => ?_)
  have lp15 : ∀ (fu : Nat) (i : Nat) (n : Nat) (j : Nat) (g2 : St) (hfu : n < fu) (hin : i + n = 201 + pe f) (hj : j ≤ i) (hR : doneL (pe f) n i j g2 = doneL (pe f) (201 + pe f) 0 0 f) (Ig : Inv (T + i) g2) (ls : Array Slot) (hl : lv_has ls 3 [(2, .int (nI i)), (1, .int (nI j)), (0, .ref (a 0))]) (H : Heap) (locs : List Loc) (X : Wd E (inW (clsW E a f g h ik one wo tp tl tk ts te tn rb rz rn td)) s0.heap (clsW E a f g2 h ik one wo tp tl tk ts te tn rb rz rn td) H locs), W pg l ev (rmK 5 118) s0 mm ([.ref (a 0)] : List Value).toArray below meth cd H locs 0 0 Q (F0 mm 15 ls []) := by
    intro fu
    induction fu with
    | zero => intro i n j g2 hfu; exact absurd hfu (Nat.not_lt_zero _)
    | succ fu ih15 =>
      intro i n j g2 hfu hin hj hR Ig ls hl H locs X
      refine lv_iload_n hx hb dX11_done_15 rfl (lv_at hl 0 rfl) ?_
      refine lv_sipush (v := 200) hx hb dX11_done_16 (by decide) ?_
      refine lv_aload_n hx hb dX11_done_19 rfl (lv_at hl 2 rfl) ?_
      refine k_get K X 0 rfl fg_X11_30 (v := .ref (a 1)) rfl dX11_done_20 ?_
      refine k_getN K X 1 rfl fg_X11_141 (v := .int (f 0 3)) rfl dX11_done_23 ?_
      refine k_topi (I.hP) ?_
      refine lv_iadd hx hb dX11_done_26 ?_
      refine k_topi (nI_add 200 (pe f)) ?_
      refine kN_gt (x := i) (y := 200 + (pe f)) hx hb 65 dX11_done_27 (by decide) (by omega) (by omega) (fun c27 => ?_) (fun c27 => ?_)
      · obtain rfl : n = 0 := by omega
        refine lv_aload_n hx hb dX11_done_65 rfl (lv_at hl 2 rfl) ?_
        refine lv_iconst (v := 3) hx hb dX11_done_66 (by decide) ?_
        refine k_callV K X gv_X11_84 (As := [.int 3]) (c_X11_finding l E a f g2 h ik one wo tp tl tk ts te tn rb rz rn td 3 (by decide)) [0, 1, 2, 3, 4, 5, 6, 7, 8, 9, 10, 11, 12, 13, 14, 15, 16, 17, 18, 19, 20, 21, 22, 23, 24, 25, 26, 27, 28, 29, 30, 31, 32, 33, 34, 35, 36, 37, 38, 39, 40, 41, 42] clsW_idC (by decide +kernel) (fun _ => clsW_fst) 0 11 rfl rfl (by decide) rfl hl.1 (rest := []) rfl (Nat.le_of_ble_eq_true rfl) dX11_done_67 (st1 := fun _ => [.int (fnd 3)]) (fun _ => rfl) (fun _ H locs _ X => ?_)
        have X : Wd E _ _ (clsW E a f g2 h ik one wo tp tl tk ts te tn rb rz rn (fdU td 3)) _ _ := X.eq clsW_idP
        exact k_topi (x' := (oDone f td).1) (by rw [oDone, ← hR]; rfl) (fin (g2) 70 _ _ _ trivial (X.eq (by rw [oDone, ← hR]; rfl)) dX11_done_70)
      · obtain ⟨n, rfl⟩ : ∃ z, n = z + 1 := ⟨n - 1, by omega⟩
        refine lv_iload_n hx hb dX11_done_30 rfl (lv_at hl 0 rfl) ?_
        refine lv_iload_n hx hb dX11_done_31 rfl (lv_at hl 1 rfl) ?_
        refine lv_isub hx hb dX11_done_32 ?_
        refine k_topi (x' := nI (i - j)) (pk_sub (a := i) (b := j) hj) ?_
        refine lv_aload_n hx hb dX11_done_33 rfl (lv_at hl 2 rfl) ?_
        refine k_get K X 0 rfl fg_X11_30 (v := .ref (a 1)) rfl dX11_done_34 ?_
        refine k_getN K X 1 rfl fg_X11_141 (v := .int (f 0 3)) rfl dX11_done_37 ?_
        refine k_topi (I.hP) ?_
        refine kN_lt (x := i - j) (y := pe f) hx hb 45 dX11_done_40 (by decide) (by omega) (by omega) (fun c40 => ?_) (fun c40 => ?_)
        · refine lv_aload_n hx hb dX11_done_45 rfl (lv_at hl 2 rfl) ?_
          refine k_get K X 0 rfl fg_X11_36 (v := .ref (a 8)) rfl dX11_done_46 ?_
          refine k_callV K X gv_X11_196 (As := []) (c_X6_passMinute l E (fun j => a (8 + j)) (fun j => a (36 + j)) g2 (T + i) Ig (by omega)) [8, 9, 10, 11, 12, 13, 14, 36, 37, 38, 39, 40, 41, 42] clsW_s1C (by decide +kernel) (fun _ => roomK_fst) 0 6 rfl rfl (by decide) rfl hl.1 (rest := []) rfl (Nat.le_of_ble_eq_true rfl) dX11_done_49 (st1 := fun _ => [.int (tcF g2)]) (fun _ => rfl) (fun _ H locs _ X => ?_)
          have X : Wd E _ _ (clsW E a f (goF g2) h ik one wo tp tl tk ts te tn rb rz rn td) _ _ := X.eq clsW_s1P
          refine k_if_eq (x := tcF g2) hx hb 59 dX11_done_52 (by decide) (fun c52 => ?_) (fun c52 => ?_)
          · refine lv_iinc (v := nI (i + 1)) (lv' := [(2, .int (nI (i + 1))), (1, .int (nI j)), (0, .ref (a 0))]) hx hb dX11_done_59 hl (k := 0) rfl (nI_add i 1) (by decide) rfl (fun ls hl => ?_)
            refine lv_goto (tgt := 15) hx hb dX11_done_62 (by decide) ?_
            exact ih15 (i + 1) n j (goF g2) (by omega) (by omega) (by omega) (by rw [← hR, doneL, if_neg (by omega), if_pos c52]) (Ig.go (by omega)) _ hl _ _ X
          · refine lv_iload_n hx hb dX11_done_55 rfl (lv_at hl 0 rfl) ?_
            refine lv_iconst (v := 1) hx hb dX11_done_56 (by decide) ?_
            refine lv_iadd hx hb dX11_done_57 ?_
            refine k_topi (nI_add i 1) ?_
            refine lv_istore_n (lv' := [(1, .int (nI (i + 1))), (2, .int (nI i)), (0, .ref (a 0))]) hx hb dX11_done_58 rfl hl (by decide) rfl (fun ls hl => ?_)
            refine lv_iinc (v := nI (i + 1)) (lv' := [(2, .int (nI (i + 1))), (1, .int (nI (i + 1))), (0, .ref (a 0))]) hx hb dX11_done_59 hl (k := 1) rfl (nI_add i 1) (by decide) rfl (fun ls hl => ?_)
            refine lv_goto (tgt := 15) hx hb dX11_done_62 (by decide) ?_
            exact ih15 (i + 1) n (i + 1) (goF g2) (by omega) (by omega) (by omega) (by rw [← hR, doneL, if_neg (by omega), if_neg c52]) (Ig.go (by omega)) _ hl _ _ X
        · refine lv_iload_n hx hb dX11_done_43 rfl (lv_at hl 1 rfl) ?_
          exact k_topi (x' := (oDone f td).1) (by rw [oDone, ← hR, doneL, if_pos (by omega)]) (fin (g2) 44 _ _ _ trivial (X.eq (by rw [oDone, ← hR, doneL, if_pos (by omega)])) dX11_done_44)
  exact lp15 ((201 + pe f) + 1) 0 (201 + pe f) 0 f (by omega) (by omega) (by omega) (rfl) (I) _ hl _ _ X
set_option maxRecDepth 100000 in
set_option maxHeartbeats 4000000 in
theorem c_X11_moved (l : Launch) (E : EE) (a : Nat → Nat) (f : St) (g : St) (h : St) (ik : Int32) (one : Int32) (wo : Int32) (tp : Nat → Int32) (tl : Int32) (tk : Int32) (ts : Int32) (te : Int32) (tn : Int32) (rb : Nat → Int32) (rz : Nat → Int32) (rn : Nat → Nat → Int64) (td : Nat → Int32) (T : Nat) (x : Int32) (I : Inv T f) (hT : T < 999000) : Kn l yX11_moved cX11_moved 3 (some .int) 5 118 E (clsW E a f g h ik one wo tp tl tk ts te tn rb rz rn td) [.ref (a 0), .int x] (S := St) (fun _ => True) (fun _ => (some (.int ((oMoved f td x).1)))) (fun u => (clsW E a ((oMoved f td x).2.1) u h ik one wo tp tl tk ts te tn rb rz rn ((oMoved f td x).2.2))) := by
  refine Kn.ofWi (by decide +kernel) (Nat.le_of_ble_eq_true rfl) (fun _ _ => rfl) ?_
  intro pg ev s0 mm below meth cd Q K X fin ls hl
  have hx := K.1
  have hb := K.2.1
  have hs10 := I.s10
  have hp6 := I.p6
  have hl : lv_has ls 3 [(0, .ref (a 0)), (1, .int x)] := hl
  refine lv_aload_n hx hb dX11_moved_0 rfl (lv_at hl 0 rfl) ?_
  refine lv_iload_n hx hb dX11_moved_1 rfl (lv_at hl 1 rfl) ?_
  refine k_callV K X gv_X11_99 (As := [.int x]) (c_X11_noSlip l E a f g h ik one wo tp tl tk ts te tn rb rz rn td x) [0, 1, 2, 3, 4, 5, 6, 7, 8, 9, 10, 11, 12, 13, 14, 15, 16, 17, 18, 19, 20, 21, 22, 23, 24, 25, 26, 27, 28, 29, 30, 31, 32, 33, 34, 35, 36, 37, 38, 39, 40, 41, 42] clsW_idC (by decide +kernel) (fun _ => clsW_fst) 0 11 rfl rfl (by decide) rfl hl.1 (rest := []) rfl (Nat.le_of_ble_eq_true rfl) dX11_moved_2 (st1 := fun _ => [.int (b2i (!isS f x))]) (fun _ => rfl) (fun _ H locs _ X => ?_)
  have X : Wd E _ _ (clsW E a f g h ik one wo tp tl tk ts te tn rb rz rn td) _ _ := X.eq clsW_idP
  refine k_ifeqB (B := (!isS f x)) hx hb 14 dX11_moved_5 (by decide) (fun c5 => ?_) (fun c5 => ?_)
  · have hx0 : isS f x = true := by simpa using c5
    obtain ⟨k, hk, rfl⟩ := isS_nat I hx0
    have ek : (nI k).toNatClampNeg = k := nI_clamp (by omega)
    refine lv_aload_n hx hb dX11_moved_14 rfl (lv_at hl 0 rfl) ?_
    refine k_get K X 0 rfl fg_X11_36 (v := .ref (a 8)) rfl dX11_moved_15 ?_
    refine lv_aload_n hx hb dX11_moved_18 rfl (lv_at hl 0 rfl) ?_
    refine k_get K X 0 rfl fg_X11_30 (v := .ref (a 1)) rfl dX11_moved_19 ?_
    refine k_callV K X gv_X11_189 (As := [.ref (a 1)]) (c_X6_copyFrom l E (fun j => a (8 + j)) (fun j => a (1 + j)) (fun j => a (36 + j)) g f) [8, 9, 10, 11, 12, 13, 14, 1, 2, 3, 4, 5, 6, 7] clsW_s8C (by decide +kernel) (fun _ => room2_fst) 0 6 rfl rfl (by decide) rfl hl.1 (rest := []) rfl (Nat.le_of_ble_eq_true rfl) dX11_moved_22 (st1 := fun _ => []) (fun _ => rfl) (fun _ H locs _ X => ?_)
    have X : Wd E _ _ (clsW E a f f h ik one wo tp tl tk ts te tn rb rz rn td) _ _ := X.eq clsW_s8P
    refine lv_iconst (v := 1) hx hb dX11_moved_25 (by decide) ?_
    refine lv_istore_n (lv' := [(2, .int 1), (0, .ref (a 0)), (1, .int (nI k))]) hx hb dX11_moved_26 rfl hl (by decide) rfl (fun ls hl => ?_)
    have lp27 : ∀ (fu : Nat) (i : Nat) (n : Nat) (g2 : St) (hfu : n < fu) (hin : i + n = 201) (hR : mvL k n i g2 = mvL k 200 1 f) (Ig : Inv (T + i) g2) (ls : Array Slot) (hl : lv_has ls 3 [(2, .int (nI i)), (0, .ref (a 0)), (1, .int (nI k))]) (H : Heap) (locs : List Loc) (X : Wd E (inW (clsW E a f g h ik one wo tp tl tk ts te tn rb rz rn td)) s0.heap (clsW E a f g2 h ik one wo tp tl tk ts te tn rb rz rn td) H locs), W pg l ev (rmK 5 118) s0 mm ([.ref (a 0), .int (nI k)] : List Value).toArray below meth cd H locs 0 0 Q (F0 mm 27 ls []) := by
      intro fu
      induction fu with
      | zero => intro i n g2 hfu; exact absurd hfu (Nat.not_lt_zero _)
      | succ fu ih27 =>
        intro i n g2 hfu hin hR Ig ls hl H locs X
        refine lv_iload_n hx hb dX11_moved_27 rfl (lv_at hl 0 rfl) ?_
        refine lv_sipush (v := 200) hx hb dX11_moved_28 (by decide) ?_
        refine kN_gt (x := i) (y := 200) hx hb 56 dX11_moved_31 (by decide) (by omega) (by omega) (fun c31 => ?_) (fun c31 => ?_)
        · obtain rfl : n = 0 := by omega
          refine lv_aload_n hx hb dX11_moved_56 rfl (lv_at hl 1 rfl) ?_
          refine lv_iconst (v := 3) hx hb dX11_moved_57 (by decide) ?_
          refine k_callV K X gv_X11_84 (As := [.int 3]) (c_X11_finding l E a f g2 h ik one wo tp tl tk ts te tn rb rz rn td 3 (by decide)) [0, 1, 2, 3, 4, 5, 6, 7, 8, 9, 10, 11, 12, 13, 14, 15, 16, 17, 18, 19, 20, 21, 22, 23, 24, 25, 26, 27, 28, 29, 30, 31, 32, 33, 34, 35, 36, 37, 38, 39, 40, 41, 42] clsW_idC (by decide +kernel) (fun _ => clsW_fst) 0 11 rfl rfl (by decide) rfl hl.1 (rest := []) rfl (Nat.le_of_ble_eq_true rfl) dX11_moved_58 (st1 := fun _ => [.int (fnd 3)]) (fun _ => rfl) (fun _ H locs _ X => ?_)
          have X : Wd E _ _ (clsW E a f g2 h ik one wo tp tl tk ts te tn rb rz rn (fdU td 3)) _ _ := X.eq clsW_idP
          exact k_topi (x' := (oMoved f td (nI k)).1) (by rw [oMoved, hx0, cond_true, ek, ← hR]; rfl) (fin (g2) 61 _ _ _ trivial (X.eq (by rw [oMoved, hx0, cond_true, ek, ← hR]; rfl)) dX11_moved_61)
        · obtain ⟨n, rfl⟩ : ∃ z, n = z + 1 := ⟨n - 1, by omega⟩
          refine lv_aload_n hx hb dX11_moved_34 rfl (lv_at hl 1 rfl) ?_
          refine k_get K X 0 rfl fg_X11_36 (v := .ref (a 8)) rfl dX11_moved_35 ?_
          refine k_callV K X gv_X11_196 (As := []) (c_X6_passMinute l E (fun j => a (8 + j)) (fun j => a (36 + j)) g2 (T + i) Ig (by omega)) [8, 9, 10, 11, 12, 13, 14, 36, 37, 38, 39, 40, 41, 42] clsW_s1C (by decide +kernel) (fun _ => roomK_fst) 0 6 rfl rfl (by decide) rfl hl.1 (rest := []) rfl (Nat.le_of_ble_eq_true rfl) dX11_moved_38 (st1 := fun _ => [.int (tcF g2)]) (fun _ => rfl) (fun _ H locs _ X => ?_)
          have X : Wd E _ _ (clsW E a f (goF g2) h ik one wo tp tl tk ts te tn rb rz rn td) _ _ := X.eq clsW_s1P
          refine lv_iconst (v := 1) hx hb dX11_moved_41 (by decide) ?_
          refine lv_iload_n hx hb dX11_moved_42 rfl (lv_at hl 2 rfl) ?_
          refine lv_ishl hx hb dX11_moved_43 ?_
          refine lv_iand hx hb dX11_moved_44 ?_
          refine k_if_eq (x := (tcF g2) &&& (1 <<< ((nI k) &&& 31))) hx hb 50 dX11_moved_45 (by decide) (fun c45 => ?_) (fun c45 => ?_)
          · refine lv_iinc (v := nI (i + 1)) (lv' := [(2, .int (nI (i + 1))), (0, .ref (a 0)), (1, .int (nI k))]) hx hb dX11_moved_50 hl (k := 0) rfl (nI_add i 1) (by decide) rfl (fun ls hl => ?_)
            refine lv_goto (tgt := 27) hx hb dX11_moved_53 (by decide) ?_
            exact ih27 (i + 1) n (goF g2) (by omega) (by omega) (by rw [← hR, mvL, if_pos c45]) (Ig.go (by omega)) _ hl _ _ X
          · refine lv_iload_n hx hb dX11_moved_48 rfl (lv_at hl 0 rfl) ?_
            exact k_topi (x' := (oMoved f td (nI k)).1) (by rw [oMoved, hx0, cond_true, ek, ← hR, mvL, if_neg c45]) (fin ((goF g2)) 49 _ _ _ trivial (X.eq (by rw [oMoved, hx0, cond_true, ek, ← hR, mvL, if_neg c45])) dX11_moved_49)
    exact lp27 (200 + 1) 1 200 f (by omega) (by omega) (rfl) (I.mono (by omega)) _ hl _ _ X
  · have hx0 : isS f x = false := by simpa using c5
    refine lv_aload_n hx hb dX11_moved_8 rfl (lv_at hl 0 rfl) ?_
    refine lv_iconst (v := 0) hx hb dX11_moved_9 (by decide) ?_
    refine k_callV K X gv_X11_84 (As := [.int 0]) (c_X11_finding l E a f g h ik one wo tp tl tk ts te tn rb rz rn td 0 (by decide)) [0, 1, 2, 3, 4, 5, 6, 7, 8, 9, 10, 11, 12, 13, 14, 15, 16, 17, 18, 19, 20, 21, 22, 23, 24, 25, 26, 27, 28, 29, 30, 31, 32, 33, 34, 35, 36, 37, 38, 39, 40, 41, 42] clsW_idC (by decide +kernel) (fun _ => clsW_fst) 0 11 rfl rfl (by decide) rfl hl.1 (rest := []) rfl (Nat.le_of_ble_eq_true rfl) dX11_moved_10 (st1 := fun _ => [.int (fnd 0)]) (fun _ => rfl) (fun _ H locs _ X => ?_)
    have X : Wd E _ _ (clsW E a f g h ik one wo tp tl tk ts te tn rb rz rn (fdU td 0)) _ _ := X.eq clsW_idP
    exact k_topi (x' := (oMoved f td x).1) (by simp [oMoved, bad3, hx0]) (fin (g) 13 _ _ _ trivial (X.eq (by simp [oMoved, bad3, hx0])) dX11_moved_13)
set_option maxRecDepth 100000 in
set_option maxHeartbeats 4000000 in
theorem c_X11_rule (l : Launch) (E : EE) (a : Nat → Nat) (f : St) (g : St) (h : St) (ik : Int32) (one : Int32) (wo : Int32) (tp : Nat → Int32) (tl : Int32) (tk : Int32) (ts : Int32) (te : Int32) (tn : Int32) (rb : Nat → Int32) (rz : Nat → Int32) (rn : Nat → Nat → Int64) (td : Nat → Int32) (T : Nat) (x : Int32) (y : Int32) (I : Inv T f) (hT : T < 999000) : Kn l yX11_rule cX11_rule 4 (some .int) 7 162 E (clsW E a f g h ik one wo tp tl tk ts te tn rb rz rn td) [.ref (a 0), .int x, .int y] (S := St × Int32 × Int32) (fun _ => True) (fun _ => (some (.int ((oRule f td x y).1)))) (fun u => (clsW E a ((oRule f td x y).2.1) u.1 h ik u.2.1 u.2.2 tp tl tk ts te tn rb rz rn ((oRule f td x y).2.2))) := by
  refine Kn.ofWi (by decide +kernel) (Nat.le_of_ble_eq_true rfl) (fun _ _ => rfl) ?_
  intro pg ev s0 mm below meth cd Q K X fin ls hl
  have hx := K.1
  have hb := K.2.1
  have hs10 := I.s10
  have hp6 := I.p6
  have hl : lv_has ls 4 [(0, .ref (a 0)), (1, .int x), (2, .int y)] := hl
  refine lv_aload_n hx hb dX11_rule_0 rfl (lv_at hl 0 rfl) ?_
  refine lv_iload_n hx hb dX11_rule_1 rfl (lv_at hl 1 rfl) ?_
  refine k_callV K X gv_X11_147 (As := [.int x]) (c_X11_noPerson l E a f g h ik one wo tp tl tk ts te tn rb rz rn td x) [0, 1, 2, 3, 4, 5, 6, 7, 8, 9, 10, 11, 12, 13, 14, 15, 16, 17, 18, 19, 20, 21, 22, 23, 24, 25, 26, 27, 28, 29, 30, 31, 32, 33, 34, 35, 36, 37, 38, 39, 40, 41, 42] clsW_idC (by decide +kernel) (fun _ => clsW_fst) 0 11 rfl rfl (by decide) rfl hl.1 (rest := []) rfl (Nat.le_of_ble_eq_true rfl) dX11_rule_2 (st1 := fun _ => [.int (b2i (!isP f x))]) (fun _ => rfl) (fun _ H locs _ X => ?_)
  have X : Wd E _ _ (clsW E a f g h ik one wo tp tl tk ts te tn rb rz rn td) _ _ := X.eq clsW_idP
  refine k_ifneB (B := (!isP f x)) hx hb 18 dX11_rule_5 (by decide) (fun c5 => ?_) (fun c5 => ?_)
  · have hx0 : isP f x = false := by simpa using c5
    refine lv_aload_n hx hb dX11_rule_18 rfl (lv_at hl 0 rfl) ?_
    refine lv_iconst (v := 0) hx hb dX11_rule_19 (by decide) ?_
    refine k_callV K X gv_X11_84 (As := [.int 0]) (c_X11_finding l E a f g h ik one wo tp tl tk ts te tn rb rz rn td 0 (by decide)) [0, 1, 2, 3, 4, 5, 6, 7, 8, 9, 10, 11, 12, 13, 14, 15, 16, 17, 18, 19, 20, 21, 22, 23, 24, 25, 26, 27, 28, 29, 30, 31, 32, 33, 34, 35, 36, 37, 38, 39, 40, 41, 42] clsW_idC (by decide +kernel) (fun _ => clsW_fst) 0 11 rfl rfl (by decide) rfl hl.1 (rest := []) rfl (Nat.le_of_ble_eq_true rfl) dX11_rule_20 (st1 := fun _ => [.int (fnd 0)]) (fun _ => rfl) (fun _ H locs _ X => ?_)
    have X : Wd E _ _ (clsW E a f g h ik one wo tp tl tk ts te tn rb rz rn (fdU td 0)) _ _ := X.eq clsW_idP
    exact k_topi (x' := (oRule f td x y).1) (by simp [oRule, bad3, hx0]) (fin (g, one, wo) 23 _ _ _ trivial (X.eq (by simp [oRule, bad3, hx0])) dX11_rule_23)
  · have hx0 : isP f x = true := by simpa using c5
    obtain ⟨k, hk, rfl⟩ := isP_nat I hx0
    have ek : (nI k).toNatClampNeg = k := nI_clamp (by omega)
    refine lv_iload_n hx hb dX11_rule_8 rfl (lv_at hl 2 rfl) ?_
    refine lv_iconst (v := 1) hx hb dX11_rule_9 (by decide) ?_
    refine lv_bipush (v := 100) hx hb dX11_rule_10 (by decide) ?_
    refine k_callS K X gs_X11_80 (As := [.int y, .int 1, .int 100]) (c_X11_within l E y 1 100) [] rfl (by decide +kernel) (fun _ => rfl) (by decide) rfl hl.1 (rest := []) rfl (Nat.le_of_ble_eq_true rfl) dX11_rule_12 (st1 := fun _ => [.int (b2i (inR y 1 100))]) (fun _ => rfl) (fun _ H locs _ X => ?_)
    have X : Wd E _ _ (clsW E a f g h ik one wo tp tl tk ts te tn rb rz rn td) _ _ := X
    refine k_ifneB (B := (inR y 1 100)) hx hb 24 dX11_rule_15 (by decide) (fun c15 => ?_) (fun c15 => ?_)
    · obtain ⟨u, hu, rfl, hul, huh⟩ := inR_nat (n := 101) (by decide) (by decide) c15
      have hul : 1 ≤ u := by have h0 : ((1 : Int32).toInt) = 1 := (by decide); omega
      have eu : (nI u).toNatClampNeg = u := nI_clamp (by omega)
      refine lv_aload_n hx hb dX11_rule_24 rfl (lv_at hl 0 rfl) ?_
      refine k_get K X 0 rfl fg_X11_49 (v := .ref (a 22)) rfl dX11_rule_25 ?_
      refine k_callV K X gv_X11_199 (As := []) (c_X0_forget l E (a 22) one wo) [22] clsW_s12C (by decide +kernel) (fun _ => bestW_fst) 0 0 rfl rfl (by decide) rfl hl.1 (rest := []) rfl (Nat.le_of_ble_eq_true rfl) dX11_rule_28 (st1 := fun _ => []) (fun _ => rfl) (fun _ H locs _ X => ?_)
      have X : Wd E _ _ (clsW E a f g h ik (-1) 0 tp tl tk ts te tn rb rz rn td) _ _ := X.eq clsW_s12P
      refine lv_iconst (v := 0) hx hb dX11_rule_31 (by decide) ?_
      refine lv_istore_n (lv' := [(3, .int 0), (0, .ref (a 0)), (1, .int (nI k)), (2, .int (nI u))]) hx hb dX11_rule_32 rfl hl (by decide) rfl (fun ls hl => ?_)
      have lp33 : ∀ (fu : Nat) (i : Nat) (n : Nat) (o1 : Int32) (w1 : Int32) (g2 : St) (hfu : n < fu) (hin : i + n = 21) (hR : bsL (fun _ => true) (fun v => bcF (wayF (goN u (up2 f 0 1 (nI v))) k)) (fun v => nI v) n i o1 w1 = bsL (fun _ => true) (fun v => bcF (wayF (goN u (up2 f 0 1 (nI v))) k)) (fun v => nI v) 21 0 (-1) 0) (ls : Array Slot) (hl : lv_has ls 4 [(3, .int (nI i)), (0, .ref (a 0)), (1, .int (nI k)), (2, .int (nI u))]) (H : Heap) (locs : List Loc) (X : Wd E (inW (clsW E a f g h ik one wo tp tl tk ts te tn rb rz rn td)) s0.heap (clsW E a f g2 h ik o1 w1 tp tl tk ts te tn rb rz rn td) H locs), W pg l ev (rmK 7 162) s0 mm ([.ref (a 0), .int (nI k), .int (nI u)] : List Value).toArray below meth cd H locs 0 0 Q (F0 mm 33 ls []) := by
        intro fu
        induction fu with
        | zero => intro i n o1 w1 g2 hfu; exact absurd hfu (Nat.not_lt_zero _)
        | succ fu ih33 =>
          intro i n o1 w1 g2 hfu hin hR ls hl H locs X
          refine lv_iload_n hx hb dX11_rule_33 rfl (lv_at hl 0 rfl) ?_
          refine lv_bipush (v := 20) hx hb dX11_rule_34 (by decide) ?_
          refine kN_gt (x := i) (y := 20) hx hb 78 dX11_rule_36 (by decide) (by omega) (by omega) (fun c36 => ?_) (fun c36 => ?_)
          · obtain rfl : n = 0 := by omega
            refine lv_aload_n hx hb dX11_rule_78 rfl (lv_at hl 1 rfl) ?_
            refine k_get K X 0 rfl fg_X11_49 (v := .ref (a 22)) rfl dX11_rule_79 ?_
            refine k_getN K X 22 rfl fg_X11_206 (v := .int o1) rfl dX11_rule_82 ?_
            exact k_topi (x' := (oRule f td (nI k) (nI u)).1) (by rw [oRule, hx0, c15, Bool.true_and, cond_true, ek, eu, ← hR]; rfl) (fin (g2, o1, w1) 85 _ _ _ trivial (X.eq (by rw [oRule, hx0, c15, Bool.true_and, cond_true])) dX11_rule_85)
          · obtain ⟨n, rfl⟩ : ∃ z, n = z + 1 := ⟨n - 1, by omega⟩
            refine lv_aload_n hx hb dX11_rule_39 rfl (lv_at hl 1 rfl) ?_
            refine k_get K X 0 rfl fg_X11_36 (v := .ref (a 8)) rfl dX11_rule_40 ?_
            refine lv_aload_n hx hb dX11_rule_43 rfl (lv_at hl 1 rfl) ?_
            refine k_get K X 0 rfl fg_X11_30 (v := .ref (a 1)) rfl dX11_rule_44 ?_
            refine k_callV K X gv_X11_189 (As := [.ref (a 1)]) (c_X6_copyFrom l E (fun j => a (8 + j)) (fun j => a (1 + j)) (fun j => a (36 + j)) g2 f) [8, 9, 10, 11, 12, 13, 14, 1, 2, 3, 4, 5, 6, 7] clsW_s8C (by decide +kernel) (fun _ => room2_fst) 0 6 rfl rfl (by decide) rfl hl.1 (rest := []) rfl (Nat.le_of_ble_eq_true rfl) dX11_rule_47 (st1 := fun _ => []) (fun _ => rfl) (fun _ H locs _ X => ?_)
            have X : Wd E _ _ (clsW E a f f h ik o1 w1 tp tl tk ts te tn rb rz rn td) _ _ := X.eq clsW_s8P
            refine lv_aload_n hx hb dX11_rule_50 rfl (lv_at hl 1 rfl) ?_
            refine k_get K X 0 rfl fg_X11_36 (v := .ref (a 8)) rfl dX11_rule_51 ?_
            refine lv_iload_n hx hb dX11_rule_54 rfl (lv_at hl 0 rfl) ?_
            refine k_putN K X 8 rfl fp_X11_88 (v := .int (nI i)) rfl rfl (Nat.le_of_ble_eq_true rfl) dX11_rule_55 (fun H locs X => ?_)
            have X : Wd E _ _ (clsW E a f (up2 f 0 1 (nI i)) h ik o1 w1 tp tl tk ts te tn rb rz rn td) _ _ := X
            refine lv_aload_n hx hb dX11_rule_58 rfl (lv_at hl 1 rfl) ?_
            refine k_get K X 0 rfl fg_X11_49 (v := .ref (a 22)) rfl dX11_rule_59 ?_
            refine lv_iload_n hx hb dX11_rule_62 rfl (lv_at hl 0 rfl) ?_
            refine lv_aload_n hx hb dX11_rule_63 rfl (lv_at hl 1 rfl) ?_
            refine lv_iload_n hx hb dX11_rule_64 rfl (lv_at hl 2 rfl) ?_
            refine lv_iload_n hx hb dX11_rule_65 rfl (lv_at hl 3 rfl) ?_
            refine k_callV K X gv_X11_193 (As := [.int (nI k), .int (nI u)]) (c_X11_wayOfTrial l E a f (up2 f 0 1 (nI i)) h ik o1 w1 tp tl tk ts te tn rb rz rn td T k u (I.up01 _) (by omega) (by omega)) [0, 1, 2, 3, 4, 5, 6, 7, 8, 9, 10, 11, 12, 13, 14, 15, 16, 17, 18, 19, 20, 21, 22, 23, 24, 25, 26, 27, 28, 29, 30, 31, 32, 33, 34, 35, 36, 37, 38, 39, 40, 41, 42] clsW_idC (by decide +kernel) (fun _ => clsW_fst) 0 11 rfl rfl (by decide) rfl hl.1 (rest := [.int (nI i), .ref (a 22)]) rfl (Nat.le_of_ble_eq_true rfl) dX11_rule_66 (st1 := fun _ => [.int (bcF (wayF (goN u (up2 f 0 1 (nI i))) k)), .int (nI i), .ref (a 22)]) (fun _ => rfl) (fun _ H locs _ X => ?_)
            have X : Wd E _ _ (clsW E a f (goN u (up2 f 0 1 (nI i))) h ik o1 w1 tp tl tk ts te tn rb rz rn td) _ _ := X.eq clsW_idP
            refine k_callV K X gv_X11_202 (As := [.int (nI i), .int (bcF (wayF (goN u (up2 f 0 1 (nI i))) k))]) (c_X0_offer l E (a 22) o1 w1 (nI i) (bcF (wayF (goN u (up2 f 0 1 (nI i))) k))) [22] clsW_s12C (by decide +kernel) (fun _ => bestW_fst) 0 0 rfl rfl (by decide) rfl hl.1 (rest := []) rfl (Nat.le_of_ble_eq_true rfl) dX11_rule_69 (st1 := fun _ => []) (fun _ => rfl) (fun _ H locs _ X => ?_)
            have X : Wd E _ _ (clsW E a f (goN u (up2 f 0 1 (nI i))) h ik ((bestO o1 w1 (nI i) (bcF (wayF (goN u (up2 f 0 1 (nI i))) k))).1) ((bestO o1 w1 (nI i) (bcF (wayF (goN u (up2 f 0 1 (nI i))) k))).2) tp tl tk ts te tn rb rz rn td) _ _ := X.eq clsW_s12P
            refine lv_iinc (v := nI (i + 1)) (lv' := [(3, .int (nI (i + 1))), (0, .ref (a 0)), (1, .int (nI k)), (2, .int (nI u))]) hx hb dX11_rule_72 hl (k := 0) rfl (nI_add i 1) (by decide) rfl (fun ls hl => ?_)
            refine lv_goto (tgt := 33) hx hb dX11_rule_75 (by decide) ?_
            exact ih33 (i + 1) n ((bestO o1 w1 (nI i) (bcF (wayF (goN u (up2 f 0 1 (nI i))) k))).1) ((bestO o1 w1 (nI i) (bcF (wayF (goN u (up2 f 0 1 (nI i))) k))).2) (goN u (up2 f 0 1 (nI i))) (by omega) (by omega) (by rw [← hR]; simp [bsL, hx0, ek, c15, eu, c36]) _ hl _ _ X
      exact lp33 (21 + 1) 0 21 (-1) 0 g (by omega) (by omega) (rfl) _ hl _ _ X
    · refine lv_aload_n hx hb dX11_rule_18 rfl (lv_at hl 0 rfl) ?_
      refine lv_iconst (v := 0) hx hb dX11_rule_19 (by decide) ?_
      refine k_callV K X gv_X11_84 (As := [.int 0]) (c_X11_finding l E a f g h ik one wo tp tl tk ts te tn rb rz rn td 0 (by decide)) [0, 1, 2, 3, 4, 5, 6, 7, 8, 9, 10, 11, 12, 13, 14, 15, 16, 17, 18, 19, 20, 21, 22, 23, 24, 25, 26, 27, 28, 29, 30, 31, 32, 33, 34, 35, 36, 37, 38, 39, 40, 41, 42] clsW_idC (by decide +kernel) (fun _ => clsW_fst) 0 11 rfl rfl (by decide) rfl hl.1 (rest := []) rfl (Nat.le_of_ble_eq_true rfl) dX11_rule_20 (st1 := fun _ => [.int (fnd 0)]) (fun _ => rfl) (fun _ H locs _ X => ?_)
      have X : Wd E _ _ (clsW E a f g h ik one wo tp tl tk ts te tn rb rz rn (fdU td 0)) _ _ := X.eq clsW_idP
      exact k_topi (x' := (oRule f td (nI k) y).1) (by simp [oRule, bad3, hx0, ek, c15]) (fin (g, one, wo) 23 _ _ _ trivial (X.eq (by simp [oRule, bad3, hx0, ek, c15])) dX11_rule_23)
set_option maxRecDepth 100000 in
set_option maxHeartbeats 4000000 in
theorem c_X11_send (l : Launch) (E : EE) (a : Nat → Nat) (f : St) (g : St) (h : St) (ik : Int32) (one : Int32) (wo : Int32) (tp : Nat → Int32) (tl : Int32) (tk : Int32) (ts : Int32) (te : Int32) (tn : Int32) (rb : Nat → Int32) (rz : Nat → Int32) (rn : Nat → Nat → Int64) (td : Nat → Int32) (T : Nat) (x : Int32) (y : Int32) (I : Inv T f) (hT : T < 999000) : Kn l yX11_send cX11_send 4 (some .int) 7 162 E (clsW E a f g h ik one wo tp tl tk ts te tn rb rz rn td) [.ref (a 0), .int x, .int y] (S := St × Int32 × Int32) (fun _ => True) (fun _ => (some (.int ((oSend f td x y).1)))) (fun u => (clsW E a ((oSend f td x y).2.1) u.1 h ik u.2.1 u.2.2 tp tl tk ts te tn rb rz rn ((oSend f td x y).2.2))) := by
  refine Kn.ofWi (by decide +kernel) (Nat.le_of_ble_eq_true rfl) (fun _ _ => rfl) ?_
  intro pg ev s0 mm below meth cd Q K X fin ls hl
  have hx := K.1
  have hb := K.2.1
  have hs10 := I.s10
  have hp6 := I.p6
  have hl : lv_has ls 4 [(0, .ref (a 0)), (1, .int x), (2, .int y)] := hl
  refine lv_aload_n hx hb dX11_send_0 rfl (lv_at hl 0 rfl) ?_
  refine lv_iload_n hx hb dX11_send_1 rfl (lv_at hl 1 rfl) ?_
  refine k_callV K X gv_X11_147 (As := [.int x]) (c_X11_noPerson l E a f g h ik one wo tp tl tk ts te tn rb rz rn td x) [0, 1, 2, 3, 4, 5, 6, 7, 8, 9, 10, 11, 12, 13, 14, 15, 16, 17, 18, 19, 20, 21, 22, 23, 24, 25, 26, 27, 28, 29, 30, 31, 32, 33, 34, 35, 36, 37, 38, 39, 40, 41, 42] clsW_idC (by decide +kernel) (fun _ => clsW_fst) 0 11 rfl rfl (by decide) rfl hl.1 (rest := []) rfl (Nat.le_of_ble_eq_true rfl) dX11_send_2 (st1 := fun _ => [.int (b2i (!isP f x))]) (fun _ => rfl) (fun _ H locs _ X => ?_)
  have X : Wd E _ _ (clsW E a f g h ik one wo tp tl tk ts te tn rb rz rn td) _ _ := X.eq clsW_idP
  refine k_ifneB (B := (!isP f x)) hx hb 18 dX11_send_5 (by decide) (fun c5 => ?_) (fun c5 => ?_)
  · have hx0 : isP f x = false := by simpa using c5
    refine lv_aload_n hx hb dX11_send_18 rfl (lv_at hl 0 rfl) ?_
    refine lv_iconst (v := 0) hx hb dX11_send_19 (by decide) ?_
    refine k_callV K X gv_X11_84 (As := [.int 0]) (c_X11_finding l E a f g h ik one wo tp tl tk ts te tn rb rz rn td 0 (by decide)) [0, 1, 2, 3, 4, 5, 6, 7, 8, 9, 10, 11, 12, 13, 14, 15, 16, 17, 18, 19, 20, 21, 22, 23, 24, 25, 26, 27, 28, 29, 30, 31, 32, 33, 34, 35, 36, 37, 38, 39, 40, 41, 42] clsW_idC (by decide +kernel) (fun _ => clsW_fst) 0 11 rfl rfl (by decide) rfl hl.1 (rest := []) rfl (Nat.le_of_ble_eq_true rfl) dX11_send_20 (st1 := fun _ => [.int (fnd 0)]) (fun _ => rfl) (fun _ H locs _ X => ?_)
    have X : Wd E _ _ (clsW E a f g h ik one wo tp tl tk ts te tn rb rz rn (fdU td 0)) _ _ := X.eq clsW_idP
    exact k_topi (x' := (oSend f td x y).1) (by simp [oSend, bad3, hx0]) (fin (g, one, wo) 23 _ _ _ trivial (X.eq (by simp [oSend, bad3, hx0])) dX11_send_23)
  · have hx0 : isP f x = true := by simpa using c5
    obtain ⟨k, hk, rfl⟩ := isP_nat I hx0
    have ek : (nI k).toNatClampNeg = k := nI_clamp (by omega)
    refine lv_iload_n hx hb dX11_send_8 rfl (lv_at hl 2 rfl) ?_
    refine lv_iconst (v := 1) hx hb dX11_send_9 (by decide) ?_
    refine lv_bipush (v := 100) hx hb dX11_send_10 (by decide) ?_
    refine k_callS K X gs_X11_80 (As := [.int y, .int 1, .int 100]) (c_X11_within l E y 1 100) [] rfl (by decide +kernel) (fun _ => rfl) (by decide) rfl hl.1 (rest := []) rfl (Nat.le_of_ble_eq_true rfl) dX11_send_12 (st1 := fun _ => [.int (b2i (inR y 1 100))]) (fun _ => rfl) (fun _ H locs _ X => ?_)
    have X : Wd E _ _ (clsW E a f g h ik one wo tp tl tk ts te tn rb rz rn td) _ _ := X
    refine k_ifneB (B := (inR y 1 100)) hx hb 24 dX11_send_15 (by decide) (fun c15 => ?_) (fun c15 => ?_)
    · obtain ⟨u, hu, rfl, hul, huh⟩ := inR_nat (n := 101) (by decide) (by decide) c15
      have hul : 1 ≤ u := by have h0 : ((1 : Int32).toInt) = 1 := (by decide); omega
      have eu : (nI u).toNatClampNeg = u := nI_clamp (by omega)
      refine lv_aload_n hx hb dX11_send_24 rfl (lv_at hl 0 rfl) ?_
      refine k_get K X 0 rfl fg_X11_49 (v := .ref (a 22)) rfl dX11_send_25 ?_
      refine k_callV K X gv_X11_199 (As := []) (c_X0_forget l E (a 22) one wo) [22] clsW_s12C (by decide +kernel) (fun _ => bestW_fst) 0 0 rfl rfl (by decide) rfl hl.1 (rest := []) rfl (Nat.le_of_ble_eq_true rfl) dX11_send_28 (st1 := fun _ => []) (fun _ => rfl) (fun _ H locs _ X => ?_)
      have X : Wd E _ _ (clsW E a f g h ik (-1) 0 tp tl tk ts te tn rb rz rn td) _ _ := X.eq clsW_s12P
      refine lv_iconst (v := 0) hx hb dX11_send_31 (by decide) ?_
      refine lv_istore_n (lv' := [(3, .int 0), (0, .ref (a 0)), (1, .int (nI k)), (2, .int (nI u))]) hx hb dX11_send_32 rfl hl (by decide) rfl (fun ls hl => ?_)
      have lp33 : ∀ (fu : Nat) (i : Nat) (n : Nat) (o1 : Int32) (w1 : Int32) (g2 : St) (hfu : n < fu) (hin : i + n = pe f) (hR : bsL (fun v => !decide (v = k) && decide (f 5 v = 0)) (fun v => bcF (wayF (goN u (up2 f 5 v 1)) k)) (fun v => nI v) n i o1 w1 = bsL (fun v => !decide (v = k) && decide (f 5 v = 0)) (fun v => bcF (wayF (goN u (up2 f 5 v 1)) k)) (fun v => nI v) (pe f) 0 (-1) 0) (ls : Array Slot) (hl : lv_has ls 4 [(3, .int (nI i)), (0, .ref (a 0)), (1, .int (nI k)), (2, .int (nI u))]) (H : Heap) (locs : List Loc) (X : Wd E (inW (clsW E a f g h ik one wo tp tl tk ts te tn rb rz rn td)) s0.heap (clsW E a f g2 h ik o1 w1 tp tl tk ts te tn rb rz rn td) H locs), W pg l ev (rmK 7 162) s0 mm ([.ref (a 0), .int (nI k), .int (nI u)] : List Value).toArray below meth cd H locs 0 0 Q (F0 mm 33 ls []) := by
        intro fu
        induction fu with
        | zero => intro i n o1 w1 g2 hfu; exact absurd hfu (Nat.not_lt_zero _)
        | succ fu ih33 =>
          intro i n o1 w1 g2 hfu hin hR ls hl H locs X
          refine lv_iload_n hx hb dX11_send_33 rfl (lv_at hl 0 rfl) ?_
          refine lv_aload_n hx hb dX11_send_34 rfl (lv_at hl 1 rfl) ?_
          refine k_get K X 0 rfl fg_X11_30 (v := .ref (a 1)) rfl dX11_send_35 ?_
          refine k_getN K X 1 rfl fg_X11_141 (v := .int (f 0 3)) rfl dX11_send_38 ?_
          refine k_topi (I.hP) ?_
          refine kN_ge (x := i) (y := pe f) hx hb 102 dX11_send_41 (by decide) (by omega) (by omega) (fun c41 => ?_) (fun c41 => ?_)
          · obtain rfl : n = 0 := by omega
            refine lv_aload_n hx hb dX11_send_102 rfl (lv_at hl 1 rfl) ?_
            refine k_callV K X gv_X11_209 (As := []) (c_X11_bestOrNone l E a f g2 h ik o1 w1 tp tl tk ts te tn rb rz rn td) [0, 1, 2, 3, 4, 5, 6, 7, 8, 9, 10, 11, 12, 13, 14, 15, 16, 17, 18, 19, 20, 21, 22, 23, 24, 25, 26, 27, 28, 29, 30, 31, 32, 33, 34, 35, 36, 37, 38, 39, 40, 41, 42] clsW_idC (by decide +kernel) (fun _ => clsW_fst) 0 11 rfl rfl (by decide) rfl hl.1 (rest := []) rfl (Nat.le_of_ble_eq_true rfl) dX11_send_103 (st1 := fun _ => [.int (if o1 = -1 then fnd 3 else o1)]) (fun _ => rfl) (fun _ H locs _ X => ?_)
            have X : Wd E _ _ (clsW E a f g2 h ik o1 w1 tp tl tk ts te tn rb rz rn (if o1 = -1 then fdU td 3 else td)) _ _ := X.eq clsW_idP
            exact k_topi (x' := (oSend f td (nI k) (nI u)).1) (by rw [oSend, hx0, c15, Bool.true_and, cond_true, ek, eu, ← hR]; by_cases h1 : o1 = -1 <;> simp [bsL, orNone, bad3, h1]) (fin (g2, o1, w1) 106 _ _ _ trivial (X.eq (by rw [oSend, hx0, c15, Bool.true_and, cond_true, ek, eu, ← hR]; by_cases h1 : o1 = -1 <;> simp [bsL, orNone, bad3, h1])) dX11_send_106)
          · obtain ⟨n, rfl⟩ : ∃ z, n = z + 1 := ⟨n - 1, by omega⟩
            refine lv_iload_n hx hb dX11_send_44 rfl (lv_at hl 0 rfl) ?_
            refine lv_iload_n hx hb dX11_send_45 rfl (lv_at hl 2 rfl) ?_
            refine kN_eq (x := i) (y := k) hx hb 96 dX11_send_46 (by decide) (by omega) (by omega) (fun c46 => ?_) (fun c46 => ?_)
            · refine lv_iinc (v := nI (i + 1)) (lv' := [(3, .int (nI (i + 1))), (0, .ref (a 0)), (1, .int (nI k)), (2, .int (nI u))]) hx hb dX11_send_96 hl (k := 0) rfl (nI_add i 1) (by decide) rfl (fun ls hl => ?_)
              refine lv_goto (tgt := 33) hx hb dX11_send_99 (by decide) ?_
              exact ih33 (i + 1) n o1 w1 g2 (by omega) (by omega) (by rw [← hR]; simp [bsL, hx0, ek, c15, eu, c41, c46]) _ hl _ _ X
            · refine lv_aload_n hx hb dX11_send_49 rfl (lv_at hl 1 rfl) ?_
              refine k_get K X 0 rfl fg_X11_30 (v := .ref (a 1)) rfl dX11_send_50 ?_
              refine k_getN K X 1 rfl fg_X11_153 (v := .ref (a 6)) rfl dX11_send_53 ?_
              refine lv_iload_n hx hb dX11_send_56 rfl (lv_at hl 0 rfl) ?_
              refine k_ialdN K X 6 rfl (k := i) (by omega) (by decide) dX11_send_57 (v := f 5 i) rfl ?_
              refine k_if_ne (x := f 5 i) hx hb 96 dX11_send_58 (by decide) (fun c58 => ?_) (fun c58 => ?_)
              · refine lv_iinc (v := nI (i + 1)) (lv' := [(3, .int (nI (i + 1))), (0, .ref (a 0)), (1, .int (nI k)), (2, .int (nI u))]) hx hb dX11_send_96 hl (k := 0) rfl (nI_add i 1) (by decide) rfl (fun ls hl => ?_)
                refine lv_goto (tgt := 33) hx hb dX11_send_99 (by decide) ?_
                exact ih33 (i + 1) n o1 w1 g2 (by omega) (by omega) (by rw [← hR]; simp [bsL, hx0, ek, c15, eu, c41, c46, c58]) _ hl _ _ X
              · refine lv_aload_n hx hb dX11_send_61 rfl (lv_at hl 1 rfl) ?_
                refine k_get K X 0 rfl fg_X11_36 (v := .ref (a 8)) rfl dX11_send_62 ?_
                refine lv_aload_n hx hb dX11_send_65 rfl (lv_at hl 1 rfl) ?_
                refine k_get K X 0 rfl fg_X11_30 (v := .ref (a 1)) rfl dX11_send_66 ?_
                refine k_callV K X gv_X11_189 (As := [.ref (a 1)]) (c_X6_copyFrom l E (fun j => a (8 + j)) (fun j => a (1 + j)) (fun j => a (36 + j)) g2 f) [8, 9, 10, 11, 12, 13, 14, 1, 2, 3, 4, 5, 6, 7] clsW_s8C (by decide +kernel) (fun _ => room2_fst) 0 6 rfl rfl (by decide) rfl hl.1 (rest := []) rfl (Nat.le_of_ble_eq_true rfl) dX11_send_69 (st1 := fun _ => []) (fun _ => rfl) (fun _ H locs _ X => ?_)
                have X : Wd E _ _ (clsW E a f f h ik o1 w1 tp tl tk ts te tn rb rz rn td) _ _ := X.eq clsW_s8P
                refine lv_aload_n hx hb dX11_send_72 rfl (lv_at hl 1 rfl) ?_
                refine k_get K X 0 rfl fg_X11_36 (v := .ref (a 8)) rfl dX11_send_73 ?_
                refine k_getN K X 8 rfl fg_X11_153 (v := .ref (a 13)) rfl dX11_send_76 ?_
                refine lv_iload_n hx hb dX11_send_79 rfl (lv_at hl 0 rfl) ?_
                refine lv_iconst (v := 1) hx hb dX11_send_80 (by decide) ?_
                refine k_iastN K X 13 rfl (k := i) (x := 1) (by omega) (by decide) dX11_send_81 (fun H locs X => ?_)
                have X : Wd E _ _ (clsW E a f (up2 f 5 i 1) h ik o1 w1 tp tl tk ts te tn rb rz rn td) _ _ := X
                refine lv_aload_n hx hb dX11_send_82 rfl (lv_at hl 1 rfl) ?_
                refine k_get K X 0 rfl fg_X11_49 (v := .ref (a 22)) rfl dX11_send_83 ?_
                refine lv_iload_n hx hb dX11_send_86 rfl (lv_at hl 0 rfl) ?_
                refine lv_aload_n hx hb dX11_send_87 rfl (lv_at hl 1 rfl) ?_
                refine lv_iload_n hx hb dX11_send_88 rfl (lv_at hl 2 rfl) ?_
                refine lv_iload_n hx hb dX11_send_89 rfl (lv_at hl 3 rfl) ?_
                refine k_callV K X gv_X11_193 (As := [.int (nI k), .int (nI u)]) (c_X11_wayOfTrial l E a f (up2 f 5 i 1) h ik o1 w1 tp tl tk ts te tn rb rz rn td T k u (I.up5 _ _) (by omega) (by omega)) [0, 1, 2, 3, 4, 5, 6, 7, 8, 9, 10, 11, 12, 13, 14, 15, 16, 17, 18, 19, 20, 21, 22, 23, 24, 25, 26, 27, 28, 29, 30, 31, 32, 33, 34, 35, 36, 37, 38, 39, 40, 41, 42] clsW_idC (by decide +kernel) (fun _ => clsW_fst) 0 11 rfl rfl (by decide) rfl hl.1 (rest := [.int (nI i), .ref (a 22)]) rfl (Nat.le_of_ble_eq_true rfl) dX11_send_90 (st1 := fun _ => [.int (bcF (wayF (goN u (up2 f 5 i 1)) k)), .int (nI i), .ref (a 22)]) (fun _ => rfl) (fun _ H locs _ X => ?_)
                have X : Wd E _ _ (clsW E a f (goN u (up2 f 5 i 1)) h ik o1 w1 tp tl tk ts te tn rb rz rn td) _ _ := X.eq clsW_idP
                refine k_callV K X gv_X11_202 (As := [.int (nI i), .int (bcF (wayF (goN u (up2 f 5 i 1)) k))]) (c_X0_offer l E (a 22) o1 w1 (nI i) (bcF (wayF (goN u (up2 f 5 i 1)) k))) [22] clsW_s12C (by decide +kernel) (fun _ => bestW_fst) 0 0 rfl rfl (by decide) rfl hl.1 (rest := []) rfl (Nat.le_of_ble_eq_true rfl) dX11_send_93 (st1 := fun _ => []) (fun _ => rfl) (fun _ H locs _ X => ?_)
                have X : Wd E _ _ (clsW E a f (goN u (up2 f 5 i 1)) h ik ((bestO o1 w1 (nI i) (bcF (wayF (goN u (up2 f 5 i 1)) k))).1) ((bestO o1 w1 (nI i) (bcF (wayF (goN u (up2 f 5 i 1)) k))).2) tp tl tk ts te tn rb rz rn td) _ _ := X.eq clsW_s12P
                refine lv_iinc (v := nI (i + 1)) (lv' := [(3, .int (nI (i + 1))), (0, .ref (a 0)), (1, .int (nI k)), (2, .int (nI u))]) hx hb dX11_send_96 hl (k := 0) rfl (nI_add i 1) (by decide) rfl (fun ls hl => ?_)
                refine lv_goto (tgt := 33) hx hb dX11_send_99 (by decide) ?_
                exact ih33 (i + 1) n ((bestO o1 w1 (nI i) (bcF (wayF (goN u (up2 f 5 i 1)) k))).1) ((bestO o1 w1 (nI i) (bcF (wayF (goN u (up2 f 5 i 1)) k))).2) (goN u (up2 f 5 i 1)) (by omega) (by omega) (by rw [← hR]; simp [bsL, hx0, ek, c15, eu, c41, c46, c58]) _ hl _ _ X
      exact lp33 ((pe f) + 1) 0 (pe f) (-1) 0 g (by omega) (by omega) (rfl) _ hl _ _ X
    · refine lv_aload_n hx hb dX11_send_18 rfl (lv_at hl 0 rfl) ?_
      refine lv_iconst (v := 0) hx hb dX11_send_19 (by decide) ?_
      refine k_callV K X gv_X11_84 (As := [.int 0]) (c_X11_finding l E a f g h ik one wo tp tl tk ts te tn rb rz rn td 0 (by decide)) [0, 1, 2, 3, 4, 5, 6, 7, 8, 9, 10, 11, 12, 13, 14, 15, 16, 17, 18, 19, 20, 21, 22, 23, 24, 25, 26, 27, 28, 29, 30, 31, 32, 33, 34, 35, 36, 37, 38, 39, 40, 41, 42] clsW_idC (by decide +kernel) (fun _ => clsW_fst) 0 11 rfl rfl (by decide) rfl hl.1 (rest := []) rfl (Nat.le_of_ble_eq_true rfl) dX11_send_20 (st1 := fun _ => [.int (fnd 0)]) (fun _ => rfl) (fun _ H locs _ X => ?_)
      have X : Wd E _ _ (clsW E a f g h ik one wo tp tl tk ts te tn rb rz rn (fdU td 0)) _ _ := X.eq clsW_idP
      exact k_topi (x' := (oSend f td (nI k) y).1) (by simp [oSend, bad3, hx0, ek, c15]) (fin (g, one, wo) 23 _ _ _ trivial (X.eq (by simp [oSend, bad3, hx0, ek, c15])) dX11_send_23)
set_option maxRecDepth 100000 in
set_option maxHeartbeats 4000000 in
theorem c_X11_kind (l : Launch) (E : EE) (a : Nat → Nat) (f : St) (g : St) (h : St) (ik : Int32) (one : Int32) (wo : Int32) (tp : Nat → Int32) (tl : Int32) (tk : Int32) (ts : Int32) (te : Int32) (tn : Int32) (rb : Nat → Int32) (rz : Nat → Int32) (rn : Nat → Nat → Int64) (td : Nat → Int32) (T : Nat) (x : Int32) (y : Int32) (I : Inv T f) (hT : T < 999000) : Kn l yX11_kind cX11_kind 4 (some .int) 7 162 E (clsW E a f g h ik one wo tp tl tk ts te tn rb rz rn td) [.ref (a 0), .int x, .int y] (S := St × Int32 × Int32) (fun _ => True) (fun _ => (some (.int ((oKind f td x y).1)))) (fun u => (clsW E a ((oKind f td x y).2.1) u.1 h ik u.2.1 u.2.2 tp tl tk ts te tn rb rz rn ((oKind f td x y).2.2))) := by
  refine Kn.ofWi (by decide +kernel) (Nat.le_of_ble_eq_true rfl) (fun _ _ => rfl) ?_
  intro pg ev s0 mm below meth cd Q K X fin ls hl
  have hx := K.1
  have hb := K.2.1
  have hs10 := I.s10
  have hp6 := I.p6
  have hl : lv_has ls 4 [(0, .ref (a 0)), (1, .int x), (2, .int y)] := hl
  refine lv_aload_n hx hb dX11_kind_0 rfl (lv_at hl 0 rfl) ?_
  refine lv_iload_n hx hb dX11_kind_1 rfl (lv_at hl 1 rfl) ?_
  refine k_callV K X gv_X11_147 (As := [.int x]) (c_X11_noPerson l E a f g h ik one wo tp tl tk ts te tn rb rz rn td x) [0, 1, 2, 3, 4, 5, 6, 7, 8, 9, 10, 11, 12, 13, 14, 15, 16, 17, 18, 19, 20, 21, 22, 23, 24, 25, 26, 27, 28, 29, 30, 31, 32, 33, 34, 35, 36, 37, 38, 39, 40, 41, 42] clsW_idC (by decide +kernel) (fun _ => clsW_fst) 0 11 rfl rfl (by decide) rfl hl.1 (rest := []) rfl (Nat.le_of_ble_eq_true rfl) dX11_kind_2 (st1 := fun _ => [.int (b2i (!isP f x))]) (fun _ => rfl) (fun _ H locs _ X => ?_)
  have X : Wd E _ _ (clsW E a f g h ik one wo tp tl tk ts te tn rb rz rn td) _ _ := X.eq clsW_idP
  refine k_ifneB (B := (!isP f x)) hx hb 18 dX11_kind_5 (by decide) (fun c5 => ?_) (fun c5 => ?_)
  · have hx0 : isP f x = false := by simpa using c5
    refine lv_aload_n hx hb dX11_kind_18 rfl (lv_at hl 0 rfl) ?_
    refine lv_iconst (v := 0) hx hb dX11_kind_19 (by decide) ?_
    refine k_callV K X gv_X11_84 (As := [.int 0]) (c_X11_finding l E a f g h ik one wo tp tl tk ts te tn rb rz rn td 0 (by decide)) [0, 1, 2, 3, 4, 5, 6, 7, 8, 9, 10, 11, 12, 13, 14, 15, 16, 17, 18, 19, 20, 21, 22, 23, 24, 25, 26, 27, 28, 29, 30, 31, 32, 33, 34, 35, 36, 37, 38, 39, 40, 41, 42] clsW_idC (by decide +kernel) (fun _ => clsW_fst) 0 11 rfl rfl (by decide) rfl hl.1 (rest := []) rfl (Nat.le_of_ble_eq_true rfl) dX11_kind_20 (st1 := fun _ => [.int (fnd 0)]) (fun _ => rfl) (fun _ H locs _ X => ?_)
    have X : Wd E _ _ (clsW E a f g h ik one wo tp tl tk ts te tn rb rz rn (fdU td 0)) _ _ := X.eq clsW_idP
    exact k_topi (x' := (oKind f td x y).1) (by simp [oKind, bad3, hx0]) (fin (g, one, wo) 23 _ _ _ trivial (X.eq (by simp [oKind, bad3, hx0])) dX11_kind_23)
  · have hx0 : isP f x = true := by simpa using c5
    obtain ⟨k, hk, rfl⟩ := isP_nat I hx0
    have ek : (nI k).toNatClampNeg = k := nI_clamp (by omega)
    refine lv_iload_n hx hb dX11_kind_8 rfl (lv_at hl 2 rfl) ?_
    refine lv_iconst (v := 1) hx hb dX11_kind_9 (by decide) ?_
    refine lv_bipush (v := 100) hx hb dX11_kind_10 (by decide) ?_
    refine k_callS K X gs_X11_80 (As := [.int y, .int 1, .int 100]) (c_X11_within l E y 1 100) [] rfl (by decide +kernel) (fun _ => rfl) (by decide) rfl hl.1 (rest := []) rfl (Nat.le_of_ble_eq_true rfl) dX11_kind_12 (st1 := fun _ => [.int (b2i (inR y 1 100))]) (fun _ => rfl) (fun _ H locs _ X => ?_)
    have X : Wd E _ _ (clsW E a f g h ik one wo tp tl tk ts te tn rb rz rn td) _ _ := X
    refine k_ifneB (B := (inR y 1 100)) hx hb 24 dX11_kind_15 (by decide) (fun c15 => ?_) (fun c15 => ?_)
    · obtain ⟨u, hu, rfl, hul, huh⟩ := inR_nat (n := 101) (by decide) (by decide) c15
      have hul : 1 ≤ u := by have h0 : ((1 : Int32).toInt) = 1 := (by decide); omega
      have eu : (nI u).toNatClampNeg = u := nI_clamp (by omega)
      refine lv_aload_n hx hb dX11_kind_24 rfl (lv_at hl 0 rfl) ?_
      refine k_get K X 0 rfl fg_X11_49 (v := .ref (a 22)) rfl dX11_kind_25 ?_
      refine k_callV K X gv_X11_199 (As := []) (c_X0_forget l E (a 22) one wo) [22] clsW_s12C (by decide +kernel) (fun _ => bestW_fst) 0 0 rfl rfl (by decide) rfl hl.1 (rest := []) rfl (Nat.le_of_ble_eq_true rfl) dX11_kind_28 (st1 := fun _ => []) (fun _ => rfl) (fun _ H locs _ X => ?_)
      have X : Wd E _ _ (clsW E a f g h ik (-1) 0 tp tl tk ts te tn rb rz rn td) _ _ := X.eq clsW_s12P
      refine lv_iconst (v := 0) hx hb dX11_kind_31 (by decide) ?_
      refine lv_istore_n (lv' := [(3, .int 0), (0, .ref (a 0)), (1, .int (nI k)), (2, .int (nI u))]) hx hb dX11_kind_32 rfl hl (by decide) rfl (fun ls hl => ?_)
      have lp33 : ∀ (fu : Nat) (i : Nat) (n : Nat) (o1 : Int32) (w1 : Int32) (g2 : St) (hfu : n < fu) (hin : i + n = 6) (hR : bsL (fun _ => true) (fun v => bcF (wayF (goN u (up2 f 4 k (nI v))) k)) (fun v => nI v) n i o1 w1 = bsL (fun _ => true) (fun v => bcF (wayF (goN u (up2 f 4 k (nI v))) k)) (fun v => nI v) 6 0 (-1) 0) (ls : Array Slot) (hl : lv_has ls 4 [(3, .int (nI i)), (0, .ref (a 0)), (1, .int (nI k)), (2, .int (nI u))]) (H : Heap) (locs : List Loc) (X : Wd E (inW (clsW E a f g h ik one wo tp tl tk ts te tn rb rz rn td)) s0.heap (clsW E a f g2 h ik o1 w1 tp tl tk ts te tn rb rz rn td) H locs), W pg l ev (rmK 7 162) s0 mm ([.ref (a 0), .int (nI k), .int (nI u)] : List Value).toArray below meth cd H locs 0 0 Q (F0 mm 33 ls []) := by
        intro fu
        induction fu with
        | zero => intro i n o1 w1 g2 hfu; exact absurd hfu (Nat.not_lt_zero _)
        | succ fu ih33 =>
          intro i n o1 w1 g2 hfu hin hR ls hl H locs X
          refine lv_iload_n hx hb dX11_kind_33 rfl (lv_at hl 0 rfl) ?_
          refine lv_iconst (v := 5) hx hb dX11_kind_34 (by decide) ?_
          refine kN_gt (x := i) (y := 5) hx hb 79 dX11_kind_35 (by decide) (by omega) (by omega) (fun c35 => ?_) (fun c35 => ?_)
          · obtain rfl : n = 0 := by omega
            refine lv_aload_n hx hb dX11_kind_79 rfl (lv_at hl 1 rfl) ?_
            refine k_get K X 0 rfl fg_X11_49 (v := .ref (a 22)) rfl dX11_kind_80 ?_
            refine k_getN K X 22 rfl fg_X11_206 (v := .int o1) rfl dX11_kind_83 ?_
            exact k_topi (x' := (oKind f td (nI k) (nI u)).1) (by rw [oKind, hx0, c15, Bool.true_and, cond_true, ek, eu, ← hR]; rfl) (fin (g2, o1, w1) 86 _ _ _ trivial (X.eq (by rw [oKind, hx0, c15, Bool.true_and, cond_true])) dX11_kind_86)
          · obtain ⟨n, rfl⟩ : ∃ z, n = z + 1 := ⟨n - 1, by omega⟩
            refine lv_aload_n hx hb dX11_kind_38 rfl (lv_at hl 1 rfl) ?_
            refine k_get K X 0 rfl fg_X11_36 (v := .ref (a 8)) rfl dX11_kind_39 ?_
            refine lv_aload_n hx hb dX11_kind_42 rfl (lv_at hl 1 rfl) ?_
            refine k_get K X 0 rfl fg_X11_30 (v := .ref (a 1)) rfl dX11_kind_43 ?_
            refine k_callV K X gv_X11_189 (As := [.ref (a 1)]) (c_X6_copyFrom l E (fun j => a (8 + j)) (fun j => a (1 + j)) (fun j => a (36 + j)) g2 f) [8, 9, 10, 11, 12, 13, 14, 1, 2, 3, 4, 5, 6, 7] clsW_s8C (by decide +kernel) (fun _ => room2_fst) 0 6 rfl rfl (by decide) rfl hl.1 (rest := []) rfl (Nat.le_of_ble_eq_true rfl) dX11_kind_46 (st1 := fun _ => []) (fun _ => rfl) (fun _ H locs _ X => ?_)
            have X : Wd E _ _ (clsW E a f f h ik o1 w1 tp tl tk ts te tn rb rz rn td) _ _ := X.eq clsW_s8P
            refine lv_aload_n hx hb dX11_kind_49 rfl (lv_at hl 1 rfl) ?_
            refine k_get K X 0 rfl fg_X11_36 (v := .ref (a 8)) rfl dX11_kind_50 ?_
            refine k_getN K X 8 rfl fg_X11_150 (v := .ref (a 12)) rfl dX11_kind_53 ?_
            refine lv_iload_n hx hb dX11_kind_56 rfl (lv_at hl 2 rfl) ?_
            refine lv_iload_n hx hb dX11_kind_57 rfl (lv_at hl 0 rfl) ?_
            refine k_iastN K X 12 rfl (k := k) (x := nI i) (by omega) (by decide) dX11_kind_58 (fun H locs X => ?_)
            have X : Wd E _ _ (clsW E a f (up2 f 4 k (nI i)) h ik o1 w1 tp tl tk ts te tn rb rz rn td) _ _ := X
            refine lv_aload_n hx hb dX11_kind_59 rfl (lv_at hl 1 rfl) ?_
            refine k_get K X 0 rfl fg_X11_49 (v := .ref (a 22)) rfl dX11_kind_60 ?_
            refine lv_iload_n hx hb dX11_kind_63 rfl (lv_at hl 0 rfl) ?_
            refine lv_aload_n hx hb dX11_kind_64 rfl (lv_at hl 1 rfl) ?_
            refine lv_iload_n hx hb dX11_kind_65 rfl (lv_at hl 2 rfl) ?_
            refine lv_iload_n hx hb dX11_kind_66 rfl (lv_at hl 3 rfl) ?_
            refine k_callV K X gv_X11_193 (As := [.int (nI k), .int (nI u)]) (c_X11_wayOfTrial l E a f (up2 f 4 k (nI i)) h ik o1 w1 tp tl tk ts te tn rb rz rn td T k u (I.up4 _ (by omega)) (by omega) (by omega)) [0, 1, 2, 3, 4, 5, 6, 7, 8, 9, 10, 11, 12, 13, 14, 15, 16, 17, 18, 19, 20, 21, 22, 23, 24, 25, 26, 27, 28, 29, 30, 31, 32, 33, 34, 35, 36, 37, 38, 39, 40, 41, 42] clsW_idC (by decide +kernel) (fun _ => clsW_fst) 0 11 rfl rfl (by decide) rfl hl.1 (rest := [.int (nI i), .ref (a 22)]) rfl (Nat.le_of_ble_eq_true rfl) dX11_kind_67 (st1 := fun _ => [.int (bcF (wayF (goN u (up2 f 4 k (nI i))) k)), .int (nI i), .ref (a 22)]) (fun _ => rfl) (fun _ H locs _ X => ?_)
            have X : Wd E _ _ (clsW E a f (goN u (up2 f 4 k (nI i))) h ik o1 w1 tp tl tk ts te tn rb rz rn td) _ _ := X.eq clsW_idP
            refine k_callV K X gv_X11_202 (As := [.int (nI i), .int (bcF (wayF (goN u (up2 f 4 k (nI i))) k))]) (c_X0_offer l E (a 22) o1 w1 (nI i) (bcF (wayF (goN u (up2 f 4 k (nI i))) k))) [22] clsW_s12C (by decide +kernel) (fun _ => bestW_fst) 0 0 rfl rfl (by decide) rfl hl.1 (rest := []) rfl (Nat.le_of_ble_eq_true rfl) dX11_kind_70 (st1 := fun _ => []) (fun _ => rfl) (fun _ H locs _ X => ?_)
            have X : Wd E _ _ (clsW E a f (goN u (up2 f 4 k (nI i))) h ik ((bestO o1 w1 (nI i) (bcF (wayF (goN u (up2 f 4 k (nI i))) k))).1) ((bestO o1 w1 (nI i) (bcF (wayF (goN u (up2 f 4 k (nI i))) k))).2) tp tl tk ts te tn rb rz rn td) _ _ := X.eq clsW_s12P
            refine lv_iinc (v := nI (i + 1)) (lv' := [(3, .int (nI (i + 1))), (0, .ref (a 0)), (1, .int (nI k)), (2, .int (nI u))]) hx hb dX11_kind_73 hl (k := 0) rfl (nI_add i 1) (by decide) rfl (fun ls hl => ?_)
            refine lv_goto (tgt := 33) hx hb dX11_kind_76 (by decide) ?_
            exact ih33 (i + 1) n ((bestO o1 w1 (nI i) (bcF (wayF (goN u (up2 f 4 k (nI i))) k))).1) ((bestO o1 w1 (nI i) (bcF (wayF (goN u (up2 f 4 k (nI i))) k))).2) (goN u (up2 f 4 k (nI i))) (by omega) (by omega) (by rw [← hR]; simp [bsL, hx0, ek, c15, eu, c35]) _ hl _ _ X
      exact lp33 (6 + 1) 0 6 (-1) 0 g (by omega) (by omega) (rfl) _ hl _ _ X
    · refine lv_aload_n hx hb dX11_kind_18 rfl (lv_at hl 0 rfl) ?_
      refine lv_iconst (v := 0) hx hb dX11_kind_19 (by decide) ?_
      refine k_callV K X gv_X11_84 (As := [.int 0]) (c_X11_finding l E a f g h ik one wo tp tl tk ts te tn rb rz rn td 0 (by decide)) [0, 1, 2, 3, 4, 5, 6, 7, 8, 9, 10, 11, 12, 13, 14, 15, 16, 17, 18, 19, 20, 21, 22, 23, 24, 25, 26, 27, 28, 29, 30, 31, 32, 33, 34, 35, 36, 37, 38, 39, 40, 41, 42] clsW_idC (by decide +kernel) (fun _ => clsW_fst) 0 11 rfl rfl (by decide) rfl hl.1 (rest := []) rfl (Nat.le_of_ble_eq_true rfl) dX11_kind_20 (st1 := fun _ => [.int (fnd 0)]) (fun _ => rfl) (fun _ H locs _ X => ?_)
      have X : Wd E _ _ (clsW E a f g h ik one wo tp tl tk ts te tn rb rz rn (fdU td 0)) _ _ := X.eq clsW_idP
      exact k_topi (x' := (oKind f td (nI k) y).1) (by simp [oKind, bad3, hx0, ek, c15]) (fin (g, one, wo) 23 _ _ _ trivial (X.eq (by simp [oKind, bad3, hx0, ek, c15])) dX11_kind_23)
set_option maxRecDepth 100000 in
set_option maxHeartbeats 4000000 in
theorem c_X11_pair (l : Launch) (E : EE) (a : Nat → Nat) (f : St) (g : St) (h : St) (ik : Int32) (one : Int32) (wo : Int32) (tp : Nat → Int32) (tl : Int32) (tk : Int32) (ts : Int32) (te : Int32) (tn : Int32) (rb : Nat → Int32) (rz : Nat → Int32) (rn : Nat → Nat → Int64) (td : Nat → Int32) (T : Nat) (I : Inv T f) : Kn l yX11_pair cX11_pair 3 (some .int) 2 45 E (clsW E a f g h ik one wo tp tl tk ts te tn rb rz rn td) [.ref (a 0)] (S := Int32 × Int32) (fun _ => True) (fun _ => (some (.int ((oPair f td).1)))) (fun u => (clsW E a ((oPair f td).2.1) g h ik u.1 u.2 tp tl tk ts te tn rb rz rn ((oPair f td).2.2))) := by
  refine Kn.ofWi (by decide +kernel) (Nat.le_of_ble_eq_true rfl) (fun _ _ => rfl) ?_
  intro pg ev s0 mm below meth cd Q K X fin ls hl
  have hx := K.1
  have hb := K.2.1
  have hs10 := I.s10
  have hp6 := I.p6
  have hl : lv_has ls 3 [(0, .ref (a 0))] := hl
  refine lv_aload_n hx hb dX11_pair_0 rfl (lv_at hl 0 rfl) ?_
  refine k_get K X 0 rfl fg_X11_49 (v := .ref (a 22)) rfl dX11_pair_1 ?_
  refine k_callV K X gv_X11_199 (As := []) (c_X0_forget l E (a 22) one wo) [22] clsW_s12C (by decide +kernel) (fun _ => bestW_fst) 0 0 rfl rfl (by decide) rfl hl.1 (rest := []) rfl (Nat.le_of_ble_eq_true rfl) dX11_pair_4 (st1 := fun _ => []) (fun _ => rfl) (fun _ H locs _ X => ?_)
  have X : Wd E _ _ (clsW E a f g h ik (-1) 0 tp tl tk ts te tn rb rz rn td) _ _ := X.eq clsW_s12P
  refine lv_iconst (v := 0) hx hb dX11_pair_7 (by decide) ?_
  refine lv_istore_n (lv' := [(1, .int 0), (0, .ref (a 0))]) hx hb dX11_pair_8 rfl hl (by decide) rfl (fun ls hl => ?_)
  have lp9 : ∀ (fu : Nat) (i : Nat) (n : Nat) (o1 : Int32) (w1 : Int32) (hfu : n < fu) (hin : i + n = pe f) (hR : prL f n i o1 w1 = prL f (pe f) 0 (-1) 0) (ls : Array Slot) (hl : lv_has ls 3 [(1, .int (nI i)), (0, .ref (a 0))]) (H : Heap) (locs : List Loc) (X : Wd E (inW (clsW E a f g h ik one wo tp tl tk ts te tn rb rz rn td)) s0.heap (clsW E a f g h ik o1 w1 tp tl tk ts te tn rb rz rn td) H locs), W pg l ev (rmK 2 45) s0 mm ([.ref (a 0)] : List Value).toArray below meth cd H locs 0 0 Q (F0 mm 9 ls []) := by
    intro fu
    induction fu with
    | zero => intro i n o1 w1 hfu; exact absurd hfu (Nat.not_lt_zero _)
    | succ fu ih9 =>
      intro i n o1 w1 hfu hin hR ls hl H locs X
      refine lv_iload_n hx hb dX11_pair_9 rfl (lv_at hl 0 rfl) ?_
      refine lv_aload_n hx hb dX11_pair_10 rfl (lv_at hl 1 rfl) ?_
      refine k_get K X 0 rfl fg_X11_30 (v := .ref (a 1)) rfl dX11_pair_11 ?_
      refine k_getN K X 1 rfl fg_X11_141 (v := .int (f 0 3)) rfl dX11_pair_14 ?_
      refine k_topi (I.hP) ?_
      refine kN_ge (x := i) (y := pe f) hx hb 69 dX11_pair_17 (by decide) (by omega) (by omega) (fun c17 => ?_) (fun c17 => ?_)
      · obtain rfl : n = 0 := by omega
        refine lv_aload_n hx hb dX11_pair_69 rfl (lv_at hl 1 rfl) ?_
        refine k_callV K X gv_X11_209 (As := []) (c_X11_bestOrNone l E a f g h ik o1 w1 tp tl tk ts te tn rb rz rn td) [0, 1, 2, 3, 4, 5, 6, 7, 8, 9, 10, 11, 12, 13, 14, 15, 16, 17, 18, 19, 20, 21, 22, 23, 24, 25, 26, 27, 28, 29, 30, 31, 32, 33, 34, 35, 36, 37, 38, 39, 40, 41, 42] clsW_idC (by decide +kernel) (fun _ => clsW_fst) 0 11 rfl rfl (by decide) rfl hl.1 (rest := []) rfl (Nat.le_of_ble_eq_true rfl) dX11_pair_70 (st1 := fun _ => [.int (if o1 = -1 then fnd 3 else o1)]) (fun _ => rfl) (fun _ H locs _ X => ?_)
        have X : Wd E _ _ (clsW E a f g h ik o1 w1 tp tl tk ts te tn rb rz rn (if o1 = -1 then fdU td 3 else td)) _ _ := X.eq clsW_idP
        exact k_topi (x' := (oPair f td).1) (by rw [oPair, ← hR]; by_cases h1 : o1 = -1 <;> simp [prL, orNone, bad3, h1]) (fin (o1, w1) 73 _ _ _ trivial (X.eq (by rw [oPair, ← hR]; by_cases h1 : o1 = -1 <;> simp [prL, orNone, bad3, h1])) dX11_pair_73)
      · obtain ⟨n, rfl⟩ : ∃ z, n = z + 1 := ⟨n - 1, by omega⟩
        refine lv_iload_n hx hb dX11_pair_20 rfl (lv_at hl 0 rfl) ?_
        refine lv_iconst (v := 1) hx hb dX11_pair_21 (by decide) ?_
        refine lv_iadd hx hb dX11_pair_22 ?_
        refine k_topi (nI_add i 1) ?_
        refine lv_istore_n (lv' := [(2, .int (nI (i + 1))), (1, .int (nI i)), (0, .ref (a 0))]) hx hb dX11_pair_23 rfl hl (by decide) rfl (fun ls hl => ?_)
        have lp24 : ∀ (fu : Nat) (j : Nat) (n2 : Nat) (o2 : Int32) (w2 : Int32) (hfu : n2 < fu) (hin2 : j + n2 = pe f) (hV : bsL (fun _ => true) (fun b => nI (sameF f i b)) (fun b => nI (10 * i + b)) n2 j o2 w2 = bsL (fun _ => true) (fun b => nI (sameF f i b)) (fun b => nI (10 * i + b)) (pe f - (i + 1)) (i + 1) o1 w1) (ls : Array Slot) (hl : lv_has ls 3 [(2, .int (nI j)), (1, .int (nI i)), (0, .ref (a 0))]) (H : Heap) (locs : List Loc) (X : Wd E (inW (clsW E a f g h ik one wo tp tl tk ts te tn rb rz rn td)) s0.heap (clsW E a f g h ik o2 w2 tp tl tk ts te tn rb rz rn td) H locs), W pg l ev (rmK 2 45) s0 mm ([.ref (a 0)] : List Value).toArray below meth cd H locs 0 0 Q (F0 mm 24 ls []) := by
          intro fu
          induction fu with
          | zero => intro j n2 o2 w2 hfu; exact absurd hfu (Nat.not_lt_zero _)
          | succ fu ih24 =>
            intro j n2 o2 w2 hfu hin2 hV ls hl H locs X
            refine lv_iload_n hx hb dX11_pair_24 rfl (lv_at hl 0 rfl) ?_
            refine lv_aload_n hx hb dX11_pair_25 rfl (lv_at hl 2 rfl) ?_
            refine k_get K X 0 rfl fg_X11_30 (v := .ref (a 1)) rfl dX11_pair_26 ?_
            refine k_getN K X 1 rfl fg_X11_141 (v := .int (f 0 3)) rfl dX11_pair_29 ?_
            refine k_topi (I.hP) ?_
            refine kN_ge (x := j) (y := pe f) hx hb 63 dX11_pair_32 (by decide) (by omega) (by omega) (fun c32 => ?_) (fun c32 => ?_)
            · obtain rfl : n2 = 0 := by omega
              refine lv_iinc (v := nI (i + 1)) (lv' := [(1, .int (nI (i + 1))), (2, .int (nI j)), (0, .ref (a 0))]) hx hb dX11_pair_63 hl (k := 1) rfl (nI_add i 1) (by decide) rfl (fun ls hl => ?_)
              refine lv_goto (tgt := 9) hx hb dX11_pair_66 (by decide) ?_
              exact ih9 (i + 1) n o2 w2 (by omega) (by omega) (by rw [← hR, prL, ← hV]; rfl) _ (lv_sub hl [0, 2] rfl) _ _ X
            · obtain ⟨n2, rfl⟩ : ∃ z, n2 = z + 1 := ⟨n2 - 1, by omega⟩
              refine lv_aload_n hx hb dX11_pair_35 rfl (lv_at hl 2 rfl) ?_
              refine k_get K X 0 rfl fg_X11_49 (v := .ref (a 22)) rfl dX11_pair_36 ?_
              refine lv_bipush (v := 10) hx hb dX11_pair_39 (by decide) ?_
              refine lv_iload_n hx hb dX11_pair_41 rfl (lv_at hl 1 rfl) ?_
              refine lv_imul hx hb dX11_pair_42 ?_
              refine k_topi (pk_mul 10 i) ?_
              refine lv_iload_n hx hb dX11_pair_43 rfl (lv_at hl 0 rfl) ?_
              refine lv_iadd hx hb dX11_pair_44 ?_
              refine k_topi (nI_add (10 * i) j) ?_
              refine lv_aload_n hx hb dX11_pair_45 rfl (lv_at hl 2 rfl) ?_
              refine k_get K X 0 rfl fg_X11_30 (v := .ref (a 1)) rfl dX11_pair_46 ?_
              refine lv_iload_n hx hb dX11_pair_49 rfl (lv_at hl 1 rfl) ?_
              refine lv_iload_n hx hb dX11_pair_50 rfl (lv_at hl 0 rfl) ?_
              refine k_callV K X gv_X11_178 (As := [.int (nI i), .int (nI j)]) (c_X6_sameWishes l E (fun j => a (1 + j)) (fun j => a (36 + j)) f T i j I (by omega) (by omega)) [1, 2, 3, 4, 5, 6, 7] clsW_s3C (by decide +kernel) (fun _ => roomW_fst) 0 6 rfl rfl (by decide) rfl hl.1 (rest := [.int (nI (10 * i + j)), .ref (a 22)]) rfl (Nat.le_of_ble_eq_true rfl) dX11_pair_51 (st1 := fun _ => [.int (nI (sameF f i j)), .int (nI (10 * i + j)), .ref (a 22)]) (fun _ => rfl) (fun _ H locs _ X => ?_)
              have X : Wd E _ _ (clsW E a f g h ik o2 w2 tp tl tk ts te tn rb rz rn td) _ _ := X.eq clsW_s3P
              refine k_callV K X gv_X11_202 (As := [.int (nI (10 * i + j)), .int (nI (sameF f i j))]) (c_X0_offer l E (a 22) o2 w2 (nI (10 * i + j)) (nI (sameF f i j))) [22] clsW_s12C (by decide +kernel) (fun _ => bestW_fst) 0 0 rfl rfl (by decide) rfl hl.1 (rest := []) rfl (Nat.le_of_ble_eq_true rfl) dX11_pair_54 (st1 := fun _ => []) (fun _ => rfl) (fun _ H locs _ X => ?_)
              have X : Wd E _ _ (clsW E a f g h ik ((bestO o2 w2 (nI (10 * i + j)) (nI (sameF f i j))).1) ((bestO o2 w2 (nI (10 * i + j)) (nI (sameF f i j))).2) tp tl tk ts te tn rb rz rn td) _ _ := X.eq clsW_s12P
              refine lv_iinc (v := nI (j + 1)) (lv' := [(2, .int (nI (j + 1))), (1, .int (nI i)), (0, .ref (a 0))]) hx hb dX11_pair_57 hl (k := 0) rfl (nI_add j 1) (by decide) rfl (fun ls hl => ?_)
              refine lv_goto (tgt := 24) hx hb dX11_pair_60 (by decide) ?_
              exact ih24 (j + 1) n2 ((bestO o2 w2 (nI (10 * i + j)) (nI (sameF f i j))).1) ((bestO o2 w2 (nI (10 * i + j)) (nI (sameF f i j))).2) (by omega) (by omega) (by rw [← hV]; simp [bsL]) _ hl _ _ X
        exact lp24 ((pe f - (i + 1)) + 1) (i + 1) (pe f - (i + 1)) o1 w1 (by omega) (by omega) (rfl) _ hl _ _ X
  exact lp9 ((pe f) + 1) 0 (pe f) (-1) 0 (by omega) (by omega) (rfl) _ hl _ _ X
set_option maxRecDepth 100000 in
set_option maxHeartbeats 4000000 in
theorem c_X11_fix (l : Launch) (E : EE) (a : Nat → Nat) (f : St) (g : St) (h : St) (ik : Int32) (one : Int32) (wo : Int32) (tp : Nat → Int32) (tl : Int32) (tk : Int32) (ts : Int32) (te : Int32) (tn : Int32) (rb : Nat → Int32) (rz : Nat → Int32) (rn : Nat → Nat → Int64) (td : Nat → Int32) (T : Nat) (x : Int32) (I : Inv T f) (hT : T < 999000) : Kn l yX11_fix cX11_fix 3 (some .int) 6 140 E (clsW E a f g h ik one wo tp tl tk ts te tn rb rz rn td) [.ref (a 0), .int x] (S := St × Int32 × Int32) (fun _ => True) (fun _ => (some (.int ((oFix f td x).1)))) (fun u => (clsW E a ((oFix f td x).2.1) u.1 h ik u.2.1 u.2.2 tp tl tk ts te tn rb rz rn ((oFix f td x).2.2))) := by
  refine Kn.ofWi (by decide +kernel) (Nat.le_of_ble_eq_true rfl) (fun _ _ => rfl) ?_
  intro pg ev s0 mm below meth cd Q K X fin ls hl
  have hx := K.1
  have hb := K.2.1
  have hs10 := I.s10
  have hp6 := I.p6
  have hl : lv_has ls 3 [(0, .ref (a 0)), (1, .int x)] := hl
  refine lv_iload_n hx hb dX11_fix_0 rfl (lv_at hl 1 rfl) ?_
  refine lv_iconst (v := 1) hx hb dX11_fix_1 (by decide) ?_
  refine lv_bipush (v := 60) hx hb dX11_fix_2 (by decide) ?_
  refine k_callS K X gs_X11_80 (As := [.int x, .int 1, .int 60]) (c_X11_within l E x 1 60) [] rfl (by decide +kernel) (fun _ => rfl) (by decide) rfl hl.1 (rest := []) rfl (Nat.le_of_ble_eq_true rfl) dX11_fix_4 (st1 := fun _ => [.int (b2i (inR x 1 60))]) (fun _ => rfl) (fun _ H locs _ X => ?_)
  have X : Wd E _ _ (clsW E a f g h ik one wo tp tl tk ts te tn rb rz rn td) _ _ := X
  refine k_ifneB (B := (inR x 1 60)) hx hb 16 dX11_fix_7 (by decide) (fun c7 => ?_) (fun c7 => ?_)
  · obtain ⟨u, hu, rfl, hul, huh⟩ := inR_nat (n := 61) (by decide) (by decide) c7
    have hul : 1 ≤ u := by have h0 : ((1 : Int32).toInt) = 1 := (by decide); omega
    have eu : (nI u).toNatClampNeg = u := nI_clamp (by omega)
    refine lv_aload_n hx hb dX11_fix_16 rfl (lv_at hl 0 rfl) ?_
    refine k_get K X 0 rfl fg_X11_49 (v := .ref (a 22)) rfl dX11_fix_17 ?_
    refine k_callV K X gv_X11_199 (As := []) (c_X0_forget l E (a 22) one wo) [22] clsW_s12C (by decide +kernel) (fun _ => bestW_fst) 0 0 rfl rfl (by decide) rfl hl.1 (rest := []) rfl (Nat.le_of_ble_eq_true rfl) dX11_fix_20 (st1 := fun _ => []) (fun _ => rfl) (fun _ H locs _ X => ?_)
    have X : Wd E _ _ (clsW E a f g h ik (-1) 0 tp tl tk ts te tn rb rz rn td) _ _ := X.eq clsW_s12P
    refine lv_iconst (v := 0) hx hb dX11_fix_23 (by decide) ?_
    refine lv_istore_n (lv' := [(2, .int 0), (0, .ref (a 0)), (1, .int (nI u))]) hx hb dX11_fix_24 rfl hl (by decide) rfl (fun ls hl => ?_)
    have lp25 : ∀ (fu : Nat) (i : Nat) (n : Nat) (o1 : Int32) (w1 : Int32) (g2 : St) (hfu : n < fu) (hin : i + n = sl f) (hR : bsL (fun v => decide (f 3 v = 0)) (fun v => 0 - allF (goN u (up2 f 3 v 1))) (fun v => nI v) n i o1 w1 = bsL (fun v => decide (f 3 v = 0)) (fun v => 0 - allF (goN u (up2 f 3 v 1))) (fun v => nI v) (sl f) 0 (-1) 0) (ls : Array Slot) (hl : lv_has ls 3 [(2, .int (nI i)), (0, .ref (a 0)), (1, .int (nI u))]) (H : Heap) (locs : List Loc) (X : Wd E (inW (clsW E a f g h ik one wo tp tl tk ts te tn rb rz rn td)) s0.heap (clsW E a f g2 h ik o1 w1 tp tl tk ts te tn rb rz rn td) H locs), W pg l ev (rmK 6 140) s0 mm ([.ref (a 0), .int (nI u)] : List Value).toArray below meth cd H locs 0 0 Q (F0 mm 25 ls []) := by
      intro fu
      induction fu with
      | zero => intro i n o1 w1 g2 hfu; exact absurd hfu (Nat.not_lt_zero _)
      | succ fu ih25 =>
        intro i n o1 w1 g2 hfu hin hR ls hl H locs X
        refine lv_iload_n hx hb dX11_fix_25 rfl (lv_at hl 0 rfl) ?_
        refine lv_aload_n hx hb dX11_fix_26 rfl (lv_at hl 1 rfl) ?_
        refine k_get K X 0 rfl fg_X11_30 (v := .ref (a 1)) rfl dX11_fix_27 ?_
        refine k_getN K X 1 rfl fg_X11_92 (v := .int (f 0 2)) rfl dX11_fix_30 ?_
        refine k_topi (I.hS) ?_
        refine kN_ge (x := i) (y := sl f) hx hb 99 dX11_fix_33 (by decide) (by omega) (by omega) (fun c33 => ?_) (fun c33 => ?_)
        · obtain rfl : n = 0 := by omega
          refine lv_aload_n hx hb dX11_fix_99 rfl (lv_at hl 1 rfl) ?_
          refine k_callV K X gv_X11_209 (As := []) (c_X11_bestOrNone l E a f g2 h ik o1 w1 tp tl tk ts te tn rb rz rn td) [0, 1, 2, 3, 4, 5, 6, 7, 8, 9, 10, 11, 12, 13, 14, 15, 16, 17, 18, 19, 20, 21, 22, 23, 24, 25, 26, 27, 28, 29, 30, 31, 32, 33, 34, 35, 36, 37, 38, 39, 40, 41, 42] clsW_idC (by decide +kernel) (fun _ => clsW_fst) 0 11 rfl rfl (by decide) rfl hl.1 (rest := []) rfl (Nat.le_of_ble_eq_true rfl) dX11_fix_100 (st1 := fun _ => [.int (if o1 = -1 then fnd 3 else o1)]) (fun _ => rfl) (fun _ H locs _ X => ?_)
          have X : Wd E _ _ (clsW E a f g2 h ik o1 w1 tp tl tk ts te tn rb rz rn (if o1 = -1 then fdU td 3 else td)) _ _ := X.eq clsW_idP
          exact k_topi (x' := (oFix f td (nI u)).1) (by rw [oFix, c7, cond_true, eu, ← hR]; by_cases h1 : o1 = -1 <;> simp [bsL, orNone, bad3, h1]) (fin (g2, o1, w1) 103 _ _ _ trivial (X.eq (by rw [oFix, c7, cond_true, eu, ← hR]; by_cases h1 : o1 = -1 <;> simp [bsL, orNone, bad3, h1])) dX11_fix_103)
        · obtain ⟨n, rfl⟩ : ∃ z, n = z + 1 := ⟨n - 1, by omega⟩
          refine lv_aload_n hx hb dX11_fix_36 rfl (lv_at hl 1 rfl) ?_
          refine k_get K X 0 rfl fg_X11_30 (v := .ref (a 1)) rfl dX11_fix_37 ?_
          refine k_getN K X 1 rfl fg_X11_109 (v := .ref (a 4)) rfl dX11_fix_40 ?_
          refine lv_iload_n hx hb dX11_fix_43 rfl (lv_at hl 0 rfl) ?_
          refine k_ialdN K X 4 rfl (k := i) (by omega) (by decide) dX11_fix_44 (v := f 3 i) rfl ?_
          refine k_if_ne (x := f 3 i) hx hb 93 dX11_fix_45 (by decide) (fun c45 => ?_) (fun c45 => ?_)
          · refine lv_iinc (v := nI (i + 1)) (lv' := [(2, .int (nI (i + 1))), (0, .ref (a 0)), (1, .int (nI u))]) hx hb dX11_fix_93 hl (k := 0) rfl (nI_add i 1) (by decide) rfl (fun ls hl => ?_)
            refine lv_goto (tgt := 25) hx hb dX11_fix_96 (by decide) ?_
            exact ih25 (i + 1) n o1 w1 g2 (by omega) (by omega) (by rw [← hR]; simp [bsL, c7, eu, c33, c45]) _ hl _ _ X
          · refine lv_aload_n hx hb dX11_fix_48 rfl (lv_at hl 1 rfl) ?_
            refine k_get K X 0 rfl fg_X11_36 (v := .ref (a 8)) rfl dX11_fix_49 ?_
            refine lv_aload_n hx hb dX11_fix_52 rfl (lv_at hl 1 rfl) ?_
            refine k_get K X 0 rfl fg_X11_30 (v := .ref (a 1)) rfl dX11_fix_53 ?_
            refine k_callV K X gv_X11_189 (As := [.ref (a 1)]) (c_X6_copyFrom l E (fun j => a (8 + j)) (fun j => a (1 + j)) (fun j => a (36 + j)) g2 f) [8, 9, 10, 11, 12, 13, 14, 1, 2, 3, 4, 5, 6, 7] clsW_s8C (by decide +kernel) (fun _ => room2_fst) 0 6 rfl rfl (by decide) rfl hl.1 (rest := []) rfl (Nat.le_of_ble_eq_true rfl) dX11_fix_56 (st1 := fun _ => []) (fun _ => rfl) (fun _ H locs _ X => ?_)
            have X : Wd E _ _ (clsW E a f f h ik o1 w1 tp tl tk ts te tn rb rz rn td) _ _ := X.eq clsW_s8P
            refine lv_aload_n hx hb dX11_fix_59 rfl (lv_at hl 1 rfl) ?_
            refine k_get K X 0 rfl fg_X11_36 (v := .ref (a 8)) rfl dX11_fix_60 ?_
            refine k_getN K X 8 rfl fg_X11_109 (v := .ref (a 11)) rfl dX11_fix_63 ?_
            refine lv_iload_n hx hb dX11_fix_66 rfl (lv_at hl 0 rfl) ?_
            refine lv_iconst (v := 1) hx hb dX11_fix_67 (by decide) ?_
            refine k_iastN K X 11 rfl (k := i) (x := 1) (by omega) (by decide) dX11_fix_68 (fun H locs X => ?_)
            have X : Wd E _ _ (clsW E a f (up2 f 3 i 1) h ik o1 w1 tp tl tk ts te tn rb rz rn td) _ _ := X
            refine lv_aload_n hx hb dX11_fix_69 rfl (lv_at hl 1 rfl) ?_
            refine k_get K X 0 rfl fg_X11_36 (v := .ref (a 8)) rfl dX11_fix_70 ?_
            refine lv_iload_n hx hb dX11_fix_73 rfl (lv_at hl 2 rfl) ?_
            refine k_callV K X gv_X11_182 (As := [.int (nI u)]) (c_X6_passMinutes l E (fun j => a (8 + j)) (fun j => a (36 + j)) (up2 f 3 i 1) T u (I.up31 i) (by omega)) [8, 9, 10, 11, 12, 13, 14, 36, 37, 38, 39, 40, 41, 42] clsW_s1C (by decide +kernel) (fun _ => roomK_fst) 0 6 rfl rfl (by decide) rfl hl.1 (rest := []) rfl (Nat.le_of_ble_eq_true rfl) dX11_fix_74 (st1 := fun _ => []) (fun _ => rfl) (fun _ H locs _ X => ?_)
            have X : Wd E _ _ (clsW E a f (goN u (up2 f 3 i 1)) h ik o1 w1 tp tl tk ts te tn rb rz rn td) _ _ := X.eq clsW_s1P
            refine lv_aload_n hx hb dX11_fix_77 rfl (lv_at hl 1 rfl) ?_
            refine k_get K X 0 rfl fg_X11_49 (v := .ref (a 22)) rfl dX11_fix_78 ?_
            refine lv_iload_n hx hb dX11_fix_81 rfl (lv_at hl 0 rfl) ?_
            refine lv_aload_n hx hb dX11_fix_82 rfl (lv_at hl 1 rfl) ?_
            refine k_get K X 0 rfl fg_X11_36 (v := .ref (a 8)) rfl dX11_fix_83 ?_
            refine k_callV K X gv_X11_138 (As := []) (c_X6_movedTogether l E (fun j => a (8 + j)) (fun j => a (36 + j)) (goN u (up2 f 3 i 1)) (T + u) ((I.up31 i).more u (by omega))) [8, 9, 10, 11, 12, 13, 14] clsW_s4C (by decide +kernel) (fun _ => roomW_fst) 0 6 rfl rfl (by decide) rfl hl.1 (rest := [.int (nI i), .ref (a 22)]) rfl (Nat.le_of_ble_eq_true rfl) dX11_fix_86 (st1 := fun _ => [.int (allF (goN u (up2 f 3 i 1))), .int (nI i), .ref (a 22)]) (fun _ => rfl) (fun _ H locs _ X => ?_)
            have X : Wd E _ _ (clsW E a f (goN u (up2 f 3 i 1)) h ik o1 w1 tp tl tk ts te tn rb rz rn td) _ _ := X.eq clsW_s4P
            refine lv_ineg hx hb dX11_fix_89 ?_
            refine k_callV K X gv_X11_202 (As := [.int (nI i), .int (0 - (allF (goN u (up2 f 3 i 1))))]) (c_X0_offer l E (a 22) o1 w1 (nI i) (0 - (allF (goN u (up2 f 3 i 1))))) [22] clsW_s12C (by decide +kernel) (fun _ => bestW_fst) 0 0 rfl rfl (by decide) rfl hl.1 (rest := []) rfl (Nat.le_of_ble_eq_true rfl) dX11_fix_90 (st1 := fun _ => []) (fun _ => rfl) (fun _ H locs _ X => ?_)
            have X : Wd E _ _ (clsW E a f (goN u (up2 f 3 i 1)) h ik ((bestO o1 w1 (nI i) (0 - (allF (goN u (up2 f 3 i 1))))).1) ((bestO o1 w1 (nI i) (0 - (allF (goN u (up2 f 3 i 1))))).2) tp tl tk ts te tn rb rz rn td) _ _ := X.eq clsW_s12P
            refine lv_iinc (v := nI (i + 1)) (lv' := [(2, .int (nI (i + 1))), (0, .ref (a 0)), (1, .int (nI u))]) hx hb dX11_fix_93 hl (k := 0) rfl (nI_add i 1) (by decide) rfl (fun ls hl => ?_)
            refine lv_goto (tgt := 25) hx hb dX11_fix_96 (by decide) ?_
            exact ih25 (i + 1) n ((bestO o1 w1 (nI i) (0 - (allF (goN u (up2 f 3 i 1))))).1) ((bestO o1 w1 (nI i) (0 - (allF (goN u (up2 f 3 i 1))))).2) (goN u (up2 f 3 i 1)) (by omega) (by omega) (by rw [← hR]; simp [bsL, c7, eu, c33, c45]) _ hl _ _ X
    exact lp25 ((sl f) + 1) 0 (sl f) (-1) 0 g (by omega) (by omega) (rfl) _ hl _ _ X
  · refine lv_aload_n hx hb dX11_fix_10 rfl (lv_at hl 0 rfl) ?_
    refine lv_iconst (v := 0) hx hb dX11_fix_11 (by decide) ?_
    refine k_callV K X gv_X11_84 (As := [.int 0]) (c_X11_finding l E a f g h ik one wo tp tl tk ts te tn rb rz rn td 0 (by decide)) [0, 1, 2, 3, 4, 5, 6, 7, 8, 9, 10, 11, 12, 13, 14, 15, 16, 17, 18, 19, 20, 21, 22, 23, 24, 25, 26, 27, 28, 29, 30, 31, 32, 33, 34, 35, 36, 37, 38, 39, 40, 41, 42] clsW_idC (by decide +kernel) (fun _ => clsW_fst) 0 11 rfl rfl (by decide) rfl hl.1 (rest := []) rfl (Nat.le_of_ble_eq_true rfl) dX11_fix_12 (st1 := fun _ => [.int (fnd 0)]) (fun _ => rfl) (fun _ H locs _ X => ?_)
    have X : Wd E _ _ (clsW E a f g h ik one wo tp tl tk ts te tn rb rz rn (fdU td 0)) _ _ := X.eq clsW_idP
    exact k_topi (x' := (oFix f td x).1) (by simp [oFix, bad3, c7]) (fin (g, one, wo) 15 _ _ _ trivial (X.eq (by simp [oFix, bad3, c7])) dX11_fix_15)
set_option maxRecDepth 100000 in
set_option maxHeartbeats 4000000 in
theorem c_X11_winner (l : Launch) (E : EE) (a : Nat → Nat) (f : St) (g : St) (h : St) (ik : Int32) (one : Int32) (wo : Int32) (tp : Nat → Int32) (tl : Int32) (tk : Int32) (ts : Int32) (te : Int32) (tn : Int32) (rb : Nat → Int32) (rz : Nat → Int32) (rn : Nat → Nat → Int64) (td : Nat → Int32) (T : Nat) (x : Int32) (I : Inv T f) (hT : T < 999000) : Kn l yX11_winner cX11_winner 3 (some .int) 7 161 E (clsW E a f g h ik one wo tp tl tk ts te tn rb rz rn td) [.ref (a 0), .int x] (S := St × Int32 × Int32) (fun _ => True) (fun _ => (some (.int ((oWinner f td x).1)))) (fun u => (clsW E a ((oWinner f td x).2.1) u.1 h ik u.2.1 u.2.2 tp tl tk ts te tn rb rz rn ((oWinner f td x).2.2))) := by
  refine Kn.ofWi (by decide +kernel) (Nat.le_of_ble_eq_true rfl) (fun _ _ => rfl) ?_
  intro pg ev s0 mm below meth cd Q K X fin ls hl
  have hx := K.1
  have hb := K.2.1
  have hs10 := I.s10
  have hp6 := I.p6
  have hl : lv_has ls 3 [(0, .ref (a 0)), (1, .int x)] := hl
  refine lv_iload_n hx hb dX11_winner_0 rfl (lv_at hl 1 rfl) ?_
  refine lv_iconst (v := 0) hx hb dX11_winner_1 (by decide) ?_
  refine lv_sipush (v := 200) hx hb dX11_winner_2 (by decide) ?_
  refine k_callS K X gs_X11_80 (As := [.int x, .int 0, .int 200]) (c_X11_within l E x 0 200) [] rfl (by decide +kernel) (fun _ => rfl) (by decide) rfl hl.1 (rest := []) rfl (Nat.le_of_ble_eq_true rfl) dX11_winner_5 (st1 := fun _ => [.int (b2i (inR x 0 200))]) (fun _ => rfl) (fun _ H locs _ X => ?_)
  have X : Wd E _ _ (clsW E a f g h ik one wo tp tl tk ts te tn rb rz rn td) _ _ := X
  refine k_ifneB (B := (inR x 0 200)) hx hb 17 dX11_winner_8 (by decide) (fun c8 => ?_) (fun c8 => ?_)
  · obtain ⟨u, hu, rfl, hul, huh⟩ := inR_nat (n := 201) (by decide) (by decide) c8
    have hul : 0 ≤ u := by have h0 : ((0 : Int32).toInt) = 0 := (by decide); omega
    have eu : (nI u).toNatClampNeg = u := nI_clamp (by omega)
    have Ig := I.more u (by omega)
    have hgp := Ig.p6
    refine lv_aload_n hx hb dX11_winner_17 rfl (lv_at hl 0 rfl) ?_
    refine lv_iload_n hx hb dX11_winner_18 rfl (lv_at hl 1 rfl) ?_
    refine k_callV K X gv_X11_186 (As := [.int (nI u)]) (c_X11_tryOn l E a f g h ik one wo tp tl tk ts te tn rb rz rn td T u I (by omega)) [0, 1, 2, 3, 4, 5, 6, 7, 8, 9, 10, 11, 12, 13, 14, 15, 16, 17, 18, 19, 20, 21, 22, 23, 24, 25, 26, 27, 28, 29, 30, 31, 32, 33, 34, 35, 36, 37, 38, 39, 40, 41, 42] clsW_idC (by decide +kernel) (fun _ => clsW_fst) 0 11 rfl rfl (by decide) rfl hl.1 (rest := []) rfl (Nat.le_of_ble_eq_true rfl) dX11_winner_19 (st1 := fun _ => []) (fun _ => rfl) (fun _ H locs _ X => ?_)
    have X : Wd E _ _ (clsW E a f (goN u f) h ik one wo tp tl tk ts te tn rb rz rn td) _ _ := X.eq clsW_idP
    refine lv_aload_n hx hb dX11_winner_22 rfl (lv_at hl 0 rfl) ?_
    refine k_get K X 0 rfl fg_X11_49 (v := .ref (a 22)) rfl dX11_winner_23 ?_
    refine k_callV K X gv_X11_199 (As := []) (c_X0_forget l E (a 22) one wo) [22] clsW_s12C (by decide +kernel) (fun _ => bestW_fst) 0 0 rfl rfl (by decide) rfl hl.1 (rest := []) rfl (Nat.le_of_ble_eq_true rfl) dX11_winner_26 (st1 := fun _ => []) (fun _ => rfl) (fun _ H locs _ X => ?_)
    have X : Wd E _ _ (clsW E a f (goN u f) h ik (-1) 0 tp tl tk ts te tn rb rz rn td) _ _ := X.eq clsW_s12P
    refine lv_iconst (v := 0) hx hb dX11_winner_29 (by decide) ?_
    refine lv_istore_n (lv' := [(2, .int 0), (0, .ref (a 0)), (1, .int (nI u))]) hx hb dX11_winner_30 rfl hl (by decide) rfl (fun ls hl => ?_)
    have lp31 : ∀ (fu : Nat) (i : Nat) (n : Nat) (o1 : Int32) (w1 : Int32) (hfu : n < fu) (hin : i + n = pe (goN u f)) (hR : bsL (fun _ => true) (fun v => bcF (wayF (goN u f) v)) (fun v => nI v) n i o1 w1 = bsL (fun _ => true) (fun v => bcF (wayF (goN u f) v)) (fun v => nI v) (pe (goN u f)) 0 (-1) 0) (ls : Array Slot) (hl : lv_has ls 3 [(2, .int (nI i)), (0, .ref (a 0)), (1, .int (nI u))]) (H : Heap) (locs : List Loc) (X : Wd E (inW (clsW E a f g h ik one wo tp tl tk ts te tn rb rz rn td)) s0.heap (clsW E a f (goN u f) h ik o1 w1 tp tl tk ts te tn rb rz rn td) H locs), W pg l ev (rmK 7 161) s0 mm ([.ref (a 0), .int (nI u)] : List Value).toArray below meth cd H locs 0 0 Q (F0 mm 31 ls []) := by
      intro fu
      induction fu with
      | zero => intro i n o1 w1 hfu; exact absurd hfu (Nat.not_lt_zero _)
      | succ fu ih31 =>
        intro i n o1 w1 hfu hin hR ls hl H locs X
        refine lv_iload_n hx hb dX11_winner_31 rfl (lv_at hl 0 rfl) ?_
        refine lv_aload_n hx hb dX11_winner_32 rfl (lv_at hl 1 rfl) ?_
        refine k_get K X 0 rfl fg_X11_36 (v := .ref (a 8)) rfl dX11_winner_33 ?_
        refine k_getN K X 8 rfl fg_X11_141 (v := .int ((goN u f) 0 3)) rfl dX11_winner_36 ?_
        refine k_topi (Ig.hP) ?_
        refine kN_ge (x := i) (y := pe (goN u f)) hx hb 64 dX11_winner_39 (by decide) (by omega) (by omega) (fun c39 => ?_) (fun c39 => ?_)
        · obtain rfl : n = 0 := by omega
          refine lv_aload_n hx hb dX11_winner_64 rfl (lv_at hl 1 rfl) ?_
          refine k_callV K X gv_X11_209 (As := []) (c_X11_bestOrNone l E a f (goN u f) h ik o1 w1 tp tl tk ts te tn rb rz rn td) [0, 1, 2, 3, 4, 5, 6, 7, 8, 9, 10, 11, 12, 13, 14, 15, 16, 17, 18, 19, 20, 21, 22, 23, 24, 25, 26, 27, 28, 29, 30, 31, 32, 33, 34, 35, 36, 37, 38, 39, 40, 41, 42] clsW_idC (by decide +kernel) (fun _ => clsW_fst) 0 11 rfl rfl (by decide) rfl hl.1 (rest := []) rfl (Nat.le_of_ble_eq_true rfl) dX11_winner_65 (st1 := fun _ => [.int (if o1 = -1 then fnd 3 else o1)]) (fun _ => rfl) (fun _ H locs _ X => ?_)
          have X : Wd E _ _ (clsW E a f (goN u f) h ik o1 w1 tp tl tk ts te tn rb rz rn (if o1 = -1 then fdU td 3 else td)) _ _ := X.eq clsW_idP
          exact k_topi (x' := (oWinner f td (nI u)).1) (by rw [oWinner, c8, cond_true, eu, ← hR]; by_cases h1 : o1 = -1 <;> simp [bsL, orNone, bad3, h1]) (fin ((goN u f), o1, w1) 68 _ _ _ trivial (X.eq (by rw [oWinner, c8, cond_true, eu, ← hR]; by_cases h1 : o1 = -1 <;> simp [bsL, orNone, bad3, h1])) dX11_winner_68)
        · obtain ⟨n, rfl⟩ : ∃ z, n = z + 1 := ⟨n - 1, by omega⟩
          refine lv_aload_n hx hb dX11_winner_42 rfl (lv_at hl 1 rfl) ?_
          refine k_get K X 0 rfl fg_X11_49 (v := .ref (a 22)) rfl dX11_winner_43 ?_
          refine lv_iload_n hx hb dX11_winner_46 rfl (lv_at hl 0 rfl) ?_
          refine lv_aload_n hx hb dX11_winner_47 rfl (lv_at hl 1 rfl) ?_
          refine k_get K X 0 rfl fg_X11_36 (v := .ref (a 8)) rfl dX11_winner_48 ?_
          refine lv_iload_n hx hb dX11_winner_51 rfl (lv_at hl 0 rfl) ?_
          refine k_callV K X gv_X11_175 (As := [.int (nI i)]) (c_X6_wayCount l E (fun j => a (8 + j)) (fun j => a (36 + j)) (goN u f) (T + u) i Ig (by omega)) [8, 9, 10, 11, 12, 13, 14] clsW_s4C (by decide +kernel) (fun _ => roomW_fst) 0 6 rfl rfl (by decide) rfl hl.1 (rest := [.int (nI i), .ref (a 22)]) rfl (Nat.le_of_ble_eq_true rfl) dX11_winner_52 (st1 := fun _ => [.int (bcF (wayF (goN u f) i)), .int (nI i), .ref (a 22)]) (fun _ => rfl) (fun _ H locs _ X => ?_)
          have X : Wd E _ _ (clsW E a f (goN u f) h ik o1 w1 tp tl tk ts te tn rb rz rn td) _ _ := X.eq clsW_s4P
          refine k_callV K X gv_X11_202 (As := [.int (nI i), .int (bcF (wayF (goN u f) i))]) (c_X0_offer l E (a 22) o1 w1 (nI i) (bcF (wayF (goN u f) i))) [22] clsW_s12C (by decide +kernel) (fun _ => bestW_fst) 0 0 rfl rfl (by decide) rfl hl.1 (rest := []) rfl (Nat.le_of_ble_eq_true rfl) dX11_winner_55 (st1 := fun _ => []) (fun _ => rfl) (fun _ H locs _ X => ?_)
          have X : Wd E _ _ (clsW E a f (goN u f) h ik ((bestO o1 w1 (nI i) (bcF (wayF (goN u f) i))).1) ((bestO o1 w1 (nI i) (bcF (wayF (goN u f) i))).2) tp tl tk ts te tn rb rz rn td) _ _ := X.eq clsW_s12P
          refine lv_iinc (v := nI (i + 1)) (lv' := [(2, .int (nI (i + 1))), (0, .ref (a 0)), (1, .int (nI u))]) hx hb dX11_winner_58 hl (k := 0) rfl (nI_add i 1) (by decide) rfl (fun ls hl => ?_)
          refine lv_goto (tgt := 31) hx hb dX11_winner_61 (by decide) ?_
          exact ih31 (i + 1) n ((bestO o1 w1 (nI i) (bcF (wayF (goN u f) i))).1) ((bestO o1 w1 (nI i) (bcF (wayF (goN u f) i))).2) (by omega) (by omega) (by rw [← hR]; simp [bsL, c8, eu, c39]) _ hl _ _ X
    exact lp31 ((pe (goN u f)) + 1) 0 (pe (goN u f)) (-1) 0 (by omega) (by omega) (rfl) _ hl _ _ X
  · refine lv_aload_n hx hb dX11_winner_11 rfl (lv_at hl 0 rfl) ?_
    refine lv_iconst (v := 0) hx hb dX11_winner_12 (by decide) ?_
    refine k_callV K X gv_X11_84 (As := [.int 0]) (c_X11_finding l E a f g h ik one wo tp tl tk ts te tn rb rz rn td 0 (by decide)) [0, 1, 2, 3, 4, 5, 6, 7, 8, 9, 10, 11, 12, 13, 14, 15, 16, 17, 18, 19, 20, 21, 22, 23, 24, 25, 26, 27, 28, 29, 30, 31, 32, 33, 34, 35, 36, 37, 38, 39, 40, 41, 42] clsW_idC (by decide +kernel) (fun _ => clsW_fst) 0 11 rfl rfl (by decide) rfl hl.1 (rest := []) rfl (Nat.le_of_ble_eq_true rfl) dX11_winner_13 (st1 := fun _ => [.int (fnd 0)]) (fun _ => rfl) (fun _ H locs _ X => ?_)
    have X : Wd E _ _ (clsW E a f g h ik one wo tp tl tk ts te tn rb rz rn (fdU td 0)) _ _ := X.eq clsW_idP
    exact k_topi (x' := (oWinner f td x).1) (by simp [oWinner, bad3, c8]) (fin (g, one, wo) 16 _ _ _ trivial (X.eq (by simp [oWinner, bad3, c8])) dX11_winner_16)
set_option maxRecDepth 100000 in
set_option maxHeartbeats 4000000 in
theorem c_X11_largest (l : Launch) (E : EE) (a : Nat → Nat) (f : St) (g : St) (h : St) (ik : Int32) (one : Int32) (wo : Int32) (tp : Nat → Int32) (tl : Int32) (tk : Int32) (ts : Int32) (te : Int32) (tn : Int32) (rb : Nat → Int32) (rz : Nat → Int32) (rn : Nat → Nat → Int64) (td : Nat → Int32) (T : Nat) (x : Int32) (I : Inv T f) (hT : T < 999000) : Kn l yX11_largest cX11_largest 3 (some .int) 7 161 E (clsW E a f g h ik one wo tp tl tk ts te tn rb rz rn td) [.ref (a 0), .int x] (S := St × Int32 × Int32) (fun _ => True) (fun _ => (some (.int ((oLargest f td x).1)))) (fun u => (clsW E a ((oLargest f td x).2.1) u.1 h ik u.2.1 u.2.2 tp tl tk ts te tn rb rz rn ((oLargest f td x).2.2))) := by
  refine Kn.ofWi (by decide +kernel) (Nat.le_of_ble_eq_true rfl) (fun _ _ => rfl) ?_
  intro pg ev s0 mm below meth cd Q K X fin ls hl
  have hx := K.1
  have hb := K.2.1
  have hs10 := I.s10
  have hp6 := I.p6
  have hl : lv_has ls 3 [(0, .ref (a 0)), (1, .int x)] := hl
  refine lv_iload_n hx hb dX11_largest_0 rfl (lv_at hl 1 rfl) ?_
  refine lv_iconst (v := 0) hx hb dX11_largest_1 (by decide) ?_
  refine lv_sipush (v := 200) hx hb dX11_largest_2 (by decide) ?_
  refine k_callS K X gs_X11_80 (As := [.int x, .int 0, .int 200]) (c_X11_within l E x 0 200) [] rfl (by decide +kernel) (fun _ => rfl) (by decide) rfl hl.1 (rest := []) rfl (Nat.le_of_ble_eq_true rfl) dX11_largest_5 (st1 := fun _ => [.int (b2i (inR x 0 200))]) (fun _ => rfl) (fun _ H locs _ X => ?_)
  have X : Wd E _ _ (clsW E a f g h ik one wo tp tl tk ts te tn rb rz rn td) _ _ := X
  refine k_ifneB (B := (inR x 0 200)) hx hb 17 dX11_largest_8 (by decide) (fun c8 => ?_) (fun c8 => ?_)
  · obtain ⟨u, hu, rfl, hul, huh⟩ := inR_nat (n := 201) (by decide) (by decide) c8
    have hul : 0 ≤ u := by have h0 : ((0 : Int32).toInt) = 0 := (by decide); omega
    have eu : (nI u).toNatClampNeg = u := nI_clamp (by omega)
    have Ig := I.more u (by omega)
    refine lv_aload_n hx hb dX11_largest_17 rfl (lv_at hl 0 rfl) ?_
    refine lv_iload_n hx hb dX11_largest_18 rfl (lv_at hl 1 rfl) ?_
    refine k_callV K X gv_X11_186 (As := [.int (nI u)]) (c_X11_tryOn l E a f g h ik one wo tp tl tk ts te tn rb rz rn td T u I (by omega)) [0, 1, 2, 3, 4, 5, 6, 7, 8, 9, 10, 11, 12, 13, 14, 15, 16, 17, 18, 19, 20, 21, 22, 23, 24, 25, 26, 27, 28, 29, 30, 31, 32, 33, 34, 35, 36, 37, 38, 39, 40, 41, 42] clsW_idC (by decide +kernel) (fun _ => clsW_fst) 0 11 rfl rfl (by decide) rfl hl.1 (rest := []) rfl (Nat.le_of_ble_eq_true rfl) dX11_largest_19 (st1 := fun _ => []) (fun _ => rfl) (fun _ H locs _ X => ?_)
    have X : Wd E _ _ (clsW E a f (goN u f) h ik one wo tp tl tk ts te tn rb rz rn td) _ _ := X.eq clsW_idP
    refine lv_aload_n hx hb dX11_largest_22 rfl (lv_at hl 0 rfl) ?_
    refine k_get K X 0 rfl fg_X11_49 (v := .ref (a 22)) rfl dX11_largest_23 ?_
    refine k_callV K X gv_X11_199 (As := []) (c_X0_forget l E (a 22) one wo) [22] clsW_s12C (by decide +kernel) (fun _ => bestW_fst) 0 0 rfl rfl (by decide) rfl hl.1 (rest := []) rfl (Nat.le_of_ble_eq_true rfl) dX11_largest_26 (st1 := fun _ => []) (fun _ => rfl) (fun _ H locs _ X => ?_)
    have X : Wd E _ _ (clsW E a f (goN u f) h ik (-1) 0 tp tl tk ts te tn rb rz rn td) _ _ := X.eq clsW_s12P
    refine lv_iconst (v := 0) hx hb dX11_largest_29 (by decide) ?_
    refine lv_istore_n (lv' := [(2, .int 0), (0, .ref (a 0)), (1, .int (nI u))]) hx hb dX11_largest_30 rfl hl (by decide) rfl (fun ls hl => ?_)
    have lp31 : ∀ (fu : Nat) (i : Nat) (n : Nat) (o1 : Int32) (w1 : Int32) (hfu : n < fu) (hin : i + n = 6) (hR : bsL (fun _ => true) (fun v => bcF (inF (goN u f) (nI v))) (fun v => nI v) n i o1 w1 = bsL (fun _ => true) (fun v => bcF (inF (goN u f) (nI v))) (fun v => nI v) 6 0 (-1) 0) (ls : Array Slot) (hl : lv_has ls 3 [(2, .int (nI i)), (0, .ref (a 0)), (1, .int (nI u))]) (H : Heap) (locs : List Loc) (X : Wd E (inW (clsW E a f g h ik one wo tp tl tk ts te tn rb rz rn td)) s0.heap (clsW E a f (goN u f) h ik o1 w1 tp tl tk ts te tn rb rz rn td) H locs), W pg l ev (rmK 7 161) s0 mm ([.ref (a 0), .int (nI u)] : List Value).toArray below meth cd H locs 0 0 Q (F0 mm 31 ls []) := by
      intro fu
      induction fu with
      | zero => intro i n o1 w1 hfu; exact absurd hfu (Nat.not_lt_zero _)
      | succ fu ih31 =>
        intro i n o1 w1 hfu hin hR ls hl H locs X
        refine lv_iload_n hx hb dX11_largest_31 rfl (lv_at hl 0 rfl) ?_
        refine lv_iconst (v := 5) hx hb dX11_largest_32 (by decide) ?_
        refine kN_gt (x := i) (y := 5) hx hb 61 dX11_largest_33 (by decide) (by omega) (by omega) (fun c33 => ?_) (fun c33 => ?_)
        · obtain rfl : n = 0 := by omega
          refine lv_aload_n hx hb dX11_largest_61 rfl (lv_at hl 1 rfl) ?_
          refine k_get K X 0 rfl fg_X11_49 (v := .ref (a 22)) rfl dX11_largest_62 ?_
          refine k_getN K X 22 rfl fg_X11_206 (v := .int o1) rfl dX11_largest_65 ?_
          exact k_topi (x' := (oLargest f td (nI u)).1) (by rw [oLargest, c8, cond_true, eu, ← hR]; rfl) (fin ((goN u f), o1, w1) 68 _ _ _ trivial (X.eq (by rw [oLargest, c8, cond_true])) dX11_largest_68)
        · obtain ⟨n, rfl⟩ : ∃ z, n = z + 1 := ⟨n - 1, by omega⟩
          refine lv_aload_n hx hb dX11_largest_36 rfl (lv_at hl 1 rfl) ?_
          refine k_get K X 0 rfl fg_X11_49 (v := .ref (a 22)) rfl dX11_largest_37 ?_
          refine lv_iload_n hx hb dX11_largest_40 rfl (lv_at hl 0 rfl) ?_
          refine lv_aload_n hx hb dX11_largest_41 rfl (lv_at hl 1 rfl) ?_
          refine k_get K X 0 rfl fg_X11_36 (v := .ref (a 8)) rfl dX11_largest_42 ?_
          refine lv_iload_n hx hb dX11_largest_45 rfl (lv_at hl 0 rfl) ?_
          refine k_callV K X gv_X11_122 (As := [.int (nI i)]) (c_X6_slipsIn l E (fun j => a (8 + j)) (fun j => a (36 + j)) (goN u f) (T + u) (nI i) Ig) [8, 9, 10, 11, 12, 13, 14] clsW_s4C (by decide +kernel) (fun _ => roomW_fst) 0 6 rfl rfl (by decide) rfl hl.1 (rest := [.int (nI i), .ref (a 22)]) rfl (Nat.le_of_ble_eq_true rfl) dX11_largest_46 (st1 := fun _ => [.int (inF (goN u f) (nI i)), .int (nI i), .ref (a 22)]) (fun _ => rfl) (fun _ H locs _ X => ?_)
          have X : Wd E _ _ (clsW E a f (goN u f) h ik o1 w1 tp tl tk ts te tn rb rz rn td) _ _ := X.eq clsW_s4P
          refine k_callS K X gs_X11_212 (As := [.int (inF (goN u f) (nI i))]) (c_J6_bitCount_0f7a4 l E (inF (goN u f) (nI i))) [] rfl (by decide +kernel) (fun _ => rfl) (by decide) rfl hl.1 (rest := [.int (nI i), .ref (a 22)]) rfl (Nat.le_of_ble_eq_true rfl) dX11_largest_49 (st1 := fun _ => [.int (bcF (inF (goN u f) (nI i))), .int (nI i), .ref (a 22)]) (fun _ => rfl) (fun _ H locs _ X => ?_)
          have X : Wd E _ _ (clsW E a f (goN u f) h ik o1 w1 tp tl tk ts te tn rb rz rn td) _ _ := X
          refine k_callV K X gv_X11_202 (As := [.int (nI i), .int (bcF (inF (goN u f) (nI i)))]) (c_X0_offer l E (a 22) o1 w1 (nI i) (bcF (inF (goN u f) (nI i)))) [22] clsW_s12C (by decide +kernel) (fun _ => bestW_fst) 0 0 rfl rfl (by decide) rfl hl.1 (rest := []) rfl (Nat.le_of_ble_eq_true rfl) dX11_largest_52 (st1 := fun _ => []) (fun _ => rfl) (fun _ H locs _ X => ?_)
          have X : Wd E _ _ (clsW E a f (goN u f) h ik ((bestO o1 w1 (nI i) (bcF (inF (goN u f) (nI i)))).1) ((bestO o1 w1 (nI i) (bcF (inF (goN u f) (nI i)))).2) tp tl tk ts te tn rb rz rn td) _ _ := X.eq clsW_s12P
          refine lv_iinc (v := nI (i + 1)) (lv' := [(2, .int (nI (i + 1))), (0, .ref (a 0)), (1, .int (nI u))]) hx hb dX11_largest_55 hl (k := 0) rfl (nI_add i 1) (by decide) rfl (fun ls hl => ?_)
          refine lv_goto (tgt := 31) hx hb dX11_largest_58 (by decide) ?_
          exact ih31 (i + 1) n ((bestO o1 w1 (nI i) (bcF (inF (goN u f) (nI i)))).1) ((bestO o1 w1 (nI i) (bcF (inF (goN u f) (nI i)))).2) (by omega) (by omega) (by rw [← hR]; simp [bsL, c8, eu, c33]) _ hl _ _ X
    exact lp31 (6 + 1) 0 6 (-1) 0 (by omega) (by omega) (rfl) _ hl _ _ X
  · refine lv_aload_n hx hb dX11_largest_11 rfl (lv_at hl 0 rfl) ?_
    refine lv_iconst (v := 0) hx hb dX11_largest_12 (by decide) ?_
    refine k_callV K X gv_X11_84 (As := [.int 0]) (c_X11_finding l E a f g h ik one wo tp tl tk ts te tn rb rz rn td 0 (by decide)) [0, 1, 2, 3, 4, 5, 6, 7, 8, 9, 10, 11, 12, 13, 14, 15, 16, 17, 18, 19, 20, 21, 22, 23, 24, 25, 26, 27, 28, 29, 30, 31, 32, 33, 34, 35, 36, 37, 38, 39, 40, 41, 42] clsW_idC (by decide +kernel) (fun _ => clsW_fst) 0 11 rfl rfl (by decide) rfl hl.1 (rest := []) rfl (Nat.le_of_ble_eq_true rfl) dX11_largest_13 (st1 := fun _ => [.int (fnd 0)]) (fun _ => rfl) (fun _ H locs _ X => ?_)
    have X : Wd E _ _ (clsW E a f g h ik one wo tp tl tk ts te tn rb rz rn (fdU td 0)) _ _ := X.eq clsW_idP
    exact k_topi (x' := (oLargest f td x).1) (by simp [oLargest, bad3, c8]) (fin (g, one, wo) 16 _ _ _ trivial (X.eq (by simp [oLargest, bad3, c8])) dX11_largest_16)
