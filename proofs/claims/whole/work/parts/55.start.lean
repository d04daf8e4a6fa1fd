def tmS (i : Nat) : Term := .string "SlipWall$WallText" (kIdx.getD i 0)
theorem fc_nm : ∀ j, j < 77 → Cond.eq (.elem (.static "SlipWallModel" "NAMES" "[I") (.int (Int32.ofNat j))) (.int (kNM.getD j 0)) ∈ flatC (Jvm.Cond.and given_1 narrow_1) := by decide +kernel
theorem fc_ex : ∀ i, i < 11 → Cond.exactly (tmS i) "java/lang/String" ∈ flatC (Jvm.Cond.and given_1 narrow_1) := by decide +kernel
theorem fc_co : ∀ i, i < 11 → Cond.eq (.field (tmS i) "java/lang/String" "coder" "B") (.int 0) ∈ flatC (Jvm.Cond.and given_1 narrow_1) := by decide +kernel
theorem fc_ar : ∀ i, i < 11 → Cond.arrayOf (.field (tmS i) "java/lang/String" "value" "[B") .byte ∈ flatC (Jvm.Cond.and given_1 narrow_1) := by decide +kernel
theorem fc_le : ∀ i, i < 11 → Cond.eq (.length (.field (tmS i) "java/lang/String" "value" "[B")) (.int (Int32.ofNat (kLen.getD i 0))) ∈ flatC (Jvm.Cond.and given_1 narrow_1) := by decide +kernel
theorem fc_el : ∀ i, i < 11 → ∀ j, j < kLen.getD i 0 → Cond.eq (.elem (.field (tmS i) "java/lang/String" "value" "[B") (.int (Int32.ofNat j))) (.int ((kByt.getD i []).getD j 0)) ∈ flatC (Jvm.Cond.and given_1 narrow_1) := by decide +kernel
theorem fc_ne : ∀ i, i < 11 → ∀ j, j < 11 → i ≠ j → (Cond.not (Cond.eq (tmS i) (tmS j)) ∈ flatC (Jvm.Cond.and given_1 narrow_1) ∨ Cond.not (Cond.eq (tmS j) (tmS i)) ∈ flatC (Jvm.Cond.and given_1 narrow_1)) := by decide +kernel
theorem kLen_31 : ∀ i, i < 11 → kLen.getD i 0 < 2 ^ 31 := by decide +kernel
theorem str_tbl {s : State} {b : Nat} (hts : ∀ w ∈ lw_tbl, w.before #[Value.ref b] s = true) : ∀ i, i < 11 → (Cond.stringRef "SlipWall$WallText" (kIdx.getD i 0) (kTxt.getD i "")).before #[Value.ref b] s = true := fun i hi => match i, hi with
  | 0, _ => hts (.stringRef "SlipWall$WallText" 98 "person") (List.mem_of_getElem? (i := 748) (by decide +kernel))
  | 1, _ => hts (.stringRef "SlipWall$WallText" 100 "loud") (List.mem_of_getElem? (i := 749) (by decide +kernel))
  | 2, _ => hts (.stringRef "SlipWall$WallText" 102 "shy") (List.mem_of_getElem? (i := 750) (by decide +kernel))
  | 3, _ => hts (.stringRef "SlipWall$WallText" 104 "boss") (List.mem_of_getElem? (i := 751) (by decide +kernel))
  | 4, _ => hts (.stringRef "SlipWall$WallText" 106 "pen") (List.mem_of_getElem? (i := 752) (by decide +kernel))
  | 5, _ => hts (.stringRef "SlipWall$WallText" 108 "quiet") (List.mem_of_getElem? (i := 753) (by decide +kernel))
  | 6, _ => hts (.stringRef "SlipWall$WallText" 38 "slip") (List.mem_of_getElem? (i := 674) (by decide +kernel))
  | 7, _ => hts (.stringRef "SlipWall$WallText" 72 "floor") (List.mem_of_getElem? (i := 736) (by decide +kernel))
  | 8, _ => hts (.stringRef "SlipWall$WallText" 74 "fixed") (List.mem_of_getElem? (i := 737) (by decide +kernel))
  | 9, _ => hts (.stringRef "SlipWall$WallText" 89 "wants") (List.mem_of_getElem? (i := 759) (by decide +kernel))
  | 10, _ => hts (.stringRef "SlipWall$WallText" 47 "moves") (List.mem_of_getElem? (i := 739) (by decide +kernel))
  | i + 11, h => absurd h (by omega)
theorem zx_start {s : State} {b : Nat} (hts : ∀ w ∈ lw_tbl, w.before #[Value.ref b] s = true) : zX s := ⟨va_AO.of (hts (.arrayOver (.object "SlipWall$Person")) (List.mem_of_getElem? (i := 91) (by decide +kernel))), va_AO.of (hts (.arrayOver (.object "SlipWall$Row")) (List.mem_of_getElem? (i := 241) (by decide +kernel))), va_Nw.of rfl (hts (.castable "SlipWall$Loud" "SlipWall$Person") (List.mem_of_getElem? (i := 1255) (by decide +kernel))), va_Nw.of rfl (hts (.castable "SlipWall$Shy" "SlipWall$Person") (List.mem_of_getElem? (i := 1256) (by decide +kernel))), va_Nw.of rfl (hts (.castable "SlipWall$Boss" "SlipWall$Person") (List.mem_of_getElem? (i := 1257) (by decide +kernel))), va_Nw.of rfl (hts (.castable "SlipWall$Pen" "SlipWall$Person") (List.mem_of_getElem? (i := 1258) (by decide +kernel))), va_Nw.of rfl (hts (.castable "SlipWall$Quiet" "SlipWall$Person") (List.mem_of_getElem? (i := 1259) (by decide +kernel)))⟩
set_option maxRecDepth 100000 in
set_option maxHeartbeats 4000000 in
theorem en_start {s : State} {b : Nat} (hts : ∀ w ∈ lw_tbl, w.before #[Value.ref b] s = true) (hgv : (Jvm.Cond.and given_1 narrow_1).before #[Value.ref b] s = true) : ∃ E : EE, En E (fun q => s.heap.size ≤ q) s s.heap := by
  have hf := flat_of_before _ hgv
  have hM : ∀ w ∈ Mw, w.before #[Value.ref b] s = true := fun w hw => hts w (List.mem_filter.mp hw).1
  have hA : ∀ a : Nat, a < s.heap.size → ¬ (fun q => s.heap.size ≤ q) a := fun a h => Nat.not_le.mpr h
  obtain ⟨c0, i0, k0⟩ := u_known (C := RX0) (T := TX0) (N := 2) (n := 2) hM laX0 (hM _ (Mw_at 189 (by decide +kernel) (by decide +kernel)))
  obtain ⟨c1, i1, k1⟩ := u_known (C := RX1) (T := TX1) (N := 0) (n := 0) hM laX1 (hM _ (Mw_at 113 (by decide +kernel) (by decide +kernel)))
  obtain ⟨c2, i2, k2⟩ := u_known (C := RX2) (T := TX2) (N := 0) (n := 0) hM laX2 (hM _ (Mw_at 99 (by decide +kernel) (by decide +kernel)))
  obtain ⟨c3, i3, k3⟩ := u_known (C := RX3) (T := TX3) (N := 0) (n := 0) hM laX3 (hM _ (Mw_at 120 (by decide +kernel) (by decide +kernel)))
  obtain ⟨c4, i4, k4⟩ := u_known (C := RX4) (T := TX4) (N := 0) (n := 0) hM laX4 (hM _ (Mw_at 92 (by decide +kernel) (by decide +kernel)))
  obtain ⟨c5, i5, k5⟩ := u_known (C := RX5) (T := TX5) (N := 0) (n := 0) hM laX5 (hM _ (Mw_at 127 (by decide +kernel) (by decide +kernel)))
  obtain ⟨c6, i6, k6⟩ := u_known (C := RX6) (T := TX6) (N := 11) (n := 11) hM laX6 (hM _ (Mw_at 134 (by decide +kernel) (by decide +kernel)))
  obtain ⟨c7, i7, k7⟩ := u_known (C := RX7) (T := TX7) (N := 3) (n := 3) hM laX7 (hM _ (Mw_at 242 (by decide +kernel) (by decide +kernel)))
  obtain ⟨c8, i8, k8⟩ := u_known (C := RX8) (T := TX8) (N := 0) (n := 0) hM laX8 (hM _ (Mw_at 106 (by decide +kernel) (by decide +kernel)))
  obtain ⟨c9, i9, k9⟩ := u_known (C := RX9) (T := TX9) (N := 6) (n := 6) hM laX9 (hM _ (Mw_at 203 (by decide +kernel) (by decide +kernel)))
  obtain ⟨c10, i10, k10⟩ := u_known (C := RX10) (T := TX10) (N := 1) (n := 1) hM laX10 (hM _ (Mw_at 231 (by decide +kernel) (by decide +kernel)))
  obtain ⟨c11, i11, k11⟩ := u_known (C := RX11) (T := TX11) (N := 9) (n := 9) hM laX11 (hM _ (Mw_at 83 (by decide +kernel) (by decide +kernel)))
  obtain ⟨c12, i12, k12⟩ := u_known (C := RX12) (T := TX12) (N := 16) (n := 16) hM laX12 (hM _ (Mw_at 840 (by decide +kernel) (by decide +kernel)))
  obtain ⟨a0, ka0, co0, a01, a02, a03⟩ := Cond.arrayClass_spec (hM (.arrayClass .int) (Mw_at 187 (by decide +kernel) (by decide +kernel)))
  obtain ⟨a1, ka1, co1, a11, a12, a13⟩ := Cond.arrayClass_spec (hM (.arrayClass .long) (Mw_at 260 (by decide +kernel) (by decide +kernel)))
  obtain ⟨co2, a2, ka2, a21, -, a22, a23, a24⟩ := Cond.arrayOver_spec (hts (.arrayOver (.object "SlipWall$Person")) (List.mem_of_getElem? (i := 91) (by decide +kernel)))
  obtain ⟨co3, a3, ka3, a31, -, a32, a33, a34⟩ := Cond.arrayOver_spec (hts (.arrayOver (.object "SlipWall$Row")) (List.mem_of_getElem? (i := 241) (by decide +kernel)))
  obtain ⟨t, ht, hT⟩ := va_Tof (args := #[Value.ref b]) (s := s) (tm := .static "SlipWallModel" "NAMES" "[I") (ty := .int) (N := 77) (f := fun j => .int (kNM.getD j 0)) (A := fun q => s.heap.size ≤ q) (by decide) (hf _ (by decide +kernel)) (va_eqt (hf (.eq (.length (.static "SlipWallModel" "NAMES" "[I")) (.int 77)) (by decide +kernel))) (fun j hj => va_eqt (hf _ (fc_nm j hj))) hA
  obtain ⟨adK, adV, hS, hK⟩ := vk_Sof (args := #[Value.ref b]) (s := s) (N := 11) (tm := tmS) (len := kLen) (byt := kByt) (A := fun q => s.heap.size ≤ q) kLen_31 (fun i hi => hf _ (fc_ex i hi)) (fun i hi => hf _ (fc_co i hi)) (fun i hi => hf _ (fc_ar i hi)) (fun i hi => hf _ (fc_le i hi)) (fun i hi j hj => hf _ (fc_el i hi j hj)) (fun i j hi hj hn => (fc_ne i hi j hj hn).elim (fun h => Or.inl (hf _ h)) (fun h => Or.inr (hf _ h))) hA
  refine ⟨(fun k => [c0, c1, c2, c3, c4, c5, c6, c7, c8, c9, c10, c11, c12].getD k c0, fun k => [i0, i1, i2, i3, i4, i5, i6, i7, i8, i9, i10, i11, i12].getD k i0, fun k => [a0, a1, a2, a3].getD k a0, t, adK, adV), ⟨?_, ?_⟩, fun w hw => va_Nw.of (Nw_tab hw) (hts w (List.mem_filter.mp hw).1), ?_, hT, ?_, ?_, hS, ?_⟩
  · intro k q hq
    match k, hq with
    | 0, hq => cases hq; exact k0
    | 1, hq => cases hq; exact k1
    | 2, hq => cases hq; exact k2
    | 3, hq => cases hq; exact k3
    | 4, hq => cases hq; exact k4
    | 5, hq => cases hq; exact k5
    | 6, hq => cases hq; exact k6
    | 7, hq => cases hq; exact k7
    | 8, hq => cases hq; exact k8
    | 9, hq => cases hq; exact k9
    | 10, hq => cases hq; exact k10
    | 11, hq => cases hq; exact k11
    | 12, hq => cases hq; exact k12
    | k + 13, hq => simp [vwCl] at hq
  · intro k q hq
    match k, hq with
    | 0, hq => cases hq; exact ⟨fun n z => ⟨fun k h => (by cases h), ka0, a02, co0, a03⟩, a01⟩
    | 1, hq => cases hq; exact ⟨fun n z => ⟨fun k h => (by cases h), ka1, a12, co1, a13⟩, a11⟩
    | 2, hq => cases hq; exact ⟨fun n z => ⟨fun k h => (by cases h), ka2, a22, co2, a23⟩, ka2, co2, a22, a23, a21, a24⟩
    | 3, hq => cases hq; exact ⟨fun n z => ⟨fun k h => (by cases h), ka3, a32, co3, a33⟩, ka3, co3, a32, a33, a31, a34⟩
    | k + 4, hq => simp at hq
  · exact va_Zof (hts (.laysStatic "SlipWallModel" "NAMES" "[I") (List.mem_of_getElem? (i := 1165) (by decide +kernel))) (hts (.initialized "SlipWallModel") (List.mem_of_getElem? (i := 74) (by decide +kernel))) ht hA
  · exact va_Zof (hts (.laysStatic "java/lang/String" "COMPACT_STRINGS" "Z") (List.mem_of_getElem? (i := 688) (by decide +kernel))) (hts (.initialized "java/lang/String") (List.mem_of_getElem? (i := 78) (by decide +kernel))) (va_eqi (hf _ (by decide +kernel))) hA
  · exact va_Zqof (hts (.laysStatic "jdk/internal/util/Preconditions" "SIOOBE_FORMATTER" "Ljava/util/function/BiFunction;") (List.mem_of_getElem? (i := 704) (by decide +kernel))) (hts (.initialized "jdk/internal/util/Preconditions") (List.mem_of_getElem? (i := 80) (by decide +kernel))) (hf _ (by decide +kernel)) hA
  · exact fun i hi => vk_R.of (str_tbl hts i hi) (hK i hi)
theorem nk_L_7 : NOK RL 7 11 9 [.null, .null, .null, .int 0, .null, .null, .null, .null, .null] := by
  refine ⟨RX11, TX11, rfl, laX11, Mw_at 82 (by decide +kernel) (by decide +kernel), Mw_at 83 (by decide +kernel) (by decide +kernel), Mw_at 62 (by decide +kernel) (by decide +kernel), ⟨tyX11, tyX11_ok, fun j hj => ?_⟩⟩
  rcases (show j = 0 ∨ j = 1 ∨ j = 2 ∨ j = 3 ∨ j = 4 ∨ j = 5 ∨ j = 6 ∨ j = 7 ∨ j = 8 by omega) with rfl | rfl | rfl | rfl | rfl | rfl | rfl | rfl | rfl <;> rfl
theorem nk_L_10 : NOK RL 10 12 16 [.null, .null, .null, .int 0, .null, .int 0, .null, .int 0, .int 0, .int 0, .int 0, .int 0, .int 0, .null, .null, .null] := by
  refine ⟨RX12, TX12, rfl, laX12, Mw_at 839 (by decide +kernel) (by decide +kernel), Mw_at 840 (by decide +kernel) (by decide +kernel), Mw_at 74 (by decide +kernel) (by decide +kernel), ⟨tyX12, tyX12_ok, fun j hj => ?_⟩⟩
  rcases (show j = 0 ∨ j = 1 ∨ j = 2 ∨ j = 3 ∨ j = 4 ∨ j = 5 ∨ j = 6 ∨ j = 7 ∨ j = 8 ∨ j = 9 ∨ j = 10 ∨ j = 11 ∨ j = 12 ∨ j = 13 ∨ j = 14 ∨ j = 15 by omega) with rfl | rfl | rfl | rfl | rfl | rfl | rfl | rfl | rfl | rfl | rfl | rfl | rfl | rfl | rfl | rfl <;> rfl
theorem gi_L_9 : OKI RL 9 yX11_init cX11_init 3 0 := ⟨⟨Mw_at 86 (by decide +kernel) (by decide +kernel), Mw_at 62 (by decide +kernel) (by decide +kernel), by decide +kernel, by decide +kernel, by decide +kernel⟩, Mw_at 84 (by decide +kernel) (by decide +kernel), Mw_at 85 (by decide +kernel) (by decide +kernel), rfl⟩
theorem gi_L_12 : OKI RL 12 yX12_init cX12_init 1 0 := ⟨⟨Mw_at 843 (by decide +kernel) (by decide +kernel), Mw_at 74 (by decide +kernel) (by decide +kernel), by decide +kernel, by decide +kernel, by decide +kernel⟩, Mw_at 841 (by decide +kernel) (by decide +kernel), Mw_at 842 (by decide +kernel) (by decide +kernel), rfl⟩
theorem f0_inv : Inv 99999 f0 := ⟨⟨rfl, by decide⟩, ⟨rfl, by decide⟩, ⟨rfl, by decide⟩, fun s _ => ⟨Or.inl rfl, ⟨0, by decide, rfl⟩, Or.inr ⟨0, by decide, rfl⟩⟩, fun p _ => ⟨rfl, by show (0 : Int32).toNatClampNeg < 6; decide⟩, fun j _ => ⟨0, by decide, rfl⟩⟩
theorem start_LI : LI f0 f0 (fun _ _ => 0) 0 0 (fun _ => 0) := ⟨f0_inv, Or.inl rfl, ⟨0, by decide, rfl⟩, fun s _ => ⟨rfl, by show (0 : Int32).toNatClampNeg ≤ 40; decide⟩⟩
set_option maxRecDepth 100000 in
set_option maxHeartbeats 4000000 in
/-- THE LAW, from its entry -/
theorem whole_start {p : Program} {e : Env} {s : State} {m : MethodId} {below : List Frame} {meth : Method} {c : Code} (l : Launch) (hflags : l.flags = flags0) {b L : Nat} {xs : Nat → Int32} (hL : L ≤ 3072) (C0 : lw_At p s m meth c b L xs) : W p l e room_1 s m #[Value.ref b] below meth c s.heap [] 0 0 (lw_Z below #[Value.ref b] s) (entryFrame m ([Value.ref b] : List Value).toArray 4) := by
  obtain ⟨hx, hb, hr, hml, hown, hts, hX, hbl, hlocks, hgv⟩ := id C0
  obtain ⟨E, hE⟩ := en_start hts hgv
  have hZ := zx_start hts
  have K : Kx p s m #[Value.ref b] meth c code 4 RL E (fun q : Nat => s.heap.size ≤ q) := ⟨hx, hb, hml, hown, fun w hw => hts w (List.mem_filter.mp hw).1, hE, hlocks⟩
  have hA : ∀ q, s.heap.size ≤ q → (fun q : Nat => s.heap.size ≤ q) q := fun _ h => h
  have hbA : ¬ (fun q : Nat => s.heap.size ≤ q) b := Nat.not_le.mpr hbl
  have X : Wd E (fun q : Nat => s.heap.size ≤ q) s.heap [] s.heap [] := ⟨fun k q h => by simp at h, ⟨fun i j x y h => by simp at h, fun k q h => by simp at h⟩, va_S.rf⟩
  have hl := lv_entry ([.ref b]) (n := 4) (Nat.le_of_ble_eq_true rfl)
  rw [lg_entry_eq]
  generalize (lg_sl ([.ref b]) ++ List.replicate (4 - (lg_sl ([.ref b])).length) Slot.unset).toArray = ls at hl ⊢
  have hl : lv_has ls 4 [(0, .ref b)] := hl
  refine k_new K hA X nk_L_7 (Nat.le_of_ble_eq_true rfl) (Nat.le_of_ble_eq_true rfl) dL_law_0 (fun q1 H X => ?_)
  have X : Wd E (fun q : Nat => s.heap.size ≤ q) s.heap [(q1, .inr (11, [.null, .null, .null, .int 0, .null, .null, .null, .null, .null]))] _ _ := X
  refine W.widen (k := 1) (n := 9) (Nat.le_of_ble_eq_true rfl) (Nat.le_of_ble_eq_true rfl) ?_
  refine lv_dup hx hb dL_law_3 rfl ?_
  refine k_callI (As := []) (rest := [.ref q1]) K hZ hA X gi_L_9 (a_X11_init l E q1) [0] [] (wr := []) rfl (by decide) rfl (by decide) (by decide) ⟨⟨Nat.le_of_ble_eq_true rfl, Nat.le_of_ble_eq_true rfl⟩, Nat.le_of_ble_eq_true rfl, Nat.le_of_ble_eq_true rfl⟩ rfl hl.1 rfl (Nat.le_of_ble_eq_true rfl) dL_law_4 (fun u1 H locs X => ?_)
  have X : Wd E (fun q : Nat => s.heap.size ≤ q) s.heap (clsW E (cn q1 u1) f0 f0 f0 0 (-1) 0 (fun _ => 0) 0 0 0 0 0 (fun _ => 0) (fun _ => 0) (fun _ _ => 0) (fun _ => 0)) _ _ := X
  refine W.widen (k := 43) (n := 666) (Nat.le_of_ble_eq_true rfl) (Nat.le_of_ble_eq_true rfl) ?_
  refine lv_astore_n (lv' := [(1, .ref q1), (0, .ref b)]) hx hb dL_law_7 rfl hl (by decide) rfl (fun ls hl => ?_)
  refine k_new K hA X nk_L_10 (Nat.le_of_ble_eq_true rfl) (Nat.le_of_ble_eq_true rfl) dL_law_8 (fun q2 H X => ?_)
  refine W.widen (k := 44) (n := 682) (Nat.le_of_ble_eq_true rfl) (Nat.le_of_ble_eq_true rfl) ?_
  refine lv_dup hx hb dL_law_11 rfl ?_
  refine k_callI (As := []) (rest := [.ref q2]) K hZ hA X gi_L_12 (a_X12_init l E q2) [43] [0, 1, 2, 3, 4, 5, 6, 7, 8, 9, 10, 11, 12, 13, 14, 15, 16, 17, 18, 19, 20, 21, 22, 23, 24, 25, 26, 27, 28, 29, 30, 31, 32, 33, 34, 35, 36, 37, 38, 39, 40, 41, 42] (wr := clsW E (cn q1 u1) f0 f0 f0 0 (-1) 0 (fun _ => 0) 0 0 0 0 0 (fun _ => 0) (fun _ => 0) (fun _ _ => 0) (fun _ => 0)) rfl (by decide) rfl (by decide) (by decide) ⟨⟨Nat.le_of_ble_eq_true rfl, Nat.le_of_ble_eq_true rfl⟩, Nat.le_of_ble_eq_true rfl, Nat.le_of_ble_eq_true rfl⟩ rfl hl.1 rfl (Nat.le_of_ble_eq_true rfl) dL_law_12 (fun u2 H locs X => ?_)
  refine W.widen (k := 600000) (n := 7302250) (Nat.le_of_ble_eq_true rfl) (Nat.le_of_ble_eq_true rfl) ?_
  refine lv_astore_n (lv' := [(2, .ref q2), (1, .ref q1), (0, .ref b)]) hx hb dL_law_15 rfl hl (by decide) rfl (fun ls hl => ?_)
  refine lv_iconst (v := 0) hx hb dL_law_16 (by decide) ?_
  refine lv_istore_n (lv' := [(3, .int (nI 0)), (2, .ref q2), (1, .ref q1), (0, .ref b)]) hx hb dL_law_17 rfl hl (by decide) rfl (fun ls hl => ?_)
  exact law_loop K hr (fun q h => h) hX hbl hbA hL (L + 7) 0 (by omega) (by omega) f0 f0 f0 (fun _ _ => 0) 0 (-1) 0 (fun _ => 0) 0 0 0 0 0 (fun _ => 0) (fun _ => 0) (fun _ _ => 0) (fun _ => 0) (flat (fun _ _ => 0)) 0 0 0 0 0 0 _ _ _ start_LI X hl
