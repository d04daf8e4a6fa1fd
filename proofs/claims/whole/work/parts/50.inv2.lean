/-! what every call keeps -/
theorem cond_f {b : Bool} {r r' : R3} {f : St} (h : r.2.1 = f) (h' : r'.2.1 = f) : (cond b r r').2.1 = f := by cases b <;> assumption
theorem ite_f {q : Prop} [Decidable q] {r r' : R3} {f : St} (h : r.2.1 = f) (h' : r'.2.1 = f) : (if q then r else r').2.1 = f := by split <;> assumption
theorem orNone_f (b : Int32) (f : St) (td : Nat → Int32) : (orNone b f td).2.1 = f := ite_f rfl rfl
section OF
variable (f : St) (td : Nat → Int32) (x y z : Int32)
theorem oSlipOf_f : (oSlipOf f td x y).2.1 = f := cond_f (ite_f rfl (ite_f rfl (ite_f rfl (ite_f rfl (ite_f rfl rfl))))) rfl
theorem oGroup_f : (oGroup f td x).2.1 = f := cond_f rfl rfl
theorem oNow_f : (oNow f td x).2.1 = f := ite_f rfl (ite_f rfl (ite_f rfl (ite_f rfl (ite_f rfl (ite_f rfl rfl)))))
theorem oOf_f : (oOf f td x y).2.1 = f := cond_f (ite_f rfl (ite_f rfl (ite_f rfl (ite_f rfl (ite_f rfl rfl))))) rfl
theorem oAs_f : (oAs f td x y).2.1 = f := cond_f (cond_f rfl rfl) rfl
theorem oAlike_f : (oAlike f td x y).2.1 = f := cond_f rfl rfl
theorem oOn_f : (oOn f td x y z).2.1 = f := cond_f rfl rfl
theorem oWay_f : (oWay f td x y).2.1 = f := cond_f rfl rfl
theorem oDone_f : (oDone f td).2.1 = f := by unfold oDone; split <;> rfl
theorem oMoved_f : (oMoved f td x).2.1 = f := cond_f (by split <;> rfl) rfl
theorem oRule_f : (oRule f td x y).2.1 = f := cond_f rfl rfl
theorem oSend_f : (oSend f td x y).2.1 = f := cond_f (orNone_f _ _ _) rfl
theorem oKind_f : (oKind f td x y).2.1 = f := cond_f rfl rfl
theorem oPair_f : (oPair f td).2.1 = f := orNone_f _ _ _
theorem oFix_f : (oFix f td x).2.1 = f := cond_f (orNone_f _ _ _) rfl
theorem oWinner_f : (oWinner f td x).2.1 = f := cond_f (orNone_f _ _ _) rfl
theorem oLargest_f : (oLargest f td x).2.1 = f := cond_f rfl rfl
end OF
theorem Inv.up1 {T : Nat} {f : St} (I : Inv T f) (k : Nat) {v : Int32} (hv : v = -1 ∨ ∃ n, n ≤ 5 ∧ v = nI n) : Inv T (up2 f 1 k v) := by
  refine I.of rfl rfl rfl (fun s hs => ⟨I.fx hs, I.mv hs, ?_⟩)
  show upd (f 1) k v s = -1 ∨ ∃ n, n ≤ 5 ∧ upd (f 1) k v s = nI n
  rw [upd_eq]
  split
  · exact hv
  · exact I.gr hs
theorem Inv.upM {T : Nat} {f : St} (I : Inv T f) (k : Nat) {v : Nat} (hv : v ≤ 999) : Inv T (up2 f 2 k (nI v)) := by
  refine I.of rfl rfl rfl (fun s hs => ⟨I.fx hs, ?_, I.gr hs⟩)
  show ∃ n, n ≤ 999 ∧ upd (f 2) k (nI v) s = nI n
  rw [upd_eq]
  split
  · exact ⟨v, hv, rfl⟩
  · exact I.mv hs
theorem inR_grp {x : Int32} (h : inR x (-1) 5 = true) : x = -1 ∨ ∃ n, n ≤ 5 ∧ x = nI n := by
  by_cases h0 : x < 0
  · refine Or.inl ?_
    unfold inR at h
    rw [Bool.and_eq_true, Bool.not_eq_true', decide_eq_false_iff_not] at h
    have h1 := h.1
    rw [Int32.lt_iff_toInt_lt] at h0 h1
    have e1 : ((-1 : Int32).toInt) = -1 := by decide
    have e0 : ((0 : Int32).toInt) = 0 := by decide
    apply Int32.toInt_inj.mp
    omega
  · have h1 : inR x 0 5 = true := by
      unfold inR at h ⊢
      rw [decide_eq_false h0]
      rw [Bool.and_eq_true] at h
      exact h.2
    obtain ⟨k, h2, h3, -⟩ := inR_nat (n := 6) (by decide) (by decide) h1
    exact Or.inr ⟨k, by omega, h3⟩
theorem inR_upto {x : Int32} {m : Nat} (hm : m < 1000000) (h : inR x 0 (nI m) = true) : ∃ n, n ≤ m ∧ x = nI n := by
  obtain ⟨k, h2, h3, -⟩ := inR_nat (n := m + 1) (by decide) (by rw [nI_toInt (by omega)]; omega) h
  exact ⟨k, by omega, h3⟩
section OI
theorem cond_I {b : Bool} {r r' : R3} (h : b = true → Inv 99999 r.2.1) (h' : Inv 99999 r'.2.1) : Inv 99999 (cond b r r').2.1 := by
  cases hb : b
  · exact h'
  · exact h hb
theorem ite_I {q : Prop} [Decidable q] {r r' : R3} (h : q → Inv 99999 r.2.1) (h' : Inv 99999 r'.2.1) : Inv 99999 (if q then r else r').2.1 := by
  by_cases hq : q
  · rw [if_pos hq]; exact h hq
  · rw [if_neg hq]; exact h'
theorem oMoves_I {f : St} (I : Inv 99999 f) (td : Nat → Int32) (x : Int32) : Inv 99999 (oMoves f td x).2.1 := cond_I (fun _ => I.up01 x) I
theorem oSlip_I {f : St} (I : Inv 99999 f) (td : Nat → Int32) (x : Int32) : Inv 99999 (oSlip f td x).2.1 := cond_I (fun h => cond_I (fun h2 => I.adS (inR_grp h) (Or.inl rfl) (of_decide_eq_true h2)) I) I
theorem oStick_I {f : St} (I : Inv 99999 f) (td : Nat → Int32) (x y z : Int32) : Inv 99999 (oStick f td x y z).2.1 := cond_I (fun _ => ite_I (fun _ => cond_I (fun h => I.up1 _ (inR_grp h)) I) (ite_I (fun _ => cond_I (fun h => by
    obtain ⟨n, h1, h2⟩ := inR_upto (m := 999) (by decide) h
    show Inv 99999 (up2 f 2 x.toNatClampNeg z)
    rw [h2]
    exact I.upM _ h1) I) (ite_I (fun _ => cond_I (fun h => by
    obtain ⟨n, h1, h2⟩ := inR_upto (m := 1) (by decide) h
    show Inv 99999 (up2 f 3 x.toNatClampNeg z)
    refine I.up3 _ ?_
    rcases (show n = 0 ∨ n = 1 by omega) with rfl | rfl
    · exact Or.inl h2
    · exact Or.inr h2) I) I))) I
theorem oPerson_I {f : St} (I : Inv 99999 f) (td : Nat → Int32) (x : Int32) : Inv 99999 (oPerson f td x).2.1 := cond_I (fun h => cond_I (fun h2 => by
    obtain ⟨n, h1, h3⟩ := inR_upto (m := 5) (by decide) h
    show Inv 99999 (addP f x)
    rw [h3]
    exact I.adP (by omega) (of_decide_eq_true h2)) I) I
theorem oWants_I {f : St} (I : Inv 99999 f) (td : Nat → Int32) (x y z : Int32) : Inv 99999 (oWants f td x y z).2.1 := cond_I (fun h => by
    rw [Bool.and_eq_true, Bool.and_eq_true] at h
    obtain ⟨n, h1, h3⟩ := inR_upto (m := 5) (by decide) h.2.2
    show Inv 99999 (up2 f 6 _ z)
    rw [h3]
    exact I.up6 _ h1) I
theorem oOut_I {f : St} (I : Inv 99999 f) (td : Nat → Int32) (x y : Int32) : Inv 99999 (oOut f td x y).2.1 := cond_I (fun _ => I.up5 _ _) I
theorem oTurn_I {f : St} (I : Inv 99999 f) (td : Nat → Int32) (x y : Int32) : Inv 99999 (oTurn f td x y).2.1 := cond_I (fun h => by
    rw [Bool.and_eq_true] at h
    obtain ⟨n, h1, h3⟩ := inR_upto (m := 5) (by decide) h.2
    show Inv 99999 (up2 f 4 _ y)
    rw [h3]
    exact I.up4 _ (by omega)) I
theorem oMinutes_I {f : St} (I : Inv 99999 f) (td : Nat → Int32) (x : Int32) : Inv 99999 (oMinutes f td x).2.1 := cond_I (fun _ => cond_I (fun h => by
    have h1 := of_decide_eq_true h
    have I2 : Inv (mn f) f := ⟨I.1, I.2.1, ⟨I.2.2.1.1, Nat.le_refl _⟩, I.2.2.2⟩
    exact (I2.more x.toNatClampNeg (by omega)).mono h1) I) I
theorem inG_nat {v : Int64} (h : inG v = true) : ∃ n, n ≤ 5 ∧ v.toInt32 = nI n := by
  unfold inG at h
  rw [Bool.and_eq_true, Bool.not_eq_true', Bool.not_eq_true', decide_eq_false_iff_not, decide_eq_false_iff_not, Int64.lt_iff_toInt_lt, Int64.lt_iff_toInt_lt] at h
  have e0 : ((0 : Int64).toInt) = 0 := by decide
  have e5 : ((5 : Int64).toInt) = 5 := by decide
  rw [e0, e5] at h
  have key : ∀ n : Nat, n ≤ 5 → (Int64.ofInt (n : Int)).toInt32 = nI n := by decide +kernel
  refine ⟨v.toInt.toNat, by omega, ?_⟩
  have e : v = Int64.ofInt ((v.toInt.toNat : Nat) : Int) := by
    rw [Int.toNat_of_nonneg (by omega), Int64.ofInt_toInt]
  have h2 := key v.toInt.toNat (by omega)
  rw [← e] at h2
  exact h2
theorem laL_I {T : Nat} (r : Nat → Int64) (p : Nat) : ∀ (m i w : Nat) (g : St), Inv T g → Inv T (laL r p m i w g).2
  | 0, _, _, _, h => h
  | m + 1, i, w, g, h => by
    rw [laL]
    cases hg : inG (r i)
    · exact laL_I r p m (i + 1) w g h
    · obtain ⟨n, h1, h2⟩ := inG_nat hg
      rw [cond_true, h2]
      exact laL_I r p m (i + 1) (w + 1) _ (h.up6 _ h1)
theorem oLays_I {f : St} (I : Inv 99999 f) (td : Nat → Int32) (x y : Int32) (rb rz : Nat → Int32) (rn : Nat → Nat → Int64) : Inv 99999 (oLays rb rz rn f td x y).2.1 := cond_I (fun _ => cond_I (fun _ => I) (cond_I (fun _ => laL_I _ _ _ _ _ _ I) I)) I
theorem oWall_I {f : St} (I : Inv 99999 f) {n : Nat} (tp : Nat → Int32) (hn : n ≤ 120) : Inv 99999 (oWall f tp n).2 := by
  have h := te_ok tp I hn
  rw [oWall, vwT]
  show Inv 99999 (cond _ _ _)
  cases hb : (teL tp n 120 1 (skS tp n 0) f).1
  · exact I
  · exact h.2 hb
end OI
theorem fdL_len (x : Int32) : ∀ (i : Nat) (tp : Nat → Int32) (n : Nat), (fdL x i tp n).2 = n + i
  | 0, _, _ => rfl
  | i + 1, tp, n => by rw [fdL, fdL_len x i]; omega
theorem oFeed_len {n : Nat} (hn : n ≤ 120) (td tp : Nat → Int32) (x y : Int32) : (oFeed td tp n x y).2.2.2 ≤ 120 := by
  unfold oFeed
  cases inR y 1 4
  · exact hn
  · rw [cond_true]
    cases h : decide (n + y.toNatClampNeg ≤ 120)
    · exact hn
    · show (fdL x y.toNatClampNeg tp n).2 ≤ 120
      rw [fdL_len]
      exact of_decide_eq_true h
theorem oSheet_J {rz : Nat → Int32} (J : InvS rz) (rb : Nat → Int32) (rn : Nat → Nat → Int64) (td : Nat → Int32) (x y z : Int32) : InvS (oSheet rb rz rn td x y z).2.2.1 := by
  unfold oSheet
  cases (inR x 0 3 && (decide (y = 0) || (decide (y = 8) || (decide (y = 16) || decide (y = 64)))))
  · exact J
  · rw [cond_true]
    by_cases h1 : z < 0
    · rw [if_pos h1]; exact J
    · rw [if_neg h1]
      by_cases h2 : 40 < z
      · rw [if_pos h2]; exact J
      · rw [if_neg h2]
        show InvS (upd rz x.toNatClampNeg (szN y z))
        have hs : ∃ n, n ≤ 40 ∧ szN y z = nI n := by
          unfold szN
          split
          · exact ⟨0, by decide, rfl⟩
          · exact inR_upto (m := 40) (by decide) (by rw [inR, decide_eq_false h1]; show (true && !decide ((40 : Int32) < z)) = true; rw [decide_eq_false h2]; rfl)
        obtain ⟨n, hn, e⟩ := hs
        intro s hs4
        have e2 : upd rz x.toNatClampNeg (szN y z) s = if s = x.toNatClampNeg then szN y z else rz s := rfl
        unfold zR
        rw [e2]
        split
        · rw [e, nI_clamp (by omega)]
          exact ⟨rfl, hn⟩
        · exact J s hs4
