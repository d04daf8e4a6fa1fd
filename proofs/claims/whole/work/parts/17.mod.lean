def pairW (E : EE) (x : Nat) (y : Nat) (g : Nat → Int32) (h : Nat → Int32) : va_W := [
  (x, .inl (eA E 0, 106, .inl g)),
  (y, .inl (eA E 0, 106, .inl h))]
def modW (E : EE) (b : Nat → Nat) (mf : Nat → Int32) (hf : Nat → Int32) (wf : Nat → Int32) (ik : Int32) (fd : Nat → Int32) (tch : Int32) (tp : Nat → Int32) (tl : Int32) (tk : Int32) (tb : Int32) (ta : Int32) (tv : Int32) (bad : Int32) (bo : Nat → Int32) (so : Nat → Int32) (ce : Nat → Int64) : va_W := [
  (b 0, .inr (12, [.ref (b 1), .ref (b 2), .ref (b 3), .int ik, .ref (b 4), .int tch, .ref (b 5), .int tl, .int tk, .int tb, .int ta, .int tv, .int bad, .ref (b 6), .ref (b 7), .ref (b 8)])),
  (b 1, .inl (eA E 0, 106, .inl mf)),
  (b 2, .inl (eA E 0, 106, .inl hf)),
  (b 3, .inl (eA E 0, 106, .inl wf)),
  (b 4, .inl (eA E 0, 7, .inl fd)),
  (b 5, .inl (eA E 0, 120, .inl tp)),
  (b 6, .inl (eA E 0, 4, .inl bo)),
  (b 7, .inl (eA E 0, 4, .inl so)),
  (b 8, .inl (eA E 1, 160, .inr (.inl ce)))]
/-- a wall as one row -/
def flat (f : St) : Nat → Int32 := fun j => if j < 4 then f 0 j else if j < 34 then f (1 + (j - 4) % 3) ((j - 4) / 3) else if (j - 34) % 12 = 0 then f 4 ((j - 34) / 12) else if (j - 34) % 12 = 1 then f 5 ((j - 34) / 12) else f 6 (10 * ((j - 34) / 12) + ((j - 34) % 12 - 2))
theorem up2_ap (f : St) (a k : Nat) (v : Int32) (b j : Nat) : up2 f a k v b j = if b = a ∧ j = k then v else f b j := by
  unfold up2
  by_cases h : b = a
  · subst h
    rw [show Nat.beq b b = true from Nat.beq_refl b, cond_true, upd_eq]
    by_cases hj : j = k
    · rw [if_pos hj, if_pos ⟨rfl, hj⟩]
    · rw [if_neg hj, if_neg (fun z => hj z.2)]
  · rw [show Nat.beq b a = false from by
      cases e : Nat.beq b a
      · rfl
      · exact absurd (Nat.eq_of_beq_eq_true e) h, cond_false, if_neg (fun z => h z.1)]
theorem flat_rS (f : St) {s w : Nat} (hs : s < 10) (hw : w < 3) : flat f (4 + 3 * s + w) = f (1 + w) s := by
  unfold flat
  rw [if_neg (by omega), if_pos (by omega), show (4 + 3 * s + w - 4) % 3 = w by omega, show (4 + 3 * s + w - 4) / 3 = s by omega]
theorem flat_rK (f : St) (p : Nat) : flat f (34 + 12 * p) = f 4 p := by
  unfold flat
  rw [if_neg (by omega), if_neg (by omega), if_pos (by omega), show (34 + 12 * p - 34) / 12 = p by omega]
theorem flat_rO (f : St) (p : Nat) : flat f (34 + 12 * p + 1) = f 5 p := by
  unfold flat
  rw [if_neg (by omega), if_neg (by omega), if_neg (by omega), if_pos (by omega), show (34 + 12 * p + 1 - 34) / 12 = p by omega]
theorem flat_rW (f : St) (p : Nat) {s : Nat} (hs : s < 10) : flat f (34 + 12 * p + (2 + s)) = f 6 (10 * p + s) := by
  unfold flat
  rw [if_neg (by omega), if_neg (by omega), if_neg (by omega), if_neg (by omega), show (34 + 12 * p + (2 + s) - 34) / 12 = p by omega, show (34 + 12 * p + (2 + s) - 34) % 12 - 2 = s by omega]
theorem flat_top (f : St) (v : Int32) {j : Nat} (h : j < 4) : upd (flat f) j v = flat (up2 f 0 j v) := by
  funext i
  simp only [upd_eq, flat, up2_ap]
  by_cases e : i = j
  · subst e
    simp [h]
  · rw [if_neg e]
    repeat' split
    all_goals first | rfl | omega
theorem flat_slip (f : St) (v : Int32) {s w : Nat} (hs : s < 10) (hw : w < 3) : upd (flat f) (4 + 3 * s + w) v = flat (up2 f (1 + w) s v) := by
  funext i
  by_cases e : i = 4 + 3 * s + w
  · subst e
    rw [flat_rS _ hs hw, upd_eq, if_pos rfl, up2_ap, if_pos ⟨rfl, rfl⟩]
  · rw [upd_eq, if_neg e]
    simp only [flat, up2_ap]
    repeat' split
    all_goals first | rfl | omega
theorem flat_kind {f : St} {p : Nat} {v : Int32} : upd (flat f) (34 + 12 * p) v = flat (up2 f 4 p v) := by
  funext i
  by_cases e : i = 34 + 12 * p
  · subst e
    rw [flat_rK, upd_eq, if_pos rfl, up2_ap, if_pos ⟨rfl, rfl⟩]
  · rw [upd_eq, if_neg e]
    simp only [flat, up2_ap]
    repeat' split
    all_goals first | rfl | omega
theorem flat_out {f : St} {p : Nat} {v : Int32} : upd (flat f) (34 + 12 * p + 1) v = flat (up2 f 5 p v) := by
  funext i
  by_cases e : i = 34 + 12 * p + 1
  · subst e
    rw [flat_rO, upd_eq, if_pos rfl, up2_ap, if_pos ⟨rfl, rfl⟩]
  · rw [upd_eq, if_neg e]
    simp only [flat, up2_ap]
    repeat' split
    all_goals first | rfl | omega
theorem flat_wish (f : St) (v : Int32) {p s : Nat} (hs : s < 10) : upd (flat f) (34 + 12 * p + 2 + s) v = flat (up2 f 6 (10 * p + s) v) := by
  funext i
  by_cases e : i = 34 + 12 * p + (2 + s)
  · subst e
    rw [flat_rW _ _ hs, upd_eq, if_pos (by omega), up2_ap, if_pos ⟨rfl, rfl⟩]
  · rw [upd_eq, if_neg (by omega)]
    simp only [flat, up2_ap]
    repeat' split
    all_goals first | rfl | omega
/-! findings -/
def fnd (k : Nat) : Int32 := -1000000001 - nI k
theorem fnd_ix {k : Nat} (h : k < 7) : (-1000000001 : Int32) - fnd k = nI k := by
  match k, h with
  | 0, _ => decide
  | 1, _ => decide
  | 2, _ => decide
  | 3, _ => decide
  | 4, _ => decide
  | 5, _ => decide
  | 6, _ => decide
  | k + 7, h => exact absurd h (by omega)
def fdU (fd : Nat → Int32) (k : Nat) : Nat → Int32 := upd fd k (fd k + 1)
def inRL (v : Int64) (lo hi : Int32) : Bool := !decide (v < lo.toInt64) && !decide (hi.toInt64 < v)
theorem i64_lt (x y : Int32) : x.toInt64 < y.toInt64 ↔ x < y := by
  rw [Int64.lt_iff_toInt_lt, Int32.lt_iff_toInt_lt, Int32.toInt_toInt64, Int32.toInt_toInt64]
theorem inRL_i (v lo hi : Int32) : inRL v.toInt64 lo hi = inR v lo hi := by
  unfold inRL inR
  simp only [i64_lt]
theorem lc_lt (x y : Int64) : lg_cmp x y < 0 ↔ x < y := by
  unfold lg_cmp
  split
  · rename_i h
    have : ¬ x < y := by simp only [gt_iff_lt, Int64.lt_iff_toInt_lt] at h ⊢; omega
    simp [this]
  · split
    · rename_i h
      subst h
      simp
    · rename_i h1 h2
      have : x < y := by
        simp only [gt_iff_lt, Int64.lt_iff_toInt_lt, ← Int64.toInt_inj] at h1 h2 ⊢; omega
      simp [this]
theorem lc_gt (x y : Int64) : 0 < lg_cmp x y ↔ y < x := by
  unfold lg_cmp
  split
  · rename_i h
    simp only [gt_iff_lt] at h
    simp [h]
  · rename_i h
    simp only [gt_iff_lt] at h
    split <;> simp [h]
theorem lc_eq (x y : Int64) : lg_cmp x y = 0 ↔ x = y := by
  unfold lg_cmp
  split
  · rename_i h
    have : ¬ x = y := by
      intro e
      subst e
      simp at h
    simp [this]
  · split <;> simp_all
section KL
variable {p : Program} {l : Launch} {e : Env} {R : Room} {s : State} {m : MethodId} {args : Array Value} {below : List Frame} {meth : Method} {c : Code} {H : Heap} {locs : List Loc} {cells slots : Nat} {Q : State → Prop}
variable {cc : ByteArray} {pc : Nat} {ls : Array Slot} {rest : List Value}
theorem k_lc_lt (hx : p.tables.exec = Jvm.exec) (hb : c.code = cc) {x y : Int64} {off : Int} (tgt : Nat) (hdg : decode cc pc = .ok (.ifCond .lt off, 3)) (ht : (pc : Int) + off = (tgt : Int))
    (kt : x < y → W p l e R s m args below meth c H locs cells slots Q (F0 m tgt ls rest)) (kf : ¬ x < y → W p l e R s m args below meth c H locs cells slots Q (F0 m (pc + 3) ls rest)) : W p l e R s m args below meth c H locs cells slots Q (F0 m pc ls (.int (lg_cmp x y) :: rest)) :=
  lv_if_lt hx hb hdg ht (fun h => kt ((lc_lt x y).mp h)) (fun h => kf (fun z => h ((lc_lt x y).mpr z)))
theorem k_lc_gt (hx : p.tables.exec = Jvm.exec) (hb : c.code = cc) {x y : Int64} {off : Int} (tgt : Nat) (hdg : decode cc pc = .ok (.ifCond .gt off, 3)) (ht : (pc : Int) + off = (tgt : Int))
    (kt : y < x → W p l e R s m args below meth c H locs cells slots Q (F0 m tgt ls rest)) (kf : ¬ y < x → W p l e R s m args below meth c H locs cells slots Q (F0 m (pc + 3) ls rest)) : W p l e R s m args below meth c H locs cells slots Q (F0 m pc ls (.int (lg_cmp x y) :: rest)) :=
  lv_if_gt hx hb hdg ht (fun h => kt ((lc_gt x y).mp h)) (fun h => kf (fun z => h ((lc_gt x y).mpr z)))
theorem k_lc_eq (hx : p.tables.exec = Jvm.exec) (hb : c.code = cc) {x y : Int64} {off : Int} (tgt : Nat) (hdg : decode cc pc = .ok (.ifCond .eq off, 3)) (ht : (pc : Int) + off = (tgt : Int))
    (kt : x = y → W p l e R s m args below meth c H locs cells slots Q (F0 m tgt ls rest)) (kf : ¬ x = y → W p l e R s m args below meth c H locs cells slots Q (F0 m (pc + 3) ls rest)) : W p l e R s m args below meth c H locs cells slots Q (F0 m pc ls (.int (lg_cmp x y) :: rest)) :=
  lv_if_eq hx hb hdg ht (fun h => kt ((lc_eq x y).mp h)) (fun h => kf (fun z => h ((lc_eq x y).mpr z)))
theorem k_lc_ne (hx : p.tables.exec = Jvm.exec) (hb : c.code = cc) {x y : Int64} {off : Int} (tgt : Nat) (hdg : decode cc pc = .ok (.ifCond .ne off, 3)) (ht : (pc : Int) + off = (tgt : Int))
    (kt : ¬ x = y → W p l e R s m args below meth c H locs cells slots Q (F0 m tgt ls rest)) (kf : x = y → W p l e R s m args below meth c H locs cells slots Q (F0 m (pc + 3) ls rest)) : W p l e R s m args below meth c H locs cells slots Q (F0 m pc ls (.int (lg_cmp x y) :: rest)) :=
  lv_if_ne hx hb hdg ht (fun h => kt (fun z => h ((lc_eq x y).mpr z))) (fun h => kf ((lc_eq x y).mp h))
theorem k_lc_ge (hx : p.tables.exec = Jvm.exec) (hb : c.code = cc) {x y : Int64} {off : Int} (tgt : Nat) (hdg : decode cc pc = .ok (.ifCond .ge off, 3)) (ht : (pc : Int) + off = (tgt : Int))
    (kt : ¬ x < y → W p l e R s m args below meth c H locs cells slots Q (F0 m tgt ls rest)) (kf : x < y → W p l e R s m args below meth c H locs cells slots Q (F0 m (pc + 3) ls rest)) : W p l e R s m args below meth c H locs cells slots Q (F0 m pc ls (.int (lg_cmp x y) :: rest)) :=
  k_if_ge hx hb tgt hdg ht (fun h => kt (fun z => h ((lc_lt x y).mpr z))) (fun h => kf ((lc_lt x y).mp h))
theorem k_lc_le (hx : p.tables.exec = Jvm.exec) (hb : c.code = cc) {x y : Int64} {off : Int} (tgt : Nat) (hdg : decode cc pc = .ok (.ifCond .le off, 3)) (ht : (pc : Int) + off = (tgt : Int))
    (kt : ¬ y < x → W p l e R s m args below meth c H locs cells slots Q (F0 m tgt ls rest)) (kf : y < x → W p l e R s m args below meth c H locs cells slots Q (F0 m (pc + 3) ls rest)) : W p l e R s m args below meth c H locs cells slots Q (F0 m pc ls (.int (lg_cmp x y) :: rest)) :=
  k_if_le hx hb tgt hdg ht (fun h => kt (fun z => h ((lc_gt x y).mpr z))) (fun h => kf ((lc_gt x y).mp h))
end KL
