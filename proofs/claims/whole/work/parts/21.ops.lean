/-! the calls, as both must answer -/
abbrev R3 : Type := Int32 × St × (Nat → Int32)
def bad3 (k : Nat) (f : St) (td : Nat → Int32) : R3 := (fnd k, f, fdU td k)
def isS (f : St) (x : Int32) : Bool := inR x 0 (f 0 2 - 1)
def isP (f : St) (x : Int32) : Bool := inR x 0 (f 0 3 - 1)
theorem inR_nat {x lo hi : Int32} {n : Nat} (hl : 0 ≤ lo.toInt) (hh : hi.toInt < n) (h : inR x lo hi = true) : ∃ k, k < n ∧ x = nI k ∧ lo.toInt ≤ k ∧ (k : Int) ≤ hi.toInt := by
  simp only [inR, Bool.and_eq_true, Bool.not_eq_true', decide_eq_false_iff_not, Int32.lt_iff_toInt_lt] at h
  obtain ⟨h1, h2⟩ := h
  have h3 : ¬ x < 0 := by
    rw [Int32.lt_iff_toInt_lt, show (0 : Int32).toInt = 0 from by decide]
    omega
  obtain ⟨j, hj, e⟩ := nI_of h3
  have h4 := nI_toInt (n := j) hj
  rw [e, h4] at h1 h2
  exact ⟨j, by omega, e, by omega, by omega⟩
theorem cnt_m1 {x : Int32} {n : Nat} (h : x = nI n) (hn : n ≤ 1000) : (x - 1).toInt = (n : Int) - 1 := by
  rw [h, show (1 : Int32) = nI 1 from rfl]
  exact pk_sub_toInt (by omega) (by decide)
theorem isS_nat {T : Nat} {f : St} (I : Inv T f) {x : Int32} (h : isS f x = true) : ∃ k, k < sl f ∧ x = nI k := by
  have h1 := cnt_m1 I.hS (by have := I.s10; omega)
  obtain ⟨k, h2, h3, -⟩ := inR_nat (lo := 0) (n := sl f) (by decide) (by omega) h
  exact ⟨k, h2, h3⟩
theorem isP_nat {T : Nat} {f : St} (I : Inv T f) {x : Int32} (h : isP f x = true) : ∃ k, k < pe f ∧ x = nI k := by
  have h1 := cnt_m1 I.hP (by have := I.p6; omega)
  obtain ⟨k, h2, h3, -⟩ := inR_nat (lo := 0) (n := pe f) (by decide) (by omega) h
  exact ⟨k, h2, h3⟩
def oMoves (f : St) (td : Nat → Int32) (x : Int32) : R3 := cond (inR x 0 99) (f 0 1, up2 f 0 1 x, td) (bad3 0 f td)
def oSlip (f : St) (td : Nat → Int32) (x : Int32) : R3 := cond (inR x (-1) 5) (cond (decide (sl f < 10)) (nI (sl f), addS f x 0, td) (bad3 1 f td)) (bad3 0 f td)
def oSlipOf (f : St) (td : Nat → Int32) (x y : Int32) : R3 := cond (isS f x) (if y = 0 then (f 1 x.toNatClampNeg, f, td) else if y = 1 then (f 2 x.toNatClampNeg, f, td) else if y = 2 then (f 3 x.toNatClampNeg, f, td) else if y = 3 then (happyF f x.toNatClampNeg, f, td) else if y = 4 then (wantF f x.toNatClampNeg, f, td) else bad3 0 f td) (bad3 0 f td)
def oStick (f : St) (td : Nat → Int32) (x y z : Int32) : R3 := cond (isS f x) (if y = 0 then cond (inR z (-1) 5) (f 1 x.toNatClampNeg, up2 f 1 x.toNatClampNeg z, td) (bad3 0 f td) else if y = 1 then cond (inR z 0 999) (f 2 x.toNatClampNeg, up2 f 2 x.toNatClampNeg z, td) (bad3 0 f td) else if y = 2 then cond (inR z 0 1) (f 3 x.toNatClampNeg, up2 f 3 x.toNatClampNeg z, td) (bad3 0 f td) else bad3 0 f td) (bad3 0 f td)
def oGroup (f : St) (td : Nat → Int32) (x : Int32) : R3 := cond (inR x (-1) 5) (inF f x, f, td) (bad3 0 f td)
def oNow (f : St) (td : Nat → Int32) (x : Int32) : R3 := if x = 0 then (f 0 0, f, td) else if x = 1 then (f 0 1, f, td) else if x = 2 then (whoF f, f, td) else if x = 3 then (groupsF f, f, td) else if x = 4 then (fixedF f, f, td) else if x = 5 then (allF f, f, td) else bad3 0 f td
def oPerson (f : St) (td : Nat → Int32) (x : Int32) : R3 := cond (inR x 0 5) (cond (decide (pe f < 6)) (nI (pe f), addP f x, td) (bad3 1 f td)) (bad3 0 f td)
def oOf (f : St) (td : Nat → Int32) (x y : Int32) : R3 := cond (isP f x) (if y = 0 then (f 4 x.toNatClampNeg, f, td) else if y = 1 then (f 5 x.toNatClampNeg, f, td) else if y = 2 then (wayF f x.toNatClampNeg, f, td) else if y = 3 then (pickF f x.toNatClampNeg, f, td) else if y = 4 then (nI (turnS (kn f x.toNatClampNeg)), f, td) else bad3 0 f td) (bad3 0 f td)
def oWants (f : St) (td : Nat → Int32) (x y z : Int32) : R3 := cond (isP f x && (inR y 0 9 && inR z 0 5)) (f 6 (10 * x.toNatClampNeg + y.toNatClampNeg), up2 f 6 (10 * x.toNatClampNeg + y.toNatClampNeg) z, td) (bad3 0 f td)
def oOut (f : St) (td : Nat → Int32) (x y : Int32) : R3 := cond (isP f x && inR y 0 1) (f 5 x.toNatClampNeg, up2 f 5 x.toNatClampNeg y, td) (bad3 0 f td)
def oTurn (f : St) (td : Nat → Int32) (x y : Int32) : R3 := cond (isP f x && inR y 0 5) (f 4 x.toNatClampNeg, up2 f 4 x.toNatClampNeg y, td) (bad3 0 f td)
def oAs (f : St) (td : Nat → Int32) (x y : Int32) : R3 := cond (isP f x && inR y 0 5) (cond (isKS (kn f x.toNatClampNeg) y) (bcF (wayF f x.toNatClampNeg), f, td) (bad3 2 f td)) (bad3 0 f td)
def oAlike (f : St) (td : Nat → Int32) (x y : Int32) : R3 := cond (isP f x && (isP f y && !decide (x = y))) (nI (sameF f x.toNatClampNeg y.toNatClampNeg), f, td) (bad3 0 f td)
def oMinutes (f : St) (td : Nat → Int32) (x : Int32) : R3 := cond (inR x 1 100) (cond (decide (mn f + x.toNatClampNeg ≤ 99999)) (allF (goN x.toNatClampNeg f), goN x.toNatClampNeg f, td) (bad3 4 f td)) (bad3 0 f td)
def oOn (f : St) (td : Nat → Int32) (x y z : Int32) : R3 := cond (isS f x && (inR y 0 200 && inR z 0 2)) (goN y.toNatClampNeg f (1 + z.toNatClampNeg) x.toNatClampNeg, f, td) (bad3 0 f td)
def oWay (f : St) (td : Nat → Int32) (x y : Int32) : R3 := cond (isP f x && inR y 0 200) (bcF (wayF (goN y.toNatClampNeg f) x.toNatClampNeg), f, td) (bad3 0 f td)
/-! the best of several, as the class gathers it -/
def bsL (ok : Nat → Bool) (c : Nat → Int32) (v : Nat → Int32) : Nat → Nat → Int32 → Int32 → Int32 × Int32
  | 0, _, one, wo => (one, wo)
  | n + 1, i, one, wo => cond (ok i) (bsL ok c v n (i + 1) (bestO one wo (v i) (c i)).1 (bestO one wo (v i) (c i)).2) (bsL ok c v n (i + 1) one wo)
/-! and as the model does: b the best, w its worth -/
def bmL (ok : Nat → Bool) (c : Nat → Int32) (v : Nat → Int32) : Nat → Nat → Int32 → Int32 → Int32 × Int32
  | 0, _, b, w => (b, w)
  | n + 1, i, b, w => cond (ok i && decide (w < c i)) (bmL ok c v n (i + 1) (v i) (c i)) (bmL ok c v n (i + 1) b w)
theorem bm_bs (ok : Nat → Bool) (c v : Nat → Int32) : ∀ (n i : Nat) (one wo b w : Int32), (∀ j, i ≤ j → j < i + n → ¬ v j = -1 ∧ -1 < c j) → ((one = -1 ∧ b = -1 ∧ w = -1) ∨ (¬ one = -1 ∧ b = one ∧ w = wo)) → (bmL ok c v n i b w).1 = (bsL ok c v n i one wo).1
  | 0, i, one, wo, b, w, _, h => by
    rcases h with ⟨h1, h2, -⟩ | ⟨-, h2, -⟩
    · rw [bmL, bsL, h1, h2]
    · rw [bmL, bsL, h2]
  | n + 1, i, one, wo, b, w, hc, h => by
    have h0 := hc i (Nat.le_refl _) (by omega)
    have hc' : ∀ j, i + 1 ≤ j → j < i + 1 + n → ¬ v j = -1 ∧ -1 < c j := fun j a b => hc j (by omega) (by omega)
    rw [bmL, bsL]
    cases hok : ok i
    · simp only [Bool.false_and, cond_false]
      exact bm_bs ok c v n (i + 1) one wo b w hc' h
    · simp only [Bool.true_and, cond_true]
      rcases h with ⟨h1, h2, h3⟩ | ⟨h1, h2, h3⟩
      · rw [h3, decide_eq_true h0.2, cond_true, bestO, if_pos (Or.inl h1)]
        exact bm_bs ok c v n (i + 1) _ _ _ _ hc' (Or.inr ⟨h0.1, rfl, rfl⟩)
      · rw [h3]
        by_cases hw : wo < c i
        · rw [decide_eq_true hw, cond_true, bestO, if_pos (Or.inr hw)]
          exact bm_bs ok c v n (i + 1) _ _ _ _ hc' (Or.inr ⟨h0.1, rfl, rfl⟩)
        · rw [decide_eq_false hw, cond_false, bestO, if_neg (fun z => z.elim h1 hw)]
          exact bm_bs ok c v n (i + 1) _ _ _ _ hc' (Or.inr ⟨h1, h2, rfl⟩)
/-- where the first is always taken, the model's beginning doesn't matter -/
theorem bm_first (c v : Nat → Int32) (n : Nat) (b b' : Int32) (h : -1 < c 0) : bmL (fun _ => true) c v (n + 1) 0 b (-1) = bmL (fun _ => true) c v (n + 1) 0 b' (-1) := by
  rw [bmL, bmL, decide_eq_true h]
  rfl
theorem bcF_nat : ∀ v, v < 1024 → ∃ w : Nat, w < 32 ∧ bcF (nI v) = nI w := by
  have h : ∀ v, v < 1024 → (bcF (nI v)).toNatClampNeg < 32 ∧ bcF (nI v) = nI (bcF (nI v)).toNatClampNeg := by decide +kernel
  intro v hv
  exact ⟨_, (h v hv).1, (h v hv).2⟩
theorem nI_gt_m1 {j : Nat} (h : j < 2147483648) : (-1 : Int32) < nI j := by
  rw [Int32.lt_iff_toInt_lt, nI_toInt h]
  have : (-1 : Int32).toInt = -1 := by decide
  omega
theorem bc_way {T : Nat} {f : St} (I : Inv T f) (p : Nat) : -1 < bcF (wayF f p) := by
  obtain ⟨v, hv, e⟩ := wayF_nat I p
  obtain ⟨w, hw, e2⟩ := bcF_nat v hv
  rw [e, e2]
  exact nI_gt_m1 (by omega)
theorem bc_in {T : Nat} {f : St} (I : Inv T f) (g : Int32) : -1 < bcF (inF f g) := by
  obtain ⟨v, hv, e⟩ := inF_nat I g
  obtain ⟨w, hw, e2⟩ := bcF_nat v hv
  rw [e, e2]
  exact nI_gt_m1 (by omega)
def upL2 (f : Nat → Nat → Int64) (a k : Nat) (v : Int64) : Nat → Nat → Int64 := fun b => cond (Nat.beq b a) (vp_updL (f b) k v) (f b)
def setRL (f : Nat → Nat → Int64) (b : Nat) (r : Nat → Int64) : Nat → Nat → Int64 := fun c => cond (Nat.beq c b) r (f c)
def clsW (E : EE) (a : Nat → Nat) (f : St) (g : St) (h : St) (ik : Int32) (one : Int32) (wo : Int32) (tp : Nat → Int32) (tl : Int32) (tk : Int32) (ts : Int32) (te : Int32) (tn : Int32) (rb : Nat → Int32) (rz : Nat → Int32) (rn : Nat → Nat → Int64) (td : Nat → Int32) : va_W := [
  (a 0, .inr (11, [.ref (a 1), .ref (a 8), .ref (a 15), .int ik, .ref (a 22), .ref (a 23), .ref (a 25), .ref (a 26), .ref (a 35)])),
  (a 1, .inr (6, [.ref (a 36), .int (f 0 0), .int (f 0 1), .int (f 0 2), .int (f 0 3), .ref (a 2), .ref (a 3), .ref (a 4), .ref (a 5), .ref (a 6), .ref (a 7)])),
  (a 2, .inl (eA E 0, 10, .inl (f 1))),
  (a 3, .inl (eA E 0, 10, .inl (f 2))),
  (a 4, .inl (eA E 0, 10, .inl (f 3))),
  (a 5, .inl (eA E 0, 6, .inl (f 4))),
  (a 6, .inl (eA E 0, 6, .inl (f 5))),
  (a 7, .inl (eA E 0, 60, .inl (f 6))),
  (a 8, .inr (6, [.ref (a 36), .int (g 0 0), .int (g 0 1), .int (g 0 2), .int (g 0 3), .ref (a 9), .ref (a 10), .ref (a 11), .ref (a 12), .ref (a 13), .ref (a 14)])),
  (a 9, .inl (eA E 0, 10, .inl (g 1))),
  (a 10, .inl (eA E 0, 10, .inl (g 2))),
  (a 11, .inl (eA E 0, 10, .inl (g 3))),
  (a 12, .inl (eA E 0, 6, .inl (g 4))),
  (a 13, .inl (eA E 0, 6, .inl (g 5))),
  (a 14, .inl (eA E 0, 60, .inl (g 6))),
  (a 15, .inr (6, [.ref (a 36), .int (h 0 0), .int (h 0 1), .int (h 0 2), .int (h 0 3), .ref (a 16), .ref (a 17), .ref (a 18), .ref (a 19), .ref (a 20), .ref (a 21)])),
  (a 16, .inl (eA E 0, 10, .inl (h 1))),
  (a 17, .inl (eA E 0, 10, .inl (h 2))),
  (a 18, .inl (eA E 0, 10, .inl (h 3))),
  (a 19, .inl (eA E 0, 6, .inl (h 4))),
  (a 20, .inl (eA E 0, 6, .inl (h 5))),
  (a 21, .inl (eA E 0, 60, .inl (h 6))),
  (a 22, .inr (0, [.int one, .int wo])),
  (a 23, .inr (9, [.ref (a 24), .int tl, .int tk, .int ts, .int te, .int tn])),
  (a 24, .inl (eA E 0, 120, .inl tp)),
  (a 25, .inr (10, [.ref (a 23)])),
  (a 26, .inl (eA E 3, 4, .inr (.inr (.inr (.inr (fun j => some (a (27 + 2 * j)))))))),
  (a 27, .inr (7, [.int (rb 0), .int (rz 0), .ref (a 28)])),
  (a 28, .inl (eA E 1, 40, .inr (.inl (rn 0)))),
  (a 29, .inr (7, [.int (rb 1), .int (rz 1), .ref (a 30)])),
  (a 30, .inl (eA E 1, 40, .inr (.inl (rn 1)))),
  (a 31, .inr (7, [.int (rb 2), .int (rz 2), .ref (a 32)])),
  (a 32, .inl (eA E 1, 40, .inr (.inl (rn 2)))),
  (a 33, .inr (7, [.int (rb 3), .int (rz 3), .ref (a 34)])),
  (a 34, .inl (eA E 1, 40, .inr (.inl (rn 3)))),
  (a 35, .inl (eA E 0, 7, .inl td)),
  (a 36, .inl (eA E 2, 6, .inr (.inr (.inr (.inr (fun j => some (a (36 + (1 + j))))))))),
  (a 37, .inr (4, [])),
  (a 38, .inr (2, [])),
  (a 39, .inr (8, [])),
  (a 40, .inr (1, [])),
  (a 41, .inr (3, [])),
  (a 42, .inr (5, []))]
