/-! the model's tokens: whether one is passed, and the next; a number: whether it is bad, and the next -/
def psB (tp : Nat → Int32) (n : Nat) (bd : Bool) (s w : Nat) : Bool := !bd && decide (mkS tp n s = w)
def psS (tp : Nat → Int32) (n : Nat) (bd : Bool) (s w : Nat) : Nat := cond (psB tp n bd s w) (skS tp n (enS tp n s)) s
def nuB (tp : Nat → Int32) (n : Nat) (bd : Bool) (s m : Nat) : Bool := bd || !numU tp n s m
def nuS (tp : Nat → Int32) (n : Nat) (bd : Bool) (s m : Nat) : Nat := cond (nuB tp n bd s m) s (skS tp n (enS tp n s))
theorem mkS_lt (tp : Nat → Int32) (n s : Nat) : mkS tp n s < 24 := by
  have := wd_23 (tp := tp) (s := s) (q := runF isLet tp n s - s)
  unfold mkS
  repeat' split
  all_goals omega
theorem psS_le (tp : Nat → Int32) {n s w : Nat} {bd : Bool} (h : s ≤ n) : psS tp n bd s w ≤ n := by
  unfold psS
  cases psB tp n bd s w
  · exact h
  · exact nx_le tp h
theorem nuS_le (tp : Nat → Int32) {n s m : Nat} {bd : Bool} (h : s ≤ n) : nuS tp n bd s m ≤ n := by
  unfold nuS
  cases nuB tp n bd s m
  · exact nx_le tp h
  · exact h
theorem psS_no {tp : Nat → Int32} {n s w : Nat} {bd : Bool} (h : psB tp n bd s w = false) : psS tp n bd s w = s := by rw [psS, h]; rfl
theorem ps_yes {tp : Nat → Int32} {n s w : Nat} {bd : Bool} (h : psB tp n bd s w = true) : bd = false ∧ mkS tp n s = w := by
  unfold psB at h
  rw [Bool.and_eq_true, Bool.not_eq_true', decide_eq_true_eq] at h
  exact h
theorem ps_not {tp : Nat → Int32} {n s w : Nat} {bd : Bool} (hb : bd = false) (h : psB tp n bd s w = false) : ¬ mkS tp n s = w := by
  rw [psB, hb, Bool.not_false, Bool.true_and, decide_eq_false_iff_not] at h
  exact h
theorem numL_le (tp : Nat → Int32) (n : Nat) : ∀ (k i v : Nat), v ≤ 9999 → numL tp n k i v ≤ 9999
  | 0, _, _, h => h
  | k + 1, i, v, h => by
    rw [numL]
    cases hd : isDig (tp i)
    · exact h
    · rw [cond_true]
      refine numL_le tp n k (i + 1) _ ?_
      have := dig_le hd
      unfold numA
      split <;> omega
theorem numF_le (tp : Nat → Int32) (n s : Nat) : numF tp n s ≤ 9999 := numL_le tp n _ _ _ (by decide)
theorem num_not {tp : Nat → Int32} {n s m : Nat} (h : ¬ mkS tp n s = 20) : numU tp n s m = false := by
  rw [numU, decide_eq_false (fun e => h (mk_num.mpr e))]
  rfl
theorem num_val {tp : Nat → Int32} {n s m : Nat} (h : mkS tp n s = 20) (hm : m < 1000) : inR (tvS tp n s) 0 (nI m) = numU tp n s m := by
  have hk := mk_num.mp h
  have hl := numF_le tp n s
  rw [tv_num hk, numU, decide_eq_true hk, Bool.true_and, inR, Bool.eq_iff_iff]
  simp only [Bool.and_eq_true, Bool.not_eq_true', decide_eq_false_iff_not, decide_eq_true_eq, Int32.lt_iff_toInt_lt]
  rw [nI_toInt (by omega), nI_toInt (by omega), show ((0 : Int32).toInt) = 0 from by decide]
  omega
/-! its items: whether they are bad, the token that they end before, the wall -/
def imFix (tp : Nat → Int32) (n : Nat) (f : St) (g : Int32) (bd : Bool) (s : Nat) : RI := cond bd (true, psS tp n bd s 8, f) (false, psS tp n bd s 8, addS f g (b2i (psB tp n bd s 8)))
def imSlip (tp : Nat → Int32) (n : Nat) (f : St) (s : Nat) : RI := cond (decide (sl f = 10)) (true, s, f) (cond (psB tp n false (skS tp n (enS tp n s)) 7) (imFix tp n f (-1) false (psS tp n false (skS tp n (enS tp n s)) 7)) (imFix tp n f (tvS tp n (psS tp n false (skS tp n (enS tp n s)) 7)) (nuB tp n false (psS tp n false (skS tp n (enS tp n s)) 7) 5) (nuS tp n false (psS tp n false (skS tp n (enS tp n s)) 7) 5)))
def wiL (tp : Nat → Int32) (n p : Nat) (td : Bool) : Nat → Nat → Bool → Nat → St → RI
  | 0, _, bd, s, f => (bd, s, f)
  | m + 1, i, bd, s, f => cond td (cond bd (bd, s, f) (cond (decide (i = 0) || decide (mkS tp n s = 20)) (wiL tp n p td m (i + 1) (nuB tp n bd s 5) (nuS tp n bd s 5) (up2 f 6 (10 * p + i) (tvS tp n s))) (bd, s, f))) (bd, s, f)
def imPerson (tp : Nat → Int32) (n : Nat) (f : St) (s : Nat) : RI := cond (decide (pe f = 6)) (true, s, f) (wiL tp n (pe f) (psB tp n false (skS tp n (enS tp n s)) 9) 5 0 false (psS tp n false (skS tp n (enS tp n s)) 9) (addP f (nI (mkS tp n s))))
def imAny (tp : Nat → Int32) (n : Nat) (f : St) (s : Nat) : RI := cond (decide (mkS tp n s < 6)) (imPerson tp n f s) (cond (decide (mkS tp n s = 6)) (imSlip tp n f s) (cond (psB tp n false s 10) (nuB tp n false (psS tp n false s 10) 99, nuS tp n false (psS tp n false s 10) 99, up2 f 0 1 (tvS tp n (psS tp n false s 10))) (true, psS tp n false s 10, f)))
/-! both sides' items -/
def relI (tp : Nat → Int32) (n : Nat) (r q : RI) : Prop := q.2.1 = r.2.1 ∧ (q.1 = false → r = (true, q.2.1, q.2.2)) ∧ (q.1 = true → r.1 = false ∨ kdS tp n r.2.1 = 2)
theorem relI.bad {tp : Nat → Int32} {n s : Nat} {f g : St} : relI tp n (false, s, f) (true, s, g) := ⟨rfl, fun h => absurd (show true = false from h) (by decide), fun _ => Or.inl rfl⟩
theorem relI.good {tp : Nat → Int32} {n s : Nat} {f : St} : relI tp n (true, s, f) (false, s, f) := ⟨rfl, fun _ => rfl, fun h => absurd (show false = true from h) (by decide)⟩
theorem ps_wd {tp : Nat → Int32} {n s i : Nat} (hi : i < 11) : psB tp n false s i = isWd tp (kdS tp n s) s (enS tp n s) i := by
  rw [psB, Bool.not_false, Bool.true_and, Bool.eq_iff_iff, decide_eq_true_eq]
  exact mk_word hi
theorem wd_num {tp : Nat → Int32} {n s i m : Nat} (h : isWd tp (kdS tp n s) s (enS tp n s) i = true) : numU tp n s m = false := by
  unfold isWd at h
  rw [Bool.and_eq_true, decide_eq_true_eq] at h
  rw [numU, h.1]
  rfl
theorem nu_no (tp : Nat → Int32) (n s m : Nat) : nuB tp n false s m = !numU tp n s m := by rw [nuB, Bool.false_or]
theorem num_yes {tp : Nat → Int32} {n s m : Nat} (h : numU tp n s m = true) : kdS tp n s = 2 ∧ tvS tp n s = nI (numF tp n s) := by
  unfold numU at h
  rw [Bool.and_eq_true, decide_eq_true_eq] at h
  exact ⟨h.1, tv_num h.1⟩
theorem im_fix (tp : Nat → Int32) (n : Nat) (f : St) (g : Int32) (s : Nat) : relI tp n (itFix tp n f g s) (imFix tp n f g false s) := by
  rw [itFix, imFix, cond_false, psS, ps_wd (show 8 < 11 by decide)]
  cases isWd tp (kdS tp n s) s (enS tp n s) 8
  · exact relI.good
  · exact relI.good
theorem im_slip {tp : Nat → Int32} {n s : Nat} {f : St} (h10 : sl f ≤ 10) : relI tp n (itSlip tp n f s) (imSlip tp n f s) := by
  rw [itSlip, imSlip]
  by_cases h : sl f = 10
  · rw [decide_eq_true h, decide_eq_false (show ¬ sl f < 10 by omega)]
    exact relI.bad
  · rw [decide_eq_false h, decide_eq_true (show sl f < 10 by omega), cond_true, cond_false, psS, ps_wd (show 7 < 11 by decide)]
    cases h7 : isWd tp (kdS tp n (skS tp n (enS tp n s))) (skS tp n (enS tp n s)) (enS tp n (skS tp n (enS tp n s))) 7
    · rw [cond_false, cond_false, cond_false, nuS, nu_no]
      cases hn : numU tp n (skS tp n (enS tp n s)) 5
      · rw [Bool.not_false, cond_true, cond_false, imFix, cond_true]
        exact relI.bad
      · rw [Bool.not_true, cond_false, cond_true, (num_yes hn).2]
        exact im_fix _ _ _ _ _
    · rw [cond_true, cond_true, cond_true, wd_num h7, cond_false]
      exact im_fix _ _ _ _ _
theorem wm_bad (tp : Nat → Int32) (n p : Nat) (td : Bool) (i s : Nat) (f : St) : ∀ m, wiL tp n p td m i true s f = (true, s, f)
  | 0 => rfl
  | m + 1 => by rw [wiL]; cases td <;> rfl
theorem wn_rel (tp : Nat → Int32) (n p : Nat) : ∀ (m i s : Nat) (f : St), 0 < i + m → relI tp n (decide (0 < (wnL tp n p m i s f).1), (wnL tp n p m i s f).2.1, (wnL tp n p m i s f).2.2) (wiL tp n p true m i false s f)
  | 0, i, s, f, h => by
    rw [wnL, wiL]
    rw [decide_eq_true (show 0 < i by omega)]
    exact relI.good
  | m + 1, i, s, f, h => by
    rw [wnL, wiL, cond_true, cond_false, nuS, nu_no]
    cases hn : numU tp n s 5
    · rw [cond_false, Bool.not_false, cond_true, wm_bad]
      by_cases hi : i = 0
      · rw [decide_eq_true hi, Bool.true_or, cond_true, decide_eq_false (show ¬ 0 < i by omega)]
        exact relI.bad
      · rw [decide_eq_false hi, Bool.false_or, decide_eq_true (show 0 < i by omega)]
        by_cases hk : mkS tp n s = 20
        · rw [decide_eq_true hk, cond_true]
          exact ⟨rfl, fun z => absurd (show true = false from z) (by decide), fun _ => Or.inr (mk_num.mp hk)⟩
        · rw [decide_eq_false hk, cond_false]
          exact relI.good
    · rw [cond_true, Bool.not_true, cond_false, decide_eq_true (mk_num.mpr (num_yes hn).1), Bool.or_true, cond_true, (num_yes hn).2]
      exact wn_rel tp n p m (i + 1) _ _ (by omega)
theorem wm_no (tp : Nat → Int32) (n p : Nat) (s : Nat) (f : St) : ∀ m, wiL tp n p false m 0 false s f = (false, s, f)
  | 0 => rfl
  | m + 1 => rfl
theorem im_person {tp : Nat → Int32} {n s : Nat} {f : St} (h6 : pe f ≤ 6) : relI tp n (itPerson tp n f s (nI (mkS tp n s))) (imPerson tp n f s) := by
  rw [itPerson, imPerson]
  by_cases h : pe f = 6
  · rw [decide_eq_true h, decide_eq_false (show ¬ pe f < 6 by omega)]
    exact relI.bad
  · rw [decide_eq_false h, decide_eq_true (show pe f < 6 by omega), cond_true, cond_false, psS, ps_wd (show 9 < 11 by decide)]
    cases isWd tp (kdS tp n (skS tp n (enS tp n s))) (skS tp n (enS tp n s)) (enS tp n (skS tp n (enS tp n s))) 9
    · rw [cond_false, cond_false, wm_no]
      exact relI.good
    · rw [cond_true, cond_true]
      exact wn_rel tp n _ 5 0 _ _ (by decide)
theorem wd_not {tp : Nat → Int32} {n s i : Nat} (hi : i < 11) (h : ¬ mkS tp n s = i) : isWd tp (kdS tp n s) s (enS tp n s) i = false := by
  rw [← ps_wd hi, psB, decide_eq_false h]
  rfl
theorem wd_is {tp : Nat → Int32} {n s i : Nat} (hi : i < 11) (h : mkS tp n s = i) : isWd tp (kdS tp n s) s (enS tp n s) i = true := (mk_word hi).mp h
theorem kn_mk {tp : Nat → Int32} {n s : Nat} : knS tp n s = if mkS tp n s < 6 then nI (mkS tp n s) else -1 := by
  rw [knS, ← ps_wd (show 0 < 11 by decide), ← ps_wd (show 1 < 11 by decide), ← ps_wd (show 2 < 11 by decide), ← ps_wd (show 3 < 11 by decide), ← ps_wd (show 4 < 11 by decide), ← ps_wd (show 5 < 11 by decide)]
  unfold psB
  generalize mkS tp n s = k
  by_cases h : k < 6
  · rw [if_pos h]
    rcases (show k = 0 ∨ k = 1 ∨ k = 2 ∨ k = 3 ∨ k = 4 ∨ k = 5 by omega) with rfl | rfl | rfl | rfl | rfl | rfl <;> rfl
  · rw [if_neg h, decide_eq_false (show ¬ k = 0 by omega), decide_eq_false (show ¬ k = 1 by omega), decide_eq_false (show ¬ k = 2 by omega), decide_eq_false (show ¬ k = 3 by omega), decide_eq_false (show ¬ k = 4 by omega), decide_eq_false (show ¬ k = 5 by omega)]
    rfl
theorem im_any {T n s : Nat} {f : St} (tp : Nat → Int32) (I : Inv T f) : relI tp n (itAny tp n f s) (imAny tp n f s) := by
  rw [itAny, imAny, kn_mk]
  by_cases h : mkS tp n s < 6
  · rw [decide_eq_true h, if_pos h, cond_true, wd_not (show 6 < 11 by decide) (by omega), wd_not (show 10 < 11 by decide) (by omega), cond_false, cond_false, decide_eq_false (nI_ne_m1 (by omega)), cond_false]
    exact im_person I.p6
  · rw [decide_eq_false h, if_neg h, cond_false, decide_eq_true rfl, cond_true]
    by_cases h6 : mkS tp n s = 6
    · rw [decide_eq_true h6, wd_is (show 6 < 11 by decide) h6, cond_true, cond_true]
      exact im_slip I.s10
    · rw [decide_eq_false h6, wd_not (show 6 < 11 by decide) h6, cond_false, cond_false, psS, ps_wd (show 10 < 11 by decide)]
      cases isWd tp (kdS tp n s) s (enS tp n s) 10
      · rw [cond_false, cond_false, cond_false]
        exact relI.bad
      · rw [cond_true, cond_true, cond_true, itMoves, nuS, nu_no]
        cases hn : numU tp n (skS tp n (enS tp n s)) 99
        · exact relI.bad
        · rw [cond_true, Bool.not_true, cond_false, (num_yes hn).2]
          exact relI.good
theorem imAny_ok {T n s : Nat} {f : St} (tp : Nat → Int32) (I : Inv T f) (hs : s ≤ n) : s ≤ (imAny tp n f s).2.1 ∧ (imAny tp n f s).2.1 ≤ n ∧ ((imAny tp n f s).1 = false → Inv T (imAny tp n f s).2.2) := by
  have h := im_any (n := n) (s := s) tp I
  have hok := itAny_ok tp I hs
  obtain ⟨h1, h2, -⟩ := h
  rw [h1]
  refine ⟨hok.1, hok.2.1, fun z => ?_⟩
  have e := h2 z
  rw [e] at hok
  exact hok.2.2 rfl
/-- behind an item both come to the same -/
theorem af_rel {tp : Nat → Int32} {n : Nat} {r q : RI} (h : relI tp n r q) (k : Nat → St → RI) (i : Nat) (f : St) : vwT (afK tp n k i r) f = vwT (afK tp n k i (!q.1, q.2.1, q.2.2)) f := by
  obtain ⟨h1, h2, h3⟩ := h
  cases hq : q.1
  · rw [h2 hq]
    rfl
  · have e2 : vwT (afK tp n k i (!true, q.2.1, q.2.2)) f = (-1 - nI q.2.1, f) := rfl
    rw [e2, h1, afK]
    rcases h3 hq with h | h
    · rw [h]
      rfl
    · cases r.1
      · rfl
      · rw [h]
        rfl
theorem te_first {T n : Nat} {f : St} (tp : Nat → Int32) (I : Inv T f) (hn : n ≤ 120) : vwT (afK tp n (teL tp n 119 (1 + 1)) 1 (!(imAny tp n f (skS tp n 0)).1, (imAny tp n f (skS tp n 0)).2.1, (imAny tp n f (skS tp n 0)).2.2)) f = oWall f tp n := by
  rw [← af_rel (im_any tp I), oWall, teL]
theorem kd_end {tp : Nat → Int32} {n s : Nat} (h : n ≤ s) : kdS tp n s = 0 := if_pos h
theorem itAny_end {tp : Nat → Int32} {n s : Nat} {f : St} (h : n ≤ s) : itAny tp n f s = (false, s, f) := by
  have hw : ∀ i, isWd tp (kdS tp n s) s (enS tp n s) i = false := fun i => by rw [isWd, kd_end h]; rfl
  rw [itAny, knS, hw, hw, hw, hw, hw, hw, hw, hw]
  rfl
theorem sign_lt {tp : Nat → Int32} {n s : Nat} (h : mkS tp n s = 21) : s < n := by
  have := mk_sign.mp h
  rcases Nat.lt_or_ge s n with h1 | h1
  · exact h1
  · rw [kd_end h1] at this
    exact absurd this (by decide)
theorem sign_nx {tp : Nat → Int32} {n s : Nat} (h : mkS tp n s = 21) : s + 1 ≤ psS tp n false s 21 := by
  rw [psS, psB, decide_eq_true h]
  show s + 1 ≤ skS tp n (enS tp n s)
  have h1 := mk_sign.mp h
  refine Nat.le_trans ?_ (skS_ge tp n _)
  unfold kdS at h1
  unfold enS
  by_cases a : n ≤ s
  · rw [if_pos a] at h1; omega
  · rw [if_neg a] at h1 ⊢
    by_cases b : isLet (tp s) = true
    · rw [if_pos b] at h1; omega
    · rw [if_neg b] at h1 ⊢
      by_cases c : isDig (tp s) = true
      · rw [if_pos c] at h1; omega
      · rw [if_neg c]
        exact Nat.le_refl _
theorem te_step {T n s m i : Nat} {f f3 : St} (tp : Nat → Int32) (I : Inv T f3) (hs : s ≤ n) (hm : n ≤ s + m + 1) (h : mkS tp n s = 21) : vwT (afK tp n (teL tp n (m - 1) (i + 1 + 1)) (i + 1) (!(imAny tp n f3 (psS tp n false s 21)).1, (imAny tp n f3 (psS tp n false s 21)).2.1, (imAny tp n f3 (psS tp n false s 21)).2.2)) f = vwT (afK tp n (teL tp n m (i + 1)) i (!false, s, f3)) f := by
  have h1 := mk_sign.mp h
  have h2 := sign_nx h
  have e : psS tp n false s 21 = skS tp n (enS tp n s) := by rw [psS, psB, decide_eq_true h]; rfl
  rw [← af_rel (im_any tp I), e]
  have e3 : afK tp n (teL tp n m (i + 1)) i (!false, s, f3) = teL tp n m (i + 1) (skS tp n (enS tp n s)) f3 := by
    rw [afK]
    show cond (decide (kdS tp n s = 0)) _ _ = _
    rw [h1]
    rfl
  rw [e3]
  cases m with
  | zero =>
    rw [e] at h2
    rw [itAny_end (by omega), teL]
    rfl
  | succ m => rw [teL, Nat.add_sub_cancel]
theorem wl_yes {tp : Nat → Int32} {n s i : Nat} {f f3 : St} {k : Nat → St → RI} {bd : Bool} (hb : bd = false) (h : mkS tp n s = 22) : vwT (afK tp n k i (!bd, s, f3)) f = (nI i, f3) := by
  rw [hb, afK]
  show vwT (cond (decide (kdS tp n s = 0)) _ _) f = _
  rw [mk_end.mp h]
  rfl
theorem wl_no {tp : Nat → Int32} {n s i : Nat} {f f3 : St} {k : Nat → St → RI} {bd : Bool} (h : bd = true ∨ (¬ mkS tp n s = 21 ∧ ¬ mkS tp n s = 22)) : vwT (afK tp n k i (!bd, s, f3)) f = (-1 - nI s, f) := by
  rcases h with h | ⟨h1, h2⟩
  · rw [h]
    rfl
  · cases bd
    · rw [afK]
      show vwT (cond (decide (kdS tp n s = 0)) _ (cond (decide (kdS tp n s = 3)) _ _)) f = _
      rw [decide_eq_false (fun e => h2 (mk_end.mpr e)), decide_eq_false (fun e => h1 (mk_sign.mpr e))]
      rfl
    · rfl
