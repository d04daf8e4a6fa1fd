theorem Inv.adS {T : Nat} {f : St} (I : Inv T f) {g x : Int32} (hg : g = -1 ∨ ∃ v, v ≤ 5 ∧ g = nI v) (hx : x = 0 ∨ x = 1) (h : sl f < 10) : Inv T (addS f g x) := by
  have es : sl (addS f g x) = sl f + 1 := nI_clamp (by omega)
  obtain ⟨a1, a2, a3, a4, a5, a6⟩ := I
  refine ⟨⟨by rw [es]; rfl, by rw [es]; omega⟩, a2, a3, fun s hs => ?_, a5, a6⟩
  have h := a4 s hs
  refine ⟨?_, ?_, ?_⟩
  · show upd (f 3) (sl f) x s = 0 ∨ upd (f 3) (sl f) x s = 1
    rw [upd_eq]
    split
    · exact hx
    · exact h.1
  · show ∃ v, v ≤ 999 ∧ upd (f 2) (sl f) 0 s = nI v
    rw [upd_eq]
    split
    · exact ⟨0, by decide, rfl⟩
    · exact h.2.1
  · show upd (f 1) (sl f) g s = -1 ∨ ∃ v, v ≤ 5 ∧ upd (f 1) (sl f) g s = nI v
    rw [upd_eq]
    split
    · exact hg
    · exact h.2.2
theorem Inv.up6 {T : Nat} {f : St} (I : Inv T f) (k : Nat) {v : Nat} (hv : v ≤ 5) : Inv T (up2 f 6 k (nI v)) := by
  obtain ⟨a1, a2, a3, a4, a5, a6⟩ := I
  refine ⟨a1, a2, a3, a4, a5, fun j hj => ?_⟩
  show ∃ w, w ≤ 5 ∧ upd (f 6) k (nI v) j = nI w
  rw [upd_eq]
  split
  · exact ⟨v, hv, rfl⟩
  · exact a6 j hj
theorem Inv.wish {T : Nat} {p : Nat} : ∀ (n s : Nat) (f : St), Inv T f → Inv T (wishL p n s f)
  | 0, _, _, I => I
  | n + 1, s, f, I => by
    rw [wishL]
    exact Inv.wish n (s + 1) _ (I.up6 _ (by have := Nat.mod_lt s (show 0 < 6 by decide); omega))
theorem wishL_0 (p : Nat) : ∀ (n s : Nat) (f : St), (wishL p n s f) 0 = f 0
  | 0, _, _ => rfl
  | n + 1, s, f => by
    rw [wishL, wishL_0 p n (s + 1)]
    rfl
theorem Inv.people {T : Nat} {g : St} (J : Inv T g) {q : Nat} (h : q < 6) : Inv T (up2 g 0 3 (nI (q + 1))) := by
  have ep : pe (up2 g 0 3 (nI (q + 1))) = q + 1 := nI_clamp (by omega)
  obtain ⟨a1, a2, a3, a4, a5, a6⟩ := J
  exact ⟨a1, ⟨by rw [ep]; rfl, by rw [ep]; omega⟩, a3, a4, a5, a6⟩
theorem Inv.adP {T : Nat} {f : St} (I : Inv T f) {v : Nat} (hv : v < 6) (h : pe f < 6) : Inv T (addP f (nI v)) := by
  rw [addP]
  exact Inv.people (Inv.wish _ _ _ ((I.up4 (pe f) hv).up5 _ _)) h
/-- it ends on the text, and keeps a wall a wall -/
def okI (T n : Nat) (s : Nat) (r : RI) : Prop := s ≤ r.2.1 ∧ r.2.1 ≤ n ∧ (r.1 = true → Inv T r.2.2)
theorem nx_le (tp : Nat → Int32) {n s : Nat} (h : s ≤ n) : skS tp n (enS tp n s) ≤ n := skS_le tp (enS_le tp h)
theorem nx_ge (tp : Nat → Int32) (n s : Nat) : s ≤ skS tp n (enS tp n s) := Nat.le_trans (enS_ge tp n s) (skS_ge tp n _)
theorem itMoves_ok {T n s : Nat} {f : St} (tp : Nat → Int32) (I : Inv T f) (hs : s ≤ n) : okI T n s (itMoves tp n f s) := by
  have h1 := nx_ge tp n s
  have h2 := nx_le tp hs
  have h3 := nx_ge tp n (skS tp n (enS tp n s))
  have h4 := nx_le tp h2
  unfold itMoves
  cases numU tp n (skS tp n (enS tp n s)) 99
  · exact ⟨h1, h2, fun z => absurd (show false = true from z) Bool.false_ne_true⟩
  · exact ⟨Nat.le_trans h1 h3, h4, fun _ => I.up01 _⟩
theorem itFix_ok {T n s : Nat} {f : St} (tp : Nat → Int32) (I : Inv T f) (hs : s ≤ n) {g : Int32} (hg : g = -1 ∨ ∃ v, v ≤ 5 ∧ g = nI v) (h : sl f < 10) : okI T n s (itFix tp n f g s) := by
  unfold itFix
  cases isWd tp (kdS tp n s) s (enS tp n s) 8
  · exact ⟨Nat.le_refl _, hs, fun _ => I.adS hg (Or.inl rfl) h⟩
  · exact ⟨nx_ge tp n s, nx_le tp hs, fun _ => I.adS hg (Or.inr rfl) h⟩
theorem okI.more {T n s s' : Nat} {r : RI} (h : okI T n s' r) (hs : s ≤ s') : okI T n s r := ⟨Nat.le_trans hs h.1, h.2⟩
theorem okI.no {T n s s' : Nat} {f : St} (h1 : s ≤ s') (h2 : s' ≤ n) : okI T n s (false, s', f) := ⟨h1, h2, fun z => absurd (show false = true from z) Bool.false_ne_true⟩
theorem itSlip_ok {T n s : Nat} {f : St} (tp : Nat → Int32) (I : Inv T f) (hs : s ≤ n) : okI T n s (itSlip tp n f s) := by
  have h1 := nx_ge tp n s
  have h2 := nx_le tp hs
  have h3 := nx_ge tp n (skS tp n (enS tp n s))
  have h4 := nx_le tp h2
  unfold itSlip
  by_cases h : sl f < 10
  · rw [decide_eq_true h, cond_true]
    cases hn : numU tp n (skS tp n (enS tp n s)) 5
    · rw [cond_false]
      cases isWd tp (kdS tp n (skS tp n (enS tp n s))) (skS tp n (enS tp n s)) (enS tp n (skS tp n (enS tp n s))) 7
      · rw [cond_false]; exact okI.no h1 h2
      · rw [cond_true]; exact (itFix_ok tp I h4 (Or.inl rfl) h).more (Nat.le_trans h1 h3)
    · rw [cond_true]
      unfold numU at hn
      rw [Bool.and_eq_true, decide_eq_true_eq, decide_eq_true_eq] at hn
      exact (itFix_ok tp I h4 (Or.inr ⟨_, hn.2, rfl⟩) h).more (Nat.le_trans h1 h3)
  · rw [decide_eq_false h, cond_false]
    exact okI.no (Nat.le_refl _) hs
theorem wnL_ok {T n p : Nat} (tp : Nat → Int32) : ∀ (m i s : Nat) (f : St), Inv T f → s ≤ n → s ≤ (wnL tp n p m i s f).2.1 ∧ (wnL tp n p m i s f).2.1 ≤ n ∧ Inv T (wnL tp n p m i s f).2.2
  | 0, _, _, _, I, hs => ⟨Nat.le_refl _, hs, I⟩
  | m + 1, i, s, f, I, hs => by
    rw [wnL]
    cases hn : numU tp n s 5
    · rw [cond_false]
      exact ⟨Nat.le_refl _, hs, I⟩
    · rw [cond_true]
      unfold numU at hn
      rw [Bool.and_eq_true, decide_eq_true_eq, decide_eq_true_eq] at hn
      obtain ⟨h1, h2, h3⟩ := wnL_ok tp m (i + 1) (skS tp n (enS tp n s)) _ (I.up6 (10 * p + i) hn.2) (nx_le tp hs)
      exact ⟨Nat.le_trans (nx_ge tp n s) h1, h2, h3⟩
theorem itPerson_ok {T n s v : Nat} {f : St} (tp : Nat → Int32) (I : Inv T f) (hs : s ≤ n) (hv : v < 6) : okI T n s (itPerson tp n f s (nI v)) := by
  have h1 := nx_ge tp n s
  have h2 := nx_le tp hs
  have h3 := nx_ge tp n (skS tp n (enS tp n s))
  have h4 := nx_le tp h2
  unfold itPerson
  by_cases h : pe f < 6
  · rw [decide_eq_true h, cond_true]
    cases isWd tp (kdS tp n (skS tp n (enS tp n s))) (skS tp n (enS tp n s)) (enS tp n (skS tp n (enS tp n s))) 9
    · rw [cond_false]
      exact ⟨h1, h2, fun _ => I.adP hv h⟩
    · rw [cond_true]
      obtain ⟨k1, k2, k3⟩ := wnL_ok (p := pe f) tp 5 0 (skS tp n (enS tp n (skS tp n (enS tp n s)))) (addP f (nI v)) (I.adP hv h) h4
      exact ⟨Nat.le_trans (Nat.le_trans h1 h3) k1, k2, fun _ => k3⟩
  · rw [decide_eq_false h, cond_false]
    exact okI.no (Nat.le_refl _) hs
theorem knS_rng (tp : Nat → Int32) (n s : Nat) : knS tp n s = -1 ∨ ∃ v, v < 6 ∧ knS tp n s = nI v := by
  unfold knS
  generalize isWd tp (kdS tp n s) s (enS tp n s) 0 = b0
  generalize isWd tp (kdS tp n s) s (enS tp n s) 1 = b1
  generalize isWd tp (kdS tp n s) s (enS tp n s) 2 = b2
  generalize isWd tp (kdS tp n s) s (enS tp n s) 3 = b3
  generalize isWd tp (kdS tp n s) s (enS tp n s) 4 = b4
  generalize isWd tp (kdS tp n s) s (enS tp n s) 5 = b5
  cases b0
  · cases b1
    · cases b2
      · cases b3
        · cases b4
          · cases b5
            · exact Or.inl rfl
            · exact Or.inr ⟨5, by decide, rfl⟩
          · exact Or.inr ⟨4, by decide, rfl⟩
        · exact Or.inr ⟨3, by decide, rfl⟩
      · exact Or.inr ⟨2, by decide, rfl⟩
    · exact Or.inr ⟨1, by decide, rfl⟩
  · exact Or.inr ⟨0, by decide, rfl⟩
theorem itAny_ok {T n s : Nat} {f : St} (tp : Nat → Int32) (I : Inv T f) (hs : s ≤ n) : okI T n s (itAny tp n f s) := by
  unfold itAny
  cases isWd tp (kdS tp n s) s (enS tp n s) 6
  · rw [cond_false]
    cases isWd tp (kdS tp n s) s (enS tp n s) 10
    · rw [cond_false]
      by_cases h : knS tp n s = -1
      · rw [decide_eq_true h, cond_true]
        exact okI.no (Nat.le_refl _) hs
      · rw [decide_eq_false h, cond_false]
        obtain ⟨v, hv, e⟩ := (knS_rng tp n s).resolve_left h
        rw [e]
        exact itPerson_ok tp I hs hv
    · rw [cond_true]
      exact itMoves_ok tp I hs
  · rw [cond_true]
    exact itSlip_ok tp I hs
