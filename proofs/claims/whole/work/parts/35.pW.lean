/-! the words of both sides -/
theorem kNM_in : ∀ k, k < 11 → ∀ j, j < kLen.getD k 0 → kNM.getD (7 * k + j) 0 = (kByt.getD k []).getD j 0 ∧ ¬ kNM.getD (7 * k + j) 0 = 0 := by decide +kernel
theorem kNM_end : ∀ k, k < 11 → kNM.getD (7 * k + kLen.getD k 0) 0 = 0 := by decide +kernel
theorem kByt_ne : ∀ k, k < 11 → ∀ i, i < 11 → ¬ k = i → kLen.getD k 0 = kLen.getD i 0 → ∃ j, j < kLen.getD k 0 ∧ ¬ (kByt.getD k []).getD j 0 = (kByt.getD i []).getD j 0 := by decide +kernel
theorem nmL_iff (tp : Nat → Int32) (s k : Nat) : ∀ (n i : Nat) (ok : Bool), nmL tp s k n i ok = true ↔ (ok = true ∧ ∀ j, i ≤ j → j < i + n → kNM.getD (7 * k + j) 0 = tp (s + j))
  | 0, i, ok => ⟨fun h => ⟨h, fun j a b => absurd b (by omega)⟩, fun h => h.1⟩
  | n + 1, i, ok => by
    rw [nmL]
    cases ok
    · rw [cond_false]; exact ⟨fun h => absurd h (by decide), fun h => absurd h.1 (by decide)⟩
    · rw [cond_true, nmL_iff tp s k n (i + 1), decide_eq_true_eq]
      constructor
      · rintro ⟨h1, h2⟩
        refine ⟨rfl, fun j a b => ?_⟩
        by_cases e : j = i
        · rw [e]; exact h1
        · exact h2 j (by omega) (by omega)
      · rintro ⟨-, h2⟩
        exact ⟨h2 i (Nat.le_refl _) (by omega), fun j a b => h2 j (by omega) (by omega)⟩
theorem mtL_iff (tp : Nat → Int32) (s k : Nat) : ∀ (n i : Nat), mtL tp s k n i = true ↔ ∀ j, i ≤ j → j < i + n → tp (s + j) = (kByt.getD k []).getD j 0
  | 0, i => ⟨fun _ j a b => absurd b (by omega), fun _ => rfl⟩
  | n + 1, i => by
    rw [mtL]
    by_cases h : tp (s + i) = (kByt.getD k []).getD i 0
    · rw [decide_eq_true h, cond_true, mtL_iff tp s k n (i + 1)]
      constructor
      · intro h2 j a b
        by_cases e : j = i
        · rw [e]; exact h
        · exact h2 j (by omega) (by omega)
      · intro h2 j a b
        exact h2 j (by omega) (by omega)
    · rw [decide_eq_false h, cond_false]
      exact ⟨fun z => absurd z (by decide), fun z => absurd (z i (Nat.le_refl _) (by omega)) h⟩
theorem nm_eq {tp : Nat → Int32} {s k q : Nat} (hk : k < 11) (hz : ∀ j, j < q → ¬ tp (s + j) = 0) : isNmS tp s k q = true ↔ (q = kLen.getD k 0 ∧ mtL tp s k (kLen.getD k 0) 0 = true) := by
  have h7 := kLen_le k hk
  rw [isNmS, nmL_iff, mtL_iff, Bool.and_eq_true, Bool.or_eq_true, decide_eq_true_eq, decide_eq_true_eq, decide_eq_true_eq]
  constructor
  · rintro ⟨⟨h1, h2⟩, h3⟩
    have hq : q = kLen.getD k 0 := by
      rcases Nat.lt_trichotomy q (kLen.getD k 0) with h | h | h
      · rcases h2 with h2 | h2
        · omega
        · exact absurd h2 (kNM_in k hk q h).2
      · exact h
      · have h4 := h3 (kLen.getD k 0) (by omega) (by omega)
        rw [kNM_end k hk] at h4
        exact absurd h4.symm (hz _ h)
    refine ⟨hq, fun j a b => ?_⟩
    rw [← (kNM_in k hk j (by omega)).1]
    exact (h3 j a (by omega)).symm
  · rintro ⟨hq, h3⟩
    refine ⟨⟨by omega, Or.inr (by rw [hq]; exact kNM_end k hk)⟩, fun j a b => ?_⟩
    rw [(kNM_in k hk j (by omega)).1]
    exact (h3 j a (by omega)).symm
theorem mt_one {tp : Nat → Int32} {s k i : Nat} (hk : k < 11) (hi : i < 11) (hl : kLen.getD k 0 = kLen.getD i 0) (h1 : mtL tp s k (kLen.getD k 0) 0 = true) (h2 : mtL tp s i (kLen.getD i 0) 0 = true) : k = i := by
  by_cases e : k = i
  · exact e
  · obtain ⟨j, hj, hne⟩ := kByt_ne k hk i hi e hl
    rw [mtL_iff] at h1 h2
    exact absurd ((h1 j (by omega) (by omega)).symm.trans (h2 j (by omega) (by omega))) hne
theorem wdL_iff {tp : Nat → Int32} {s q : Nat} : ∀ (n i : Nat), i ≤ wdL tp s q n i ∧ wdL tp s q n i ≤ i + n ∧ (wdL tp s q n i < i + n → isNmS tp s (wdL tp s q n i) q = true) ∧ ∀ j, i ≤ j → j < wdL tp s q n i → isNmS tp s j q = false
  | 0, i => ⟨Nat.le_refl _, Nat.le_refl _, fun h => absurd h (Nat.lt_irrefl _), fun j a b => absurd b (by show ¬ j < i; omega)⟩
  | n + 1, i => by
    rw [wdL]
    cases h : isNmS tp s i q
    · rw [cond_false]
      obtain ⟨h1, h2, h3, h4⟩ := wdL_iff (tp := tp) (s := s) (q := q) n (i + 1)
      refine ⟨by omega, by omega, fun z => h3 (by omega), fun j a b => ?_⟩
      by_cases e : j = i
      · rw [e]; exact h
      · exact h4 j (by omega) b
    · rw [cond_true]
      exact ⟨Nat.le_refl _, by omega, fun _ => h, fun j a b => absurd b (by omega)⟩
theorem wd_eq {tp : Nat → Int32} {s q k : Nat} (hk : k < 11) (hz : ∀ j, j < q → ¬ tp (s + j) = 0) : wdS tp s q = k ↔ (q = kLen.getD k 0 ∧ mtL tp s k (kLen.getD k 0) 0 = true) := by
  obtain ⟨-, h2, h3, h4⟩ := wdL_iff (tp := tp) (s := s) (q := q) 11 0
  rw [← nm_eq hk hz, wdS]
  constructor
  · intro h
    split at h
    · next hl => rw [← h]; exact h3 hl
    · omega
  · intro h
    have hle : ¬ k < wdL tp s q 11 0 := fun z => by rw [h4 k (by omega) z] at h; cases h
    have hlt : wdL tp s q 11 0 < 11 := by omega
    rw [if_pos hlt]
    have h5 := (nm_eq (show wdL tp s q 11 0 < 11 by omega) hz).mp (h3 (by omega))
    have h6 := (nm_eq hk hz).mp h
    exact mt_one (by omega) hk (h5.1.symm.trans h6.1) h5.2 h6.2
theorem wd_23 {tp : Nat → Int32} {s q : Nat} : wdS tp s q < 11 ∨ wdS tp s q = 23 := by
  unfold wdS
  split
  · exact Or.inl (by assumption)
  · exact Or.inr rfl
/-! where tokens lie -/
theorem runS_all (c : Int32 → Bool) (tp : Nat → Int32) (n : Nat) : ∀ (k i j : Nat), i ≤ j → j < runS c tp n k i → c (tp j) = true
  | 0, i, j, a, b => absurd b (by show ¬ j < i; omega)
  | k + 1, i, j, a, b => by
    rw [runS] at b
    cases h : c (tp i)
    · rw [h, cond_false] at b
      omega
    · rw [h, cond_true] at b
      by_cases e : j = i
      · rw [e]; exact h
      · exact runS_all c tp n k (i + 1) j (by omega) b
theorem let_nz {b : Int32} (h : isLet b = true) : ¬ b = 0 := fun e => by rw [e] at h; exact absurd h (by decide)
theorem enS_ge (tp : Nat → Int32) (n s : Nat) : s ≤ enS tp n s := by
  unfold enS
  split
  · exact Nat.le_refl _
  · split
    · exact runF_ge _ _ _ _
    · split
      · exact runF_ge _ _ _ _
      · omega
theorem enS_le (tp : Nat → Int32) {n s : Nat} (h : s ≤ n) : enS tp n s ≤ n := by
  unfold enS
  split
  · exact h
  · split
    · exact runF_le _ _ h
    · split
      · exact runF_le _ _ h
      · omega
theorem skS_le (tp : Nat → Int32) {n e : Nat} (h : e ≤ n) : skS tp n e ≤ n := runF_le _ _ h
theorem skS_ge (tp : Nat → Int32) (n e : Nat) : e ≤ skS tp n e := runF_ge _ _ _ _
theorem kdS_lt (tp : Nat → Int32) (n s : Nat) : kdS tp n s < 5 := by
  unfold kdS
  repeat' split
  all_goals decide
/-- the model's token no. i is the class's word i -/
theorem mk_word {tp : Nat → Int32} {n s i : Nat} (hi : i < 11) : mkS tp n s = i ↔ isWd tp (kdS tp n s) s (enS tp n s) i = true := by
  unfold mkS kdS enS isWd
  by_cases h1 : n ≤ s
  · simp only [if_pos h1]
    exact ⟨fun h => by omega, fun h => by simp at h⟩
  · simp only [if_neg h1]
    by_cases h2 : isLet (tp s) = true
    · simp only [if_pos h2]
      rw [wd_eq hi (fun j hj => let_nz (runS_all isLet tp n (n - s) s (s + j) (by omega) (by show s + j < runF isLet tp n s; omega)))]
      rw [decide_true, Bool.true_and, Bool.and_eq_true, decide_eq_true_eq]
    · simp only [if_neg h2]
      by_cases h3 : isDig (tp s) = true
      · simp only [if_pos h3]
        exact ⟨fun h => by omega, fun h => by simp at h⟩
      · simp only [if_neg h3]
        by_cases h4 : tp s = 59
        · simp only [if_pos h4]
          exact ⟨fun h => by omega, fun h => by simp at h⟩
        · simp only [if_neg h4]
          exact ⟨fun h => by omega, fun h => by simp at h⟩
theorem mk_num {tp : Nat → Int32} {n s : Nat} : mkS tp n s = 20 ↔ kdS tp n s = 2 := by
  unfold mkS kdS
  have := wd_23 (tp := tp) (s := s) (q := runF isLet tp n s - s)
  repeat' split
  all_goals omega
theorem mk_sign {tp : Nat → Int32} {n s : Nat} : mkS tp n s = 21 ↔ kdS tp n s = 3 := by
  unfold mkS kdS
  have := wd_23 (tp := tp) (s := s) (q := runF isLet tp n s - s)
  repeat' split
  all_goals omega
theorem mk_end {tp : Nat → Int32} {n s : Nat} : mkS tp n s = 22 ↔ kdS tp n s = 0 := by
  unfold mkS kdS
  have := wd_23 (tp := tp) (s := s) (q := runF isLet tp n s - s)
  repeat' split
  all_goals omega
theorem tv_num {tp : Nat → Int32} {n s : Nat} (h : kdS tp n s = 2) : tvS tp n s = nI (numF tp n s) := by
  unfold kdS at h
  unfold tvS
  by_cases h1 : n ≤ s
  · rw [if_pos h1] at h; omega
  · rw [if_neg h1] at h ⊢
    by_cases h2 : isLet (tp s) = true
    · rw [if_pos h2] at h; omega
    · rw [if_neg h2] at h ⊢
      by_cases h3 : isDig (tp s) = true
      · rw [if_pos h3]
      · rw [if_neg h3] at h
        split at h <;> omega
