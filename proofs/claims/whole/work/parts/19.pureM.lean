theorem i32_or0 (x : Int32) : x ||| 0 = x := by simp
theorem canB_eq {T : Nat} {f : St} (I : Inv T f) {p i : Nat} (hi : i < 10) (w : Int32) : canB f p i w = (!hasW f p i && (mayM f p i && (decide (w = -1) || prefS (kn f p) (f 2 i) (f 2 w.toNatClampNeg)))) := by
  unfold canB mayM
  rcases I.fx hi with h | h
  · simp [h]
  · simp [h]
theorem turnL_one (p n : Nat) (f : St) (t : Int32) : turnL p (n + 1) f t = turnL p n (turnL p 1 f t).1 (turnL p 1 f t).2 := by
  simp only [turnL]
  split <;> rfl
theorem addS_eq (f : St) (g x : Int32) : up2 (up2 (up2 (up2 f 0 2 (nI (sl f + 1))) 1 (sl f) g) 2 (sl f) 0) 3 (sl f) x = addS f g x := by
  funext b j
  simp only [addS, up2_ap]
  repeat' split
  all_goals first | rfl | omega
theorem wishL_up (p : Nat) (v : Int32) : ∀ (n i : Nat) (f : St), wishL p n i (up2 f 0 3 v) = up2 (wishL p n i f) 0 3 v
  | 0, _, _ => rfl
  | n + 1, i, f => by
    rw [wishL, wishL, ← wishL_up p v n (i + 1)]
    congr 1
    funext b j
    simp only [up2_ap]
    repeat' split
    all_goals first | rfl | omega
theorem addP_eq (f : St) (x : Int32) : wishL (pe f) 10 0 (up2 (up2 (up2 f 0 3 (nI (pe f + 1))) 4 (pe f) x) 5 (pe f) 0) = addP f x := by
  rw [addP, ← wishL_up]
  congr 1
  funext b j
  simp only [up2_ap]
  repeat' split
  all_goals first | rfl | omega
def tcN : Nat → St → Int32 → Int32
  | 0, _, t => t
  | n + 1, f, _ => tcN n (goF f) (tcF f)
def wmL (f : St) (q : Nat) : Nat → Nat → Int32 → Nat → Int32
  | 0, _, b, _ => b
  | n + 1, i, b, m => if m < manyF f q (nI i) then wmL f q n (i + 1) (nI i) (manyF f q (nI i)) else wmL f q n (i + 1) b m
def wantF (f : St) (q : Nat) : Int32 := wmL f q 6 0 (-1) 0
theorem cntL_le (c : Nat → Bool) : ∀ (n i a : Nat), cntL c n i a ≤ a + n
  | 0, _, _ => Nat.le_refl _
  | n + 1, i, a => by
    rw [cntL]
    cases c i
    · have := cntL_le c n (i + 1) a
      simp only [cond_false]
      omega
    · have := cntL_le c n (i + 1) (a + 1)
      simp only [cond_true]
      omega
theorem manyF_le {T : Nat} {f : St} (I : Inv T f) (q : Nat) (g : Int32) : manyF f q g ≤ 6 := by
  have := cntL_le (fun p => decide (f 6 (10 * p + q) = g)) (pe f) 0 0
  have := I.p6
  unfold manyF
  omega
/-! sets as numbers -/
def setN (c : Nat → Bool) : Nat → Nat → Nat → Nat
  | 0, _, a => a
  | n + 1, s, a => setN c n (s + 1) (cond (c s) (a ||| 2 ^ s) a)
theorem shl_nI : ∀ s, s < 16 → (1 : Int32) <<< (nI s &&& 31) = nI (2 ^ s) := by decide +kernel
theorem nI_or (a b : Nat) : nI a ||| nI b = nI (a ||| b) := by
  apply Int32.toBitVec_inj.mp
  show (nI a).toBitVec ||| (nI b).toBitVec = (nI (a ||| b)).toBitVec
  show BitVec.ofNat 32 a ||| BitVec.ofNat 32 b = BitVec.ofNat 32 (a ||| b)
  rw [BitVec.ofNat_or]
theorem setL_nI (c : Nat → Bool) : ∀ (n s a : Nat), s + n ≤ 16 → setL c n s (nI a) = nI (setN c n s a)
  | 0, _, _, _ => rfl
  | n + 1, s, a, h => by
    rw [setL, setN]
    cases c s
    · exact setL_nI c n (s + 1) a (by omega)
    · simp only [cond_true]
      rw [shl_nI s (by omega), nI_or]
      exact setL_nI c n (s + 1) _ (by omega)
theorem setN_bit (c : Nat → Bool) : ∀ (n s a j : Nat), (setN c n s a).testBit j = (a.testBit j || (decide (s ≤ j ∧ j < s + n) && c j))
  | 0, s, a, j => by
    have : ¬ (s ≤ j ∧ j < s + 0) := by omega
    rw [setN, decide_eq_false this, Bool.false_and, Bool.or_false]
  | n + 1, s, a, j => by
    rw [setN, setN_bit c n (s + 1)]
    by_cases e : j = s
    · subst e
      have h1 : ¬ (j + 1 ≤ j ∧ j < j + 1 + n) := by omega
      have h2 : (j ≤ j ∧ j < j + (n + 1)) := by omega
      cases hc : c j
      · simp [h1]
      · simp [h1, Nat.testBit_or, Nat.testBit_two_pow]
    · have h1 : (s + 1 ≤ j ∧ j < s + 1 + n) ↔ (s ≤ j ∧ j < s + (n + 1)) := by omega
      have h2 : ¬ s = j := fun z => e z.symm
      simp only [h1]
      cases c s
      · simp
      · simp [Nat.testBit_or, Nat.testBit_two_pow, h2]
theorem setN_lt (c : Nat → Bool) {n : Nat} : setN c n 0 0 < 2 ^ n := by
  apply Nat.lt_pow_two_of_testBit
  intro i hi
  rw [setN_bit]
  have : ¬ (0 ≤ i ∧ i < 0 + n) := by omega
  rw [decide_eq_false this, Bool.false_and, Bool.or_false, Nat.zero_testBit]
theorem setL_nat (c : Nat → Bool) {n : Nat} (h : n ≤ 10) : ∃ v, v < 1024 ∧ setL c n 0 0 = nI v := by
  refine ⟨setN c n 0 0, ?_, setL_nI c n 0 0 (by omega)⟩
  have h1 := setN_lt c (n := n)
  have h2 : 2 ^ n ≤ 2 ^ 10 := Nat.pow_le_pow_right (by decide) h
  omega
theorem wayF_nat {T : Nat} {f : St} (I : Inv T f) (p : Nat) : ∃ v, v < 1024 ∧ wayF f p = nI v := setL_nat _ I.s10
theorem inF_nat {T : Nat} {f : St} (I : Inv T f) (g : Int32) : ∃ v, v < 1024 ∧ inF f g = nI v := setL_nat _ I.s10
/-- the groups that have slips, group by group -/
def groupsM (f : St) : Int32 := setL (fun g => !decide (inF f (nI g) = 0)) 6 0 0
def groupN (h : Nat → Option Nat) : Nat → Nat → Nat → Nat
  | 0, _, a => a
  | n + 1, s, a => groupN h n (s + 1) (match h s with | none => a | some g => a ||| 2 ^ g)
theorem groupN_bit (h : Nat → Option Nat) (j : Nat) : ∀ (n s a : Nat), (groupN h n s a).testBit j = true ↔ (a.testBit j = true ∨ ∃ i, s ≤ i ∧ i < s + n ∧ h i = some j)
  | 0, s, a => by
    constructor
    · exact Or.inl
    · rintro (h1 | ⟨i, h1, h2, -⟩)
      · exact h1
      · omega
  | n + 1, s, a => by
    rw [groupN, groupN_bit h j n (s + 1)]
    cases hs : h s with
    | none =>
      constructor
      · rintro (h1 | ⟨i, h1, h2, h3⟩)
        · exact Or.inl h1
        · exact Or.inr ⟨i, by omega, by omega, h3⟩
      · rintro (h1 | ⟨i, h1, h2, h3⟩)
        · exact Or.inl h1
        · by_cases e : i = s
          · subst e; rw [hs] at h3; cases h3
          · exact Or.inr ⟨i, by omega, by omega, h3⟩
    | some g =>
      simp only [Nat.testBit_or, Nat.testBit_two_pow, Bool.or_eq_true, decide_eq_true_eq]
      constructor
      · rintro ((h1 | h1) | ⟨i, h1, h2, h3⟩)
        · exact Or.inl h1
        · exact Or.inr ⟨s, by omega, by omega, by rw [hs, h1]⟩
        · exact Or.inr ⟨i, by omega, by omega, h3⟩
      · rintro (h1 | ⟨i, h1, h2, h3⟩)
        · exact Or.inl (Or.inl h1)
        · by_cases e : i = s
          · subst e; rw [hs] at h3; exact Or.inl (Or.inr (Option.some.inj h3))
          · exact Or.inr ⟨i, by omega, by omega, h3⟩
def grp (f : St) (s : Nat) : Option Nat := if f 1 s = -1 then none else some (f 1 s).toNatClampNeg
theorem groupL_nI {T : Nat} {f : St} (I : Inv T f) : ∀ (n s a : Nat), s + n ≤ 10 → groupL f n s (nI a) = nI (groupN (grp f) n s a)
  | 0, _, _, _ => rfl
  | n + 1, s, a, h => by
    rw [groupL, groupN]
    by_cases e : f 1 s = -1
    · rw [if_pos e, show grp f s = none from if_pos e]
      exact groupL_nI I n (s + 1) a (by omega)
    · rw [if_neg e, show grp f s = some (f 1 s).toNatClampNeg from if_neg e]
      obtain ⟨v, hv, ev⟩ := (I.gr (s := s) (by omega)).resolve_left e
      rw [ev, shl_nI v (by omega), nI_or, nI_clamp (by omega)]
      exact groupL_nI I n (s + 1) _ (by omega)
theorem inF_zero {T : Nat} {f : St} (I : Inv T f) (g : Int32) : inF f g = 0 ↔ ∀ s, s < sl f → ¬ f 1 s = g := by
  have h1 : inF f g = nI (setN (fun s => decide (f 1 s = g)) (sl f) 0 0) := setL_nI _ _ 0 0 (by have := I.s10; omega)
  have h2 := setN_lt (fun s => decide (f 1 s = g)) (n := sl f)
  have h3 : 2 ^ sl f ≤ 2 ^ 10 := Nat.pow_le_pow_right (by decide) I.s10
  rw [h1]
  constructor
  · intro h s hs e
    have h4 : setN (fun s => decide (f 1 s = g)) (sl f) 0 0 = 0 := (nI_eq (by omega) (by decide)).mp (h.trans nI_0.symm)
    have h5 := setN_bit (fun s => decide (f 1 s = g)) (sl f) 0 0 s
    rw [h4] at h5
    have h6 : (0 ≤ s ∧ s < 0 + sl f) := by omega
    simp [h6, e] at h5
    omega
  · intro h
    have h4 : setN (fun s => decide (f 1 s = g)) (sl f) 0 0 = 0 := by
      apply Nat.eq_of_testBit_eq
      intro j
      rw [setN_bit]
      by_cases hj : j < sl f
      · simp [h j hj]
      · have : ¬ (0 ≤ j ∧ j < 0 + sl f) := by omega
        simp [hj]
    rw [h4]
    rfl
theorem groups_eq {T : Nat} {f : St} (I : Inv T f) : groupsM f = groupsF f := by
  have hs := I.s10
  rw [groupsM, groupsF, show setL (fun g => !decide (inF f (nI g) = 0)) 6 0 0 = nI _ from setL_nI _ 6 0 0 (by decide), show groupL f (sl f) 0 0 = nI _ from groupL_nI I (sl f) 0 0 (by omega)]
  congr 1
  apply Nat.eq_of_testBit_eq
  intro j
  rw [Bool.eq_iff_iff, groupN_bit, setN_bit]
  simp only [Nat.zero_testBit, Bool.false_or, Bool.and_eq_true, decide_eq_true_eq, Bool.not_eq_true', decide_eq_false_iff_not, Bool.false_eq_true, false_or]
  constructor
  · rintro ⟨⟨-, h1⟩, h2⟩
    rw [inF_zero I] at h2
    have : ∃ s, s < sl f ∧ f 1 s = nI j := by
      apply Classical.byContradiction
      intro h3
      exact h2 (fun s hs e => h3 ⟨s, hs, e⟩)
    obtain ⟨s, h3, h4⟩ := this
    refine ⟨s, Nat.zero_le _, by omega, ?_⟩
    rw [grp, if_neg (by rw [h4]; exact nI_ne_m1 (by omega)), h4, nI_clamp (by omega)]
  · rintro ⟨s, -, h1, h2⟩
    have h1 : s < sl f := by omega
    rw [grp] at h2
    split at h2
    · cases h2
    · rename_i e
      obtain ⟨v, hv, ev⟩ := (I.gr (s := s) (by omega)).resolve_left e
      rw [ev, nI_clamp (by omega)] at h2
      cases h2
      refine ⟨⟨Nat.zero_le _, by omega⟩, ?_⟩
      rw [inF_zero I]
      intro h3
      exact h3 s h1 ev
