/-! the text: a token is known by where it starts -/
def runS (c : Int32 → Bool) (tp : Nat → Int32) (n : Nat) : Nat → Nat → Nat
  | 0, i => i
  | k + 1, i => cond (c (tp i)) (runS c tp n k (i + 1)) i
def runF (c : Int32 → Bool) (tp : Nat → Int32) (n i : Nat) : Nat := runS c tp n (n - i) i
theorem runF_go {c : Int32 → Bool} {tp : Nat → Int32} {n i : Nat} (h : i < n) (hc : c (tp i) = true) : runF c tp n (i + 1) = runF c tp n i := by
  unfold runF
  obtain ⟨k, hk⟩ : ∃ k, n - i = k + 1 := ⟨n - i - 1, by omega⟩
  rw [hk, show n - (i + 1) = k by omega, runS, hc, cond_true]
theorem runF_end {c : Int32 → Bool} {tp : Nat → Int32} {n i : Nat} (h : i < n → c (tp i) = false) : runF c tp n i = i := by
  unfold runF
  by_cases hi : i < n
  · obtain ⟨k, hk⟩ : ∃ k, n - i = k + 1 := ⟨n - i - 1, by omega⟩
    rw [hk, runS, h hi, cond_false]
  · rw [show n - i = 0 by omega, runS]
theorem runS_le (c : Int32 → Bool) (tp : Nat → Int32) (n : Nat) : ∀ (k i : Nat), i ≤ runS c tp n k i ∧ runS c tp n k i ≤ i + k
  | 0, i => ⟨Nat.le_refl _, Nat.le_refl _⟩
  | k + 1, i => by
    have h := runS_le c tp n k (i + 1)
    rw [runS]
    cases c (tp i)
    · exact ⟨Nat.le_refl _, by show i ≤ _; omega⟩
    · simp only [cond_true]
      omega
theorem runF_ge (c : Int32 → Bool) (tp : Nat → Int32) (n i : Nat) : i ≤ runF c tp n i := (runS_le c tp n _ i).1
theorem runF_le (c : Int32 → Bool) (tp : Nat → Int32) {n i : Nat} (h : i ≤ n) : runF c tp n i ≤ n := by
  have := (runS_le c tp n (n - i) i).2
  unfold runF
  omega
def isSp (x : Int32) : Bool := inR x 32 32
def isLet (x : Int32) : Bool := inR x 97 122
def isDig (x : Int32) : Bool := inR x 48 57
theorem inR_one (x y : Int32) : inR x y y = decide (x = y) := by
  unfold inR
  rw [Bool.eq_iff_iff]
  simp only [Bool.and_eq_true, Bool.not_eq_true', decide_eq_false_iff_not, decide_eq_true_eq, Int32.lt_iff_toInt_lt, ← Int32.toInt_inj]
  omega
def skS (tp : Nat → Int32) (n e : Nat) : Nat := runF isSp tp n e
def numA (b : Int32) (v : Nat) : Nat := if 999 < v then v else 10 * v + (b.toNatClampNeg - 48)
def numL (tp : Nat → Int32) (n : Nat) : Nat → Nat → Nat → Nat
  | 0, _, v => v
  | k + 1, i, v => cond (isDig (tp i)) (numL tp n k (i + 1) (numA (tp i) v)) v
def numG (tp : Nat → Int32) (n i v : Nat) : Nat := numL tp n (n - i) i v
def numF (tp : Nat → Int32) (n i : Nat) : Nat := numG tp n i 0
theorem numG_go {tp : Nat → Int32} {n i v : Nat} (h : i < n) (hc : isDig (tp i) = true) : numG tp n (i + 1) (numA (tp i) v) = numG tp n i v := by
  unfold numG
  obtain ⟨k, hk⟩ : ∃ k, n - i = k + 1 := ⟨n - i - 1, by omega⟩
  rw [hk, show n - (i + 1) = k by omega, numL, hc, cond_true]
theorem numG_end {tp : Nat → Int32} {n i v : Nat} (h : i < n → isDig (tp i) = false) : numG tp n i v = v := by
  unfold numG
  by_cases hi : i < n
  · obtain ⟨k, hk⟩ : ∃ k, n - i = k + 1 := ⟨n - i - 1, by omega⟩
    rw [hk, numL, h hi, cond_false]
  · rw [show n - i = 0 by omega, numL]
theorem num_min {b : Int32} {v : Nat} (h : isDig b = true) : (if 1000 < nI (10 * min v 1000) + b - 48 then 1000 else nI (10 * min v 1000) + b - 48) = nI (min (numA b v) 1000) := by
  obtain ⟨d, hd, rfl, hl, -⟩ := inR_nat (n := 58) (by decide) (by decide) h
  have hl : 48 ≤ d := by
    have h0 : ((48 : Int32).toInt) = 48 := (by decide)
    omega
  have e : nI (10 * min v 1000) + nI d - 48 = nI (10 * min v 1000 + d - 48) := by
    rw [nI_add, show (48 : Int32) = nI 48 from rfl]
    exact pk_sub (by omega)
  rw [e, show (1000 : Int32) = nI 1000 from rfl, numA, nI_clamp (by omega)]
  by_cases h1 : 1000 < 10 * min v 1000 + d - 48
  · rw [if_pos (by rw [Int32.lt_iff_toInt_lt, nI_toInt (by omega), nI_toInt (by omega)]; omega)]
    congr 1
    split <;> omega
  · rw [if_neg (by rw [Int32.lt_iff_toInt_lt, nI_toInt (by omega), nI_toInt (by omega)]; omega)]
    congr 1
    split <;> omega
/-- 0 end, 1 word, 2 number, 3 sign, 4 other -/
def kdS (tp : Nat → Int32) (n s : Nat) : Nat := if n ≤ s then 0 else if isLet (tp s) = true then 1 else if isDig (tp s) = true then 2 else if tp s = 59 then 3 else 4
def enS (tp : Nat → Int32) (n s : Nat) : Nat := if n ≤ s then s else if isLet (tp s) = true then runF isLet tp n s else if isDig (tp s) = true then runF isDig tp n s else s + 1
def tnS (tp : Nat → Int32) (n s : Nat) (tn : Int32) : Int32 := if kdS tp n s = 2 then nI (min (numF tp n s) 1000) else tn
