def notT (bo : Nat → Int32) (x : Int32) : Int32 := cond (inR x 0 3) (cond (decide (bo x.toNatClampNeg = 0)) (-1000000006) 0) (-1000000001)
theorem notT_cases (bo : Nat → Int32) (x : Int32) : (inR x 0 3 = false ∧ notT bo x = -1000000001) ∨ (∃ k, k < 4 ∧ x = nI k ∧ inR (nI k) 0 3 = true ∧ (nI k).toNatClampNeg = k ∧ decide (bo k = 0) = true ∧ notT bo (nI k) = -1000000006) ∨ (∃ k, k < 4 ∧ x = nI k ∧ inR (nI k) 0 3 = true ∧ (nI k).toNatClampNeg = k ∧ decide (bo k = 0) = false ∧ notT bo (nI k) = 0) := by
  cases h : inR x 0 3
  · exact Or.inl ⟨rfl, by rw [notT, h]; rfl⟩
  · obtain ⟨k, hk, rfl, -⟩ := inR_nat (n := 4) (by decide) (by decide) h
    have ek : (nI k).toNatClampNeg = k := nI_clamp (by omega)
    cases hb : decide (bo k = 0)
    · exact Or.inr (Or.inr ⟨k, hk, rfl, h, ek, hb, by rw [notT, h, ek, hb]; rfl⟩)
    · exact Or.inr (Or.inl ⟨k, hk, rfl, h, ek, hb, by rw [notT, h, ek, hb]; rfl⟩)
def notC (bo so : Nat → Int32) (x y z v w : Int32) : Int32 := cond (inR x 0 3 && inR z 0 3) (cond (decide (bo x.toNatClampNeg = 0) || decide (bo z.toNatClampNeg = 0)) (-1000000006) (if bo x.toNatClampNeg = bo z.toNatClampNeg then cond (hasR (so x.toNatClampNeg) y w && hasR (so z.toNatClampNeg) v w) 0 (-1000000001) else -1000000003)) (-1000000001)
theorem notC_cases {so : Nat → Int32} (J : InvS so) {x y z v w : Int32} (bo : Nat → Int32) : (notC bo so x y z v w = -1000000001 ∧ ∀ rn fd, oCopy bo so rn fd x y z v w = (fnd 0, rn, fdU fd 0)) ∨ (notC bo so x y z v w = -1000000006 ∧ ∀ rn fd, oCopy bo so rn fd x y z v w = (fnd 5, rn, fdU fd 5)) ∨ (notC bo so x y z v w = -1000000003 ∧ ∀ rn fd, oCopy bo so rn fd x y z v w = (fnd 2, rn, fdU fd 2)) ∨ ∃ k j a b c, k < 4 ∧ j < 4 ∧ x = nI k ∧ y = nI a ∧ z = nI j ∧ v = nI b ∧ w = nI c ∧ a + c ≤ zR so k ∧ b + c ≤ zR so j ∧ notC bo so (nI k) (nI a) (nI j) (nI b) (nI c) = 0 ∧ ∀ rn fd, oCopy bo so rn fd (nI k) (nI a) (nI j) (nI b) (nI c) = (nI c, setRL rn j (va_cpy (rn k) (rn j) a b c), fd) := by
  cases h1 : (inR x 0 3 && inR z 0 3)
  · exact Or.inl ⟨by rw [notC, h1]; rfl, fun rn fd => by rw [oCopy, h1]; rfl⟩
  · cases h2 : (decide (bo x.toNatClampNeg = 0) || decide (bo z.toNatClampNeg = 0))
    · by_cases h3 : bo x.toNatClampNeg = bo z.toNatClampNeg
      · cases h4 : (hasR (so x.toNatClampNeg) y w && hasR (so z.toNatClampNeg) v w)
        · exact Or.inl ⟨by rw [notC, h1, h2, cond_true, cond_false, if_pos h3, h4]; rfl, fun rn fd => by rw [oCopy, h1, h2, cond_true, cond_false, if_pos h3, h4]; rfl⟩
        · have h5 := h1
          have h6 := h4
          rw [Bool.and_eq_true] at h5 h6
          obtain ⟨k, hk, rfl, -⟩ := inR_nat (n := 4) (by decide) (by decide) h5.1
          obtain ⟨j, hj, rfl, -⟩ := inR_nat (n := 4) (by decide) (by decide) h5.2
          have ek : (nI k).toNatClampNeg = k := nI_clamp (by omega)
          have ej : (nI j).toNatClampNeg = j := nI_clamp (by omega)
          rw [ek] at h2 h3 h4 h6
          rw [ej] at h2 h3 h4 h6
          have hz := (J k hk).2
          have hz2 := (J j hj).2
          obtain ⟨a, c, rfl, rfl, hac⟩ := hasR_nat (J k hk).1 hz h6.1
          obtain ⟨b, rfl, hbc⟩ := hasR_nat2 (J j hj).1 hz2 (by omega) h6.2
          have ea : (nI a).toNatClampNeg = a := nI_clamp (by omega)
          have eb : (nI b).toNatClampNeg = b := nI_clamp (by omega)
          have ec : (nI c).toNatClampNeg = c := nI_clamp (by omega)
          exact Or.inr (Or.inr (Or.inr ⟨k, j, a, b, c, hk, hj, rfl, rfl, rfl, rfl, rfl, hac, hbc, by rw [notC, h1, ek, ej, h2, cond_true, cond_false, if_pos h3, h4]; rfl, fun rn fd => by rw [oCopy, h1, ek, ej, ea, eb, ec, h2, cond_true, cond_false, if_pos h3, h4]; rfl⟩))
      · exact Or.inr (Or.inr (Or.inl ⟨by rw [notC, h1, h2, cond_true, cond_false, if_neg h3], fun rn fd => by rw [oCopy, h1, h2, cond_true, cond_false, if_neg h3]⟩))
    · exact Or.inr (Or.inl ⟨by rw [notC, h1, h2]; rfl, fun rn fd => by rw [oCopy, h1, h2]; rfl⟩)
theorem zero_st {w : Nat → Int64} {rn : Nat → Nat → Int64} {k i j : Nat} (h : w j = if 40 * k ≤ j ∧ j < 40 * k + i then 0 else flR rn j) : vp_updL w (40 * k + i) 0 j = if 40 * k ≤ j ∧ j < 40 * k + (i + 1) then 0 else flR rn j := by
  show (if j = 40 * k + i then (0 : Int64) else w j) = _
  by_cases e : j = 40 * k + i
  · rw [if_pos e, if_pos (by omega)]
  · rw [if_neg e, h]
    by_cases e2 : 40 * k ≤ j ∧ j < 40 * k + i
    · rw [if_pos e2, if_pos (by omega)]
    · rw [if_neg e2, if_neg (by omega)]
theorem zero_at {rn : Nat → Nat → Int64} {k i : Nat} (j : Nat) (hi : i = 40) : (if 40 * k ≤ j ∧ j < 40 * k + i then 0 else flR rn j) = flR (setRL rn k (fun _ => 0)) j := by
  show _ = setRL rn k (fun _ => 0) (j / 40) (j % 40)
  rw [setRL_ap]
  by_cases e : j / 40 = k
  · rw [if_pos e, if_pos (by omega)]
  · rw [if_neg e, if_neg (by omega)]
    rfl
theorem inRL_G (v : Int64) : inRL v 0 5 = inG v := rfl
/-! a copy, number by number: from to below it from behind -/
def cpR (rn : Nat → Nat → Int64) (s t a b lo hi : Nat) : Nat → Nat → Int64 := fun u v => if u = t ∧ b + lo ≤ v ∧ v < b + hi then rn s (a + (v - b)) else rn u v
def cpN (rn : Nat → Nat → Int64) (s t a b n i : Nat) : Nat → Nat → Int64 := cpR rn s t a b (if a < b then n - i else 0) (if a < b then n else i)
theorem cp_zero {rn : Nat → Nat → Int64} {s t a b n : Nat} : cpN rn s t a b n 0 = rn := by
  funext u v
  unfold cpN cpR
  rw [if_neg]
  split <;> omega
theorem cp_end {rn : Nat → Nat → Int64} {s t a b n : Nat} : cpN rn s t a b n n = setRL rn t (va_cpy (rn s) (rn t) a b n) := by
  funext u v
  unfold cpN cpR
  rw [setRL_ap]
  by_cases h : u = t
  · rw [if_pos h]
    subst h
    show _ = if b ≤ v ∧ v < b + n then rn s (a + (v - b)) else rn u v
    have e : (u = u ∧ b + (if a < b then n - n else 0) ≤ v ∧ v < b + (if a < b then n else n)) ↔ (b ≤ v ∧ v < b + n) := by split <;> omega
    by_cases g : b ≤ v ∧ v < b + n
    · rw [if_pos g, if_pos (e.mpr g)]
    · rw [if_neg g, if_neg (fun z => g (e.mp z))]
  · rw [if_neg h, if_neg (fun z => h z.1)]
theorem cpR_up {rn : Nat → Nat → Int64} {s t a b lo hi lo' hi' i : Nat} (hr : (cpR rn s t a b lo hi) s (a + i) = rn s (a + i)) (hq : ∀ v, (b + lo' ≤ v ∧ v < b + hi') ↔ (v = b + i ∨ (b + lo ≤ v ∧ v < b + hi))) : setRL (cpR rn s t a b lo hi) t (vp_updL ((cpR rn s t a b lo hi) t) (b + i) ((cpR rn s t a b lo hi) s (a + i))) = cpR rn s t a b lo' hi' := by
  rw [hr]
  funext u v
  rw [setRL_ap]
  by_cases h : u = t
  · subst h
    rw [if_pos rfl]
    show (if v = b + i then rn s (a + i) else if u = u ∧ b + lo ≤ v ∧ v < b + hi then rn s (a + (v - b)) else rn u v) = if u = u ∧ b + lo' ≤ v ∧ v < b + hi' then rn s (a + (v - b)) else rn u v
    have h2 := hq v
    by_cases e : v = b + i
    · rw [if_pos e, if_pos ⟨rfl, h2.mpr (Or.inl e)⟩, e, show b + i - b = i by omega]
    · rw [if_neg e]
      by_cases g : b + lo ≤ v ∧ v < b + hi
      · rw [if_pos ⟨rfl, g⟩, if_pos ⟨rfl, h2.mpr (Or.inr g)⟩]
      · rw [if_neg (fun z => g z.2), if_neg (fun z => (h2.mp z.2).elim e g)]
  · rw [if_neg h]
    show (if u = t ∧ _ then _ else _) = if u = t ∧ _ then _ else _
    rw [if_neg (fun z => h z.1), if_neg (fun z => h z.1)]
theorem cp_asc {rn : Nat → Nat → Int64} {s t a b n i : Nat} (h : ¬ a < b) (hi : i < n) : setRL (cpN rn s t a b n i) t (vp_updL ((cpN rn s t a b n i) t) (b + i) ((cpN rn s t a b n i) s (a + i))) = cpN rn s t a b n (i + 1) := by
  unfold cpN
  rw [if_neg h, if_neg h, if_neg h, if_neg h]
  refine cpR_up ?_ (fun v => by omega)
  show (if s = t ∧ _ then _ else _) = _
  rw [if_neg (by omega)]
theorem cp_desc {rn : Nat → Nat → Int64} {s t a b n i : Nat} (h : a < b) (hi : i < n) : setRL (cpN rn s t a b n i) t (vp_updL ((cpN rn s t a b n i) t) (b + (n - 1 - i)) ((cpN rn s t a b n i) s (a + (n - 1 - i)))) = cpN rn s t a b n (i + 1) := by
  unfold cpN
  rw [if_pos h, if_pos h, if_pos h, if_pos h]
  refine cpR_up ?_ (fun v => by omega)
  show (if s = t ∧ _ then _ else _) = _
  rw [if_neg (by omega)]
