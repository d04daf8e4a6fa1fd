theorem doneL_late {P : Nat} : ∀ (n i j : Nat) (g : St), 201 ≤ j → j ≤ i → i + n = 201 + P → doneL P n i j g = none
  | 0, _, _, _, _, _, _ => rfl
  | n + 1, i, j, g, h1, h2, h3 => by
    rw [doneL, if_neg (by omega)]
    exact doneL_late n (i + 1) _ _ (by split <;> omega) (by split <;> omega) (by omega)
theorem doneL_now {P : Nat} (n i j : Nat) (g : St) (h1 : j ≤ 200) (h2 : P ≤ i - j) (h3 : i ≤ j + P ∧ i + n = 201 + P) : doneL P n i j g = some j := by
  obtain ⟨n, rfl⟩ : ∃ z, n = z + 1 := ⟨n - 1, by omega⟩
  rw [doneL, if_pos h2]
theorem pe_go {T : Nat} {g : St} (I : Inv T g) : pe (goF g) = pe g := by
  have h := (goR_inv I).2.1
  show (((goR g).1 0) 3).toNatClampNeg = _
  rw [h]
  rfl
theorem or_1024 {a b : Nat} (ha : a < 1024) (hb : b < 1024) : a ||| b < 1024 := Nat.or_lt_two_pow (n := 10) ha hb
theorem turnL_nat {T : Nat} {p : Nat} (hp : p < 6) : ∀ (n : Nat) (f : St) (a : Nat), Inv T f → a < 1024 → ∃ v, v < 1024 ∧ (turnL p n f (nI a)).2 = nI v
  | 0, f, a, _, h => ⟨a, h, rfl⟩
  | n + 1, f, a, I, h => by
    rw [turnL]
    split
    · exact turnL_nat hp n f a I h
    · next hk =>
      obtain ⟨j, hj, e⟩ := pick_nat hk
      have := I.s10
      rw [e, shl_nI j (by omega), nI_or, nI_clamp (by omega)]
      exact turnL_nat hp n _ _ (I.shift hp (by omega)) (or_1024 h (Nat.pow_lt_pow_right (n := 10) (by decide) (by omega)))
theorem tcF_nat {T : Nat} {f : St} (I : Inv T f) : ∃ v, v < 1024 ∧ tcF f = nI v := by
  unfold tcF goR
  cases h : goes? f
  · exact ⟨0, by decide, rfl⟩
  · have hp : ¬ pe f = 0 := fun e => by simp [goes?, e] at h
    have := tnF_lt hp
    have := I.p6
    exact turnL_nat (by omega) _ f 0 I (by decide)
theorem sh_k : ∀ k, k < 10 → ((nI k &&& 31).toBitVec.smod 32#32).toNat = k := by decide +kernel
theorem n32 {n : Nat} (h : n < 1024) : (nI n).toBitVec.toNat = n := by
  show n % 2 ^ 32 = n
  omega
theorem shr_nI {k v : Nat} (hk : k < 10) (hv : v < 1024) : nI v >>> (nI k &&& 31) = nI (v >>> k) := by
  apply Int32.toBitVec_inj.mp
  apply BitVec.eq_of_toNat_eq
  have hm : (nI v).toBitVec.msb = false := by
    rw [BitVec.msb_eq_false_iff_two_mul_lt, n32 hv]
    omega
  have hlt : v >>> k < 1024 := Nat.lt_of_le_of_lt (Nat.shiftRight_le _ _) hv
  have hs := sh_k k hk
  have h1 : (nI v >>> (nI k &&& 31)).toBitVec = (nI v).toBitVec.sshiftRight' ((nI k &&& 31).toBitVec.smod 32#32) := rfl
  rw [h1, BitVec.toNat_sshiftRight'_of_msb_false hm, hs, n32 hv, n32 hlt]
theorem nI_and (a b : Nat) : nI a &&& nI b = nI (a &&& b) := by
  apply Int32.toBitVec_inj.mp
  show BitVec.ofNat 32 a &&& BitVec.ofNat 32 b = BitVec.ofNat 32 (a &&& b)
  rw [BitVec.ofNat_and]
theorem bit_nat : ∀ k, k < 10 → ∀ v, v < 1024 → ((v >>> k) &&& 1 = 0 ↔ v &&& 2 ^ k = 0) := by decide +kernel
theorem nI_z {a : Nat} (h : a < 1024) : nI a = 0 ↔ a = 0 := ⟨fun e => by have e2 := congrArg (fun x => x.toBitVec.toNat) e; simp only [n32 h] at e2; exact e2, fun e => by rw [e]; rfl⟩
theorem bit_eq (k : Nat) (hk : k < 10) (v : Nat) (hv : v < 1024) : ((nI v >>> (nI k &&& 31)) &&& 1 = 0 ↔ nI v &&& (1 <<< (nI k &&& 31)) = 0) := by
  have hlt : v >>> k < 1024 := Nat.lt_of_le_of_lt (Nat.shiftRight_le _ _) hv
  rw [shr_nI hk hv, shl_nI k (by omega), show (1 : Int32) = nI 1 from rfl, nI_and, nI_and, nI_z (Nat.lt_of_le_of_lt Nat.and_le_left hlt), nI_z (Nat.lt_of_le_of_lt Nat.and_le_left hv)]
  exact bit_nat k hk v hv
theorem bsL_rng (ok : Nat → Bool) (c v : Nat → Int32) : ∀ (n i : Nat) (one wo : Int32), (∀ j, i ≤ j → j < i + n → ∃ k, k < 1000000 ∧ v j = nI k) → (one = -1 ∨ ∃ k, k < 1000000 ∧ one = nI k) → ((bsL ok c v n i one wo).1 = -1 ∨ ∃ k, k < 1000000 ∧ (bsL ok c v n i one wo).1 = nI k)
  | 0, _, _, _, _, h => h
  | n + 1, i, one, wo, hv, h => by
    have h0 := hv i (Nat.le_refl _) (by omega)
    have hv' : ∀ j, i + 1 ≤ j → j < i + 1 + n → ∃ k, k < 1000000 ∧ v j = nI k := fun j a b => hv j (by omega) (by omega)
    rw [bsL]
    cases ok i
    · exact bsL_rng ok c v n (i + 1) _ _ hv' h
    · refine bsL_rng ok c v n (i + 1) _ _ hv' ?_
      unfold bestO
      split
      · exact Or.inr h0
      · exact h
theorem best_lem {c : Nat → Int32} {N i : Nat} {b1 w1 : Int32} (h0 : 0 < N) (hN : N < 1000) (hR : bmL (fun _ => true) c (fun v => nI v) 0 i b1 w1 = bmL (fun _ => true) c (fun v => nI v) N 0 0 (-1)) (hc : ∀ j, j < N → -1 < c j) : b1 = (bsL (fun _ => true) c (fun v => nI v) N 0 (-1) 0).1 := by
  obtain ⟨n, rfl⟩ : ∃ z, N = z + 1 := ⟨N - 1, by omega⟩
  rw [bm_first _ _ _ 0 (-1) (hc 0 h0)] at hR
  have h1 : b1 = (bmL (fun _ => true) c (fun v => nI v) (n + 1) 0 (-1) (-1)).1 := congrArg Prod.fst hR
  rw [h1]
  exact bm_bs _ _ _ _ _ _ _ _ _ (fun j _ hj => ⟨nI_ne_m1 (by omega), hc j (by omega)⟩) (Or.inl ⟨rfl, rfl, rfl⟩)
theorem bsL_first {c v : Nat → Int32} {N n : Nat} (h : N = n + 1) : bsL (fun _ => true) c v n 1 (v 0) (c 0) = bsL (fun _ => true) c v N 0 (-1) 0 := by
  rw [h, bsL, cond_true, bestO, if_pos (Or.inl rfl)]
theorem orN_lt {b : Int32} (h : b = -1 ∨ ∃ k, k < 1000000 ∧ b = nI k) : b < 0 ↔ b = -1 := by
  rcases h with rfl | ⟨k, hk, rfl⟩
  · decide
  · exact ⟨fun e => absurd e (nI_pos (by omega)), fun e => absurd e (nI_ne_m1 (by omega))⟩
theorem orN_a {b b' : Int32} {f : St} {td : Nat → Int32} (e : b = b') (h : b' = -1 ∨ ∃ k, k < 1000000 ∧ b' = nI k) : (if b < 0 then fnd 3 else b) = (orNone b' f td).1 := by
  rw [e, orNone]
  by_cases h1 : b' = -1
  · rw [if_pos h1, if_pos ((orN_lt h).mpr h1)]; rfl
  · rw [if_neg h1, if_neg (fun z => h1 ((orN_lt h).mp z))]
theorem orN_w {b b' : Int32} {f : St} {td : Nat → Int32} {E : EE} {bb : Nat → Nat} {hf wf : Nat → Int32} {ik : Int32} {tch : Int32} {tp : Nat → Int32} {tl tk tb ta tv bad : Int32} {bo so : Nat → Int32} {ce : Nat → Int64} (e : b = b') (h : b' = -1 ∨ ∃ k, k < 1000000 ∧ b' = nI k) :
    modW E bb (flat f) hf wf ik (if b < 0 then fdU td 3 else td) tch tp tl tk tb ta tv bad bo so ce = modW E bb (flat (orNone b' f td).2.1) hf wf ik (orNone b' f td).2.2 tch tp tl tk tb ta tv bad bo so ce := by
  rw [e, orNone]
  by_cases h1 : b' = -1
  · rw [if_pos h1, if_pos ((orN_lt h).mpr h1)]; rfl
  · rw [if_neg h1, if_neg (fun z => h1 ((orN_lt h).mp z))]
theorem sumL_nat (c : Nat → Int32) : ∀ (n i a : Nat), (∀ j, i ≤ j → j < i + n → ∃ v, v ≤ 999 ∧ c j = nI v) → ∃ v, v ≤ a + 999 * n ∧ sumL c n i (nI a) = nI v
  | 0, _, a, _ => ⟨a, by omega, rfl⟩
  | n + 1, i, a, h => by
    obtain ⟨v, hv, e⟩ := h i (Nat.le_refl _) (by omega)
    rw [sumL, e, nI_add]
    obtain ⟨w, hw, e2⟩ := sumL_nat c n (i + 1) (a + v) (fun j x y => h j (by omega) (by omega))
    exact ⟨w, by omega, e2⟩
theorem allF_nat {T : Nat} {f : St} (I : Inv T f) : ∃ v, v < 10000 ∧ allF f = nI v := by
  have h10 := I.s10
  obtain ⟨v, hv, e⟩ := sumL_nat (fun s => f 2 s) (sl f) 0 0 (fun j _ hj => I.mv (by omega))
  exact ⟨v, by omega, e⟩
theorem neg_lt {a b : Nat} (ha : a < 10000) (hb : b < 10000) : (0 : Int32) - nI a < 0 - nI b ↔ nI b < nI a := by
  rw [Int32.lt_iff_toInt_lt, Int32.lt_iff_toInt_lt, show (0 : Int32) = nI 0 from rfl, pk_sub_toInt (by decide) (by omega), pk_sub_toInt (by decide) (by omega), nI_toInt (by omega), nI_toInt (by omega)]
  omega
abbrev BRel (o b : Int32 × Int32) : Prop := (o.1 = -1 ∧ b.1 = -1 ∧ b.2 = -1) ∨ (¬ o.1 = -1 ∧ b.1 = o.1 ∧ b.2 = o.2)
theorem bm_rel (c v : Nat → Int32) : ∀ (n i : Nat) (o b : Int32 × Int32), (∀ j, i ≤ j → j < i + n → ¬ v j = -1 ∧ -1 < c j) → BRel o b → BRel (bsL (fun _ => true) c v n i o.1 o.2) (bmL (fun _ => true) c v n i b.1 b.2)
  | 0, _, _, _, _, h => h
  | n + 1, i, o, b, hc, h => by
    have h0 := hc i (Nat.le_refl _) (by omega)
    rw [bmL, bsL]
    have hc' : ∀ j, i + 1 ≤ j → j < i + 1 + n → ¬ v j = -1 ∧ -1 < c j := fun j x y => hc j (by omega) (by omega)
    simp only [Bool.true_and, cond_true]
    rcases h with ⟨h1, h2, h3⟩ | ⟨h1, h2, h3⟩
    · rw [h3, decide_eq_true h0.2, cond_true, bestO, if_pos (Or.inl h1)]
      exact bm_rel c v n (i + 1) (v i, c i) (v i, c i) hc' (Or.inr ⟨h0.1, rfl, rfl⟩)
    · by_cases hw : o.2 < c i
      · rw [h3, decide_eq_true hw, cond_true, bestO, if_pos (Or.inr hw)]
        exact bm_rel c v n (i + 1) (v i, c i) (v i, c i) hc' (Or.inr ⟨h0.1, rfl, rfl⟩)
      · rw [h3, decide_eq_false hw, cond_false, bestO, if_neg (fun z => z.elim h1 hw)]
        exact bm_rel c v n (i + 1) o (b.1, o.2) hc' (Or.inr ⟨h1, h2, rfl⟩)
def prM (f : St) : Nat → Nat → Int32 → Int32 → Int32 × Int32
  | 0, _, b, w => (b, w)
  | n + 1, i, b, w => prM f n (i + 1) (bmL (fun _ => true) (fun b => nI (sameF f i b)) (fun b => nI (10 * i + b)) (pe f - (i + 1)) (i + 1) b w).1 (bmL (fun _ => true) (fun b => nI (sameF f i b)) (fun b => nI (10 * i + b)) (pe f - (i + 1)) (i + 1) b w).2
theorem same_le {f : St} (h : sl f ≤ 10) (p o : Nat) : sameF f p o ≤ 10 := by
  have := cntL_le (fun s => decide (f 6 (10 * p + s) = f 6 (10 * o + s))) (sl f) 0 0
  unfold sameF
  omega
theorem prM_rel (f : St) (hp : pe f ≤ 6) (hs : sl f ≤ 10) : ∀ (n i : Nat) (o b : Int32 × Int32), i + n ≤ 6 → BRel o b → BRel (prL f n i o.1 o.2) (prM f n i b.1 b.2)
  | 0, _, _, _, _, h => h
  | n + 1, i, o, b, hi, h => by
    rw [prL, prM]
    exact prM_rel f hp hs n (i + 1) (_, _) (_, _) (by omega) (bm_rel _ _ _ _ _ _ (fun j _ hj => ⟨nI_ne_m1 (by omega), nI_gt_m1 (by have := same_le hs i j; omega)⟩) h)
theorem prM_fst (f : St) (hp : pe f ≤ 6) (hs : sl f ≤ 10) : (prM f (pe f) 0 (-1) (-1)).1 = (prL f (pe f) 0 (-1) 0).1 := by
  rcases prM_rel f hp hs (pe f) 0 (-1, 0) (-1, -1) (by omega) (Or.inl ⟨rfl, rfl, rfl⟩) with ⟨h1, h2, -⟩ | ⟨-, h2, -⟩
  · exact h2.trans h1.symm
  · exact h2
theorem prL_rng (f : St) (hp : pe f ≤ 6) : ∀ (n i : Nat) (one wo : Int32), i + n ≤ 6 → (one = -1 ∨ ∃ k, k < 1000000 ∧ one = nI k) → ((prL f n i one wo).1 = -1 ∨ ∃ k, k < 1000000 ∧ (prL f n i one wo).1 = nI k)
  | 0, _, _, _, _, h => h
  | n + 1, i, one, wo, hi, h => by
    rw [prL]
    exact prL_rng f hp n (i + 1) _ _ (by omega) (bsL_rng _ _ _ _ _ _ _ (fun j _ hj => ⟨10 * i + j, by omega, rfl⟩) h)
