/-! sheets -/
def szN (b z : Int32) : Int32 := if b = 0 then 0 else z
def cutL (b : Int32) (v : Int64) : Int64 := if b = 8 then v.toInt32.toInt8.toInt32.toInt64 else if b = 16 then v.toInt32.toInt16.toInt32.toInt64 else v
def hasR (z x y : Int32) : Bool := !decide (x < 0) && (!decide (y < 0) && !decide (z - x < y))
def zR (rz : Nat → Int32) (s : Nat) : Nat := (rz s).toNatClampNeg
def InvS (rz : Nat → Int32) : Prop := ∀ s, s < 4 → rz s = nI (zR rz s) ∧ zR rz s ≤ 40
def flR (r : Nat → Nat → Int64) : Nat → Int64 := fun k => r (k / 40) (k % 40)
theorem flR_at2 {r : Nat → Nat → Int64} {K s i : Nat} (h : K = 40 * s + i) (hi : i < 40) : flR r K = r s i := by
  subst h
  show r ((40 * s + i) / 40) ((40 * s + i) % 40) = r s i
  rw [show (40 * s + i) / 40 = s by omega, show (40 * s + i) % 40 = i by omega]
theorem setRL_ap (r : Nat → Nat → Int64) (s : Nat) (w : Nat → Int64) (u : Nat) : setRL r s w u = if u = s then w else r u := by
  unfold setRL
  by_cases h : u = s
  · rw [if_pos h, show Nat.beq u s = true from Nat.beq_eq.mpr h, cond_true]
  · rw [if_neg h]
    cases hb : Nat.beq u s
    · rfl
    · exact absurd (Nat.beq_eq.mp hb) h
theorem flR_up2 {r : Nat → Nat → Int64} {K s i : Nat} {v : Int64} (h : K = 40 * s + i) (hi : i < 40) : vp_updL (flR r) K v = flR (setRL r s (vp_updL (r s) i v)) := by
  subst h
  funext j
  show (if j = 40 * s + i then v else r (j / 40) (j % 40)) = setRL r s (vp_updL (r s) i v) (j / 40) (j % 40)
  rw [setRL_ap]
  by_cases h1 : j / 40 = s
  · rw [if_pos h1]
    show _ = if j % 40 = i then v else r s (j % 40)
    by_cases h2 : j % 40 = i
    · rw [if_pos h2, if_pos (by omega)]
    · rw [if_neg h2, if_neg (by omega), h1]
  · rw [if_neg h1, if_neg (by omega)]
theorem in_row {z : Nat} {y : Int32} (hz : z ≤ 40) (h : inR y 0 (nI z - 1) = true) : ∃ j, j < z ∧ y = nI j := by
  have h1 := cnt_m1 (x := nI z) rfl (by omega)
  obtain ⟨j, h2, h3, -⟩ := inR_nat (lo := 0) (n := z) (by decide) (by omega) h
  exact ⟨j, h2, h3⟩
theorem hasR_nat {z a c : Int32} {n : Nat} (hz : z = nI n) (hn : n ≤ 40) (h : hasR z a c = true) : ∃ a1 c1, a = nI a1 ∧ c = nI c1 ∧ a1 + c1 ≤ n := by
  unfold hasR at h
  rw [Bool.and_eq_true, Bool.and_eq_true, Bool.not_eq_true', Bool.not_eq_true', Bool.not_eq_true', decide_eq_false_iff_not, decide_eq_false_iff_not, decide_eq_false_iff_not] at h
  obtain ⟨h1, h2, h3⟩ := h
  obtain ⟨a1, ha, ea⟩ := nI_of h1
  obtain ⟨c1, hc, ec⟩ := nI_of h2
  refine ⟨a1, c1, ea, ec, ?_⟩
  rw [hz, ea, ec, Int32.lt_iff_toInt_lt, Int32.toInt_sub, nI_toInt (by omega), nI_toInt ha, nI_toInt hc] at h3
  have h4 : Int.bmod ((n : Int) - (a1 : Int)) (2 ^ 32) = (n : Int) - (a1 : Int) := by
    rw [Int.bmod_eq_of_le] <;> omega
  omega
theorem hasR_nat2 {z b : Int32} {n c : Nat} (hz : z = nI n) (hn : n ≤ 40) (hc : c < 2147483648) (h : hasR z b (nI c) = true) : ∃ b1, b = nI b1 ∧ b1 + c ≤ n := by
  obtain ⟨b1, c1, e1, e2, h1⟩ := hasR_nat hz hn h
  have : c = c1 := (nI_eq hc (by omega)).mp e2
  exact ⟨b1, e1, by omega⟩
theorem k_copyl {p : Program} {l : Launch} {e : Env} {R : Room} {s : State} {m : MethodId} {args : Array Value} {below : List Frame} {meth : Method} {c' : Code} {H : Heap} {locs : List Loc} {cells slots : Nat} {Q : State → Prop} {cc : ByteArray} {pc nL : Nat} {own : String} {E : EE} {ls : Array Slot} {rest : List Value} {A : Nat → Prop} {a : Nat} {ws : va_W}
    (K : Kx p s m args meth c' cc nL own E A) (X : Wd E A s.heap ws H locs) {idx : Nat} (G : AC own idx) (q0 q1 : Nat) {a0 i j c : Nat} {f g : Nat → Int64} (ha0 : ws[q0]? = some (a0, .inl (eA E 1, 40, .inr (.inl f)))) (ha1 : ws[q1]? = some (a, .inl (eA E 1, 40, .inr (.inl g)))) (h4 : i + c ≤ 40) (h5 : j + c ≤ 40) (hsz : ls.size = nL)
    (hframes : 1 ≤ R.frames) (hlocals : (rest.map fun v => v.category).sum + (nativeFrameWords "java/lang/System" "arraycopy" 5 + 11) ≤ R.locals) (hdg : decode cc pc = .ok (.invokestatic idx, 3))
    (kk : ∀ (H1 : Heap) (locs1 : List Loc), Wd E A s.heap (ws.set q1 (a, .inl (eA E 1, 40, .inr (.inl (va_cpy f g i j c))))) H1 locs1 → W p l e R s m args below meth c' H1 locs1 cells slots Q (F0 m (pc + 3) ls rest)) : W p l e R s m args below meth c' H locs cells slots Q (F0 m pc ls (.int (nI c) :: .int (nI j) :: .ref a :: .int (nI i) :: .ref a0 :: rest)) := by
  obtain ⟨hx, hb, hml, ho, hts, hE, -⟩ := K
  have hi : (nI i).toNatClampNeg = i := nI_clamp (by omega)
  have hj : (nI j).toNatClampNeg = j := nI_clamp (by omega)
  have hc : (nI c).toNatClampNeg = c := nI_clamp (by omega)
  refine va_copyl hx hb (hml.trans hsz.symm) ho (hts _ G.1) (hts _ G.2.1) (hts _ G.2.2.1) (hts _ G.2.2.2) hE.1 X.1 X.2.1 X.2.2 q0 q1 1 1 ha0 ha1 rfl rfl rfl (nI_pos (by omega)) (nI_pos (by omega)) (nI_pos (by omega)) (by rw [hi, hc]; exact h4) (by rw [hj, hc]; exact h5) (fun i _ => rfl) hframes hlocals hdg (fun H1 l1 a1 a2 a3 => ?_)
  rw [hi, hj, hc] at a1 a2
  exact kk H1 l1 ⟨a1, a2, a3⟩
def oSheet (rb rz : Nat → Int32) (rn : Nat → Nat → Int64) (td : Nat → Int32) (x y z : Int32) : Int32 × (Nat → Int32) × (Nat → Int32) × (Nat → Nat → Int64) × (Nat → Int32) := cond (inR x 0 3 && (decide (y = 0) || (decide (y = 8) || (decide (y = 16) || decide (y = 64))))) (if z < 0 then (fnd 6, rb, rz, rn, fdU td 6) else if 40 < z then (fnd 0, rb, rz, rn, fdU td 0) else (szN y z, upd rb x.toNatClampNeg y, upd rz x.toNatClampNeg (szN y z), setRL rn x.toNatClampNeg (fun _ => 0), td)) (fnd 0, rb, rz, rn, fdU td 0)
def oWrite (rb rz : Nat → Int32) (rn : Nat → Nat → Int64) (td : Nat → Int32) (x y : Int32) (v : Int64) : Int64 × (Nat → Nat → Int64) × (Nat → Int32) := cond (inR x 0 3) (cond (decide (rb x.toNatClampNeg = 0)) ((fnd 5).toInt64, rn, fdU td 5) (cond (inR y 0 (nI (zR rz x.toNatClampNeg) - 1)) (rn x.toNatClampNeg y.toNatClampNeg, setRL rn x.toNatClampNeg (vp_updL (rn x.toNatClampNeg) y.toNatClampNeg (cutL (rb x.toNatClampNeg) v)), td) ((fnd 0).toInt64, rn, fdU td 0))) ((fnd 0).toInt64, rn, fdU td 0)
def oCopy (rb rz : Nat → Int32) (rn : Nat → Nat → Int64) (td : Nat → Int32) (x y z v w : Int32) : Int32 × (Nat → Nat → Int64) × (Nat → Int32) := cond (inR x 0 3 && inR z 0 3) (cond (decide (rb x.toNatClampNeg = 0) || decide (rb z.toNatClampNeg = 0)) (fnd 5, rn, fdU td 5) (if rb x.toNatClampNeg = rb z.toNatClampNeg then cond (hasR (rz x.toNatClampNeg) y w && hasR (rz z.toNatClampNeg) v w) (w, setRL rn z.toNatClampNeg (va_cpy (rn x.toNatClampNeg) (rn z.toNatClampNeg) y.toNatClampNeg v.toNatClampNeg w.toNatClampNeg), td) (fnd 0, rn, fdU td 0) else (fnd 2, rn, fdU td 2))) (fnd 0, rn, fdU td 0)
def inG (v : Int64) : Bool := !decide (v < 0) && !decide (5 < v)
theorem inG_lo {v : Int64} (h : v < 0) : inG v = false := by rw [inG, decide_eq_true h]; rfl
theorem inG_hi {v : Int64} (h : 5 < v) : inG v = false := by rw [inG, decide_eq_true h, Bool.not_true, Bool.and_false]
theorem inG_in {v : Int64} (h1 : ¬ v < 0) (h2 : ¬ 5 < v) : inG v = true := by rw [inG, decide_eq_false h1, decide_eq_false h2]; rfl
def laL (r : Nat → Int64) (p : Nat) : Nat → Nat → Nat → St → Nat × St
  | 0, _, w, f => (w, f)
  | m + 1, i, w, f => cond (inG (r i)) (laL r p m (i + 1) (w + 1) (up2 f 6 (10 * p + i) (r i).toInt32)) (laL r p m (i + 1) w f)
def oLays (rb rz : Nat → Int32) (rn : Nat → Nat → Int64) (f : St) (td : Nat → Int32) (x y : Int32) : R3 := cond (inR x 0 3) (cond (decide (rb x.toNatClampNeg = 0)) (bad3 5 f td) (cond (isP f y) (nI (laL (rn x.toNatClampNeg) y.toNatClampNeg (min (zR rz x.toNatClampNeg) 10) 0 0 f).1, (laL (rn x.toNatClampNeg) y.toNatClampNeg (min (zR rz x.toNatClampNeg) 10) 0 0 f).2, td) (bad3 0 f td))) (bad3 0 f td)
def boL (b : Int32) (s q : Nat) : Nat → Nat → St → (Nat → Nat → Int64) → (Nat → Nat → Int64)
  | 0, _, _, r => r
  | m + 1, i, g, r => boL b s q m (i + 1) (goF g) (setRL r s (vp_updL (r s) i (cutL b (g 1 q).toInt64)))
def oBook (rb rz : Nat → Int32) (rn : Nat → Nat → Int64) (f : St) (td : Nat → Int32) (x y : Int32) : Int32 × (Nat → Nat → Int64) × (Nat → Int32) := cond (inR x 0 3) (cond (decide (rb x.toNatClampNeg = 0)) (fnd 5, rn, fdU td 5) (cond (isS f y) (nI (zR rz x.toNatClampNeg), boL (rb x.toNatClampNeg) x.toNatClampNeg y.toNatClampNeg (zR rz x.toNatClampNeg) 0 f rn, td) (fnd 0, rn, fdU td 0))) (fnd 0, rn, fdU td 0)
def goL (r : Nat → Int64) (q : Nat) : Nat → Nat → St → Bool
  | 0, _, _ => true
  | m + 1, i, g => if r i = (g 1 q).toInt64 then goL r q m (i + 1) (goF g) else false
def rdB (r : Nat → Int64) (z : Nat) (f : St) (p q k : Nat) : Bool := goL r q z 0 (up2 (up2 f 4 p (nI (k / 6))) 6 (10 * p + q) (nI (k % 6)))
theorem rdB_at {r : Nat → Int64} {z : Nat} {f : St} {p q i j : Nat} (h : j < 6) : rdB r z f p q (6 * i + j) = goL r q z 0 (up2 (up2 f 4 p (nI i)) 6 (10 * p + q) (nI j)) := by
  rw [rdB, show (6 * i + j) / 6 = i by omega, show (6 * i + j) % 6 = j by omega]
def oRead (rb rz : Nat → Int32) (rn : Nat → Nat → Int64) (f : St) (td : Nat → Int32) (x y z : Int32) : Int32 × (Nat → Int32) := cond (inR x 0 3) (cond (decide (rb x.toNatClampNeg = 0)) (fnd 5, fdU td 5) (cond (isS f y && isP f z) (nI (cntL (rdB (rn x.toNatClampNeg) (zR rz x.toNatClampNeg) f z.toNatClampNeg y.toNatClampNeg) 36 0 0), td) (fnd 0, fdU td 0))) (fnd 0, fdU td 0)
