theorem pickL_rng (f : St) (p : Nat) : ∀ (n s : Nat) (b : Int32), (b = -1 ∨ ∃ j, j < s ∧ b = nI j) → pickL f p n s b = -1 ∨ ∃ j, j < s + n ∧ pickL f p n s b = nI j
  | 0, _, _, h => h
  | n + 1, s, b, h => by
    have h2 : (cond (canB f p s b) (nI s) b = -1 ∨ ∃ j, j < s + 1 ∧ cond (canB f p s b) (nI s) b = nI j) := by
      cases canB f p s b
      · rcases h with h | ⟨j, hj, h⟩
        · exact Or.inl h
        · exact Or.inr ⟨j, by omega, h⟩
      · exact Or.inr ⟨s, by omega, rfl⟩
    have h3 := pickL_rng f p n (s + 1) _ h2
    rw [pickL]
    rcases h3 with h3 | ⟨j, hj, h3⟩
    · exact Or.inl h3
    · exact Or.inr ⟨j, by omega, h3⟩
theorem pick_nat {f : St} {p : Nat} (h : ¬ pickF f p = -1) : ∃ j, j < sl f ∧ pickF f p = nI j := by
  rcases pickL_rng f p (sl f) 0 (-1) (Or.inl rfl) with h1 | ⟨j, hj, h1⟩
  · exact absurd h1 h
  · exact ⟨j, by omega, h1⟩
theorem nI_ne_m1 {j : Nat} (h : j < 2147483648) : ¬ nI j = -1 := by
  intro e
  have h1 := nI_toInt (n := j) h
  rw [e] at h1
  have h2 : (-1 : Int32).toInt = -1 := by decide
  omega
theorem heldF_nI {v : Nat} (h : v ≤ 1000) : ∃ w, w ≤ 999 ∧ heldF (nI v) = nI w := by
  unfold heldF
  by_cases c : 999 < v
  · rw [if_pos (show (999 : Int32) < nI v from nI_lt (a := 999) c (by omega))]
    exact ⟨999, Nat.le_refl _, rfl⟩
  · rw [if_neg (show ¬ (999 : Int32) < nI v from nI_nlt (a := 999) (by omega) (by decide))]
    exact ⟨v, by omega, rfl⟩
theorem upd_eq {f : Nat → Int32} {k j : Nat} {v : Int32} : upd f k v j = if j = k then v else f j := rfl
/-- a wall of which the rows 0, 4, 5, 6 are as they were, the others right -/
theorem Inv.of {T : Nat} {f g : St} (I : Inv T f) (h0 : g 0 = f 0) (h4 : g 4 = f 4) (h6 : g 6 = f 6) (h : ∀ s, s < 10 → (g 3 s = 0 ∨ g 3 s = 1) ∧ (∃ v, v ≤ 999 ∧ g 2 s = nI v) ∧ (g 1 s = -1 ∨ ∃ v, v ≤ 5 ∧ g 1 s = nI v)) : Inv T g := by
  obtain ⟨a1, a2, a3, a4, a5, a6⟩ := I
  refine ⟨?_, ?_, ?_, h, ?_, ?_⟩
  · unfold sl; rw [h0]; exact a1
  · unfold pe; rw [h0]; exact a2
  · unfold mn; rw [h0]; exact a3
  · unfold kn; rw [h4]; exact a5
  · rw [h6]; exact a6
theorem Inv.shift {T : Nat} {f : St} (I : Inv T f) {p q : Nat} (hp : p < 6) (hq : q < 10) : Inv T (shiftF f p q) := by
  refine I.of rfl rfl rfl (fun s hs => ⟨?_, ?_, ?_⟩)
  · show upd (f 3) q _ s = 0 ∨ upd (f 3) q _ s = 1
    rw [upd_eq]
    split
    · cases fixS (kn f p) (heldF (f 2 q + 1))
      · exact Or.inl rfl
      · exact Or.inr rfl
    · exact I.fx hs
  · show ∃ v, v ≤ 999 ∧ upd (f 2) q _ s = nI v
    rw [upd_eq]
    split
    · obtain ⟨v, h1, h2⟩ := I.mv hq
      rw [h2, nI_1]
      exact heldF_nI (by omega)
    · exact I.mv hs
  · show upd (f 1) q _ s = -1 ∨ ∃ v, v ≤ 5 ∧ upd (f 1) q _ s = nI v
    rw [upd_eq]
    split
    · exact Or.inr (I.wn (by omega))
    · exact I.gr hs
theorem turnL_inv {T : Nat} {p : Nat} (hp : p < 6) : ∀ (n : Nat) (f : St) (t : Int32), Inv T f → Inv T (turnL p n f t).1 ∧ (turnL p n f t).1 0 = f 0 ∧ (turnL p n f t).1 4 = f 4 ∧ (turnL p n f t).1 5 = f 5 ∧ (turnL p n f t).1 6 = f 6
  | 0, f, t, I => ⟨I, rfl, rfl, rfl, rfl⟩
  | n + 1, f, t, I => by
    rw [turnL]
    split
    · exact turnL_inv hp n f t I
    · rename_i h
      obtain ⟨j, hj, e⟩ := pick_nat h
      have hs := I.s10
      rw [e, nI_clamp (by omega)]
      exact turnL_inv hp n _ _ (I.shift hp (by omega))
theorem tnF_lt {f : St} (h : ¬ pe f = 0) : tnF f < pe f := Nat.mod_lt _ (Nat.pos_of_ne_zero h)
theorem goR_inv {T : Nat} {f : St} (I : Inv T f) : Inv T (goR f).1 ∧ (goR f).1 0 = f 0 ∧ (goR f).1 4 = f 4 ∧ (goR f).1 5 = f 5 ∧ (goR f).1 6 = f 6 := by
  unfold goR
  cases h : goes? f
  · exact ⟨I, rfl, rfl, rfl, rfl⟩
  · have h1 : ¬ pe f = 0 := by
      intro e
      simp [goes?, e] at h
    have := tnF_lt h1
    have := I.p6
    exact turnL_inv (by omega) _ _ _ I
/-- a minute more -/
theorem Inv.tick {T : Nat} {g : St} (I : Inv T g) (hT : T < 1000000) : Inv (T + 1) (up2 g 0 0 (g 0 0 + 1)) := by
  obtain ⟨a1, a2, a3, a4, a5, a6⟩ := I
  have e : g 0 0 + 1 = nI (mn g + 1) := by rw [a3.1]; exact nI_1 _
  have em : mn (up2 g 0 0 (g 0 0 + 1)) = mn g + 1 := by
    show (g 0 0 + 1).toNatClampNeg = _
    rw [e]
    exact nI_clamp (by omega)
  refine ⟨a1, a2, ⟨?_, ?_⟩, a4, a5, a6⟩
  · rw [em]
    exact e
  · rw [em]
    omega
theorem goF_eq {T : Nat} {f : St} (I : Inv T f) : goF f = up2 (goR f).1 0 0 ((goR f).1 0 0 + 1) := by
  rw [goF, (goR_inv I).2.1]
theorem Inv.go {T : Nat} {f : St} (I : Inv T f) (hT : T < 1000000) : Inv (T + 1) (goF f) := by
  rw [goF_eq I]
  exact (goR_inv I).1.tick hT
theorem Inv.more : ∀ (n : Nat) {T : Nat} {f : St}, Inv T f → T + n ≤ 1000000 → Inv (T + n) (goN n f)
  | 0, _, _, I, _ => I
  | n + 1, T, f, I, h => by
    have := Inv.more n (I.go (by omega)) (by omega)
    rw [show T + (n + 1) = T + 1 + n by omega]
    exact this
theorem Inv.mono {T U : Nat} {f : St} (I : Inv T f) (h : T ≤ U) : Inv U f := by
  obtain ⟨a1, a2, a3, a4⟩ := I
  exact ⟨a1, a2, ⟨a3.1, Nat.le_trans a3.2 h⟩, a4⟩
def setR (f : St) (b : Nat) (r : Nat → Int32) : St := fun c => cond (Nat.beq c b) r (f c)
def AC (own : String) (idx : Nat) : Prop := Cond.methodLink own idx arraycopyName ∈ Mw ∧ Cond.native arraycopyName ∈ Mw ∧ Cond.static arraycopyName ∈ Mw ∧ Cond.initialized "java/lang/System" ∈ Mw
theorem k_copyi {p : Program} {l : Launch} {e : Env} {R : Room} {s : State} {m : MethodId} {args : Array Value} {below : List Frame} {meth : Method} {c : Code} {H : Heap} {locs : List Loc} {cells slots : Nat} {Q : State → Prop} {cc : ByteArray} {pc nL : Nat} {own : String} {E : EE} {ls : Array Slot} {rest : List Value} {A : Nat → Prop} {a : Nat} {ws : va_W}
    (K : Kx p s m args meth c cc nL own E A) (X : Wd E A s.heap ws H locs) {idx : Nat} (G : AC own idx) (q0 q1 : Nat) {a0 n : Nat} {f g : Nat → Int32} (ha0 : ws[q0]? = some (a0, .inl (eA E 0, n, .inl f))) (ha1 : ws[q1]? = some (a, .inl (eA E 0, n, .inl g))) (hn : n < 2147483648) (hsz : ls.size = nL)
    (hframes : 1 ≤ R.frames) (hlocals : (rest.map fun v => v.category).sum + (nativeFrameWords "java/lang/System" "arraycopy" 5 + 11) ≤ R.locals) (hdg : decode cc pc = .ok (.invokestatic idx, 3))
    (kk : ∀ (H1 : Heap) (locs1 : List Loc), Wd E A s.heap (ws.set q1 (a, .inl (eA E 0, n, .inl f))) H1 locs1 → W p l e R s m args below meth c H1 locs1 cells slots Q (F0 m (pc + 3) ls rest)) : W p l e R s m args below meth c H locs cells slots Q (F0 m pc ls (.int (nI n) :: .int 0 :: .ref a :: .int 0 :: .ref a0 :: rest)) := by
  obtain ⟨hx, hb, hml, ho, hts, hE, -⟩ := K
  have hc : (nI n).toNatClampNeg = n := nI_clamp hn
  refine va_copyi hx hb (hml.trans hsz.symm) ho (hts _ G.1) (hts _ G.2.1) (hts _ G.2.2.1) (hts _ G.2.2.2) hE.1 X.1 X.2.1 X.2.2 q0 q1 0 0 ha0 ha1 rfl rfl rfl (by decide) (by decide) (nI_pos hn) (by rw [hc]; exact Nat.le_of_eq (Nat.zero_add n)) (by rw [hc]; exact Nat.le_of_eq (Nat.zero_add n)) (fun i _ => rfl) hframes hlocals hdg (fun H1 l1 a1 a2 a3 => ?_)
  have X1 : Wd E A s.heap _ H1 l1 := ⟨a1, a2, a3⟩
  have hl : q1 < ws.length := (List.getElem?_eq_some_iff.mp ha1).1
  have X2 := X1.arr q1 (g := f) (List.getElem?_set_self hl) (fun j hj => by
    rw [hc]
    have h0 : (0 : Int32).toNatClampNeg = 0 := by decide
    rw [h0]
    exact (pk_cpy_in (Nat.zero_le _) (by omega)).trans (by rw [Nat.sub_zero, Nat.zero_add]))
  rw [List.set_set] at X2
  exact kk H1 l1 X2
