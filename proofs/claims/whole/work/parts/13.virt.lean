theorem set_same {ws : va_W} {i : Nat} {c : Nat × va_E} (h : ws[i]? = some c) : ws.set i c = ws := by
  apply List.ext_getElem?
  intro j
  by_cases hj : j = i
  · subst hj
    rw [List.getElem?_set_self (List.getElem?_eq_some_iff.mp h).1, h]
  · rw [List.getElem?_set_ne (Ne.symm hj)]
def kci (j : Nat) : Nat := match j with
  | 0 => 4
  | 1 => 2
  | 2 => 8
  | 3 => 1
  | 4 => 3
  | _ => 5
section VV
variable {p : Program} {l : Launch} {e : Env} {R : Room} {s : State} {m : MethodId} {args : Array Value} {below : List Frame} {meth : Method} {c : Code} {H : Heap} {locs : List Loc} {cells slots : Nat} {Q : State → Prop}
variable {cc : ByteArray} {pc nL : Nat} {E : EE} {ls : Array Slot} {rest : List Value} {A : Nat → Prop} {ws : va_W} {k : Nat → Nat}
theorem v_mayTouch (K : Kx p s m args meth c cc nL RX6 E A) (X : Wd E A s.heap ws H locs) (q0 : Nat) (hk : ∀ j, j < 6 → ws[q0 + j]? = some (k (1 + j), .inr (kci j, []))) {q : Nat} {x y z : Int32} (hq : q < 6) (hR : (3 ≤ R.frames ∧ 69 ≤ R.locals) ∧ cells + 0 ≤ R.cells ∧ slots + 0 ≤ R.slots) (hsz : ls.size = nL) (hw : (rest.map fun v => v.category).sum ≤ 8) (hdg : decode cc pc = .ok (.invokevirtual 90, 3))
    (kk : ∀ (H1 : Heap) (locs1 : List Loc), Wd E A s.heap ws H1 locs1 → W p l e R s m args below meth c H1 locs1 cells slots Q (F0 m (pc + 3) ls (.int (b2i (mayS q x y z)) :: rest))) : W p l e R s m args below meth c H locs cells slots Q (F0 m pc ls (.int z :: .int y :: .int x :: .ref (k (1 + q)) :: rest)) := by
  have ro : ∀ {a b : Nat}, a + 1 ≤ 3 → b ≤ 69 → (a + 1 ≤ R.frames ∧ b ≤ R.locals) ∧ cells + 0 ≤ R.cells ∧ slots + 0 ≤ R.slots := fun h1 h2 => ⟨⟨Nat.le_trans h1 hR.1.1, Nat.le_trans h2 hR.1.2⟩, hR.2⟩
  match q, hq with
  | 0, _ =>
    have h0 := hk 0 (by decide)
    refine k_callV K X gv_X6_90 (As := [.int x, .int y, .int z]) (c_X4_mayTouch l E (k (1 + 0)) 4 x y z (by decide)) [q0 + 0] (congrArg (fun z => [z]) h0) rfl (fun _ => rfl) 0 4 rfl rfl (ro (by decide) (by decide)) rfl hsz (rest := rest) rfl hw hdg (st1 := fun _ => .int (b2i (mayS 0 x y z)) :: rest) (fun _ => rfl) (fun _ H1 l1 _ X => ?_)
    exact kk H1 l1 (X.eq (set_same h0))
  | 1, _ =>
    have h0 := hk 1 (by decide)
    refine k_callO K X go_X6_90_X2 (As := [.int x, .int y, .int z]) (c_X2_mayTouch l E (k (1 + 1)) 2 x y z (by decide)) [q0 + 1] (congrArg (fun z => [z]) h0) rfl (fun _ => rfl) 0 2 rfl rfl (ro (by decide) (by decide)) rfl hsz (rest := rest) rfl hw hdg (st1 := fun _ => .int (b2i (mayS 1 x y z)) :: rest) (fun _ => rfl) (fun _ H1 l1 _ X => ?_)
    exact kk H1 l1 (X.eq (set_same h0))
  | 2, _ =>
    have h0 := hk 2 (by decide)
    refine k_callO K X go_X6_90_X8 (As := [.int x, .int y, .int z]) (c_X8_mayTouch l E (k (1 + 2)) 8 x y z (by decide)) [q0 + 2] (congrArg (fun z => [z]) h0) rfl (fun _ => rfl) 0 8 rfl rfl (ro (by decide) (by decide)) rfl hsz (rest := rest) rfl hw hdg (st1 := fun _ => .int (b2i (mayS 2 x y z)) :: rest) (fun _ => rfl) (fun _ H1 l1 _ X => ?_)
    exact kk H1 l1 (X.eq (set_same h0))
  | 3, _ =>
    have h0 := hk 3 (by decide)
    refine k_callO K X go_X6_90_X1 (As := [.int x, .int y, .int z]) (c_X1_mayTouch l E (k (1 + 3)) 1 x y z (by decide)) [q0 + 3] (congrArg (fun z => [z]) h0) rfl (fun _ => rfl) 0 1 rfl rfl (ro (by decide) (by decide)) rfl hsz (rest := rest) rfl hw hdg (st1 := fun _ => .int (b2i (mayS 3 x y z)) :: rest) (fun _ => rfl) (fun _ H1 l1 _ X => ?_)
    exact kk H1 l1 (X.eq (set_same h0))
  | 4, _ =>
    have h0 := hk 4 (by decide)
    refine k_callO K X go_X6_90_X3 (As := [.int x, .int y, .int z]) (c_X2_mayTouch l E (k (1 + 4)) 3 x y z (by decide)) [q0 + 4] (congrArg (fun z => [z]) h0) rfl (fun _ => rfl) 0 3 rfl rfl (ro (by decide) (by decide)) rfl hsz (rest := rest) rfl hw hdg (st1 := fun _ => .int (b2i (mayS 4 x y z)) :: rest) (fun _ => rfl) (fun _ H1 l1 _ X => ?_)
    exact kk H1 l1 (X.eq (set_same h0))
  | 5, _ =>
    have h0 := hk 5 (by decide)
    refine k_callO K X go_X6_90_X5 (As := [.int x, .int y, .int z]) (c_X5_mayTouch l E (k (1 + 5)) 5 x y z (by decide)) [q0 + 5] (congrArg (fun z => [z]) h0) rfl (fun _ => rfl) 0 5 rfl rfl (ro (by decide) (by decide)) rfl hsz (rest := rest) rfl hw hdg (st1 := fun _ => .int (b2i (mayS 5 x y z)) :: rest) (fun _ => rfl) (fun _ H1 l1 _ X => ?_)
    exact kk H1 l1 (X.eq (set_same h0))
theorem v_prefers (K : Kx p s m args meth c cc nL RX6 E A) (X : Wd E A s.heap ws H locs) (q0 : Nat) (hk : ∀ j, j < 6 → ws[q0 + j]? = some (k (1 + j), .inr (kci j, []))) {q : Nat} {x y : Int32} (hq : q < 6) (hR : (1 ≤ R.frames ∧ 22 ≤ R.locals) ∧ cells + 0 ≤ R.cells ∧ slots + 0 ≤ R.slots) (hsz : ls.size = nL) (hw : (rest.map fun v => v.category).sum ≤ 8) (hdg : decode cc pc = .ok (.invokevirtual 94, 3))
    (kk : ∀ (H1 : Heap) (locs1 : List Loc), Wd E A s.heap ws H1 locs1 → W p l e R s m args below meth c H1 locs1 cells slots Q (F0 m (pc + 3) ls (.int (b2i (prefS q x y)) :: rest))) : W p l e R s m args below meth c H locs cells slots Q (F0 m pc ls (.int y :: .int x :: .ref (k (1 + q)) :: rest)) := by
  have ro : ∀ {a b : Nat}, a + 1 ≤ 1 → b ≤ 22 → (a + 1 ≤ R.frames ∧ b ≤ R.locals) ∧ cells + 0 ≤ R.cells ∧ slots + 0 ≤ R.slots := fun h1 h2 => ⟨⟨Nat.le_trans h1 hR.1.1, Nat.le_trans h2 hR.1.2⟩, hR.2⟩
  match q, hq with
  | 0, _ =>
    have h0 := hk 0 (by decide)
    refine k_callV K X gv_X6_94 (As := [.int x, .int y]) (c_X4_prefers l E (k (1 + 0)) 4 x y (by decide)) [q0 + 0] (congrArg (fun z => [z]) h0) rfl (fun _ => rfl) 0 4 rfl rfl (ro (by decide) (by decide)) rfl hsz (rest := rest) rfl hw hdg (st1 := fun _ => .int (b2i (prefS 0 x y)) :: rest) (fun _ => rfl) (fun _ H1 l1 _ X => ?_)
    exact kk H1 l1 (X.eq (set_same h0))
  | 1, _ =>
    have h0 := hk 1 (by decide)
    refine k_callO K X go_X6_94_X2 (As := [.int x, .int y]) (c_X2_prefers l E (k (1 + 1)) 2 x y (by decide)) [q0 + 1] (congrArg (fun z => [z]) h0) rfl (fun _ => rfl) 0 2 rfl rfl (ro (by decide) (by decide)) rfl hsz (rest := rest) rfl hw hdg (st1 := fun _ => .int (b2i (prefS 1 x y)) :: rest) (fun _ => rfl) (fun _ H1 l1 _ X => ?_)
    exact kk H1 l1 (X.eq (set_same h0))
  | 2, _ =>
    have h0 := hk 2 (by decide)
    refine k_callO K X go_X6_94_X8 (As := [.int x, .int y]) (c_X4_prefers l E (k (1 + 2)) 8 x y (by decide)) [q0 + 2] (congrArg (fun z => [z]) h0) rfl (fun _ => rfl) 0 8 rfl rfl (ro (by decide) (by decide)) rfl hsz (rest := rest) rfl hw hdg (st1 := fun _ => .int (b2i (prefS 2 x y)) :: rest) (fun _ => rfl) (fun _ H1 l1 _ X => ?_)
    exact kk H1 l1 (X.eq (set_same h0))
  | 3, _ =>
    have h0 := hk 3 (by decide)
    refine k_callO K X go_X6_94_X1 (As := [.int x, .int y]) (c_X1_prefers l E (k (1 + 3)) 1 x y (by decide)) [q0 + 3] (congrArg (fun z => [z]) h0) rfl (fun _ => rfl) 0 1 rfl rfl (ro (by decide) (by decide)) rfl hsz (rest := rest) rfl hw hdg (st1 := fun _ => .int (b2i (prefS 3 x y)) :: rest) (fun _ => rfl) (fun _ H1 l1 _ X => ?_)
    exact kk H1 l1 (X.eq (set_same h0))
  | 4, _ =>
    have h0 := hk 4 (by decide)
    refine k_callO K X go_X6_94_X3 (As := [.int x, .int y]) (c_X2_prefers l E (k (1 + 4)) 3 x y (by decide)) [q0 + 4] (congrArg (fun z => [z]) h0) rfl (fun _ => rfl) 0 3 rfl rfl (ro (by decide) (by decide)) rfl hsz (rest := rest) rfl hw hdg (st1 := fun _ => .int (b2i (prefS 4 x y)) :: rest) (fun _ => rfl) (fun _ H1 l1 _ X => ?_)
    exact kk H1 l1 (X.eq (set_same h0))
  | 5, _ =>
    have h0 := hk 5 (by decide)
    refine k_callO K X go_X6_94_X5 (As := [.int x, .int y]) (c_X4_prefers l E (k (1 + 5)) 5 x y (by decide)) [q0 + 5] (congrArg (fun z => [z]) h0) rfl (fun _ => rfl) 0 5 rfl rfl (ro (by decide) (by decide)) rfl hsz (rest := rest) rfl hw hdg (st1 := fun _ => .int (b2i (prefS 5 x y)) :: rest) (fun _ => rfl) (fun _ H1 l1 _ X => ?_)
    exact kk H1 l1 (X.eq (set_same h0))
theorem v_turns (K : Kx p s m args meth c cc nL RX6 E A) (X : Wd E A s.heap ws H locs) (q0 : Nat) (hk : ∀ j, j < 6 → ws[q0 + j]? = some (k (1 + j), .inr (kci j, []))) {q : Nat} (hq : q < 6) (hR : (3 ≤ R.frames ∧ 60 ≤ R.locals) ∧ cells + 0 ≤ R.cells ∧ slots + 0 ≤ R.slots) (hsz : ls.size = nL) (hw : (rest.map fun v => v.category).sum ≤ 8) (hdg : decode cc pc = .ok (.invokevirtual 97, 3))
    (kk : ∀ (H1 : Heap) (locs1 : List Loc), Wd E A s.heap ws H1 locs1 → W p l e R s m args below meth c H1 locs1 cells slots Q (F0 m (pc + 3) ls (.int (nI (turnS q)) :: rest))) : W p l e R s m args below meth c H locs cells slots Q (F0 m pc ls (.ref (k (1 + q)) :: rest)) := by
  have ro : ∀ {a b : Nat}, a + 1 ≤ 3 → b ≤ 60 → (a + 1 ≤ R.frames ∧ b ≤ R.locals) ∧ cells + 0 ≤ R.cells ∧ slots + 0 ≤ R.slots := fun h1 h2 => ⟨⟨Nat.le_trans h1 hR.1.1, Nat.le_trans h2 hR.1.2⟩, hR.2⟩
  match q, hq with
  | 0, _ =>
    have h0 := hk 0 (by decide)
    refine k_callV K X gv_X6_97 (As := []) (c_X4_turns l E (k (1 + 0)) 4  (by decide)) [q0 + 0] (congrArg (fun z => [z]) h0) rfl (fun _ => rfl) 0 4 rfl rfl (ro (by decide) (by decide)) rfl hsz (rest := rest) rfl hw hdg (st1 := fun _ => .int (nI (turnS 0)) :: rest) (fun _ => rfl) (fun _ H1 l1 _ X => ?_)
    exact kk H1 l1 (X.eq (set_same h0))
  | 1, _ =>
    have h0 := hk 1 (by decide)
    refine k_callO K X go_X6_97_X2 (As := []) (c_X2_turns l E (k (1 + 1)) 2  (by decide)) [q0 + 1] (congrArg (fun z => [z]) h0) rfl (fun _ => rfl) 0 2 rfl rfl (ro (by decide) (by decide)) rfl hsz (rest := rest) rfl hw hdg (st1 := fun _ => .int (nI (turnS 1)) :: rest) (fun _ => rfl) (fun _ H1 l1 _ X => ?_)
    exact kk H1 l1 (X.eq (set_same h0))
  | 2, _ =>
    have h0 := hk 2 (by decide)
    refine k_callO K X go_X6_97_X8 (As := []) (c_X4_turns l E (k (1 + 2)) 8  (by decide)) [q0 + 2] (congrArg (fun z => [z]) h0) rfl (fun _ => rfl) 0 8 rfl rfl (ro (by decide) (by decide)) rfl hsz (rest := rest) rfl hw hdg (st1 := fun _ => .int (nI (turnS 2)) :: rest) (fun _ => rfl) (fun _ H1 l1 _ X => ?_)
    exact kk H1 l1 (X.eq (set_same h0))
  | 3, _ =>
    have h0 := hk 3 (by decide)
    refine k_callO K X go_X6_97_X1 (As := []) (c_X4_turns l E (k (1 + 3)) 1  (by decide)) [q0 + 3] (congrArg (fun z => [z]) h0) rfl (fun _ => rfl) 0 1 rfl rfl (ro (by decide) (by decide)) rfl hsz (rest := rest) rfl hw hdg (st1 := fun _ => .int (nI (turnS 3)) :: rest) (fun _ => rfl) (fun _ H1 l1 _ X => ?_)
    exact kk H1 l1 (X.eq (set_same h0))
  | 4, _ =>
    have h0 := hk 4 (by decide)
    refine k_callO K X go_X6_97_X3 (As := []) (c_X3_turns l E (k (1 + 4)) 3  (by decide)) [q0 + 4] (congrArg (fun z => [z]) h0) rfl (fun _ => rfl) 0 3 rfl rfl (ro (by decide) (by decide)) rfl hsz (rest := rest) rfl hw hdg (st1 := fun _ => .int (nI (turnS 4)) :: rest) (fun _ => rfl) (fun _ H1 l1 _ X => ?_)
    exact kk H1 l1 (X.eq (set_same h0))
  | 5, _ =>
    have h0 := hk 5 (by decide)
    refine k_callO K X go_X6_97_X5 (As := []) (c_X4_turns l E (k (1 + 5)) 5  (by decide)) [q0 + 5] (congrArg (fun z => [z]) h0) rfl (fun _ => rfl) 0 5 rfl rfl (ro (by decide) (by decide)) rfl hsz (rest := rest) rfl hw hdg (st1 := fun _ => .int (nI (turnS 5)) :: rest) (fun _ => rfl) (fun _ H1 l1 _ X => ?_)
    exact kk H1 l1 (X.eq (set_same h0))
theorem v_isKind (K : Kx p s m args meth c cc nL RX6 E A) (X : Wd E A s.heap ws H locs) (q0 : Nat) (hk : ∀ j, j < 6 → ws[q0 + j]? = some (k (1 + j), .inr (kci j, []))) {q : Nat} {x : Int32} (hq : q < 6) (hR : (3 ≤ R.frames ∧ 63 ≤ R.locals) ∧ cells + 0 ≤ R.cells ∧ slots + 0 ≤ R.slots) (hsz : ls.size = nL) (hw : (rest.map fun v => v.category).sum ≤ 8) (hdg : decode cc pc = .ok (.invokevirtual 100, 3))
    (kk : ∀ (H1 : Heap) (locs1 : List Loc), Wd E A s.heap ws H1 locs1 → W p l e R s m args below meth c H1 locs1 cells slots Q (F0 m (pc + 3) ls (.int (b2i (isKS q x)) :: rest))) : W p l e R s m args below meth c H locs cells slots Q (F0 m pc ls (.int x :: .ref (k (1 + q)) :: rest)) := by
  have ro : ∀ {a b : Nat}, a + 1 ≤ 3 → b ≤ 63 → (a + 1 ≤ R.frames ∧ b ≤ R.locals) ∧ cells + 0 ≤ R.cells ∧ slots + 0 ≤ R.slots := fun h1 h2 => ⟨⟨Nat.le_trans h1 hR.1.1, Nat.le_trans h2 hR.1.2⟩, hR.2⟩
  match q, hq with
  | 0, _ =>
    have h0 := hk 0 (by decide)
    refine k_callV K X gv_X6_100 (As := [.int x]) (c_X4_isKind l E (k (1 + 0)) 4 x (by decide)) [q0 + 0] (congrArg (fun z => [z]) h0) rfl (fun _ => rfl) 0 4 rfl rfl (ro (by decide) (by decide)) rfl hsz (rest := rest) rfl hw hdg (st1 := fun _ => .int (b2i (isKS 0 x)) :: rest) (fun _ => rfl) (fun _ H1 l1 _ X => ?_)
    exact kk H1 l1 (X.eq (set_same h0))
  | 1, _ =>
    have h0 := hk 1 (by decide)
    refine k_callO K X go_X6_100_X2 (As := [.int x]) (c_X2_isKind l E (k (1 + 1)) 2 x (by decide)) [q0 + 1] (congrArg (fun z => [z]) h0) rfl (fun _ => rfl) 0 2 rfl rfl (ro (by decide) (by decide)) rfl hsz (rest := rest) rfl hw hdg (st1 := fun _ => .int (b2i (isKS 1 x)) :: rest) (fun _ => rfl) (fun _ H1 l1 _ X => ?_)
    exact kk H1 l1 (X.eq (set_same h0))
  | 2, _ =>
    have h0 := hk 2 (by decide)
    refine k_callO K X go_X6_100_X8 (As := [.int x]) (c_X8_isKind l E (k (1 + 2)) 8 x (by decide)) [q0 + 2] (congrArg (fun z => [z]) h0) rfl (fun _ => rfl) 0 8 rfl rfl (ro (by decide) (by decide)) rfl hsz (rest := rest) rfl hw hdg (st1 := fun _ => .int (b2i (isKS 2 x)) :: rest) (fun _ => rfl) (fun _ H1 l1 _ X => ?_)
    exact kk H1 l1 (X.eq (set_same h0))
  | 3, _ =>
    have h0 := hk 3 (by decide)
    refine k_callO K X go_X6_100_X1 (As := [.int x]) (c_X1_isKind l E (k (1 + 3)) 1 x (by decide)) [q0 + 3] (congrArg (fun z => [z]) h0) rfl (fun _ => rfl) 0 1 rfl rfl (ro (by decide) (by decide)) rfl hsz (rest := rest) rfl hw hdg (st1 := fun _ => .int (b2i (isKS 3 x)) :: rest) (fun _ => rfl) (fun _ H1 l1 _ X => ?_)
    exact kk H1 l1 (X.eq (set_same h0))
  | 4, _ =>
    have h0 := hk 4 (by decide)
    refine k_callO K X go_X6_100_X3 (As := [.int x]) (c_X3_isKind l E (k (1 + 4)) 3 x (by decide)) [q0 + 4] (congrArg (fun z => [z]) h0) rfl (fun _ => rfl) 0 3 rfl rfl (ro (by decide) (by decide)) rfl hsz (rest := rest) rfl hw hdg (st1 := fun _ => .int (b2i (isKS 4 x)) :: rest) (fun _ => rfl) (fun _ H1 l1 _ X => ?_)
    exact kk H1 l1 (X.eq (set_same h0))
  | 5, _ =>
    have h0 := hk 5 (by decide)
    refine k_callO K X go_X6_100_X5 (As := [.int x]) (c_X5_isKind l E (k (1 + 5)) 5 x (by decide)) [q0 + 5] (congrArg (fun z => [z]) h0) rfl (fun _ => rfl) 0 5 rfl rfl (ro (by decide) (by decide)) rfl hsz (rest := rest) rfl hw hdg (st1 := fun _ => .int (b2i (isKS 5 x)) :: rest) (fun _ => rfl) (fun _ H1 l1 _ X => ?_)
    exact kk H1 l1 (X.eq (set_same h0))
theorem v_fixes (K : Kx p s m args meth c cc nL RX6 E A) (X : Wd E A s.heap ws H locs) (q0 : Nat) (hk : ∀ j, j < 6 → ws[q0 + j]? = some (k (1 + j), .inr (kci j, []))) {q : Nat} {x : Int32} (hq : q < 6) (hR : (1 ≤ R.frames ∧ 21 ≤ R.locals) ∧ cells + 0 ≤ R.cells ∧ slots + 0 ≤ R.slots) (hsz : ls.size = nL) (hw : (rest.map fun v => v.category).sum ≤ 8) (hdg : decode cc pc = .ok (.invokevirtual 80, 3))
    (kk : ∀ (H1 : Heap) (locs1 : List Loc), Wd E A s.heap ws H1 locs1 → W p l e R s m args below meth c H1 locs1 cells slots Q (F0 m (pc + 3) ls (.int (b2i (fixS q x)) :: rest))) : W p l e R s m args below meth c H locs cells slots Q (F0 m pc ls (.int x :: .ref (k (1 + q)) :: rest)) := by
  have ro : ∀ {a b : Nat}, a + 1 ≤ 1 → b ≤ 21 → (a + 1 ≤ R.frames ∧ b ≤ R.locals) ∧ cells + 0 ≤ R.cells ∧ slots + 0 ≤ R.slots := fun h1 h2 => ⟨⟨Nat.le_trans h1 hR.1.1, Nat.le_trans h2 hR.1.2⟩, hR.2⟩
  match q, hq with
  | 0, _ =>
    have h0 := hk 0 (by decide)
    refine k_callV K X gv_X6_80 (As := [.int x]) (c_X4_fixes l E (k (1 + 0)) 4 x (by decide)) [q0 + 0] (congrArg (fun z => [z]) h0) rfl (fun _ => rfl) 0 4 rfl rfl (ro (by decide) (by decide)) rfl hsz (rest := rest) rfl hw hdg (st1 := fun _ => .int (b2i (fixS 0 x)) :: rest) (fun _ => rfl) (fun _ H1 l1 _ X => ?_)
    exact kk H1 l1 (X.eq (set_same h0))
  | 1, _ =>
    have h0 := hk 1 (by decide)
    refine k_callO K X go_X6_80_X2 (As := [.int x]) (c_X4_fixes l E (k (1 + 1)) 2 x (by decide)) [q0 + 1] (congrArg (fun z => [z]) h0) rfl (fun _ => rfl) 0 2 rfl rfl (ro (by decide) (by decide)) rfl hsz (rest := rest) rfl hw hdg (st1 := fun _ => .int (b2i (fixS 1 x)) :: rest) (fun _ => rfl) (fun _ H1 l1 _ X => ?_)
    exact kk H1 l1 (X.eq (set_same h0))
  | 2, _ =>
    have h0 := hk 2 (by decide)
    refine k_callO K X go_X6_80_X8 (As := [.int x]) (c_X4_fixes l E (k (1 + 2)) 8 x (by decide)) [q0 + 2] (congrArg (fun z => [z]) h0) rfl (fun _ => rfl) 0 8 rfl rfl (ro (by decide) (by decide)) rfl hsz (rest := rest) rfl hw hdg (st1 := fun _ => .int (b2i (fixS 2 x)) :: rest) (fun _ => rfl) (fun _ H1 l1 _ X => ?_)
    exact kk H1 l1 (X.eq (set_same h0))
  | 3, _ =>
    have h0 := hk 3 (by decide)
    refine k_callO K X go_X6_80_X1 (As := [.int x]) (c_X1_fixes l E (k (1 + 3)) 1 x (by decide)) [q0 + 3] (congrArg (fun z => [z]) h0) rfl (fun _ => rfl) 0 1 rfl rfl (ro (by decide) (by decide)) rfl hsz (rest := rest) rfl hw hdg (st1 := fun _ => .int (b2i (fixS 3 x)) :: rest) (fun _ => rfl) (fun _ H1 l1 _ X => ?_)
    exact kk H1 l1 (X.eq (set_same h0))
  | 4, _ =>
    have h0 := hk 4 (by decide)
    refine k_callO K X go_X6_80_X3 (As := [.int x]) (c_X3_fixes l E (k (1 + 4)) 3 x (by decide)) [q0 + 4] (congrArg (fun z => [z]) h0) rfl (fun _ => rfl) 0 3 rfl rfl (ro (by decide) (by decide)) rfl hsz (rest := rest) rfl hw hdg (st1 := fun _ => .int (b2i (fixS 4 x)) :: rest) (fun _ => rfl) (fun _ H1 l1 _ X => ?_)
    exact kk H1 l1 (X.eq (set_same h0))
  | 5, _ =>
    have h0 := hk 5 (by decide)
    refine k_callO K X go_X6_80_X5 (As := [.int x]) (c_X4_fixes l E (k (1 + 5)) 5 x (by decide)) [q0 + 5] (congrArg (fun z => [z]) h0) rfl (fun _ => rfl) 0 5 rfl rfl (ro (by decide) (by decide)) rfl hsz (rest := rest) rfl hw hdg (st1 := fun _ => .int (b2i (fixS 5 x)) :: rest) (fun _ => rfl) (fun _ H1 l1 _ X => ?_)
    exact kk H1 l1 (X.eq (set_same h0))
end VV
