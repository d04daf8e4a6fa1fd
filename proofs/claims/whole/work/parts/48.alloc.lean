/-! contracts that make cells: constructors -/
abbrev rmA (fr lo mc ms : Nat) : Room := { frames := fr, cells := mc, slots := ms, locals := lo }
/-- what the tables say of arrays of people and rows, and of the kinds -/
def zX (U : State) : Prop := va_AO "SlipWall$Person" U ∧ va_AO "SlipWall$Row" U ∧ va_Nw (.castable "SlipWall$Loud" "SlipWall$Person") U ∧ va_Nw (.castable "SlipWall$Shy" "SlipWall$Person") U ∧ va_Nw (.castable "SlipWall$Boss" "SlipWall$Person") U ∧ va_Nw (.castable "SlipWall$Pen" "SlipWall$Person") U ∧ va_Nw (.castable "SlipWall$Quiet" "SlipWall$Person") U
theorem zX.warm {s U : State} (hW : s.WarmedH U.vm) (h : zX s) : zX U := by
  obtain ⟨h1, h2, h3, h4, h5, h6, h7⟩ := h
  exact ⟨h1.moved hW.alike, h2.moved hW.alike, h3.warmC hW, h4.warmC hW, h5.warmC hW, h6.warmC hW, h7.warmC hW⟩
theorem zX.same {s U : State} (hv : U.vm = s.vm) (h : zX s) : zX U := by
  obtain ⟨h1, h2, h3, h4, h5, h6, h7⟩ := h
  have ha : s.vm.Alike U.vm := by rw [hv]; exact Vm.Alike.refl _
  exact ⟨h1.moved ha, h2.moved ha, va_Nw.same rfl hv.symm h3, va_Nw.same rfl hv.symm h4, va_Nw.same rfl hv.symm h5, va_Nw.same rfl hv.symm h6, va_Nw.same rfl hv.symm h7⟩
def KaP (E : EE) (ws : va_W) (av : List Value) (sz : Nat) : Array Value → State → Prop := va_Pc av (fun U => U.heap.size = sz ∧ En E (va_A ws sz) U U.heap ∧ va_P (eD E) vwCl ws U.heap ∧ va_D (fun _ => True) ws ∧ zX U)
theorem KaP.blind {E : EE} {ws : va_W} {av : List Value} {sz : Nat} : FrameBlind (KaP E ws av sz) := by
  intro a U g mk h
  obtain ⟨h1, h2, h3, h4, h5, h6⟩ := h
  exact ⟨h1, h2, En.same (s := U) (U := U.calling g mk a) rfl h3, h4, h5, zX.same (s := U) (U := U.calling g mk a) rfl h6⟩
def KaQ (E : EE) (ws : va_W) (sz : Nat) {S : Type} (w1 : S → va_W) : Array Value → State → Outcome → State → Prop := va_Qv (fun _ : S => True) (fun u t => va_P (eD E) vwCl (w1 u) t.heap ∧ va_D (va_A ws sz) (w1 u)) (va_A ws sz)
def Ka (l : Launch) (y : MethodName) (cc : ByteArray) (n : Nat) (fr lo mc ms : Nat) (E : EE) (ws : va_W) (av : List Value) {S : Type} (w1 : S → va_W) : Prop :=
  ∀ sz : Nat, Met l y (.code y cc n none :: Mw) (rmA fr lo mc ms) (KaP E ws av sz) (KaQ E ws sz w1) mc ms (va_A ws sz)
theorem Ka.ofW {l : Launch} {y : MethodName} {cc : ByteArray} {n fr lo mc ms : Nat} {E : EE} {ws : va_W} {av : List Value} {S : Type} {w1 : S → va_W} (hy : plainName y.cls = true) (hle : (lg_sl av).length ≤ n)
    (body : ∀ (p : Program) (e : Env) (s : State) (m : MethodId) (below : List Frame) (meth : Method) (c : Code) (Q : State → Prop) (A : Nat → Prop), Kx p s m av.toArray meth c cc n y.cls E A → meth.name = y.name → zX s → (∀ q, s.heap.size ≤ q → A q) → Wd E A s.heap ws s.heap [] →
      (∀ (u : S) (pc : Nat) (ls : Array Slot) (H : Heap) (locs : List Loc), Wd E A s.heap (w1 u) H locs → decode cc pc = .ok (.return_, 1) → W p l e (rmA fr lo mc ms) s m av.toArray below meth c H locs mc ms Q (F0 m pc ls [])) →
      ∀ ls : Array Slot, lv_has ls n (lv_args 0 av) → W p l e (rmA fr lo mc ms) s m av.toArray below meth c s.heap [] 0 0 Q (F0 m 0 ls [])) : Ka l y cc n fr lo mc ms E ws av w1 := by
  intro sz
  refine Met.ofW (cc := cc) (maxL := n) (ret := none) hy rfl ?_
  intro p e s m args below meth c s₁ B hml hv
  obtain ⟨rfl, hsz, hE, hP, hD, hZ⟩ := hv
  subst hsz
  have hts := atoms_spec (ws := .code y cc n none :: Mw) B.pre
  have hlocks := B.notSynchronized
  have hin : meth.name = y.name := (name_of_methodNamed B.named B.method).1
  rw [lg_entry_eq]
  refine body p e s m below meth c _ (va_A ws s.heap.size) ⟨B.exec, B.bytes, hml, findClass_of_methodNamed B.named, fun w h => hts w (List.mem_cons_of_mem _ h), hE, hlocks⟩ hin hZ (fun q h => Or.inr h) ⟨hP, hD.self, va_S.rf⟩ ?_ _ (lv_entry av hle)
  intro u pc ls H locs X hd
  obtain ⟨hP1, hD1, hS1⟩ := X
  exact W.vret B.exec B.bytes B.returns (fun t ht hW => ⟨⟨u, rfl, trivial, by rw [ht]; exact hP1, hD1⟩, hS1.F ht⟩) hS1.2.2 hd
theorem Wd.perm {E : EE} {A : Nat → Prop} {H0 H : Heap} {ws ws' : va_W} {locs : List Loc} (X : Wd E A H0 ws H locs) (is : List Nat) (hs : is.map (fun i => ws[i]?) = ws'.map some) (hn : va_nd is = true) : Wd E A H0 ws' H locs := by
  refine ⟨fun k q hk => ?_, X.2.1.sub is hn hs, X.2.2⟩
  obtain ⟨i, h1, h2⟩ := sub_at hs hk
  exact X.1 i q h2
def NOK (own : String) (idx ci N : Nat) (fs : List Value) : Prop := ∃ (C : String) (T : u_T), vwCl[ci]? = some (C, T, N) ∧ (∀ w ∈ u_ws C T N, w ∈ Mw) ∧ Cond.classLink own idx C ∈ Mw ∧ Cond.instantiable C N ∈ Mw ∧ Cond.initialized C ∈ Mw ∧ ∃ ty : Nat → FieldType, (∀ k, k < N → parseFieldDescriptor (T k).2.2.1 = some (ty k)) ∧ ∀ j, j < N → defaultValue (ty j) = vp_V fs j
def FPF (own : String) (idx ci k : Nat) (ty : FieldType) : Prop := fOK ci k fun C T N => Cond.fieldLink own idx C (T k).2.1 (T k).2.2.1 ∈ Mw ∧ fTy k ty T N ∧ (T k).2.2.2 = true ∧ C = own
def OKI (own : String) (idx : Nat) (y : MethodName) (bytes : ByteArray) (maxL k : Nat) : Prop := OKB y bytes maxL none k ∧ Cond.methodLink own idx y ∈ Mw ∧ Cond.instanceMethod y ∈ Mw ∧ y.name = "<init>"
def OKIN (own : String) (idx : Nat) (y : MethodName) (bytes : ByteArray) (maxL k : Nat) : Prop := OKB y bytes maxL none k ∧ (∃ host, Cond.methodLinkNest own idx y host ∈ Nw) ∧ Cond.instanceMethod y ∈ Mw ∧ y.name = "<init>"
def OBJ (own : String) (idx : Nat) : Prop := Cond.methodLink own idx Lib.objectInit ∈ Mw ∧ Cond.instanceMethod Lib.objectInit ∈ Mw ∧ Cond.code Lib.objectInit ⟨#[0xb1]⟩ 1 none ∈ Mw
section KA
variable {p : Program} {l : Launch} {e : Env} {R : Room} {s : State} {m : MethodId} {args : Array Value} {below : List Frame} {meth : Method} {c : Code} {H : Heap} {locs : List Loc} {cells slots : Nat} {Q : State → Prop}
variable {cc : ByteArray} {pc nL : Nat} {own : String} {E : EE} {ls : Array Slot} {rest st0 : List Value} {A : Nat → Prop} {a b : Nat} {ws wc wr : va_W} {As : List Value}
variable {S : Type} {w1 : S → va_W} {y : MethodName} {bytes : ByteArray} {maxL fr lo mc ms k idx : Nat}
theorem k_obj (K : Kx p s m args meth c cc nL own E A) (G : OBJ own idx) (hsz : ls.size = nL) (hf : 1 ≤ R.frames) (hw : (rest.map fun v => v.category).sum + 12 ≤ R.locals) (hdg : decode cc pc = .ok (.invokespecial idx, 3))
    (kk : W p l e R s m args below meth c H locs cells slots Q (F0 m (pc + 3) ls rest)) : W p l e R s m args below meth c H locs cells slots Q (F0 m pc ls (.ref a :: rest)) := by
  obtain ⟨hx, hb, hml, ho, hts, hE, -⟩ := K
  refine W.objInit hx hb ho (hts _ G.1) (hts _ G.2.1) (hts _ G.2.2) rfl (by rw [hml]; exact hsz) rfl hdg hf ?_ ?_
  · show 2 * 0 + (rest.map fun v => v.category).sum + 12 ≤ R.locals
    omega
  · exact kk
theorem k_new (K : Kx p s m args meth c cc nL own E A) (hA : ∀ q, s.heap.size ≤ q → A q) (X : Wd E A s.heap ws H locs) {ci N : Nat} {fs : List Value} (F : NOK own idx ci N fs) (hcells : cells + 1 ≤ R.cells) (hslots : slots + N ≤ R.slots) (hdg : decode cc pc = .ok (.new idx, 3))
    (kk : ∀ (q : Nat) (H1 : Heap), Wd E A s.heap (ws ++ [(q, .inr (ci, fs))]) H1 locs → W p l e R s m args below meth c H1 locs (cells + 1) (slots + N) Q (F0 m (pc + 3) ls (.ref q :: rest))) : W p l e R s m args below meth c H locs cells slots Q (F0 m pc ls rest) := by
  obtain ⟨hx, hb, hml, ho, hts, hE, -⟩ := K
  obtain ⟨C, T, h1, h2, h3, h4, h5, ty, h6, h7⟩ := F
  exact va_new (C := C) (T := T) hx hb hts h2 ty h6 ho (hts _ h3) (hts _ h4) (hts _ h5) hE.1 X.1 X.2.1 X.2.2 hA h1 h7 hcells hslots hdg (fun q H1 a1 a2 a3 => kk q H1 ⟨a1, a2, a3⟩)
theorem k_newI (K : Kx p s m args meth c cc nL own E A) (hA : ∀ q, s.heap.size ≤ q → A q) (X : Wd E A s.heap ws H locs) {n : Nat} (hn : n < 100000) (hw : Cond.arrayClass .int ∈ Mw) (hcells : cells + 1 ≤ R.cells) (hslots : slots + n ≤ R.slots) (hdg : decode cc pc = .ok (.newarray .int, 2))
    (kk : ∀ (q : Nat) (H1 : Heap), Wd E A s.heap (ws ++ [(q, .inl (eA E 0, n, .inl (fun _ => 0)))]) H1 locs → W p l e R s m args below meth c H1 locs (cells + 1) (slots + n) Q (F0 m (pc + 2) ls (.ref q :: rest))) : W p l e R s m args below meth c H locs cells slots Q (F0 m pc ls (.int (nI n) :: rest)) := by
  obtain ⟨hx, hb, hml, ho, hts, hE, -⟩ := K
  refine va_newa (atype := .int) (ty := .int) hx hb (hts _ hw) rfl hE.1 X.1 X.2.1 X.2.2 hA (a0 := (n, .inl (fun _ => 0))) (fun _ => rfl) (nI_pos (by omega)) (nI_clamp (by omega)) (by show n * 4 ≤ _; omega) hcells hslots hdg (fun q cA H1 k1 a1 a2 a3 => ?_)
  have e1 : s.vm.findClass ("[" ++ FieldType.int.toString) = some cA := (k1.2 4 (cA, .int) rfl).2
  have e2 : s.vm.findClass ("[" ++ FieldType.int.toString) = some (eA E 0) := (k1.2 0 (eA E 0, .int) rfl).2
  have e3 : cA = eA E 0 := Option.some.inj (e1.symm.trans e2)
  subst e3
  exact kk q H1 ⟨a1, a2, a3⟩
theorem k_newL (K : Kx p s m args meth c cc nL own E A) (hA : ∀ q, s.heap.size ≤ q → A q) (X : Wd E A s.heap ws H locs) {n : Nat} (hn : n < 100000) (hw : Cond.arrayClass .long ∈ Mw) (hcells : cells + 1 ≤ R.cells) (hslots : slots + n ≤ R.slots) (hdg : decode cc pc = .ok (.newarray .long, 2))
    (kk : ∀ (q : Nat) (H1 : Heap), Wd E A s.heap (ws ++ [(q, .inl (eA E 1, n, .inr (.inl (fun _ => 0))))]) H1 locs → W p l e R s m args below meth c H1 locs (cells + 1) (slots + n) Q (F0 m (pc + 2) ls (.ref q :: rest))) : W p l e R s m args below meth c H locs cells slots Q (F0 m pc ls (.int (nI n) :: rest)) := by
  obtain ⟨hx, hb, hml, ho, hts, hE, -⟩ := K
  refine va_newa (atype := .long) (ty := .long) hx hb (hts _ hw) rfl hE.1 X.1 X.2.1 X.2.2 hA (a0 := (n, .inr (.inl (fun _ => 0)))) (fun _ => rfl) (nI_pos (by omega)) (nI_clamp (by omega)) (by show n * 8 ≤ _; omega) hcells hslots hdg (fun q cA H1 k1 a1 a2 a3 => ?_)
  have e1 : s.vm.findClass ("[" ++ FieldType.long.toString) = some cA := (k1.2 4 (cA, .long) rfl).2
  have e2 : s.vm.findClass ("[" ++ FieldType.long.toString) = some (eA E 1) := (k1.2 1 (eA E 1, .long) rfl).2
  have e3 : cA = eA E 1 := Option.some.inj (e1.symm.trans e2)
  subst e3
  exact kk q H1 ⟨a1, a2, a3⟩
theorem k_newQ {C : String} (K : Kx p s m args meth c cc nL own E A) (hA : ∀ q, s.heap.size ≤ q → A q) (X : Wd E A s.heap ws H locs) {n t0 : Nat} (hn : n < 100000) (ht : (eT E)[t0]? = some (eA E t0, .object C)) (hw : Cond.classLink own idx C ∈ Mw) (hO : va_AO C s) (hcells : cells + 1 ≤ R.cells) (hslots : slots + n ≤ R.slots) (hdg : decode cc pc = .ok (.anewarray idx, 3))
    (kk : ∀ (q : Nat) (H1 : Heap), Wd E A s.heap (ws ++ [(q, .inl (eA E t0, n, .inr (.inr (.inr (.inr (fun _ => none))))))]) H1 locs → W p l e R s m args below meth c H1 locs (cells + 1) (slots + n) Q (F0 m (pc + 3) ls (.ref q :: rest))) : W p l e R s m args below meth c H locs cells slots Q (F0 m pc ls (.int (nI n) :: rest)) := by
  obtain ⟨hx, hb, hml, ho, hts, hE, -⟩ := K
  refine va_newq hx hb ho (hts _ hw) hO hE.1 X.1 X.2.1 X.2.2 hA (nI_pos (by omega)) (nI_clamp (by omega)) (by omega) hcells hslots hdg (fun q cA H1 k1 a1 a2 a3 => ?_)
  obtain ⟨kA, comp, -, -, -, e1⟩ := (k1.2 4 (cA, .object C) rfl).2
  obtain ⟨kB, comp2, -, -, -, e2⟩ := (hE.1.2 t0 _ ht).2
  have e3 : cA = eA E t0 := Option.some.inj (e1.symm.trans e2)
  subst e3
  exact kk q H1 ⟨a1, a2, a3⟩
theorem k_putF (K : Kx p s m args meth c cc nL own E A) (hin : meth.name = "<init>") (X : Wd E A s.heap ws H locs) (q0 : Nat) {ci : Nat} {ty : FieldType} {fs : List Value} (he : ws[q0]? = some (a, .inr (ci, fs))) (F : FPF own idx ci k ty) {v : Value} (hn : narrow ty v = v) (hfit : fits ty v = true) (hl : k < fs.length) (hdg : decode cc pc = .ok (.putfield idx, 3))
    (kk : ∀ (H1 : Heap) (locs1 : List Loc), Wd E A s.heap (ws.set q0 (a, .inr (ci, fs.set k v))) H1 locs1 → W p l e R s m args below meth c H1 locs1 cells slots Q (F0 m (pc + 3) ls rest)) : W p l e R s m args below meth c H locs cells slots Q (F0 m pc ls (v :: .ref a :: rest)) := by
  obtain ⟨hx, hb, hml, ho, hts, hE, -⟩ := K
  obtain ⟨C, T, N, h1, h2, h3, h4, h5, ⟨⟨ty0, h6⟩, h7, h8⟩, h9, h10⟩ := F
  exact va_putF (C := C) (T := T) (N := N) hx hb hts h3 ty0 h6 h7 ho hE.1 X.1 X.2.1 X.2.2 q0 he h1 k h2 (hts _ h5) (fun x h => by rw [h4] at h; exact h) h9 hin (h4.trans h10) h8 hn hfit hl hdg (fun H1 l1 a1 a2 a3 => kk H1 l1 ⟨a1, a2, a3⟩)
theorem k_astS (K : Kx p s m args meth c cc nL own E A) (X : Wd E A s.heap ws H locs) (q0 t0 qk ci : Nat) {r : vw_C} {n v : Nat} {vs : List Value} {f : Nat → Option Nat} (ha : ws[q0]? = some (a, .inl (eA E t0, n, .inr (.inr (.inr (.inr f)))))) (ht : (eT E)[t0]? = some (eA E t0, .object r.1)) (hv : ws[qk]? = some (v, .inr (ci, vs))) (hc : vwCl[ci]? = some r) {i : Nat} (hi : i < n) (hn : n < 2147483648) (hdg : decode cc pc = .ok (.aastore, 1))
    (kk : ∀ (H1 : Heap) (locs1 : List Loc), Wd E A s.heap (ws.set q0 (a, .inl (eA E t0, n, .inr (.inr (.inr (.inr (va_up f i (some v)))))))) H1 locs1 → W p l e R s m args below meth c H1 locs1 cells slots Q (F0 m (pc + 1) ls rest)) : W p l e R s m args below meth c H locs cells slots Q (F0 m pc ls (.ref v :: .int (nI i) :: .ref a :: rest)) := by
  obtain ⟨hx, hb, hml, ho, hts, hE, -⟩ := K
  have ei : (nI i).toNatClampNeg = i := nI_clamp (by omega)
  refine va_astq hx hb hE.1 X.1 X.2.1 X.2.2 q0 t0 qk ci ha ht hv hc (vp_in_nI hi (by omega)) hdg (fun H1 l1 a1 a2 a3 => ?_)
  rw [ei] at a1 a2
  exact kk H1 l1 ⟨a1, a2, a3⟩
theorem k_astO {B : String} (K : Kx p s m args meth c cc nL own E A) (X : Wd E A s.heap ws H locs) (q0 t0 qk ci : Nat) {r : vw_C} {n v : Nat} {vs : List Value} {f : Nat → Option Nat} (ha : ws[q0]? = some (a, .inl (eA E t0, n, .inr (.inr (.inr (.inr f)))))) (ht : (eT E)[t0]? = some (eA E t0, .object B)) (hca : va_Nw (.castable r.1 B) s) (hv : ws[qk]? = some (v, .inr (ci, vs))) (hc : vwCl[ci]? = some r) {i : Nat} (hi : i < n) (hn : n < 2147483648) (hdg : decode cc pc = .ok (.aastore, 1))
    (kk : ∀ (H1 : Heap) (locs1 : List Loc), Wd E A s.heap (ws.set q0 (a, .inl (eA E t0, n, .inr (.inr (.inr (.inr (va_up f i (some v)))))))) H1 locs1 → W p l e R s m args below meth c H1 locs1 cells slots Q (F0 m (pc + 1) ls rest)) : W p l e R s m args below meth c H locs cells slots Q (F0 m pc ls (.ref v :: .int (nI i) :: .ref a :: rest)) := by
  obtain ⟨hx, hb, hml, ho, hts, hE, -⟩ := K
  have ei : (nI i).toNatClampNeg = i := nI_clamp (by omega)
  refine va_astqO hx hb hE.1 X.1 X.2.1 X.2.2 q0 t0 qk ci ha ht hca hv hc (vp_in_nI hi (by omega)) hdg (fun H1 l1 a1 a2 a3 => ?_)
  rw [ei] at a1 a2
  exact kk H1 l1 ⟨a1, a2, a3⟩
theorem ka_pre {av : List Value} (K : Kx p s m args meth c cc nL own E A) (hZ : zX s) (hA : ∀ q, s.heap.size ≤ q → A q) (X : Wd E A s.heap ws H locs) (is : List Nat) (hC : is.map (fun i => ws[i]?) = wc.map some) (hn : va_nd is = true) : ∀ U : State, U.heap = H → s.WarmedH U.vm → KaP E wc av H.size av.toArray U := by
  have hF := va_free X.2.1 X.2.2 hA is hC
  obtain ⟨hx, hb, hml, ho, hts, hE, -⟩ := K
  obtain ⟨hP, hD, hS⟩ := X
  intro U hU hW
  refine ⟨rfl, by rw [hU], ?_, ?_, ?_, hZ.warm hW⟩
  · rw [hU]
    exact En.warm hW (En.narrow (hE.kept hS.2.1) hF)
  · rw [hU]
    intro j q hq
    obtain ⟨i, h1, h2⟩ := sub_at hC hq
    exact hP i q h2
  · exact (hD.sub is hn hC).weaken (fun _ _ _ _ => trivial)
theorem ka_run {a : Array Value} (K : Kx p s m args meth c cc nL own E A) (hA : ∀ q, s.heap.size ≤ q → A q) (X : Wd E A s.heap ws H locs) (isC isR : List Nat) (hC : isC.map (fun i => ws[i]?) = wc.map some) (hR : isR.map (fun i => ws[i]?) = wr.map some) (hn : va_nd isR = true) (hdis : ∀ i ∈ isR, i ∉ isC)
    (hr : va_Run p l e R s m args below meth c H locs cells slots mc ms (F0 m pc ls st0) rest (KaQ E wc H.size w1 a) (va_A wc H.size))
    (kk : ∀ (u : S) (H1 : Heap) (locs1 : List Loc), Wd E A s.heap (wr ++ w1 u) H1 locs1 → W p l e R s m args below meth c H1 locs1 (cells + mc) (slots + ms) Q (F0 m (pc + 3) ls rest)) : W p l e R s m args below meth c H locs cells slots Q (F0 m pc ls st0) := by
  have hF := va_free X.2.1 X.2.2 hA isC hC
  refine va_callv hr X.2.2 (fun q _ h => hF q h) hF (fun u t H1 locs1 ht hvm _ hB hz1 hk1 hS => ?_)
  obtain ⟨hP1, hD1⟩ := hB
  rw [ht] at hP1
  obtain ⟨hP, hD⟩ := va_join X.1 X.2.1 isC isR hC hR hn hdis hk1 hF hP1 hD1
  exact kk u H1 locs1 ⟨hP, hD, hS⟩
theorem k_callI (K : Kx p s m args meth c cc nL own E A) (hZ : zX s) (hA : ∀ q, s.heap.size ≤ q → A q) (X : Wd E A s.heap ws H locs) (G : OKI own idx y bytes maxL k) (hM : Ka l y bytes maxL fr lo mc ms E wc (.ref b :: As) w1) (isC isR : List Nat) (hC : isC.map (fun i => ws[i]?) = wc.map some) (hnC : va_nd isC = true) (hR : isR.map (fun i => ws[i]?) = wr.map some) (hn : va_nd isR = true) (hdis : ∀ i ∈ isR, i ∉ isC)
    (hro : (fr + 1 ≤ R.frames ∧ 8 + (maxL + 11) + lo ≤ R.locals) ∧ cells + mc ≤ R.cells ∧ slots + ms ≤ R.slots) (hlen : As.length = k) (hsz : ls.size = nL) (hst : st0 = As.reverse ++ .ref b :: rest) (hw : (rest.map fun v => v.category).sum ≤ 8) (hdg : decode cc pc = .ok (.invokespecial idx, 3))
    (kk : ∀ (u : S) (H1 : Heap) (locs1 : List Loc), Wd E A s.heap (wr ++ w1 u) H1 locs1 → W p l e R s m args below meth c H1 locs1 (cells + mc) (slots + ms) Q (F0 m (pc + 3) ls rest)) : W p l e R s m args below meth c H locs cells slots Q (F0 m pc ls st0) := by
  have hts := K.2.2.2.2.1
  refine ka_run K hA X isC isR hC hR hn hdis (va_runI (cc := cc) (nL := nL) (own := own) (Ts := Mw) (b := b) (As := As) ⟨K.1, K.2.1, K.2.2.1, K.2.2.2.1, hts⟩ (hM H.size) ⟨callB_of (Ts := Mw) k hts (okb_good G.1) rfl rfl rfl (hts _ G.1.2.1) (hts _ G.2.1) G.1.2.2 hro.1, G.2.2.2, hts _ G.2.2.1⟩ ⟨KaP.blind, ka_pre K hZ hA X isC hC hnC⟩ rfl hlen hsz hst (lv_room hw) hdg hro.2) kk
theorem k_callIN (K : Kx p s m args meth c cc nL own E A) (hZ : zX s) (hA : ∀ q, s.heap.size ≤ q → A q) (X : Wd E A s.heap ws H locs) (G : OKIN own idx y bytes maxL k) (hM : Ka l y bytes maxL fr lo mc ms E wc (.ref b :: As) w1) (isC isR : List Nat) (hC : isC.map (fun i => ws[i]?) = wc.map some) (hnC : va_nd isC = true) (hR : isR.map (fun i => ws[i]?) = wr.map some) (hn : va_nd isR = true) (hdis : ∀ i ∈ isR, i ∉ isC)
    (hro : (fr + 1 ≤ R.frames ∧ 8 + (maxL + 11) + lo ≤ R.locals) ∧ cells + mc ≤ R.cells ∧ slots + ms ≤ R.slots) (hlen : As.length = k) (hsz : ls.size = nL) (hst : st0 = As.reverse ++ .ref b :: rest) (hw : (rest.map fun v => v.category).sum ≤ 8) (hdg : decode cc pc = .ok (.invokespecial idx, 3))
    (kk : ∀ (u : S) (H1 : Heap) (locs1 : List Loc), Wd E A s.heap (wr ++ w1 u) H1 locs1 → W p l e R s m args below meth c H1 locs1 (cells + mc) (slots + ms) Q (F0 m (pc + 3) ls rest)) : W p l e R s m args below meth c H locs cells slots Q (F0 m pc ls st0) := by
  have hts := K.2.2.2.2.1
  obtain ⟨host, hh⟩ := G.2.1
  refine ka_run K hA X isC isR hC hR hn hdis (va_runIN (cc := cc) (nL := nL) (own := own) (Ts := Mw) (b := b) (As := As) ⟨K.1, K.2.1, K.2.2.1, K.2.2.2.1, hts⟩ (hM H.size) ⟨va_cnB (Ts := Mw) k hts (okb_good G.1) rfl rfl rfl (K.2.2.2.2.2.1.2.1 _ hh) (hts _ G.1.2.1) G.1.2.2 hro.1, G.2.2.2, hts _ G.2.2.1⟩ ⟨KaP.blind, ka_pre K hZ hA X isC hC hnC⟩ rfl hlen hsz hst (lv_room hw) hdg hro.2) kk
end KA
