/-! words -/
def Mw : List Cond := lw_tbl.filter goodWord
theorem Mw_at (i : Nat) {w : Cond} (h : lw_tbl[i]? = some w) (g : goodWord w = true) : w ∈ Mw := List.mem_filter.mpr ⟨List.mem_of_getElem? h, g⟩
theorem Mw_good {w : Cond} (h : w ∈ Mw) : (w.onTables && w.keeps) = true ∨ ∃ ty, w = .arrayClass ty := good_of_word (List.mem_filter.mp h).2
def isNest : Cond → Bool
  | .fieldLinkNest .. => true
  | .methodLinkNest .. => true
  | _ => false
def Nw : List Cond := lw_tbl.filter isNest
theorem Nw_at (i : Nat) {w : Cond} (h : lw_tbl[i]? = some w) (g : isNest w = true) : w ∈ Nw := List.mem_filter.mpr ⟨List.mem_of_getElem? h, g⟩
theorem Nw_tab {w : Cond} (h : w ∈ Nw) : w.onTables = true := by
  have h2 := (List.mem_filter.mp h).2
  cases w <;> first | rfl | (simp [isNest] at h2)
theorem Nw_warm {s U : State} (hW : s.WarmedH U.vm) {w : Cond} (hw : w ∈ Nw) (h : va_Nw w s) : va_Nw w U := by
  have h2 := (List.mem_filter.mp hw).2
  cases w <;> first | exact va_Nw.warmF hW h | exact va_Nw.warmM hW h | (simp [isNest] at h2)
/-! the surroundings: classes, array classes, NAMES, the literals -/
abbrev EE : Type := (Nat → ClassId) × (Nat → Nat → Nat) × (Nat → ClassId) × Nat × (Nat → Nat) × (Nat → Nat)
abbrev eD (E : EE) : va_G := (E.1, E.2.1)
abbrev eA (E : EE) (k : Nat) : ClassId := E.2.2.1 k
abbrev eN (E : EE) : Nat := E.2.2.2.1
abbrev eK (E : EE) : Nat → Nat := E.2.2.2.2.1
abbrev eV (E : EE) : Nat → Nat := E.2.2.2.2.2
abbrev eT (E : EE) : List (ClassId × FieldType) := [(eA E 0, .int), (eA E 1, .long), (eA E 2, .object "SlipWall$Person"), (eA E 3, .object "SlipWall$Row")]
def kNM : List Int32 := [112, 101, 114, 115, 111, 110, 0, 108, 111, 117, 100, 0, 0, 0, 115, 104, 121, 0, 0, 0, 0, 98, 111, 115, 115, 0, 0, 0, 112, 101, 110, 0, 0, 0, 0, 113, 117, 105, 101, 116, 0, 0, 115, 108, 105, 112, 0, 0, 0, 102, 108, 111, 111, 114, 0, 0, 102, 105, 120, 101, 100, 0, 0, 119, 97, 110, 116, 115, 0, 0, 109, 111, 118, 101, 115, 0, 0]
/-- the literals, in the order of the model's words -/
def kByt : List (List Int32) := [[112, 101, 114, 115, 111, 110], [108, 111, 117, 100], [115, 104, 121], [98, 111, 115, 115], [112, 101, 110], [113, 117, 105, 101, 116], [115, 108, 105, 112], [102, 108, 111, 111, 114], [102, 105, 120, 101, 100], [119, 97, 110, 116, 115], [109, 111, 118, 101, 115]]
def kLen : List Nat := [6, 4, 3, 4, 3, 5, 4, 5, 5, 5, 5]
def kTxt : List String := ["person", "loud", "shy", "boss", "pen", "quiet", "slip", "floor", "fixed", "wants", "moves"]
def kIdx : List Nat := [98, 100, 102, 104, 106, 108, 38, 72, 74, 89, 47]
def En (E : EE) (A : Nat → Prop) (U : State) (H : Heap) : Prop :=
  va_K (eD E) vwCl (eT E) U ∧ (∀ w ∈ Nw, va_Nw w U) ∧ va_Z "SlipWallModel" "NAMES" "[I" (.ref (eN E)) A U H ∧ va_T .int (eN E) 77 (fun j => .int (kNM.getD j 0)) A U H ∧ va_Z "java/lang/String" "COMPACT_STRINGS" "Z" (.int 1) A U H ∧ va_Zq "jdk/internal/util/Preconditions" "SIOOBE_FORMATTER" "Ljava/util/function/BiFunction;" A U H ∧ vk_S 11 kLen kByt (eK E) (eV E) A U H ∧ ∀ i : Nat, i < 11 → vk_R "SlipWall$WallText" (kIdx.getD i 0) (kTxt.getD i "") (eK E i) U
theorem En.kept {E : EE} {A : Nat → Prop} {U : State} {H H1 : Heap} (h : En E A U H) (hq : ∀ a : Nat, a < H.size → ¬ A a → H1[a]? = H[a]?) : En E A U H1 := by
  obtain ⟨h1, h2, h3, h4, h5, h6, h7, h8⟩ := h
  exact ⟨h1, h2, h3.kept hq, h4.kept hq, h5.kept hq, h6.kept hq, h7.kept hq, h8⟩
theorem En.narrow {E : EE} {A B : Nat → Prop} {U : State} {H : Heap} (h : En E A U H) (hq : ∀ q, B q → A q) : En E B U H := by
  obtain ⟨h1, h2, h3, h4, h5, h6, h7, h8⟩ := h
  exact ⟨h1, h2, h3.narrow hq, h4.narrow hq, h5.narrow hq, h6.narrow hq, h7.narrow hq, h8⟩
theorem En.warm {E : EE} {A : Nat → Prop} {s U : State} {H : Heap} (hW : s.WarmedH U.vm) (h : En E A s H) : En E A U H := by
  obtain ⟨h1, h2, h3, h4, h5, h6, h7, h8⟩ := h
  exact ⟨va_K.moved hW.alike h1, fun w hw => Nw_warm hW hw (h2 w hw), h3.moved hW.alike, h4.moved hW.alike, h5.moved hW.alike, h6.moved hW.alike, h7.moved hW.alike, fun i hi => (h8 i hi).warm hW⟩
theorem En.same {E : EE} {A : Nat → Prop} {s U : State} {H : Heap} (hv : U.vm = s.vm) (h : En E A s H) : En E A U H := by
  obtain ⟨h1, h2, h3, h4, h5, h6, h7, h8⟩ := h
  have ha : s.vm.Alike U.vm := by rw [hv]; exact Vm.Alike.refl _
  exact ⟨va_K.moved ha h1, fun w hw => va_Nw.same (Nw_tab hw) hv.symm (h2 w hw), h3.moved ha, h4.moved ha, h5.moved ha, h6.moved ha, h7.moved ha, fun i hi => (h8 i hi).same hv⟩
/-! a world -/
def inW (ws : va_W) (q : Nat) : Prop := ∃ (k : Nat) (e : va_E), ws[k]? = some (q, e)
def Wd (E : EE) (A : Nat → Prop) (H0 : Heap) (ws : va_W) (H : Heap) (locs : List Loc) : Prop := va_P (eD E) vwCl ws H ∧ va_D A ws ∧ va_S A H0 H locs
theorem Wd.eq {E : EE} {A : Nat → Prop} {H0 H : Heap} {ws ws' : va_W} {locs : List Loc} (h : Wd E A H0 ws H locs) (e : ws = ws') : Wd E A H0 ws' H locs := e ▸ h
def putM : va_W → List Nat → va_W → va_W
  | ws, i :: is, c :: cs => putM (ws.set i c) is cs
  | ws, _, _ => ws
theorem putM_out : ∀ (is : List Nat) (ws cs : va_W) (k : Nat), k ∉ is → (putM ws is cs)[k]? = ws[k]?
  | [], ws, cs, k, _ => by cases cs <;> rfl
  | i :: is, ws, [], k, _ => rfl
  | i :: is, ws, c :: cs, k, h => by
    have h1 : k ≠ i := fun e => h (e ▸ List.mem_cons_self)
    have h2 : k ∉ is := fun e => h (List.mem_cons_of_mem _ e)
    show (putM (ws.set i c) is cs)[k]? = ws[k]?
    rw [putM_out is (ws.set i c) cs k h2, List.getElem?_set_ne (Ne.symm h1)]
theorem putM_in : ∀ (is : List Nat) (ws cs : va_W) (k : Nat) (q : Nat × va_E), va_nd is = true → is.length = cs.length → (putM ws is cs)[k]? = some q → k ∈ is → q ∈ cs
  | [], ws, cs, k, q, _, _, _, h => by simp at h
  | i :: is, ws, [], k, q, _, h, _, _ => by simp at h
  | i :: is, ws, c :: cs, k, q, hn, hl, hq, hk => by
    simp only [va_nd, Bool.and_eq_true, decide_eq_true_eq] at hn
    have hl2 : is.length = cs.length := by simpa using hl
    have hq2 : (putM (ws.set i c) is cs)[k]? = some q := hq
    by_cases e : k = i
    · subst e
      rw [putM_out is (ws.set k c) cs k hn.1] at hq2
      have hb : k < ws.length := by
        have := (List.getElem?_eq_some_iff.mp hq2).1
        simpa using this
      rw [List.getElem?_set_self hb] at hq2
      cases hq2
      exact List.mem_cons_self
    · rcases List.mem_cons.mp hk with h | h
      · exact absurd h e
      · exact List.mem_cons_of_mem _ (putM_in is (ws.set i c) cs k q hn.2 hl2 hq2 h)
theorem putM_fst : ∀ (is : List Nat) (ws cs wc : va_W), is.map (fun i => ws[i]?) = wc.map some → va_nd is = true → cs.map Prod.fst = wc.map Prod.fst → (putM ws is cs).map Prod.fst = ws.map Prod.fst
  | [], ws, cs, wc, _, _, _ => by cases cs <;> rfl
  | i :: is, ws, [], wc, _, _, _ => rfl
  | i :: is, ws, c :: cs, [], h, _, _ => by simp at h
  | i :: is, ws, c :: cs, w :: wc, h, hn, he => by
    simp only [List.map_cons, List.cons.injEq] at h he
    simp only [va_nd, Bool.and_eq_true, decide_eq_true_eq] at hn
    have hl : i < ws.length := (List.getElem?_eq_some_iff.mp h.1).1
    have h2 : is.map (fun j => (ws.set i c)[j]?) = wc.map some := by
      rw [← h.2]
      apply List.map_congr_left
      intro j hj
      exact List.getElem?_set_ne (fun (e : i = j) => hn.1 (by rw [e]; exact hj))
    show (putM (ws.set i c) is cs).map Prod.fst = ws.map Prod.fst
    rw [putM_fst is (ws.set i c) cs wc h2 hn.2 he.2, List.map_set, he.1]
    apply List.ext_getElem?
    intro j
    by_cases hj : j = i
    · subst hj
      rw [List.getElem?_set_self (by simpa using hl), List.getElem?_map, h.1]
      rfl
    · rw [List.getElem?_set_ne (Ne.symm hj)]
theorem va_D.fst {A : Nat → Prop} {ws ws' : va_W} (h : va_D A ws) (e : ws'.map Prod.fst = ws.map Prod.fst) : va_D A ws' := by
  have key : ∀ (k : Nat) (q : Nat × va_E), ws'[k]? = some q → ∃ q0, ws[k]? = some q0 ∧ q0.1 = q.1 := by
    intro k q hk
    have h1 : (ws'.map Prod.fst)[k]? = some q.1 := by rw [List.getElem?_map, hk]; rfl
    rw [e, List.getElem?_map] at h1
    cases hq : ws[k]? with
    | none => rw [hq] at h1; cases h1
    | some q0 => rw [hq] at h1; exact ⟨q0, rfl, Option.some.inj h1⟩
  refine ⟨fun i j x y hi hj hxy => ?_, fun k q hk => ?_⟩
  · obtain ⟨x0, h1, h2⟩ := key i x hi
    obtain ⟨y0, h3, h4⟩ := key j y hj
    exact h.1 i j x0 y0 h1 h3 (h2.trans (hxy.trans h4.symm))
  · obtain ⟨q0, h1, h2⟩ := key k q hk
    rw [← h2]
    exact h.2 k q0 h1
theorem sub_at {ws wc : va_W} {is : List Nat} (hC : is.map (fun i => ws[i]?) = wc.map some) {k : Nat} {q : Nat × va_E} (hq : wc[k]? = some q) : ∃ i, is[k]? = some i ∧ ws[i]? = some q := by
  have h1 : (is.map (fun i => ws[i]?))[k]? = some (some q) := by rw [hC, List.getElem?_map, hq]; rfl
  rw [List.getElem?_map] at h1
  cases hi : is[k]? with
  | none => rw [hi] at h1; cases h1
  | some i => rw [hi] at h1; exact ⟨i, rfl, Option.some.inj h1⟩
/-- behind a call: the callee's cells in their places -/
theorem Wd.join {E : EE} {A : Nat → Prop} {H0 H H1 : Heap} {ws wc w1 : va_W} {locs locs1 : List Loc} (X : Wd E A H0 ws H locs) (is : List Nat) (hC : is.map (fun i => ws[i]?) = wc.map some) (hn : va_nd is = true) (he : w1.map Prod.fst = wc.map Prod.fst)
    (hP1 : va_P (eD E) vwCl w1 H1) (hk : ∀ q : Nat, q < H.size → ¬ inW wc q → H1[q]? = H[q]?) (hS : va_S A H0 H1 locs1) : Wd E A H0 (putM ws is w1) H1 locs1 := by
  obtain ⟨hP, hD, -⟩ := X
  refine ⟨fun k q hq => ?_, hD.fst (putM_fst is ws w1 wc hC hn he), hS⟩
  rcases Classical.em (k ∈ is) with hi | hi
  · have hl : is.length = w1.length := by
      have h1 := congrArg List.length hC
      have h2 := congrArg List.length he
      simp only [List.length_map] at h1 h2
      omega
    obtain ⟨j, hj⟩ := List.getElem?_of_mem (putM_in is ws w1 k q hn hl hq hi)
    exact hP1 j q hj
  · rw [putM_out is ws w1 k hi] at hq
    refine (hP k q hq).kept (hk q.1 ((hP k q hq).lt) ?_)
    rintro ⟨j, e, hj⟩
    obtain ⟨i, h1, h2⟩ := sub_at hC hj
    have := hD.1 k i q (q.1, e) hq h2 rfl
    subst this
    exact hi (List.mem_of_getElem? h1)
/-! contracts -/
abbrev rmK (fr lo : Nat) : Room := { frames := fr, cells := 0, slots := 0, locals := lo }
def KnP (E : EE) (ws : va_W) (av : List Value) : Array Value → State → Prop := va_Pc av (fun U => En E (inW ws) U U.heap ∧ va_P (eD E) vwCl ws U.heap ∧ va_D (fun _ => True) ws)
def KnQ (E : EE) (ws : va_W) {S : Type} (post : S → Prop) (res : S → Option Value) (ws' : S → va_W) : Array Value → State → Outcome → State → Prop := fun _ st oc t => ∃ u : S, oc = .returned (res u) ∧ post u ∧ va_P (eD E) vwCl (ws' u) t.heap ∧ st.heap.size ≤ t.heap.size ∧ ∀ q : Nat, q < st.heap.size → ¬ inW ws q → t.heap[q]? = st.heap[q]?
def Kn (l : Launch) (y : MethodName) (cc : ByteArray) (n : Nat) (ret : Option FieldType) (fr lo : Nat) (E : EE) (ws : va_W) (av : List Value) {S : Type} (post : S → Prop) (res : S → Option Value) (ws' : S → va_W) : Prop :=
  Met l y (.code y cc n ret :: Mw) (rmK fr lo) (KnP E ws av) (KnQ E ws post res ws') 0 0 (inW ws)
/-- one that always ends the same -/
abbrev Kd (l : Launch) (y : MethodName) (cc : ByteArray) (n : Nat) (ret : Option FieldType) (fr lo : Nat) (E : EE) (ws : va_W) (av : List Value) (res : Option Value) (ws' : va_W) : Prop :=
  Kn l y cc n ret fr lo E ws av (S := Unit) (fun _ => True) (fun _ => res) (fun _ => ws')
theorem KnP.blind {E : EE} {ws : va_W} {av : List Value} : FrameBlind (KnP E ws av) := by
  intro a U g mk h
  obtain ⟨h1, h2, h3, h4⟩ := h
  exact ⟨h1, En.same (s := U) (U := U.calling g mk a) rfl h2, h3, h4⟩
/-- what holds all through a method's walk -/
def Kx (p : Program) (s : State) (m : MethodId) (args : Array Value) (meth : Method) (c : Code) (cc : ByteArray) (nL : Nat) (own : String) (E : EE) (A : Nat → Prop) : Prop :=
  p.tables.exec = Jvm.exec ∧ c.code = cc ∧ c.maxLocals = nL ∧ s.vm.findClass own = some m.cls ∧ (∀ w ∈ Mw, w.before args s = true) ∧ En E A s s.heap ∧ meth.locks = false
section KW
variable {l : Launch} {y : MethodName} {cc : ByteArray} {n : Nat} {fr lo : Nat} {E : EE} {ws : va_W} {av : List Value} {S : Type} {post : S → Prop} {ws' : S → va_W}
theorem Kn.fin {p : Program} {e : Env} {s : State} {m : MethodId} {args : Array Value} {res : S → Option Value} {H : Heap} {locs : List Loc} {u : S} (h : post u) (X : Wd E (inW ws) s.heap (ws' u) H locs) : (∀ t : State, t.heap = H → s.WarmedH t.vm → KnQ E ws post res ws' args s (.returned (res u)) t) ∧ ∀ q ∈ locs, inW ws q.base := by
  obtain ⟨hP, -, hS⟩ := X
  exact ⟨fun t ht _ => ⟨u, rfl, h, by rw [ht]; exact hP, by rw [ht]; exact hS.1, fun q h1 h2 => by rw [ht]; exact hS.2.1 q h1 h2⟩, hS.2.2⟩
theorem Kn.ofWi {ty : FieldType} {r : S → Int32} (hy : plainName y.cls = true) (hle : (lg_sl av).length ≤ n) (hn : ∀ u, post u → narrow ty (.int (r u)) = .int (r u))
    (body : ∀ (p : Program) (e : Env) (s : State) (m : MethodId) (below : List Frame) (meth : Method) (c : Code) (Q : State → Prop), Kx p s m av.toArray meth c cc n y.cls E (inW ws) → Wd E (inW ws) s.heap ws s.heap [] →
      (∀ (u : S) (pc : Nat) (ls : Array Slot) (H : Heap) (locs : List Loc), post u → Wd E (inW ws) s.heap (ws' u) H locs → decode cc pc = .ok (.ireturn, 1) → W p l e (rmK fr lo) s m av.toArray below meth c H locs 0 0 Q (F0 m pc ls [.int (r u)])) →
      ∀ ls : Array Slot, lv_has ls n (lv_args 0 av) → W p l e (rmK fr lo) s m av.toArray below meth c s.heap [] 0 0 Q (F0 m 0 ls [])) : Kn l y cc n (some ty) fr lo E ws av post (fun u => some (.int (r u))) ws' := by
  refine Met.ofW (cc := cc) (maxL := n) (ret := some ty) hy rfl ?_
  intro p e s m args below meth c s₁ B hml hv
  obtain ⟨rfl, hE, hP, hD⟩ := hv
  have hts := atoms_spec (ws := .code y cc n (some ty) :: Mw) B.pre
  have hlocks := B.notSynchronized
  rw [lg_entry_eq]
  refine body p e s m below meth c _ ⟨B.exec, B.bytes, hml, findClass_of_methodNamed B.named, fun w h => hts w (List.mem_cons_of_mem _ h), hE, hlocks⟩ ⟨hP, ⟨hD.1, fun k q h => ⟨k, q.2, h⟩⟩, va_S.rf⟩ ?_ _ (lv_entry av hle)
  intro u pc ls H locs hpo X hd
  have hf := Kn.fin (p := p) (e := e) (m := m) (args := av.toArray) (res := fun u => some (.int (r u))) hpo X
  exact W.zret B.exec B.bytes B.returns (hn u hpo) hf.1 hf.2 hd
theorem Kn.ofWl {r : S → Int64} (hy : plainName y.cls = true) (hle : (lg_sl av).length ≤ n)
    (body : ∀ (p : Program) (e : Env) (s : State) (m : MethodId) (below : List Frame) (meth : Method) (c : Code) (Q : State → Prop), Kx p s m av.toArray meth c cc n y.cls E (inW ws) → Wd E (inW ws) s.heap ws s.heap [] →
      (∀ (u : S) (pc : Nat) (ls : Array Slot) (H : Heap) (locs : List Loc), post u → Wd E (inW ws) s.heap (ws' u) H locs → decode cc pc = .ok (.lreturn, 1) → W p l e (rmK fr lo) s m av.toArray below meth c H locs 0 0 Q (F0 m pc ls [.long (r u)])) →
      ∀ ls : Array Slot, lv_has ls n (lv_args 0 av) → W p l e (rmK fr lo) s m av.toArray below meth c s.heap [] 0 0 Q (F0 m 0 ls [])) : Kn l y cc n (some .long) fr lo E ws av post (fun u => some (.long (r u))) ws' := by
  refine Met.ofW (cc := cc) (maxL := n) (ret := some .long) hy rfl ?_
  intro p e s m args below meth c s₁ B hml hv
  obtain ⟨rfl, hE, hP, hD⟩ := hv
  have hts := atoms_spec (ws := .code y cc n (some .long) :: Mw) B.pre
  have hlocks := B.notSynchronized
  rw [lg_entry_eq]
  refine body p e s m below meth c _ ⟨B.exec, B.bytes, hml, findClass_of_methodNamed B.named, fun w h => hts w (List.mem_cons_of_mem _ h), hE, hlocks⟩ ⟨hP, ⟨hD.1, fun k q h => ⟨k, q.2, h⟩⟩, va_S.rf⟩ ?_ _ (lv_entry av hle)
  intro u pc ls H locs hpo X hd
  have hf := Kn.fin (p := p) (e := e) (m := m) (args := av.toArray) (res := fun u => some (.long (r u))) hpo X
  exact W.lret B.exec B.bytes B.returns hf.1 hf.2 hd
theorem Kn.ofWv (hy : plainName y.cls = true) (hle : (lg_sl av).length ≤ n)
    (body : ∀ (p : Program) (e : Env) (s : State) (m : MethodId) (below : List Frame) (meth : Method) (c : Code) (Q : State → Prop), Kx p s m av.toArray meth c cc n y.cls E (inW ws) → Wd E (inW ws) s.heap ws s.heap [] →
      (∀ (u : S) (pc : Nat) (ls : Array Slot) (H : Heap) (locs : List Loc), post u → Wd E (inW ws) s.heap (ws' u) H locs → decode cc pc = .ok (.return_, 1) → W p l e (rmK fr lo) s m av.toArray below meth c H locs 0 0 Q (F0 m pc ls [])) →
      ∀ ls : Array Slot, lv_has ls n (lv_args 0 av) → W p l e (rmK fr lo) s m av.toArray below meth c s.heap [] 0 0 Q (F0 m 0 ls [])) : Kn l y cc n none fr lo E ws av post (fun _ => none) ws' := by
  refine Met.ofW (cc := cc) (maxL := n) (ret := none) hy rfl ?_
  intro p e s m args below meth c s₁ B hml hv
  obtain ⟨rfl, hE, hP, hD⟩ := hv
  have hts := atoms_spec (ws := .code y cc n none :: Mw) B.pre
  have hlocks := B.notSynchronized
  rw [lg_entry_eq]
  refine body p e s m below meth c _ ⟨B.exec, B.bytes, hml, findClass_of_methodNamed B.named, fun w h => hts w (List.mem_cons_of_mem _ h), hE, hlocks⟩ ⟨hP, ⟨hD.1, fun k q h => ⟨k, q.2, h⟩⟩, va_S.rf⟩ ?_ _ (lv_entry av hle)
  intro u pc ls H locs hpo X hd
  have hf := Kn.fin (p := p) (e := e) (m := m) (args := av.toArray) (res := fun _ => none) hpo X
  exact W.vret B.exec B.bytes B.returns hf.1 hf.2 hd
end KW
/-! rows over a world -/
def fOK (ci k : Nat) (P : String → u_T → Nat → Prop) : Prop := ∃ (C : String) (T : u_T) (N : Nat), vwCl[ci]? = some (C, T, N) ∧ k < N ∧ (∀ w ∈ u_ws C T N, w ∈ Mw) ∧ (T k).1 = C ∧ P C T N
def FG (own : String) (idx ci k : Nat) : Prop := fOK ci k fun C T _ => Cond.fieldLink own idx C (T k).2.1 (T k).2.2.1 ∈ Mw
def FGN (own : String) (idx ci k : Nat) : Prop := fOK ci k fun C T _ => ∃ host, Cond.fieldLinkNest own idx C (T k).2.1 (T k).2.2.1 host ∈ Nw
def fTy (k : Nat) (ty : FieldType) (T : u_T) (N : Nat) : Prop := (∃ ty0 : Nat → FieldType, ∀ k, k < N → parseFieldDescriptor (T k).2.2.1 = some (ty0 k)) ∧ (∀ a, a < N → ∀ b, b < N → a ≠ b → (T a).2.1 ≠ (T b).2.1) ∧ parseFieldDescriptor (T k).2.2.1 = some ty
def FP (own : String) (idx ci k : Nat) (ty : FieldType) : Prop := fOK ci k fun C T N => Cond.fieldLink own idx C (T k).2.1 (T k).2.2.1 ∈ Mw ∧ fTy k ty T N ∧ (T k).2.2.2 = false
def FPN (own : String) (idx ci k : Nat) (ty : FieldType) : Prop := fOK ci k fun C T N => (∃ host, Cond.fieldLinkNest own idx C (T k).2.1 (T k).2.2.1 host ∈ Nw) ∧ fTy k ty T N ∧ (T k).2.2.2 = false
section KR
variable {p : Program} {l : Launch} {e : Env} {R : Room} {s : State} {m : MethodId} {args : Array Value} {below : List Frame} {meth : Method} {c : Code} {H : Heap} {locs : List Loc} {cells slots : Nat} {Q : State → Prop}
variable {cc : ByteArray} {pc nL : Nat} {own : String} {E : EE} {ls : Array Slot} {rest : List Value} {A : Nat → Prop} {a : Nat} {ws : va_W}
theorem k_get (K : Kx p s m args meth c cc nL own E A) (X : Wd E A s.heap ws H locs) (q0 : Nat) {ci idx k : Nat} {fs : List Value} (he : ws[q0]? = some (a, .inr (ci, fs))) (F : FG own idx ci k) {v : Value} (hv : fs[k]? = some v) (hdg : decode cc pc = .ok (.getfield idx, 3))
    (kk : W p l e R s m args below meth c H locs cells slots Q (F0 m (pc + 3) ls (v :: rest))) : W p l e R s m args below meth c H locs cells slots Q (F0 m pc ls (.ref a :: rest)) := by
  obtain ⟨hx, hb, hml, ho, hts, hE, -⟩ := K
  obtain ⟨C, T, N, h1, h2, h3, h4, h5⟩ := F
  exact va_get (C := C) (T := T) (N := N) hx hb hts h3 ho hE.1 X.1 q0 he h1 k h2 (hts _ h5) (fun x h => by rw [h4] at h; exact h) hv hdg kk
theorem k_getN (K : Kx p s m args meth c cc nL own E A) (X : Wd E A s.heap ws H locs) (q0 : Nat) {ci idx k : Nat} {fs : List Value} (he : ws[q0]? = some (a, .inr (ci, fs))) (F : FGN own idx ci k) {v : Value} (hv : fs[k]? = some v) (hdg : decode cc pc = .ok (.getfield idx, 3))
    (kk : W p l e R s m args below meth c H locs cells slots Q (F0 m (pc + 3) ls (v :: rest))) : W p l e R s m args below meth c H locs cells slots Q (F0 m pc ls (.ref a :: rest)) := by
  obtain ⟨hx, hb, hml, ho, hts, hE, -⟩ := K
  obtain ⟨C, T, N, h1, h2, h3, h4, host, h5⟩ := F
  exact va_getN (C := C) (T := T) (N := N) hx hb hts h3 ho hE.1 X.1 q0 he h1 k h2 (va_Nw.use rfl (hE.2.1 _ h5)) (fun x h => by rw [h4] at h; exact h) hv hdg kk
theorem k_put (K : Kx p s m args meth c cc nL own E A) (X : Wd E A s.heap ws H locs) (q0 : Nat) {ci idx k : Nat} {ty : FieldType} {fs : List Value} (he : ws[q0]? = some (a, .inr (ci, fs))) (F : FP own idx ci k ty) {v : Value} (hn : narrow ty v = v) (hfit : fits ty v = true) (hl : k < fs.length) (hdg : decode cc pc = .ok (.putfield idx, 3))
    (kk : ∀ (H1 : Heap) (locs1 : List Loc), Wd E A s.heap (ws.set q0 (a, .inr (ci, fs.set k v))) H1 locs1 → W p l e R s m args below meth c H1 locs1 cells slots Q (F0 m (pc + 3) ls rest)) : W p l e R s m args below meth c H locs cells slots Q (F0 m pc ls (v :: .ref a :: rest)) := by
  obtain ⟨hx, hb, hml, ho, hts, hE, -⟩ := K
  obtain ⟨C, T, N, h1, h2, h3, h4, h5, ⟨⟨ty0, h6⟩, h7, h8⟩, h9⟩ := F
  exact va_put (C := C) (T := T) (N := N) hx hb hts h3 ty0 h6 h7 ho hE.1 X.1 X.2.1 X.2.2 q0 he h1 k h2 (hts _ h5) (fun x h => by rw [h4] at h; exact h) h9 h8 hn hfit hl hdg (fun H1 l1 a1 a2 a3 => kk H1 l1 ⟨a1, a2, a3⟩)
theorem k_putN (K : Kx p s m args meth c cc nL own E A) (X : Wd E A s.heap ws H locs) (q0 : Nat) {ci idx k : Nat} {ty : FieldType} {fs : List Value} (he : ws[q0]? = some (a, .inr (ci, fs))) (F : FPN own idx ci k ty) {v : Value} (hn : narrow ty v = v) (hfit : fits ty v = true) (hl : k < fs.length) (hdg : decode cc pc = .ok (.putfield idx, 3))
    (kk : ∀ (H1 : Heap) (locs1 : List Loc), Wd E A s.heap (ws.set q0 (a, .inr (ci, fs.set k v))) H1 locs1 → W p l e R s m args below meth c H1 locs1 cells slots Q (F0 m (pc + 3) ls rest)) : W p l e R s m args below meth c H locs cells slots Q (F0 m pc ls (v :: .ref a :: rest)) := by
  obtain ⟨hx, hb, hml, ho, hts, hE, -⟩ := K
  obtain ⟨C, T, N, h1, h2, h3, h4, ⟨host, h5⟩, ⟨⟨ty0, h6⟩, h7, h8⟩, h9⟩ := F
  exact va_putN (C := C) (T := T) (N := N) hx hb hts h3 ty0 h6 h7 ho hE.1 X.1 X.2.1 X.2.2 q0 he h1 k h2 (va_Nw.use rfl (hE.2.1 _ h5)) (fun x h => by rw [h4] at h; exact h) h9 h8 hn hfit hl hdg (fun H1 l1 a1 a2 a3 => kk H1 l1 ⟨a1, a2, a3⟩)
theorem k_iald (K : Kx p s m args meth c cc nL own E A) (X : Wd E A s.heap ws H locs) (q0 : Nat) {n : Nat} {f : Nat → Int32} (ha : ws[q0]? = some (a, .inl (eA E 0, n, .inl f))) {i : Int32} (hin : vp_in i n) (hdg : decode cc pc = .ok (.iaload, 1))
    (kk : W p l e R s m args below meth c H locs cells slots Q (F0 m (pc + 1) ls (.int (f i.toNatClampNeg) :: rest))) : W p l e R s m args below meth c H locs cells slots Q (F0 m pc ls (.int i :: .ref a :: rest)) :=
  va_iald K.1 K.2.1 K.2.2.2.2.2.1.1 X.1 q0 0 ha rfl hin hdg kk
theorem k_iast (K : Kx p s m args meth c cc nL own E A) (X : Wd E A s.heap ws H locs) (q0 : Nat) {n : Nat} {f : Nat → Int32} (ha : ws[q0]? = some (a, .inl (eA E 0, n, .inl f))) {i x : Int32} (hin : vp_in i n) (hdg : decode cc pc = .ok (.iastore, 1))
    (kk : ∀ (H1 : Heap) (locs1 : List Loc), Wd E A s.heap (ws.set q0 (a, .inl (eA E 0, n, .inl (upd f i.toNatClampNeg x)))) H1 locs1 → W p l e R s m args below meth c H1 locs1 cells slots Q (F0 m (pc + 1) ls rest)) : W p l e R s m args below meth c H locs cells slots Q (F0 m pc ls (.int x :: .int i :: .ref a :: rest)) :=
  va_iast K.1 K.2.1 K.2.2.2.2.2.1.1 X.1 X.2.1 X.2.2 q0 0 ha rfl hin hdg (fun H1 l1 a1 a2 a3 => kk H1 l1 ⟨a1, a2, a3⟩)
theorem k_lald (K : Kx p s m args meth c cc nL own E A) (X : Wd E A s.heap ws H locs) (q0 : Nat) {n : Nat} {f : Nat → Int64} (ha : ws[q0]? = some (a, .inl (eA E 1, n, .inr (.inl f)))) {i : Int32} (hin : vp_in i n) (hdg : decode cc pc = .ok (.laload, 1))
    (kk : W p l e R s m args below meth c H locs cells slots Q (F0 m (pc + 1) ls (.long (f i.toNatClampNeg) :: rest))) : W p l e R s m args below meth c H locs cells slots Q (F0 m pc ls (.int i :: .ref a :: rest)) :=
  va_lald K.1 K.2.1 K.2.2.2.2.2.1.1 X.1 q0 1 ha rfl hin hdg kk
theorem k_last (K : Kx p s m args meth c cc nL own E A) (X : Wd E A s.heap ws H locs) (q0 : Nat) {n : Nat} {f : Nat → Int64} (ha : ws[q0]? = some (a, .inl (eA E 1, n, .inr (.inl f)))) {i : Int32} {x : Int64} (hin : vp_in i n) (hdg : decode cc pc = .ok (.lastore, 1))
    (kk : ∀ (H1 : Heap) (locs1 : List Loc), Wd E A s.heap (ws.set q0 (a, .inl (eA E 1, n, .inr (.inl (vp_updL f i.toNatClampNeg x))))) H1 locs1 → W p l e R s m args below meth c H1 locs1 cells slots Q (F0 m (pc + 1) ls rest)) : W p l e R s m args below meth c H locs cells slots Q (F0 m pc ls (.long x :: .int i :: .ref a :: rest)) :=
  va_last K.1 K.2.1 K.2.2.2.2.2.1.1 X.1 X.2.1 X.2.2 q0 1 ha rfl hin hdg (fun H1 l1 a1 a2 a3 => kk H1 l1 ⟨a1, a2, a3⟩)
theorem k_aald {C : String} (K : Kx p s m args meth c cc nL own E A) (X : Wd E A s.heap ws H locs) (q0 t0 : Nat) {n : Nat} {f : Nat → Option Nat} (ha : ws[q0]? = some (a, .inl (eA E t0, n, .inr (.inr (.inr (.inr f)))))) (ht : (eT E)[t0]? = some (eA E t0, .object C)) {i : Int32} (hin : vp_in i n) {r : Nat} (hr : f i.toNatClampNeg = some r) (hdg : decode cc pc = .ok (.aaload, 1))
    (kk : W p l e R s m args below meth c H locs cells slots Q (F0 m (pc + 1) ls (.ref r :: rest))) : W p l e R s m args below meth c H locs cells slots Q (F0 m pc ls (.int i :: .ref a :: rest)) :=
  va_aldq K.1 K.2.1 K.2.2.2.2.2.1.1 X.1 q0 t0 ha ht hin hdg (by rw [hr]; exact kk)
end KR
