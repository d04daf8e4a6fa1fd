def OKB (y : MethodName) (bytes : ByteArray) (maxL : Nat) (ret : Option FieldType) (k : Nat) : Prop := Cond.code y bytes maxL ret ∈ Mw ∧ Cond.initialized y.cls ∈ Mw ∧ y.cls ≠ "java/lang/invoke/MethodHandle" ∧ y.cls ≠ "java/lang/invoke/VarHandle" ∧ (parseMethodDescriptor y.desc).map (fun d => d.parameters.length) = some k
def OKV (own : String) (idx : Nat) (C : String) (y : MethodName) (bytes : ByteArray) (maxL : Nat) (ret : Option FieldType) (k : Nat) : Prop := OKB y bytes maxL ret k ∧ Cond.methodLink own idx y ∈ Mw ∧ Cond.instanceMethod y ∈ Mw ∧ Cond.selects C y y ∈ Mw
def OKS (own : String) (idx : Nat) (y : MethodName) (bytes : ByteArray) (maxL : Nat) (ret : Option FieldType) (k : Nat) : Prop := OKB y bytes maxL ret k ∧ Cond.methodLink own idx y ∈ Mw ∧ Cond.static y ∈ Mw
def OKVN (own : String) (idx : Nat) (C : String) (y : MethodName) (bytes : ByteArray) (maxL : Nat) (ret : Option FieldType) (k : Nat) : Prop := OKB y bytes maxL ret k ∧ (∃ host, Cond.methodLinkNest own idx y host ∈ Nw) ∧ Cond.instanceMethod y ∈ Mw ∧ Cond.selects C y y ∈ Mw
def OKSN (own : String) (idx : Nat) (y : MethodName) (bytes : ByteArray) (maxL : Nat) (ret : Option FieldType) (k : Nat) : Prop := OKB y bytes maxL ret k ∧ (∃ host, Cond.methodLinkNest own idx y host ∈ Nw) ∧ Cond.static y ∈ Mw
/-- a method that the receiver's class selects, under the name x that its class C has from owner -/
def OKO (own : String) (idx : Nat) (C : String) (x y : MethodName) (bytes : ByteArray) (maxL : Nat) (ret : Option FieldType) (k : Nat) : Prop := OKB y bytes maxL ret k ∧ Cond.methodLink own idx x ∈ Mw ∧ Cond.sameMethod x.cls x.cls x.name x.desc ∈ Mw ∧ Cond.instanceMethod x ∈ Mw ∧ Cond.selects C x y ∈ Mw ∧ Cond.instanceMethod y ∈ Mw ∧ (∃ b0 m0 r0, Cond.code x b0 m0 r0 ∈ Mw) ∧ x.cls ≠ "java/lang/invoke/MethodHandle" ∧ x.cls ≠ "java/lang/invoke/VarHandle" ∧ (parseMethodDescriptor x.desc).map (fun d => d.parameters.length) = some k
/-- super's method -/
def OKU (own : String) (idx : Nat) (y : MethodName) (bytes : ByteArray) (maxL : Nat) (ret : Option FieldType) (k : Nat) : Prop := OKB y bytes maxL ret k ∧ Cond.methodLink own idx y ∈ Mw ∧ Cond.sameMethod y.cls y.cls y.name y.desc ∈ Mw ∧ Cond.superclass own y.cls ∈ Mw ∧ Cond.instanceMethod y ∈ Mw ∧ y.name ≠ "<init>"
theorem okb_good {y : MethodName} {bytes : ByteArray} {maxL : Nat} {ret : Option FieldType} {k : Nat} (G : OKB y bytes maxL ret k) : GoodIn Mw (.code y bytes maxL ret :: Mw) := by
  intro w hw
  rcases List.mem_cons.mp hw with rfl | h
  · exact ⟨G.1, Mw_good G.1⟩
  · exact ⟨h, Mw_good h⟩
theorem good_app {ws' : List Cond} {ws : List Cond} (h : GoodIn Mw ws) (h' : ∀ w ∈ ws', w ∈ Mw) : GoodIn Mw (ws' ++ ws) := by
  intro w hw
  rcases List.mem_append.mp hw with hw | hw
  · exact ⟨h' w hw, Mw_good (h' w hw)⟩
  · exact h w hw
section KC
variable {p : Program} {l : Launch} {e : Env} {R : Room} {s : State} {m : MethodId} {args : Array Value} {below : List Frame} {meth : Method} {c : Code} {H : Heap} {locs : List Loc} {cells slots : Nat} {Q : State → Prop}
variable {cc : ByteArray} {pc nL : Nat} {own : String} {E : EE} {ls : Array Slot} {rest st0 : List Value} {A : Nat → Prop} {b : Nat} {ws wc : va_W} {As : List Value}
variable {S : Type} {post : S → Prop} {res : S → Option Value} {w1 : S → va_W} {st1 : S → List Value} {x y : MethodName} {bytes : ByteArray} {maxL fr lo k idx : Nat} {ret : Option FieldType} {C : String}
theorem okb_callB (K : Kx p s m args meth c cc nL own E A) (G : OKB y bytes maxL ret k) (hl : Cond.methodLink own idx y ∈ Mw) (hR : fr + 1 ≤ R.frames ∧ 8 + (maxL + 11) + lo ≤ R.locals) : CallB R s args own idx y bytes maxL ret (.code y bytes maxL ret :: Mw) (rmK fr lo) 0 0 k := by
  obtain ⟨hx, hb, hml, ho, hts, hE, -⟩ := K
  exact callB_of (Ts := Mw) k hts (okb_good G) rfl rfl rfl (hts _ G.2.1) (hts _ hl) G.2.2 hR
theorem okb_callN {host : String} (K : Kx p s m args meth c cc nL own E A) (G : OKB y bytes maxL ret k) (hl : Cond.methodLinkNest own idx y host ∈ Nw) (hR : fr + 1 ≤ R.frames ∧ 8 + (maxL + 11) + lo ≤ R.locals) : va_CN R s args own idx y host bytes maxL ret (.code y bytes maxL ret :: Mw) (rmK fr lo) 0 0 k := by
  obtain ⟨hx, hb, hml, ho, hts, hE, -⟩ := K
  exact va_cnB (Ts := Mw) k hts (okb_good G) rfl rfl rfl (hE.2.1 _ hl) (hts _ G.2.1) G.2.2 hR
theorem k_pre {av : List Value} (K : Kx p s m args meth c cc nL own E A) (X : Wd E A s.heap ws H locs) (is : List Nat) (hC : is.map (fun i => ws[i]?) = wc.map some) (hn : va_nd is = true) : ∀ U : State, U.heap = H → s.WarmedH U.vm → KnP E wc av av.toArray U := by
  obtain ⟨hx, hb, hml, ho, hts, hE, -⟩ := K
  obtain ⟨hP, hD, hS⟩ := X
  intro U hU hW
  refine ⟨rfl, ?_, ?_, ?_⟩
  · rw [hU]
    refine En.warm hW (En.narrow (hE.kept hS.2.1) (fun q hq => ?_))
    obtain ⟨j, e, hj⟩ := hq
    obtain ⟨i, h1, h2⟩ := sub_at hC hj
    exact hD.2 i _ h2
  · rw [hU]
    intro j q hq
    obtain ⟨i, h1, h2⟩ := sub_at hC hq
    exact hP i q h2
  · exact (hD.sub is hn hC).weaken (fun _ _ _ _ => trivial)
theorem k_callR {a : Array Value} (X : Wd E A s.heap ws H locs) (is : List Nat) (hC : is.map (fun i => ws[i]?) = wc.map some) (hn : va_nd is = true) (he : ∀ u, (w1 u).map Prod.fst = wc.map Prod.fst)
    (hr : va_Run p l e R s m args below meth c H locs cells slots 0 0 (F0 m pc ls st0) rest (KnQ E wc post res w1 a) (inW wc)) (hs : ∀ u, (res u).toList ++ rest = st1 u)
    (kk : ∀ (u : S) (H1 : Heap) (locs1 : List Loc), post u → Wd E A s.heap (putM ws is (w1 u)) H1 locs1 → W p l e R s m args below meth c H1 locs1 cells slots Q (F0 m (pc + 3) ls (st1 u))) : W p l e R s m args below meth c H locs cells slots Q (F0 m pc ls st0) := by
  intro T hT Z
  obtain ⟨v, st₀, t, T', L, h0, X', hL, e1, e2, ⟨u, hv, hp, hP1, hz, hk⟩, st⟩ := hr T hT Z
  cases hv
  rw [h0] at hz hk
  have hA : ∀ q, inW wc q → A q := by
    rintro q ⟨j, e, hj⟩
    obtain ⟨i, h1, h2⟩ := sub_at hC hj
    exact X.2.1.2 i _ h2
  have hS := X.2.2
  obtain ⟨t2, a1, b1⟩ := kk u T'.heap (locs ++ L) hp (X.join is hC hn (he u) (by rw [e1]; exact hP1) (fun q h1 h2 => by rw [e1]; exact hk q h1 h2)
    ⟨Nat.le_trans hS.1 (by rw [e1]; exact hz), fun q h1 h2 => by rw [e1, hk q (Nat.lt_of_lt_of_le h1 hS.1) (fun z => h2 (hA q z))]; exact hS.2.1 q h1 h2, fun q hq => by
      rcases List.mem_append.mp hq with h | h
      · exact hS.2.2 q h
      · exact hA _ (hL q h)⟩) T' rfl X'
  refine ⟨t2, st t2 ?_, b1⟩
  rw [← hs u] at a1
  exact a1
theorem k_recv (K : Kx p s m args meth c cc nL own E A) (X : Wd E A s.heap ws H locs) (is : List Nat) (hC : is.map (fun i => ws[i]?) = wc.map some) (q0 ci : Nat) {fs : List Value} (hq : wc[q0]? = some (b, .inr (ci, fs))) (hc : (vwCl[ci]?).map Prod.fst = some C) : ∃ cell : Cell, H[b]? = some cell ∧ cell.vm.isStatics = false ∧ s.vm.findClass C = some cell.cls := by
  obtain ⟨hx, hb, hml, ho, hts, hE, -⟩ := K
  obtain ⟨i, h1, h2⟩ := sub_at hC hq
  cases hcl : vwCl[ci]? with
  | none => rw [hcl] at hc; cases hc
  | some r =>
    rw [hcl] at hc
    cases hc
    exact va_recv hE.1 X.1 hcl h2
theorem k_callV (K : Kx p s m args meth c cc nL own E A) (X : Wd E A s.heap ws H locs) (G : OKV own idx C y bytes maxL ret k) (hM : Kn l y bytes maxL ret fr lo E wc (.ref b :: As) post res w1) (is : List Nat) (hC : is.map (fun i => ws[i]?) = wc.map some) (hn : va_nd is = true) (he : ∀ u, (w1 u).map Prod.fst = wc.map Prod.fst)
    (q0 ci : Nat) {fs : List Value} (hq : wc[q0]? = some (b, .inr (ci, fs))) (hc : (vwCl[ci]?).map Prod.fst = some C) (hR : (fr + 1 ≤ R.frames ∧ 8 + (maxL + 11) + lo ≤ R.locals) ∧ cells + 0 ≤ R.cells ∧ slots + 0 ≤ R.slots) (hlen : As.length = k) (hsz : ls.size = nL) (hst : st0 = As.reverse ++ .ref b :: rest) (hw : (rest.map fun v => v.category).sum ≤ 8) (hdg : decode cc pc = .ok (.invokevirtual idx, 3)) (hs : ∀ u, (res u).toList ++ rest = st1 u)
    (kk : ∀ (u : S) (H1 : Heap) (locs1 : List Loc), post u → Wd E A s.heap (putM ws is (w1 u)) H1 locs1 → W p l e R s m args below meth c H1 locs1 cells slots Q (F0 m (pc + 3) ls (st1 u))) : W p l e R s m args below meth c H locs cells slots Q (F0 m pc ls st0) := by
  have hts := K.2.2.2.2.1
  refine k_callR X is hC hn he (va_runV (cc := cc) (nL := nL) (own := own) (Ts := Mw) (C := C) (b := b) (As := As) ⟨K.1, K.2.1, K.2.2.1, K.2.2.2.1, hts⟩ hM ⟨okb_callB K G.1 G.2.1 hR.1, hts _ G.2.2.1, hts _ G.2.2.2⟩ ⟨KnP.blind, k_recv K X is hC q0 ci hq hc, k_pre K X is hC hn⟩ rfl hlen hsz hst (lv_room hw) hdg hR.2) hs kk
theorem k_callS (K : Kx p s m args meth c cc nL own E A) (X : Wd E A s.heap ws H locs) (G : OKS own idx y bytes maxL ret k) (hM : Kn l y bytes maxL ret fr lo E wc As post res w1) (is : List Nat) (hC : is.map (fun i => ws[i]?) = wc.map some) (hn : va_nd is = true) (he : ∀ u, (w1 u).map Prod.fst = wc.map Prod.fst)
    (hR : (fr + 1 ≤ R.frames ∧ 8 + (maxL + 11) + lo ≤ R.locals) ∧ cells + 0 ≤ R.cells ∧ slots + 0 ≤ R.slots) (hlen : As.length = k) (hsz : ls.size = nL) (hst : st0 = As.reverse ++ rest) (hw : (rest.map fun v => v.category).sum ≤ 8) (hdg : decode cc pc = .ok (.invokestatic idx, 3)) (hs : ∀ u, (res u).toList ++ rest = st1 u)
    (kk : ∀ (u : S) (H1 : Heap) (locs1 : List Loc), post u → Wd E A s.heap (putM ws is (w1 u)) H1 locs1 → W p l e R s m args below meth c H1 locs1 cells slots Q (F0 m (pc + 3) ls (st1 u))) : W p l e R s m args below meth c H locs cells slots Q (F0 m pc ls st0) := by
  have hts := K.2.2.2.2.1
  refine k_callR X is hC hn he (va_runS (cc := cc) (nL := nL) (own := own) (Ts := Mw) (As := As) ⟨K.1, K.2.1, K.2.2.1, K.2.2.2.1, hts⟩ hM ⟨okb_callB K G.1 G.2.1 hR.1, hts _ G.2.2⟩ ⟨KnP.blind, k_pre K X is hC hn⟩ rfl hlen hsz hst (lv_room hw) hdg hR.2) hs kk
theorem k_callSN (K : Kx p s m args meth c cc nL own E A) (X : Wd E A s.heap ws H locs) (G : OKSN own idx y bytes maxL ret k) (hM : Kn l y bytes maxL ret fr lo E wc As post res w1) (is : List Nat) (hC : is.map (fun i => ws[i]?) = wc.map some) (hn : va_nd is = true) (he : ∀ u, (w1 u).map Prod.fst = wc.map Prod.fst)
    (hR : (fr + 1 ≤ R.frames ∧ 8 + (maxL + 11) + lo ≤ R.locals) ∧ cells + 0 ≤ R.cells ∧ slots + 0 ≤ R.slots) (hlen : As.length = k) (hsz : ls.size = nL) (hst : st0 = As.reverse ++ rest) (hw : (rest.map fun v => v.category).sum ≤ 8) (hdg : decode cc pc = .ok (.invokestatic idx, 3)) (hs : ∀ u, (res u).toList ++ rest = st1 u)
    (kk : ∀ (u : S) (H1 : Heap) (locs1 : List Loc), post u → Wd E A s.heap (putM ws is (w1 u)) H1 locs1 → W p l e R s m args below meth c H1 locs1 cells slots Q (F0 m (pc + 3) ls (st1 u))) : W p l e R s m args below meth c H locs cells slots Q (F0 m pc ls st0) := by
  have hts := K.2.2.2.2.1
  obtain ⟨host, hh⟩ := G.2.1
  refine k_callR X is hC hn he (va_runSN (cc := cc) (nL := nL) (own := own) (Ts := Mw) (As := As) ⟨K.1, K.2.1, K.2.2.1, K.2.2.2.1, hts⟩ hM ⟨okb_callN K G.1 hh hR.1, hts _ G.2.2, trivial⟩ ⟨KnP.blind, k_pre K X is hC hn⟩ rfl hlen hsz hst (lv_room hw) hdg hR.2) hs kk
/-- a call by a name that the receiver's class may override -/
theorem k_callO (K : Kx p s m args meth c cc nL own E A) (X : Wd E A s.heap ws H locs) (G : OKO own idx C x y bytes maxL ret k) (hM : Kn l y bytes maxL ret fr lo E wc (.ref b :: As) post res w1) (is : List Nat) (hC : is.map (fun i => ws[i]?) = wc.map some) (hn : va_nd is = true) (he : ∀ u, (w1 u).map Prod.fst = wc.map Prod.fst)
    (q0 ci : Nat) {fs : List Value} (hq : wc[q0]? = some (b, .inr (ci, fs))) (hc : (vwCl[ci]?).map Prod.fst = some C) (hR : (fr + 1 ≤ R.frames ∧ 8 + (maxL + 11) + lo ≤ R.locals) ∧ cells + 0 ≤ R.cells ∧ slots + 0 ≤ R.slots) (hlen : As.length = k) (hsz : ls.size = nL) (hst : st0 = As.reverse ++ .ref b :: rest) (hw : (rest.map fun v => v.category).sum ≤ 8) (hdg : decode cc pc = .ok (.invokevirtual idx, 3)) (hs : ∀ u, (res u).toList ++ rest = st1 u)
    (kk : ∀ (u : S) (H1 : Heap) (locs1 : List Loc), post u → Wd E A s.heap (putM ws is (w1 u)) H1 locs1 → W p l e R s m args below meth c H1 locs1 cells slots Q (F0 m (pc + 3) ls (st1 u))) : W p l e R s m args below meth c H locs cells slots Q (F0 m pc ls st0) := by
  have hts := K.2.2.2.2.1
  obtain ⟨g1, g2, g3, g4, g5, g6, ⟨b0, m0, r0, g7⟩, g8⟩ := G
  have hcw : va_CU R s args own C x.cls idx x y bytes maxL ret (.code y bytes maxL ret :: Mw) (rmK fr lo) 0 0 k := va_cwO (Ts := Mw) k hts (good_app (okb_good g1) (fun w hw => by
      simp only [List.mem_cons, List.not_mem_nil, or_false] at hw
      rcases hw with rfl | rfl | rfl | rfl | rfl | rfl
      · exact g2
      · exact g3
      · exact g4
      · exact g5
      · exact g6
      · exact g1.2.1)) rfl rfl rfl g7 g8 hR.1
  refine k_callR X is hC hn he (va_runU (cc := cc) (nL := nL) (own := own) (Ts := Mw) (C := C) (b := b) (As := As) ⟨K.1, K.2.1, K.2.2.1, K.2.2.2.1, hts⟩ hM hcw ⟨KnP.blind, k_recv K X is hC q0 ci hq hc, k_pre K X is hC hn⟩ rfl hlen hsz hst (lv_room hw) hdg hR.2) hs kk
/-- super's method, of the class C of the receiver -/
theorem k_callU (K : Kx p s m args meth c cc nL own E A) (X : Wd E A s.heap ws H locs) (G : OKU own idx y bytes maxL ret k) (hM : Kn l y bytes maxL ret fr lo E wc (.ref b :: As) post res w1) (is : List Nat) (hC : is.map (fun i => ws[i]?) = wc.map some) (hn : va_nd is = true) (he : ∀ u, (w1 u).map Prod.fst = wc.map Prod.fst)
    (q0 ci : Nat) {fs : List Value} (hq : wc[q0]? = some (b, .inr (ci, fs))) {T : u_T} {N : Nat} (hc : vwCl[ci]? = some (C, T, N)) (hR : (fr + 1 ≤ R.frames ∧ 8 + (maxL + 11) + lo ≤ R.locals) ∧ cells + 0 ≤ R.cells ∧ slots + 0 ≤ R.slots) (hlen : As.length = k) (hsz : ls.size = nL) (hst : st0 = As.reverse ++ .ref b :: rest) (hw : (rest.map fun v => v.category).sum ≤ 8) (hdg : decode cc pc = .ok (.invokespecial idx, 3)) (hs : ∀ u, (res u).toList ++ rest = st1 u)
    (kk : ∀ (u : S) (H1 : Heap) (locs1 : List Loc), post u → Wd E A s.heap (putM ws is (w1 u)) H1 locs1 → W p l e R s m args below meth c H1 locs1 cells slots Q (F0 m (pc + 3) ls (st1 u))) : W p l e R s m args below meth c H locs cells slots Q (F0 m pc ls st0) := by
  have hts := K.2.2.2.2.1
  have hE := K.2.2.2.2.2.1
  obtain ⟨g1, g2, g3, g4, g5, g6⟩ := G
  have hcw : va_CS R s args own idx y bytes maxL ret (.code y bytes maxL ret :: Mw) (rmK fr lo) 0 0 k := va_cwSU (Ts := Mw) k hts (good_app (okb_good g1) (fun w hw => by
      simp only [List.mem_cons, List.not_mem_nil, or_false] at hw
      rcases hw with rfl | rfl | rfl | rfl | rfl
      · exact g2
      · exact g3
      · exact g4
      · exact g5
      · exact g1.2.1)) rfl rfl rfl ⟨g6, g1.2.2.2.2⟩ hR.1
  refine k_callR X is hC hn he (va_runSU (cc := cc) (nL := nL) (own := own) (Ts := Mw) (C := C) (b := b) (As := As) (hE.1.1 ci _ hc).2 ⟨K.1, K.2.1, K.2.2.1, K.2.2.2.1, hts⟩ hM hcw ⟨KnP.blind, k_recv K X is hC q0 ci hq (by rw [hc]; rfl), k_pre K X is hC hn⟩ rfl hlen hsz hst (lv_room hw) hdg hR.2) hs kk
end KC
