/-! the literals and the table of names, which nobody writes -/
section KZ
variable {p : Program} {l : Launch} {e : Env} {R : Room} {s : State} {m : MethodId} {args : Array Value} {below : List Frame} {meth : Method} {c : Code} {H : Heap} {locs : List Loc} {cells slots : Nat} {Q : State → Prop}
variable {cc : ByteArray} {pc nL : Nat} {own : String} {E : EE} {ls : Array Slot} {rest st0 : List Value} {A : Nat → Prop} {b : Nat} {ws wc : va_W} {As : List Value}
variable {S : Type} {post : S → Prop} {res : S → Option Value} {w1 : S → va_W} {st1 : S → List Value} {x y : MethodName} {bytes : ByteArray} {maxL fr lo k idx : Nat} {ret : Option FieldType}
theorem k_callZ {i : Nat} (K : Kx p s m args meth c cc nL own E A) (X : Wd E A s.heap ws H locs) (G : OKV own idx "java/lang/String" y bytes maxL ret k) (hM : Kn l y bytes maxL ret fr lo E wc (.ref (eK E i) :: As) post res w1) (is : List Nat) (hC : is.map (fun i => ws[i]?) = wc.map some) (hn : va_nd is = true) (he : ∀ u, (w1 u).map Prod.fst = wc.map Prod.fst)
    (hi : i < 11) (hR : (fr + 1 ≤ R.frames ∧ 8 + (maxL + 11) + lo ≤ R.locals) ∧ cells + 0 ≤ R.cells ∧ slots + 0 ≤ R.slots) (hlen : As.length = k) (hsz : ls.size = nL) (hst : st0 = As.reverse ++ .ref (eK E i) :: rest) (hw : (rest.map fun v => v.category).sum ≤ 8) (hdg : decode cc pc = .ok (.invokevirtual idx, 3)) (hs : ∀ u, (res u).toList ++ rest = st1 u)
    (kk : ∀ (u : S) (H1 : Heap) (locs1 : List Loc), post u → Wd E A s.heap (putM ws is (w1 u)) H1 locs1 → W p l e R s m args below meth c H1 locs1 cells slots Q (F0 m (pc + 3) ls (st1 u))) : W p l e R s m args below meth c H locs cells slots Q (F0 m pc ls st0) := by
  have hts := K.2.2.2.2.1
  refine k_callR X is hC hn he (va_runV (cc := cc) (nL := nL) (own := own) (Ts := Mw) (C := "java/lang/String") (b := eK E i) (As := As) ⟨K.1, K.2.1, K.2.2.1, K.2.2.2.1, hts⟩ hM ⟨okb_callB K G.1 G.2.1 hR.1, hts _ G.2.2.1, hts _ G.2.2.2⟩ ⟨KnP.blind, vk_recv K.2.2.2.2.2.1.2.2.2.2.2.2.1 hi X.2.2, k_pre K X is hC hn⟩ rfl hlen hsz hst (lv_room hw) hdg hR.2) hs kk
theorem k_strC {i : Nat} (K : Kx p s m args meth c cc nL "java/lang/String" E A) (X : Wd E A s.heap ws H locs) (hi : i < 11) (hdg : decode cc pc = .ok (.getfield 15, 3))
    (kk : W p l e R s m args below meth c H locs cells slots Q (F0 m (pc + 3) ls (.int 0 :: rest))) : W p l e R s m args below meth c H locs cells slots Q (F0 m pc ls (.ref (eK E i) :: rest)) :=
  vk_getf K.1 K.2.1 (K.2.2.2.2.2.1.2.2.2.2.2.2.1.1 i hi).2.1 X.2.2 K.2.2.2.1 (K.2.2.2.2.1 _ (Mw_at 1261 (by decide +kernel) (by decide +kernel))) (fun _ h => h) hdg kk
theorem k_strV {i : Nat} (K : Kx p s m args meth c cc nL "java/lang/String" E A) (X : Wd E A s.heap ws H locs) (hi : i < 11) (hdg : decode cc pc = .ok (.getfield 9, 3))
    (kk : W p l e R s m args below meth c H locs cells slots Q (F0 m (pc + 3) ls (.ref (eV E i) :: rest))) : W p l e R s m args below meth c H locs cells slots Q (F0 m pc ls (.ref (eK E i) :: rest)) :=
  vk_getf K.1 K.2.1 (K.2.2.2.2.2.1.2.2.2.2.2.2.1.1 i hi).2.2.1 X.2.2 K.2.2.2.1 (K.2.2.2.2.1 _ (Mw_at 1260 (by decide +kernel) (by decide +kernel))) (fun _ h => h) hdg kk
theorem k_strL {i : Nat} (K : Kx p s m args meth c cc nL own E A) (X : Wd E A s.heap ws H locs) (hi : i < 11) (hdg : decode cc pc = .ok (.arraylength, 1))
    (kk : W p l e R s m args below meth c H locs cells slots Q (F0 m (pc + 1) ls (.int (nI (kLen.getD i 0)) :: rest))) : W p l e R s m args below meth c H locs cells slots Q (F0 m pc ls (.ref (eV E i) :: rest)) :=
  va_tlen K.1 K.2.1 (K.2.2.2.2.2.1.2.2.2.2.2.2.1.1 i hi).2.2.2 X.2.2 rfl hdg kk
theorem kLen_le : ∀ i, i < 11 → kLen.getD i 0 < 7 := by decide
theorem k_strB {i j : Nat} (K : Kx p s m args meth c cc nL own E A) (X : Wd E A s.heap ws H locs) (hi : i < 11) (hj : j < kLen.getD i 0) (hdg : decode cc pc = .ok (.baload, 1))
    (kk : W p l e R s m args below meth c H locs cells slots Q (F0 m (pc + 1) ls (.int ((kByt.getD i []).getD j 0) :: rest))) : W p l e R s m args below meth c H locs cells slots Q (F0 m pc ls (.int (nI j) :: .ref (eV E i) :: rest)) :=
  va_tb K.1 K.2.1 (K.2.2.2.2.2.1.2.2.2.2.2.2.1.1 i hi).2.2.2 X.2.2 (vp_in_nI hj (by have := kLen_le i hi; omega)) (by rw [nI_clamp (by have := kLen_le i hi; omega)]) hdg kk
theorem k_cs (K : Kx p s m args meth c cc nL "java/lang/String" E A) (X : Wd E A s.heap ws H locs) (hdg : decode cc pc = .ok (.getstatic 38, 3))
    (kk : W p l e R s m args below meth c H locs cells slots Q (F0 m (pc + 3) ls (.int 1 :: rest))) : W p l e R s m args below meth c H locs cells slots Q (F0 m pc ls rest) :=
  va_gets K.1 K.2.1 K.2.2.2.2.2.1.2.2.2.2.1 X.2.2 K.2.2.2.1 (K.2.2.2.2.1 _ (Mw_at 687 (by decide +kernel) (by decide +kernel))) (fun _ h => h) hdg kk
theorem k_fm (K : Kx p s m args meth c cc nL "java/lang/String" E A) (X : Wd E A s.heap ws H locs) (hdg : decode cc pc = .ok (.getstatic 1053, 3))
    (k0 : W p l e R s m args below meth c H locs cells slots Q (F0 m (pc + 3) ls (.null :: rest)))
    (k1 : ∀ t : Nat, W p l e R s m args below meth c H locs cells slots Q (F0 m (pc + 3) ls (.ref t :: rest))) : W p l e R s m args below meth c H locs cells slots Q (F0 m pc ls rest) := by
  rcases K.2.2.2.2.2.1.2.2.2.2.2.1 with h | ⟨t, h⟩
  · exact va_gets K.1 K.2.1 h X.2.2 K.2.2.2.1 (K.2.2.2.2.1 _ (Mw_at 703 (by decide +kernel) (by decide +kernel))) (fun _ h => h) hdg k0
  · exact va_gets K.1 K.2.1 h X.2.2 K.2.2.2.1 (K.2.2.2.2.1 _ (Mw_at 703 (by decide +kernel) (by decide +kernel))) (fun _ h => h) hdg (k1 t)
theorem k_nm (K : Kx p s m args meth c cc nL "SlipWallModel" E A) (X : Wd E A s.heap ws H locs) (hdg : decode cc pc = .ok (.getstatic 165, 3))
    (kk : W p l e R s m args below meth c H locs cells slots Q (F0 m (pc + 3) ls (.ref (eN E) :: rest))) : W p l e R s m args below meth c H locs cells slots Q (F0 m pc ls rest) :=
  va_gets K.1 K.2.1 K.2.2.2.2.2.1.2.2.1 X.2.2 K.2.2.2.1 (K.2.2.2.2.1 _ (Mw_at 1164 (by decide +kernel) (by decide +kernel))) (fun _ h => h) hdg kk
theorem k_nmB {j : Nat} (K : Kx p s m args meth c cc nL own E A) (X : Wd E A s.heap ws H locs) (hj : j < 77) (hdg : decode cc pc = .ok (.iaload, 1))
    (kk : W p l e R s m args below meth c H locs cells slots Q (F0 m (pc + 1) ls (.int (kNM.getD j 0) :: rest))) : W p l e R s m args below meth c H locs cells slots Q (F0 m pc ls (.int (nI j) :: .ref (eN E) :: rest)) :=
  va_ti K.1 K.2.1 K.2.2.2.2.2.1.2.2.2.1 X.2.2 (vp_in_nI hj (by decide)) (by rw [nI_clamp (by omega)]) hdg kk
theorem k_ldcZ {i ix : Nat} (K : Kx p s m args meth c cc nL "SlipWall$WallText" E A) (X : Wd E A s.heap ws H locs) (hi : i < 11) (h : kIdx.getD i 0 = ix) (hdg : decode cc pc = .ok (.ldc ix, 2))
    (kk : W p l e R s m args below meth c H locs cells slots Q (F0 m (pc + 2) ls (.ref (eK E i) :: rest))) : W p l e R s m args below meth c H locs cells slots Q (F0 m pc ls rest) :=
  va_ldcS K.1 K.2.1 K.2.2.2.1 (K.2.2.2.2.2.1.2.2.2.2.2.2.2 i hi) (by rw [h]; exact hdg) kk
end KZ
theorem len_shr : ∀ i, i < 11 → nI (kLen.getD i 0) >>> (0 &&& 31) = nI (kLen.getD i 0) := by decide +kernel
theorem byt_chr : ∀ i, i < 11 → ∀ j, j < kLen.getD i 0 → (((kByt.getD i []).getD j 0 &&& 255).toUInt32 % 65536).toInt32 = (kByt.getD i []).getD j 0 := by decide +kernel
/-- the bytes from s on are word i -/
def mtL (tp : Nat → Int32) (s i : Nat) : Nat → Nat → Bool
  | 0, _ => true
  | n + 1, j => cond (decide (tp (s + j) = (kByt.getD i []).getD j 0)) (mtL tp s i n (j + 1)) false
def isWd (tp : Nat → Int32) (k s e i : Nat) : Bool := decide (k = 1) && (decide (e - s = kLen.getD i 0) && mtL tp s i (kLen.getD i 0) 0)
