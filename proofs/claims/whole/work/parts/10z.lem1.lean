theorem putM_go : ∀ (ws cs pre : va_W), ws.length = cs.length → putM (pre ++ ws) (List.range' pre.length ws.length) cs = pre ++ cs
  | [], [], pre, _ => rfl
  | [], c :: cs, pre, h => by simp at h
  | w :: ws, [], pre, h => by simp at h
  | w :: ws, c :: cs, pre, h => by
    have hl : ws.length = cs.length := by simpa using h
    have h1 := putM_go ws cs (pre ++ [c]) hl
    have e : (pre ++ w :: ws).set pre.length c = (pre ++ [c]) ++ ws := by
      rw [List.set_append_right _ _ (Nat.le_refl _), Nat.sub_self, List.set_cons_zero, List.append_assoc]
      rfl
    show putM ((pre ++ w :: ws).set pre.length c) (List.range' (pre.length + 1) ws.length) cs = pre ++ c :: cs
    rw [e]
    rw [List.length_append] at h1
    rw [show pre.length + 1 = pre.length + [c].length from rfl, h1, List.append_assoc]
    rfl
theorem putM_id (ws cs : va_W) (is : List Nat) (h : is = List.range' 0 ws.length) (hl : ws.length = cs.length) : putM ws is cs = cs := by
  rw [h]
  exact putM_go ws cs [] hl
theorem pW_fst {E : EE} {q : Nat} {ci1 : Nat} {ci2 : Nat} : (pW E q ci1).map Prod.fst = (pW E q ci2).map Prod.fst := rfl
theorem pW_idC {E : EE} {q : Nat} {ci : Nat} : ([0] : List Nat).map (fun i => (pW E q ci)[i]?) = (pW E q ci).map some := rfl
theorem pW_idP {E : EE} {q : Nat} {ci1 : Nat} {ci2 : Nat} : putM (pW E q ci1) [0] (pW E q ci2) = (pW E q ci2) := putM_id _ _ _ rfl rfl
theorem bestW_fst {E : EE} {q : Nat} {one1 : Int32} {wo1 : Int32} {one2 : Int32} {wo2 : Int32} : (bestW E q one1 wo1).map Prod.fst = (bestW E q one2 wo2).map Prod.fst := rfl
theorem bestW_idC {E : EE} {q : Nat} {one : Int32} {wo : Int32} : ([0] : List Nat).map (fun i => (bestW E q one wo)[i]?) = (bestW E q one wo).map some := rfl
theorem bestW_idP {E : EE} {q : Nat} {one1 : Int32} {wo1 : Int32} {one2 : Int32} {wo2 : Int32} : putM (bestW E q one1 wo1) [0] (bestW E q one2 wo2) = (bestW E q one2 wo2) := putM_id _ _ _ rfl rfl
theorem roomW_fst {E : EE} {a : Nat → Nat} {k : Nat → Nat} {f1 : St} {f2 : St} : (roomW E a k f1).map Prod.fst = (roomW E a k f2).map Prod.fst := rfl
theorem roomW_idC {E : EE} {a : Nat → Nat} {k : Nat → Nat} {f : St} : ([0, 1, 2, 3, 4, 5, 6] : List Nat).map (fun i => (roomW E a k f)[i]?) = (roomW E a k f).map some := rfl
theorem roomW_idP {E : EE} {a : Nat → Nat} {k : Nat → Nat} {f1 : St} {f2 : St} : putM (roomW E a k f1) [0, 1, 2, 3, 4, 5, 6] (roomW E a k f2) = (roomW E a k f2) := putM_id _ _ _ rfl rfl
theorem roomK_fst {E : EE} {a : Nat → Nat} {k : Nat → Nat} {f1 : St} {f2 : St} : (roomK E a k f1).map Prod.fst = (roomK E a k f2).map Prod.fst := rfl
theorem roomK_idC {E : EE} {a : Nat → Nat} {k : Nat → Nat} {f : St} : ([0, 1, 2, 3, 4, 5, 6, 7, 8, 9, 10, 11, 12, 13] : List Nat).map (fun i => (roomK E a k f)[i]?) = (roomK E a k f).map some := rfl
theorem roomK_idP {E : EE} {a : Nat → Nat} {k : Nat → Nat} {f1 : St} {f2 : St} : putM (roomK E a k f1) [0, 1, 2, 3, 4, 5, 6, 7, 8, 9, 10, 11, 12, 13] (roomK E a k f2) = (roomK E a k f2) := putM_id _ _ _ rfl rfl
theorem room2_fst {E : EE} {a : Nat → Nat} {b : Nat → Nat} {k : Nat → Nat} {f1 : St} {h1 : St} {f2 : St} {h2 : St} : (room2 E a b k f1 h1).map Prod.fst = (room2 E a b k f2 h2).map Prod.fst := rfl
theorem room2_idC {E : EE} {a : Nat → Nat} {b : Nat → Nat} {k : Nat → Nat} {f : St} {h : St} : ([0, 1, 2, 3, 4, 5, 6, 7, 8, 9, 10, 11, 12, 13] : List Nat).map (fun i => (room2 E a b k f h)[i]?) = (room2 E a b k f h).map some := rfl
theorem room2_idP {E : EE} {a : Nat → Nat} {b : Nat → Nat} {k : Nat → Nat} {f1 : St} {h1 : St} {f2 : St} {h2 : St} : putM (room2 E a b k f1 h1) [0, 1, 2, 3, 4, 5, 6, 7, 8, 9, 10, 11, 12, 13] (room2 E a b k f2 h2) = (room2 E a b k f2 h2) := putM_id _ _ _ rfl rfl
theorem tapeW_fst {E : EE} {t : Nat → Nat} {tp1 : Nat → Int32} {tl1 : Int32} {tk1 : Int32} {ts1 : Int32} {te1 : Int32} {tn1 : Int32} {tp2 : Nat → Int32} {tl2 : Int32} {tk2 : Int32} {ts2 : Int32} {te2 : Int32} {tn2 : Int32} : (tapeW E t tp1 tl1 tk1 ts1 te1 tn1).map Prod.fst = (tapeW E t tp2 tl2 tk2 ts2 te2 tn2).map Prod.fst := rfl
theorem tapeW_idC {E : EE} {t : Nat → Nat} {tp : Nat → Int32} {tl : Int32} {tk : Int32} {ts : Int32} {te : Int32} {tn : Int32} : ([0, 1] : List Nat).map (fun i => (tapeW E t tp tl tk ts te tn)[i]?) = (tapeW E t tp tl tk ts te tn).map some := rfl
theorem tapeW_idP {E : EE} {t : Nat → Nat} {tp1 : Nat → Int32} {tl1 : Int32} {tk1 : Int32} {ts1 : Int32} {te1 : Int32} {tn1 : Int32} {tp2 : Nat → Int32} {tl2 : Int32} {tk2 : Int32} {ts2 : Int32} {te2 : Int32} {tn2 : Int32} : putM (tapeW E t tp1 tl1 tk1 ts1 te1 tn1) [0, 1] (tapeW E t tp2 tl2 tk2 ts2 te2 tn2) = (tapeW E t tp2 tl2 tk2 ts2 te2 tn2) := putM_id _ _ _ rfl rfl
theorem rowW_fst {E : EE} {t : Nat → Nat} {rb1 : Int32} {rz1 : Int32} {rn1 : Nat → Int64} {rb2 : Int32} {rz2 : Int32} {rn2 : Nat → Int64} : (rowW E t rb1 rz1 rn1).map Prod.fst = (rowW E t rb2 rz2 rn2).map Prod.fst := rfl
theorem rowW_idC {E : EE} {t : Nat → Nat} {rb : Int32} {rz : Int32} {rn : Nat → Int64} : ([0, 1] : List Nat).map (fun i => (rowW E t rb rz rn)[i]?) = (rowW E t rb rz rn).map some := rfl
theorem rowW_idP {E : EE} {t : Nat → Nat} {rb1 : Int32} {rz1 : Int32} {rn1 : Nat → Int64} {rb2 : Int32} {rz2 : Int32} {rn2 : Nat → Int64} : putM (rowW E t rb1 rz1 rn1) [0, 1] (rowW E t rb2 rz2 rn2) = (rowW E t rb2 rz2 rn2) := putM_id _ _ _ rfl rfl
theorem roomK_s0C {E : EE} {a : Nat → Nat} {k : Nat → Nat} {f : St} : ([0, 1, 2, 3, 4, 5, 6] : List Nat).map (fun i => (roomK E a k f)[i]?) = (roomW E a k f).map some := rfl
theorem roomK_s0P {E : EE} {a : Nat → Nat} {k : Nat → Nat} {f : St} {n_f : St} : putM (roomK E a k f) [0, 1, 2, 3, 4, 5, 6] (roomW E a k n_f) = (roomK E a k n_f) := rfl
