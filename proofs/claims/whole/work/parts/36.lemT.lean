def textW (E : EE) (t : Nat → Nat) (a : Nat → Nat) (k : Nat → Nat) (tp : Nat → Int32) (tl : Int32) (tk : Int32) (ts : Int32) (te : Int32) (tn : Int32) (f : St) : va_W := [
  (a 0, .inr (6, [.ref (k 0), .int (f 0 0), .int (f 0 1), .int (f 0 2), .int (f 0 3), .ref (a 1), .ref (a 2), .ref (a 3), .ref (a 4), .ref (a 5), .ref (a 6)])),
  (a 1, .inl (eA E 0, 10, .inl (f 1))),
  (a 2, .inl (eA E 0, 10, .inl (f 2))),
  (a 3, .inl (eA E 0, 10, .inl (f 3))),
  (a 4, .inl (eA E 0, 6, .inl (f 4))),
  (a 5, .inl (eA E 0, 6, .inl (f 5))),
  (a 6, .inl (eA E 0, 60, .inl (f 6))),
  (t 0, .inr (9, [.ref (t 1), .int tl, .int tk, .int ts, .int te, .int tn])),
  (t 1, .inl (eA E 0, 120, .inl tp)),
  (t 2, .inr (10, [.ref (t 0)])),
  (k 0, .inl (eA E 2, 6, .inr (.inr (.inr (.inr (fun j => some (k (1 + j)))))))),
  (k 1, .inr (4, [])),
  (k 2, .inr (2, [])),
  (k 3, .inr (8, [])),
  (k 4, .inr (1, [])),
  (k 5, .inr (3, [])),
  (k 6, .inr (5, []))]
theorem textW_fst {E : EE} {t : Nat → Nat} {a : Nat → Nat} {k : Nat → Nat} {tp1 : Nat → Int32} {tl1 : Int32} {tk1 : Int32} {ts1 : Int32} {te1 : Int32} {tn1 : Int32} {f1 : St} {tp2 : Nat → Int32} {tl2 : Int32} {tk2 : Int32} {ts2 : Int32} {te2 : Int32} {tn2 : Int32} {f2 : St} : (textW E t a k tp1 tl1 tk1 ts1 te1 tn1 f1).map Prod.fst = (textW E t a k tp2 tl2 tk2 ts2 te2 tn2 f2).map Prod.fst := rfl
theorem textW_idC {E : EE} {t : Nat → Nat} {a : Nat → Nat} {k : Nat → Nat} {tp : Nat → Int32} {tl : Int32} {tk : Int32} {ts : Int32} {te : Int32} {tn : Int32} {f : St} : ([0, 1, 2, 3, 4, 5, 6, 7, 8, 9, 10, 11, 12, 13, 14, 15, 16] : List Nat).map (fun i => (textW E t a k tp tl tk ts te tn f)[i]?) = (textW E t a k tp tl tk ts te tn f).map some := rfl
theorem textW_idP {E : EE} {t : Nat → Nat} {a : Nat → Nat} {k : Nat → Nat} {tp1 : Nat → Int32} {tl1 : Int32} {tk1 : Int32} {ts1 : Int32} {te1 : Int32} {tn1 : Int32} {f1 : St} {tp2 : Nat → Int32} {tl2 : Int32} {tk2 : Int32} {ts2 : Int32} {te2 : Int32} {tn2 : Int32} {f2 : St} : putM (textW E t a k tp1 tl1 tk1 ts1 te1 tn1 f1) [0, 1, 2, 3, 4, 5, 6, 7, 8, 9, 10, 11, 12, 13, 14, 15, 16] (textW E t a k tp2 tl2 tk2 ts2 te2 tn2 f2) = (textW E t a k tp2 tl2 tk2 ts2 te2 tn2 f2) := putM_id _ _ _ rfl rfl
theorem textW_s0C {E : EE} {t : Nat → Nat} {a : Nat → Nat} {k : Nat → Nat} {tp : Nat → Int32} {tl : Int32} {tk : Int32} {ts : Int32} {te : Int32} {tn : Int32} {f : St} : ([7, 8] : List Nat).map (fun i => (textW E t a k tp tl tk ts te tn f)[i]?) = (tapeW E t tp tl tk ts te tn).map some := rfl
theorem textW_s0P {E : EE} {t : Nat → Nat} {a : Nat → Nat} {k : Nat → Nat} {tp : Nat → Int32} {tl : Int32} {tk : Int32} {ts : Int32} {te : Int32} {tn : Int32} {f : St} {n_tp : Nat → Int32} {n_tl : Int32} {n_tk : Int32} {n_ts : Int32} {n_te : Int32} {n_tn : Int32} : putM (textW E t a k tp tl tk ts te tn f) [7, 8] (tapeW E t n_tp n_tl n_tk n_ts n_te n_tn) = (textW E t a k n_tp n_tl n_tk n_ts n_te n_tn f) := rfl
theorem textW_s1C {E : EE} {t : Nat → Nat} {a : Nat → Nat} {k : Nat → Nat} {tp : Nat → Int32} {tl : Int32} {tk : Int32} {ts : Int32} {te : Int32} {tn : Int32} {f : St} : ([0, 1, 2, 3, 4, 5, 6, 10, 11, 12, 13, 14, 15, 16] : List Nat).map (fun i => (textW E t a k tp tl tk ts te tn f)[i]?) = (roomK E a k f).map some := rfl
theorem textW_s1P {E : EE} {t : Nat → Nat} {a : Nat → Nat} {k : Nat → Nat} {tp : Nat → Int32} {tl : Int32} {tk : Int32} {ts : Int32} {te : Int32} {tn : Int32} {f : St} {n_f : St} : putM (textW E t a k tp tl tk ts te tn f) [0, 1, 2, 3, 4, 5, 6, 10, 11, 12, 13, 14, 15, 16] (roomK E a k n_f) = (textW E t a k tp tl tk ts te tn n_f) := rfl
theorem textW_s2C {E : EE} {t : Nat → Nat} {a : Nat → Nat} {k : Nat → Nat} {tp : Nat → Int32} {tl : Int32} {tk : Int32} {ts : Int32} {te : Int32} {tn : Int32} {f : St} : ([0, 1, 2, 3, 4, 5, 6] : List Nat).map (fun i => (textW E t a k tp tl tk ts te tn f)[i]?) = (roomW E a k f).map some := rfl
theorem textW_s2P {E : EE} {t : Nat → Nat} {a : Nat → Nat} {k : Nat → Nat} {tp : Nat → Int32} {tl : Int32} {tk : Int32} {ts : Int32} {te : Int32} {tn : Int32} {f : St} {n_f : St} : putM (textW E t a k tp tl tk ts te tn f) [0, 1, 2, 3, 4, 5, 6] (roomW E a k n_f) = (textW E t a k tp tl tk ts te tn n_f) := rfl
theorem clsW_s18C {E : EE} {a : Nat → Nat} {f : St} {g : St} {h : St} {ik : Int32} {one : Int32} {wo : Int32} {tp : Nat → Int32} {tl : Int32} {tk : Int32} {ts : Int32} {te : Int32} {tn : Int32} {rb : Nat → Int32} {rz : Nat → Int32} {rn : Nat → Nat → Int64} {td : Nat → Int32} : ([8, 9, 10, 11, 12, 13, 14, 23, 24, 25, 36, 37, 38, 39, 40, 41, 42] : List Nat).map (fun i => (clsW E a f g h ik one wo tp tl tk ts te tn rb rz rn td)[i]?) = (textW E (fun j => a (23 + j)) (fun j => a (8 + j)) (fun j => a (36 + j)) tp tl tk ts te tn g).map some := rfl
theorem clsW_s18P {E : EE} {a : Nat → Nat} {f : St} {g : St} {h : St} {ik : Int32} {one : Int32} {wo : Int32} {tp : Nat → Int32} {tl : Int32} {tk : Int32} {ts : Int32} {te : Int32} {tn : Int32} {rb : Nat → Int32} {rz : Nat → Int32} {rn : Nat → Nat → Int64} {td : Nat → Int32} {n_tp : Nat → Int32} {n_tl : Int32} {n_tk : Int32} {n_ts : Int32} {n_te : Int32} {n_tn : Int32} {n_f : St} : putM (clsW E a f g h ik one wo tp tl tk ts te tn rb rz rn td) [8, 9, 10, 11, 12, 13, 14, 23, 24, 25, 36, 37, 38, 39, 40, 41, 42] (textW E (fun j => a (23 + j)) (fun j => a (8 + j)) (fun j => a (36 + j)) n_tp n_tl n_tk n_ts n_te n_tn n_f) = (clsW E a f n_f h ik one wo n_tp n_tl n_tk n_ts n_te n_tn rb rz rn td) := by
  simp only [putM, clsW, textW, List.set_cons_succ, List.set_cons_zero]
