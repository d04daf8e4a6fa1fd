abbrev St : Type := Nat → Nat → Int32
def up2 (f : St) (a k : Nat) (v : Int32) : St := fun b => cond (Nat.beq b a) (upd (f b) k v) (f b)
def noW (E : EE)   : va_W := [
  ]
def pW (E : EE) (q : Nat) (ci : Nat) : va_W := [
  (q, .inr (ci, []))]
def bestW (E : EE) (q : Nat) (one : Int32) (wo : Int32) : va_W := [
  (q, .inr (0, [.int one, .int wo]))]
def roomW (E : EE) (a : Nat → Nat) (k : Nat → Nat) (f : St) : va_W := [
  (a 0, .inr (6, [.ref (k 0), .int (f 0 0), .int (f 0 1), .int (f 0 2), .int (f 0 3), .ref (a 1), .ref (a 2), .ref (a 3), .ref (a 4), .ref (a 5), .ref (a 6)])),
  (a 1, .inl (eA E 0, 10, .inl (f 1))),
  (a 2, .inl (eA E 0, 10, .inl (f 2))),
  (a 3, .inl (eA E 0, 10, .inl (f 3))),
  (a 4, .inl (eA E 0, 6, .inl (f 4))),
  (a 5, .inl (eA E 0, 6, .inl (f 5))),
  (a 6, .inl (eA E 0, 60, .inl (f 6)))]
def roomK (E : EE) (a : Nat → Nat) (k : Nat → Nat) (f : St) : va_W := [
  (a 0, .inr (6, [.ref (k 0), .int (f 0 0), .int (f 0 1), .int (f 0 2), .int (f 0 3), .ref (a 1), .ref (a 2), .ref (a 3), .ref (a 4), .ref (a 5), .ref (a 6)])),
  (a 1, .inl (eA E 0, 10, .inl (f 1))),
  (a 2, .inl (eA E 0, 10, .inl (f 2))),
  (a 3, .inl (eA E 0, 10, .inl (f 3))),
  (a 4, .inl (eA E 0, 6, .inl (f 4))),
  (a 5, .inl (eA E 0, 6, .inl (f 5))),
  (a 6, .inl (eA E 0, 60, .inl (f 6))),
  (k 0, .inl (eA E 2, 6, .inr (.inr (.inr (.inr (fun j => some (k (1 + j)))))))),
  (k 1, .inr (4, [])),
  (k 2, .inr (2, [])),
  (k 3, .inr (8, [])),
  (k 4, .inr (1, [])),
  (k 5, .inr (3, [])),
  (k 6, .inr (5, []))]
def room2 (E : EE) (a : Nat → Nat) (b : Nat → Nat) (k : Nat → Nat) (f : St) (h : St) : va_W := [
  (a 0, .inr (6, [.ref (k 0), .int (f 0 0), .int (f 0 1), .int (f 0 2), .int (f 0 3), .ref (a 1), .ref (a 2), .ref (a 3), .ref (a 4), .ref (a 5), .ref (a 6)])),
  (a 1, .inl (eA E 0, 10, .inl (f 1))),
  (a 2, .inl (eA E 0, 10, .inl (f 2))),
  (a 3, .inl (eA E 0, 10, .inl (f 3))),
  (a 4, .inl (eA E 0, 6, .inl (f 4))),
  (a 5, .inl (eA E 0, 6, .inl (f 5))),
  (a 6, .inl (eA E 0, 60, .inl (f 6))),
  (b 0, .inr (6, [.ref (k 0), .int (h 0 0), .int (h 0 1), .int (h 0 2), .int (h 0 3), .ref (b 1), .ref (b 2), .ref (b 3), .ref (b 4), .ref (b 5), .ref (b 6)])),
  (b 1, .inl (eA E 0, 10, .inl (h 1))),
  (b 2, .inl (eA E 0, 10, .inl (h 2))),
  (b 3, .inl (eA E 0, 10, .inl (h 3))),
  (b 4, .inl (eA E 0, 6, .inl (h 4))),
  (b 5, .inl (eA E 0, 6, .inl (h 5))),
  (b 6, .inl (eA E 0, 60, .inl (h 6)))]
def tapeW (E : EE) (t : Nat → Nat) (tp : Nat → Int32) (tl : Int32) (tk : Int32) (ts : Int32) (te : Int32) (tn : Int32) : va_W := [
  (t 0, .inr (9, [.ref (t 1), .int tl, .int tk, .int ts, .int te, .int tn])),
  (t 1, .inl (eA E 0, 120, .inl tp))]
def rowW (E : EE) (t : Nat → Nat) (rb : Int32) (rz : Int32) (rn : Nat → Int64) : va_W := [
  (t 0, .inr (7, [.int rb, .int rz, .ref (t 1)])),
  (t 1, .inl (eA E 1, 40, .inr (.inl rn)))]
