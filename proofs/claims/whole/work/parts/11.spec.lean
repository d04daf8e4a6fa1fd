def inR (v lo hi : Int32) : Bool := !decide (v < lo) && !decide (hi < v)
def remI (x y : Int32) : Int32 := x - x / y * y
/-! kinds -/
def mayS (k : Nat) (m mv t : Int32) : Bool := match k with
  | 0 => decide (m < mv)
  | 1 => decide (m < mv) || decide (m < 2)
  | 2 => decide (m < mv) && decide (m = 0)
  | 3 => true
  | 4 => decide (m < mv) || decide (m < 2)
  | _ => (decide (m < mv) && decide (m = 0)) || (decide (t - t / 2 * 2 = 1) && decide (m < mv))
def prefS (k : Nat) (m mb : Int32) : Bool := match k with
  | 1 => true
  | 3 => decide (mb < m)
  | 4 => true
  | _ => false
def turnS (k : Nat) : Nat := match k with
  | 1 => 2
  | 4 => 3
  | _ => 1
def fixS (k : Nat) (m : Int32) : Bool := match k with
  | 3 => true
  | 4 => !decide (m < 5)
  | _ => false
def isKS (k : Nat) (q : Int32) : Bool := match k with
  | 0 => decide (q = 0)
  | 1 => decide (q = 1) || decide (q = 0)
  | 2 => decide (q = 2) || decide (q = 0)
  | 3 => decide (q = 3) || decide (q = 0)
  | 4 => decide (q = 4) || (decide (q = 1) || decide (q = 0))
  | _ => decide (q = 5) || (decide (q = 2) || decide (q = 0))
theorem turnS_le (k : Nat) : turnS k ≤ 3 := by unfold turnS; split <;> omega
/-! a wall -/
def sl (f : St) : Nat := (f 0 2).toNatClampNeg
def pe (f : St) : Nat := (f 0 3).toNatClampNeg
def mn (f : St) : Nat := (f 0 0).toNatClampNeg
def kn (f : St) (p : Nat) : Nat := (f 4 p).toNatClampNeg
/-- what holds of every wall, its minute at most T -/
def Inv (T : Nat) (f : St) : Prop := (f 0 2 = nI (sl f) ∧ sl f ≤ 10) ∧ (f 0 3 = nI (pe f) ∧ pe f ≤ 6) ∧ (f 0 0 = nI (mn f) ∧ mn f ≤ T) ∧ (∀ s, s < 10 → (f 3 s = 0 ∨ f 3 s = 1) ∧ (∃ v, v ≤ 999 ∧ f 2 s = nI v) ∧ (f 1 s = -1 ∨ ∃ v, v ≤ 5 ∧ f 1 s = nI v)) ∧ (∀ p, p < 6 → f 4 p = nI (kn f p) ∧ kn f p < 6) ∧ ∀ j, j < 60 → ∃ v, v ≤ 5 ∧ f 6 j = nI v
theorem Inv.hS {T : Nat} {f : St} (I : Inv T f) : f 0 2 = nI (sl f) := I.1.1
theorem Inv.s10 {T : Nat} {f : St} (I : Inv T f) : sl f ≤ 10 := I.1.2
theorem Inv.hP {T : Nat} {f : St} (I : Inv T f) : f 0 3 = nI (pe f) := I.2.1.1
theorem Inv.p6 {T : Nat} {f : St} (I : Inv T f) : pe f ≤ 6 := I.2.1.2
theorem Inv.hM {T : Nat} {f : St} (I : Inv T f) : f 0 0 = nI (mn f) := I.2.2.1.1
theorem Inv.mT {T : Nat} {f : St} (I : Inv T f) : mn f ≤ T := I.2.2.1.2
theorem Inv.fx {T : Nat} {f : St} (I : Inv T f) {s : Nat} (h : s < 10) : f 3 s = 0 ∨ f 3 s = 1 := (I.2.2.2.1 s h).1
theorem Inv.mv {T : Nat} {f : St} (I : Inv T f) {s : Nat} (h : s < 10) : ∃ v, v ≤ 999 ∧ f 2 s = nI v := (I.2.2.2.1 s h).2.1
theorem Inv.gr {T : Nat} {f : St} (I : Inv T f) {s : Nat} (h : s < 10) : f 1 s = -1 ∨ ∃ v, v ≤ 5 ∧ f 1 s = nI v := (I.2.2.2.1 s h).2.2
theorem Inv.hK {T : Nat} {f : St} (I : Inv T f) {p : Nat} (h : p < 6) : f 4 p = nI (kn f p) := (I.2.2.2.2.1 p h).1
theorem Inv.k6 {T : Nat} {f : St} (I : Inv T f) {p : Nat} (h : p < 6) : kn f p < 6 := (I.2.2.2.2.1 p h).2
theorem Inv.wn {T : Nat} {f : St} (I : Inv T f) {j : Nat} (h : j < 60) : ∃ v, v ≤ 5 ∧ f 6 j = nI v := I.2.2.2.2.2 j h
/-- whether one has its way of a slip -/
def hasW (f : St) (p s : Nat) : Bool := decide (f 1 s = f 6 (10 * p + s))
/-- what one may pick, a slip b (or -1) picked so far -/
def canB (f : St) (p s : Nat) (b : Int32) : Bool := decide (f 3 s = 0) && (!hasW f p s && (mayS (kn f p) (f 2 s) (f 0 1) (f 0 0) && (decide (b = -1) || prefS (kn f p) (f 2 s) (f 2 b.toNatClampNeg))))
def pickL (f : St) (p : Nat) : Nat → Nat → Int32 → Int32
  | 0, _, b => b
  | n + 1, s, b => pickL f p n (s + 1) (cond (canB f p s b) (nI s) b)
def pickF (f : St) (p : Nat) : Int32 := pickL f p (sl f) 0 (-1)
def heldF (v : Int32) : Int32 := if 999 < v then 999 else v
def shiftF (f : St) (p s : Nat) : St := up2 (up2 (up2 f 1 s (f 6 (10 * p + s))) 2 s (heldF (f 2 s + 1))) 3 s (b2i (fixS (kn f p) (heldF (f 2 s + 1))))
def turnL (p : Nat) : Nat → St → Int32 → St × Int32
  | 0, f, t => (f, t)
  | n + 1, f, t => if pickF f p = -1 then turnL p n f t else turnL p n (shiftF f p (pickF f p).toNatClampNeg) (t ||| (1 <<< (pickF f p &&& 31)))
/-- whose turn it is -/
def tnF (f : St) : Nat := mn f % pe f
def goes? (f : St) : Bool := !decide (pe f = 0) && decide (f 5 (tnF f) = 0)
def goR (f : St) : St × Int32 := cond (goes? f) (turnL (tnF f) (turnS (kn f (tnF f))) f 0) (f, 0)
def goF (f : St) : St := up2 (goR f).1 0 0 (f 0 0 + 1)
def tcF (f : St) : Int32 := (goR f).2
def goN : Nat → St → St
  | 0, f => f
  | n + 1, f => goN n (goF f)
/-! sets and counts -/
def setL (c : Nat → Bool) : Nat → Nat → Int32 → Int32
  | 0, _, a => a
  | n + 1, s, a => setL c n (s + 1) (cond (c s) (a ||| (1 <<< (nI s &&& 31))) a)
def cntL (c : Nat → Bool) : Nat → Nat → Nat → Nat
  | 0, _, a => a
  | n + 1, s, a => cntL c n (s + 1) (cond (c s) (a + 1) a)
def sumL (c : Nat → Int32) : Nat → Nat → Int32 → Int32
  | 0, _, a => a
  | n + 1, s, a => sumL c n (s + 1) (a + c s)
def wayF (f : St) (p : Nat) : Int32 := setL (fun s => hasW f p s) (sl f) 0 0
def happyF (f : St) (s : Nat) : Int32 := setL (fun p => hasW f p s) (pe f) 0 0
def manyF (f : St) (s : Nat) (g : Int32) : Nat := cntL (fun p => decide (f 6 (10 * p + s) = g)) (pe f) 0 0
def sameF (f : St) (p o : Nat) : Nat := cntL (fun s => decide (f 6 (10 * p + s) = f 6 (10 * o + s))) (sl f) 0 0
def inF (f : St) (g : Int32) : Int32 := setL (fun s => decide (f 1 s = g)) (sl f) 0 0
def fixedF (f : St) : Int32 := setL (fun s => decide (f 3 s = 1)) (sl f) 0 0
def allF (f : St) : Int32 := sumL (fun s => f 2 s) (sl f) 0 0
def groupL (f : St) : Nat → Nat → Int32 → Int32
  | 0, _, a => a
  | n + 1, s, a => groupL f n (s + 1) (if f 1 s = -1 then a else a ||| (1 <<< (f 1 s &&& 31)))
def groupsF (f : St) : Int32 := groupL f (sl f) 0 0
def addS (f : St) (g x : Int32) : St := up2 (up2 (up2 (up2 f 1 (sl f) g) 2 (sl f) 0) 3 (sl f) x) 0 2 (nI (sl f + 1))
def wishL (p : Nat) : Nat → Nat → St → St
  | 0, _, f => f
  | n + 1, s, f => wishL p n (s + 1) (up2 f 6 (10 * p + s) (nI (s % 6)))
def addP (f : St) (k : Int32) : St := up2 (wishL (pe f) 10 0 (up2 (up2 f 4 (pe f) k) 5 (pe f) 0)) 0 3 (nI (pe f + 1))
def bcF (x : Int32) : Int32 :=
  let a := x - ((x.toUInt32 >>> ((1 : Int32).toUInt32 &&& Int32.toUInt32 31)).toInt32 &&& 1431655765)
  let b := (a &&& 858993459) + ((a.toUInt32 >>> ((2 : Int32).toUInt32 &&& Int32.toUInt32 31)).toInt32 &&& 858993459)
  let c := (b + (b.toUInt32 >>> ((4 : Int32).toUInt32 &&& Int32.toUInt32 31)).toInt32) &&& 252645135
  let d := c + (c.toUInt32 >>> ((8 : Int32).toUInt32 &&& Int32.toUInt32 31)).toInt32
  (d + (d.toUInt32 >>> ((16 : Int32).toUInt32 &&& Int32.toUInt32 31)).toInt32) &&& 63
