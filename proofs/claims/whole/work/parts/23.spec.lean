-- what the months come to, as functions of what is told (D) and of a month's beginning (V)
-- D: 0 side (96 r + m), 1 read (96 r + m), 2 rate r, 3 there r, 4 room r, 5 level told r, 6 surface r, 7 release r,
-- 8 kind h, 9 state h, 10 reach h, 11 n h, 12 since h, 13 from h, 14 to h, 15 shut (96 h + m), 16 code (200 s + k), 17 its end s, 18 where cut begins s, 19: 0 holds, 1 dry
abbrev uT : Type := Nat → Nat → Int
def uMin (a b : Int) : Int := if a < b then a else b
def uMax (a b : Int) : Int := if a < b then b else a
def uSum (f : Nat → Int) : Nat → Int
  | 0 => 0
  | n + 1 => uSum f n + f n
def uLs (f : Nat → Int) : List Nat → Int
  | [] => 0
  | h :: L => f h + uLs f L
def uRank (k s : Int) : Int := if k = 2 then 0 else if k = 3 then zW (s - 1000) else if k = 4 then zW (s + 1) else if k = 5 then zW (s - 2000) else s
def uHun (k : Int) : Int := if k = 0 then 0 else if k = 1 then 40 else if k = 2 then 20 else if k = 4 then 20 else 50
def uRgt (n y : Int) : Int := if 2 < y ∧ y < 9 then n else 0
def uAsk (k n y rd : Int) : Int := if k = 1 then uRgt n y else if k = 2 then zW ((zW (n * rd)).tdiv 100) else if k = 4 then zW (uRgt n y + zW ((uRgt n y).tdiv 10)) else if k = 5 then (if y = 6 ∨ y = 7 then zW (n + zW (n.tdiv 2)) else n) else n
def uGb (k g : Int) : Int := zW ((zW (g * uHun k)).tdiv 100)
def uSteam (lev surf : Int) : Int := zW ((zW (lev * surf)).tdiv 1000)
def uCut (a c : Int) : Int := zW (a - zW ((zW (a * c)).tdiv 100))
-- texts
def uBin (c a b : Int) : Int := if c = 10 then (if a ≠ 0 ∨ b ≠ 0 then 1 else 0) else if c = 11 then (if a ≠ 0 ∧ b ≠ 0 then 1 else 0) else if c = 13 then (if a < b then 1 else 0) else if c = 14 then (if a = b then 1 else 0) else if c = 15 then zW (a + b) else if c = 16 then zW (a - b) else zW (a * b)
def uOp (nm : Int → Int) (c : Int) (s : List Int) : List Int := if 100 ≤ c then (c - 100) :: s else if c < 6 then nm c :: s else if c = 12 then (match s with
  | a :: r => (if a = 0 then 1 else 0) :: r
  | [] => []) else if c = 18 then (match s with
  | a :: r => zW (-a) :: r
  | [] => []) else (match s with
  | b :: a :: r => uBin c a b :: r
  | _ => [])
def uEv (nm : Int → Int) : List Int → List Int → List Int
  | [], s => s
  | c :: cs, s => uEv nm cs (uOp nm c s)
/-- how high the stack stands behind these steps; none: one asks for more than is there -/
def uHt : List Int → Nat → Option Nat
  | [], n => some n
  | c :: cs, n => if 100 ≤ c ∨ c < 6 then uHt cs (n + 1) else if c = 12 ∨ c = 18 then (if 1 ≤ n then uHt cs n else none) else (if 2 ≤ n then uHt cs (n - 1) else none)
def uNm (D : uT) (h m : Nat) (lev : Int) (c : Int) : Int := if c = 0 then ((m % 12 : Nat) : Int) else if c = 1 then ((m / 12 : Nat) : Int) else if c = 2 then uRank (D 8 h) (D 12 h) else if c = 3 then lev else if c = 4 then D 1 (96 * (D 10 h).toNat + m) else D 9 h
def uSeq (f : Nat → Int) (a : Nat) : Nat → List Int
  | 0 => []
  | n + 1 => f a :: uSeq f (a + 1) n
def uCode (D : uT) (s a b : Nat) : List Int := uSeq (fun k => D 16 (200 * s + k)) a (b - a)
def uPart (D : uT) (h part : Nat) : List Int := if part = 0 then uCode D (D 9 h).toNat 0 (D 18 (D 9 h).toNat).toNat else uCode D (D 9 h).toNat (D 18 (D 9 h).toNat).toNat (D 17 (D 9 h).toNat).toNat
def uSays (D : uT) (h m : Nat) (lev : Int) (part : Nat) : Int := (uEv (uNm D h m lev) (uPart D h part) []).headD 0
def uAsks (D : uT) (h m : Nat) : Int := uAsk (D 8 h) (D 11 h) ((m % 12 : Nat) : Int) (D 1 (96 * (D 10 h).toNat + m))
def uClamp (c : Int) : Int := if c < 0 then 0 else if 100 < c then 100 else c
def uBit (x : Int) (h : Nat) : Int := x / 2 ^ h % 2
def uWb (D : uT) (h m : Nat) (lev : Int) : Int := if uSays D h m lev 0 = 0 then 0 else uCut (uAsks D h m) (uClamp (uSays D h m lev 1))
def uWants (D : uT) (h m : Nat) (lev : Int) : Int := if uBit (D 19 1) h = 1 ∨ ¬ (D 13 h ≤ (m : Int) ∧ (m : Int) < D 14 h ∧ D 15 (96 * h + m) = 0) then 0 else uWb D h m lev
-- a month
abbrev uQ : Type := Int × Int × (Nat → Int) × (Nat → Int)
def uTook (w : Int) (q : uQ) : Int := if q.1 = 0 then 0 else q.2.1 * uMin w q.1 / q.1
def uTake (w : Int) (h : Nat) (q : uQ) : uQ := (q.1 - uMin w q.1, q.2.1 - uTook w q, fun x => if x = h then uMin w q.1 else q.2.2.1 x, fun x => if x = h then uTook w q + uMin w q.1 / 50 else q.2.2.2 x)
def uServe (D : uT) (w : Nat → Int) (r : Nat) : List Nat → uQ → uQ
  | [], q => q
  | h :: L, q => uServe D w r L (if D 10 h = (r : Int) then uTake (w h) h q else q)
def uN (D : uT) : Nat := (D 19 0).toNat
def uBack (D : uT) (h : Nat) (g : Int) : Int := uGb (D 8 h) g
def uRet (D V : uT) (r : Nat) : Int := uSum (fun h => if D 10 h + 1 = (r : Int) then uBack D h (V 2 h) else 0) (uN D)
def uRetS (D V : uT) (r : Nat) : Int := uSum (fun h => if D 10 h + 1 = (r : Int) then V 3 h else 0) (uN D)
def uCm (D V : uT) (m r : Nat) (q : uQ) : Int := q.1 + D 0 (96 * r + m) + uRet D V r
def uCs (D V : uT) (m r : Nat) (q : uQ) : Int := D 0 (96 * r + m) * D 2 r / 1000 + q.2.1 + uRetS D V r
def uStm (D V : uT) (r : Nat) : Int := uSteam (V 0 r) (D 6 r)
def uIn (D V : uT) (m r : Nat) (q : uQ) : Int := V 0 r - uStm D V r + uCm D V m r q
def uInS (D V : uT) (m r : Nat) (q : uQ) : Int := V 1 r + uCs D V m r q
def uOut (D V : uT) (m r : Nat) (q : uQ) : Int := uMax (uMin (D 7 r) (uIn D V m r q)) (uIn D V m r q - D 4 r)
def uOutS (D V : uT) (m r : Nat) (q : uQ) : Int := if uIn D V m r q = 0 then 0 else uInS D V m r q * uOut D V m r q / uIn D V m r q
def uWat (D V : uT) (m r : Nat) (q : uQ) : Int := if D 3 r = 0 then uCm D V m r q else uOut D V m r q
def uWs (D V : uT) (m r : Nat) (q : uQ) : Int := if D 3 r = 0 then uCs D V m r q else uOutS D V m r q
def uLev (D V : uT) (m r : Nat) (q : uQ) : Int := if D 3 r = 0 then V 0 r else uIn D V m r q - uOut D V m r q
def uLsl (D V : uT) (m r : Nat) (q : uQ) : Int := if D 3 r = 0 then V 1 r else uInS D V m r q - uOutS D V m r q
def uIns (lt : Nat → Nat → Bool) (h : Nat) : List Nat → List Nat
  | [] => [h]
  | x :: xs => if lt h x = true then x :: uIns lt h xs else h :: x :: xs
def uSrt (lt : Nat → Nat → Bool) : Nat → List Nat
  | 0 => []
  | n + 1 => uIns lt n (uSrt lt n)
def uLt (D : uT) (h x : Nat) : Bool := decide (uRank (D 8 h) (D 12 h) < uRank (D 8 x) (D 12 x))
def uOrd (D : uT) : List Nat := (uSrt (uLt D) (uN D)).reverse
/-- what comes from above a reach: water, salt, and what the holds above got and give back of salt -/
def uA (D V : uT) (m : Nat) (w : Nat → Int) (L : List Nat) : Nat → uQ
  | 0 => (0, 0, fun _ => 0, fun _ => 0)
  | r + 1 => uServe D w r L (uWat D V m r (uA D V m w L r), uWs D V m r (uA D V m w L r), (uA D V m w L r).2.2.1, (uA D V m w L r).2.2.2)
/-- the levels of all lakes, together -/
def uLvs (th lv : Nat → Int) : Nat → Int
  | 0 => 0
  | r + 1 => if th r = 0 then uLvs th lv r else zW (uLvs th lv r + lv r)
def uLevs (D V : uT) : Int := uLvs (D 3) (V 0) 7
def uAm (D V : uT) (m r : Nat) : uQ := uA D V m (fun h => uWants D h m (uLevs D V)) (uOrd D) r
def uNx (D : uT) (m : Nat) (V : uT) : uT := fun f x => match f with
  | 0 => uLev D V m x (uAm D V m x)
  | 1 => uLsl D V m x (uAm D V m x)
  | 2 => (uAm D V m 7).2.2.1 x
  | _ => (uAm D V m 7).2.2.2 x
def uV0 (D : uT) : uT := fun f x => match f with
  | 0 => if D 3 x = 0 then 0 else D 5 x
  | _ => 0
def uV (D : uT) : Nat → uT
  | 0 => uV0 D
  | m + 1 => uNx D m (uV D m)
