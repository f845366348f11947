/-! what a block, a step, a rung, the program and a scan do -/
/-- an int brought into the registers' range -/
def fitI (z : Int) : Int32 := Int32.ofInt (max (-65536) (min 65536 z))
/-- what a block of kind 5 to 7 makes of its register -/
def clc (k v f o : Int32) : Int32 := if k = 5 then fitI (Int.fdiv (v.toInt * f.toInt) 8 + o.toInt) else if k = 7 then (if v < o then o else if f < v then f else v) else fitI (Int.fdiv (8 * v.toInt) f.toInt)
abbrev failB (S : Ss) (j : Nat) (x : Int32) : Prop := S 14 j = 6 ∧ x = 1 ∧ S 17 j = 0
/-- count and output of a block that works with x -/
def cntB (S : Ss) (j : Nat) (x : Int32) : Int32 :=
  if S 14 j = 0 then (if x = 1 then (if S 20 j < S 15 j then S 20 j + 1 else S 15 j) else 0)
  else if S 14 j = 1 then (if x = 1 then S 15 j else if 0 < S 20 j then S 20 j - 1 else 0)
  else if S 14 j = 2 then (if rd S (S 16 j).toNatClampNeg = 1 then 0 else if x = 1 ∧ S 21 j = 0 then (if S 20 j < S 15 j then S 20 j + 1 else S 15 j) else S 20 j)
  else S 20 j
def outB (S : Ss) (j : Nat) (x : Int32) : Int32 :=
  if S 14 j = 0 then b2 (x = 1 ∧ cntB S j x = S 15 j)
  else if S 14 j = 1 then b2 (0 < cntB S j x)
  else if S 14 j = 2 then b2 (cntB S j x = S 15 j)
  else if S 14 j = 3 then b2 (x = 1 ∧ S 21 j = 0)
  else if S 14 j = 4 then b2 (x = 0 ∧ S 21 j = 1)
  else x
def regB (S : Ss) (j : Nat) (x : Int32) : Nat → Int32 :=
  if 5 ≤ S 14 j ∧ x = 1 then upd (S 5) (S 16 j).toNatClampNeg (clc (S 14 j) (S 5 (S 15 j).toNatClampNeg) (S 17 j) (S 18 j)) else S 5
def bw (S : Ss) (j : Nat) (x : Int32) : Ss := row (row (row (row S 5 (regB S j x)) 20 (upd (S 20) j (cntB S j x))) 19 (upd (S 19) j (outB S j x))) 21 (upd (S 21) j x)
/-- the stack: its values, the top first; the number that holds it -/
def pk : List Int32 → Int32
  | [] => 0
  | v :: l => (pk l <<< ((1 : Int32) &&& 31)) ||| v
def hd (l : List Int32) : Int32 := l.headD 0
def stA (S : Ss) (l : List Int32) (op : Int32) (a : Nat) : List Int32 :=
  if op = 0 then rd S a :: l else if op = 1 then (1 - rd S a) :: l
  else if op = 2 then (hd l &&& rd S a) :: l.tail else if op = 3 then (hd l &&& (1 - rd S a)) :: l.tail
  else if op = 4 then (hd l ||| rd S a) :: l.tail else if op = 5 then (hd l ||| (1 - rd S a)) :: l.tail
  else if op = 6 then (hd l.tail &&& hd l) :: l.tail.tail else if op = 7 then (hd l.tail ||| hd l) :: l.tail.tail
  else b2 (S 5 (a % 8) < S 5 (a / 8)) :: l
def asg (S : Ss) (op : Int32) (a : Nat) (t : Int32) : Ss := if op = 10 then row S 1 (upd (S 1) a t) else if t = 1 then row S 1 (upd (S 1) a (b2 (op = 11))) else S
/-- the steps of rung r of the program from step i on, n of them: the rung that comes next, or -2 -/
def rgo (r : Nat) : Nat → Nat → Ss → List Int32 → Int32 × Ss
  | 0, _, S, _ => (nI (r + 1), S)
  | n + 1, i, S, l =>
    if S 10 (10 * r + i) = 13 then (if hd l = 1 then (S 11 (10 * r + i), S) else rgo r n (i + 1) S l)
    else if S 10 (10 * r + i) = 9 then (if failB S (S 11 (10 * r + i)).toNatClampNeg (hd l) then (-2, S) else rgo r n (i + 1) (bw S (S 11 (10 * r + i)).toNatClampNeg (hd l)) (outB S (S 11 (10 * r + i)).toNatClampNeg (hd l) :: l.tail))
    else if 10 ≤ S 10 (10 * r + i) then rgo r n (i + 1) (asg S (S 10 (10 * r + i)) (S 11 (10 * r + i)).toNatClampNeg (hd l)) l
    else rgo r n (i + 1) S (stA S l (S 10 (10 * r + i)) (S 11 (10 * r + i)).toNatClampNeg)
def rgr (S : Ss) (r : Nat) : Int32 × Ss := rgo r (S 12 r).toNatClampNeg 0 S []
/-- the program from rung r on, b rungs begun, n more may be -/
def pgo : Nat → Nat → Nat → Ss → Int32 × Ss
  | 0, b, r, S => (if r < 12 then -1 else nI b, S)
  | n + 1, b, r, S => if r < 12 then (if (rgr S r).1 < 0 then rgr S r else pgo n (b + 1) (rgr S r).1.toNatClampNeg (rgr S r).2) else (nI b, S)
def tin (S : Ss) : Ss := row S 1 (fun k => if k < 8 then S 3 k else S 1 k)
def sout (S : Ss) : Ss := row S 4 (fun k => if k < 8 then rd S (8 + k) else S 4 k)
def cout (S : Ss) : Ss := row S 4 (fun k => if k < 8 then 0 else S 4 k)
def sc1 (S : Ss) : Int32 × Ss :=
  let x := pgo 30 0 0 (tin S)
  if x.1 < 0 then (x.1, cout (row (row x.2 0 (upd (x.2 0) 3 1)) 0 (upd (upd (x.2 0) 3 1) 2 (x.2 0 2 + 1)))) else (x.1, sout (row x.2 0 (upd (x.2 0) 1 (x.2 0 1 + 1))))
/-- n scans, b rungs begun so far: the rungs begun, or -1, -2 -/
def scn : Nat → Int32 → Ss → Int32 × Ss
  | 0, b, S => (b, S)
  | n + 1, b, S => if (sc1 S).1 < 0 then sc1 S else scn n (b + (sc1 S).1) (sc1 S).2
