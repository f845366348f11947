/-! sums over rows -/
def sumN (f : Nat → Int32) (a : Nat) : Nat → Int32
  | 0 => 0
  | n + 1 => sumN f a n + f (a + n)
def cntF (f : Nat → Int32) : Nat → Int32
  | 0 => 0
  | n + 1 => if f n = -1 then cntF f n else cntF f n + 1
theorem tr_nI {x : Int32} {a b : Nat} (h : x = nI a + 1) (e : a + 1 = b) : x = nI b := by rw [h, nI_1, e]
theorem gV {cy : Cond} {own C : String} {i : Nat} {y : MethodName} (h1 : Cond.methodLink own i y ∈ CW) (h2 : Cond.instanceMethod y ∈ CW) (h3 : Cond.selects C y y ∈ CW) (h4 : Cond.initialized C ∈ CW) (h5 : cy ∈ CW) : GoodIn CW (wsV own i C y (cy :: CW)) := g_V (cm := cy) h1 h2 h3 h4 h5
