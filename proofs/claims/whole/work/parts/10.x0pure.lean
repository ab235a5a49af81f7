/-! ===== what a constraint's methods answer ===== -/
def bitI (x v : Int32) : Int32 := (x >>> (v &&& 31)) &&& 1
def cntI (w : Int32) : Int32 := if 0 < w then 1 else 0
def oppI (a b : Int32) : Int32 := if (0 < a ∧ b < 0) ∨ (a < 0 ∧ 0 < b) then 1 else 0
def szs (f : Nat → Int32) : Int32 := sg 0 (fun v => absI (f v)) 10
def wod (f : Nat → Int32) (d x : Int32) : Int32 := if x = -1 then d else f x.toNatClampNeg
def tlI (f : Nat → Int32) (d : Int32) : Bool := anyB (fun v => decide (1000000 < absI (f v))) 10 || decide (1000000 < d)
def voidI (f : Nat → Int32) (d : Int32) : Int32 := if szs f < d then 1 else 0
/-- what variable v adds to the slack -/
def slT (f : Nat → Int32) (kn tr : Int32) (v : Nat) : Int32 := if bitI kn (nI v) = 0 ∨ bitI tr (nI v) = cntI (f v) then absI (f v) else 0
def slk (f : Nat → Int32) (d kn tr : Int32) : Int32 := sg (-d) (slT f kn tr) 10
def metI (f : Nat → Int32) (d x : Int32) : Int32 := if 0 ≤ slk f d 1023 x then 1 else 0
/-- what is forced, variable by variable -/
def fcT (f : Nat → Int32) (kn sl : Int32) (v : Nat) : Int32 := if bitI kn (nI v) = 0 ∧ sl < absI (f v) then (1024 + cntI (f v)) <<< (nI v &&& 31) else 0
def fcd (f : Nat → Int32) (d x : Int32) : Int32 := if slk f d (x / 1024) (x &&& 1023) < 0 then -1 else sg x (fcT f (x / 1024) (slk f d (x / 1024) (x &&& 1023))) 10
def quoI (n m : Int32) : Int32 := (n + m - 1) / m
theorem sg_s (a : Int32) (g : Nat → Int32) (n : Nat) : sg a g (n + 1) = sg a g n + g n := rfl
theorem add0 (x : Int32) : x = x + 0 := by simp
/-- a constraint after resize -/
def rsz (w x : Int32) : Int32 := if w < 0 then -x else x
/-! the normal form of 'the factors, at least b' -/
def nrW (fac : Nat → Int32) (sn : Int32) (v : Nat) : Int32 := sn * fac v
def nrT (fac : Nat → Int32) (sn : Int32) (v : Nat) : Int32 := if nrW fac sn v < 0 then absI (nrW fac sn v) else 0
def nrD (fac : Nat → Int32) (sn b : Int32) : Int32 := maxI (sg b (nrT fac sn) 10) 0
/-! the sum of two -/
def smT (f1 f2 : Nat → Int32) (v : Nat) : Int32 := if oppI (f1 v) (f2 v) = 0 then 0 else minI (absI (f1 v)) (absI (f2 v))
def sgm (a : Int32) (g : Nat → Int32) : Nat → Int32
  | 0 => a
  | n + 1 => sgm a g n - g n
theorem sub0 (x : Int32) : x = x - 0 := by simp
def smD (f1 f2 : Nat → Int32) (d1 d2 : Int32) : Int32 := maxI (sgm (d1 + d2) (smT f1 f2) 10) 0
