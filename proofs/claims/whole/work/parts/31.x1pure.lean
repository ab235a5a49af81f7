/-! ===== what the class's methods answer ===== -/
def inI (x lo hi : Int32) : Int32 := if x < lo then 0 else if hi < x then 0 else 1
theorem nar_in (x lo hi : Int32) : narrow .boolean (.int (inI x lo hi)) = .int (inI x lo hi) := by
  unfold inI; split
  · rfl
  · split <;> rfl
theorem in_o0 {x lo hi : Int32} (h : outI x lo hi = 0) : ¬ inI x lo hi = 0 := by
  unfold outI at h; unfold inI
  by_cases h1 : x < lo
  · rw [if_pos h1] at h; exact absurd h (by decide)
  · by_cases h2 : hi < x
    · rw [if_neg h1, if_pos h2] at h; exact absurd h (by decide)
    · rw [if_neg h1, if_neg h2]; decide
theorem in_o1 {x lo hi : Int32} (h : ¬ outI x lo hi = 0) : inI x lo hi = 0 := by
  unfold outI at h; unfold inI
  by_cases h1 : x < lo
  · rw [if_pos h1]
  · by_cases h2 : hi < x
    · rw [if_neg h1, if_pos h2]
    · rw [if_neg h1, if_neg h2] at h; exact absurd rfl h
def fuI (st : Int32) : Int32 := if st < 30 then 0 else 1
theorem fu0 {st : Int32} {k : Nat} (est : st = nI k) (hk : k < 30) : fuI st = 0 := by
  unfold fuI; rw [if_pos (by rw [est]; exact nI_lt hk (by decide))]
def hoB (fo : Nat → Int32) : Bool := anyB (fun v => decide (¬ fo v = 0)) 10
def ovI (fo : Nat → Int32) (x : Int32) : Int32 := sg 0 (fun v => fo v * bitI x (nI v)) 10
def cbI (x y : Int32) : Int32 := if y &&& ((x ^^^ y) &&& (-(x ^^^ y))) = 0 then 0 else 1
def prI (so le an x y : Int32) : Int32 := if so = 0 then 1 else if y < le then 1 else if y = le then (if cbI x an = 0 then 0 else 1) else 0
def asI (g y : Int32) : Int32 := if g = 0 then (if y = 0 then 1 else 0) else 1
def msB (ro : Nat → Nat → Int32) (dg gv : Nat → Int32) (x y : Int32) (r : Nat) : Bool := decide (asI (gv r) y = 0) || decide (¬ metI (ro r) (dg r) x = 0)
def voB (ro : Nat → Nat → Int32) (dg : Nat → Int32) (k : Nat) : Bool := anyB (fun r => decide (¬ voidI (ro r) (dg r) = 0)) k
/-- closing: a round, and rounds -/
def cxR (ro : Nat → Nat → Int32) (dg : Nat → Int32) (x : Int32) : Nat → Int32
  | 0 => x
  | n + 1 => if cxR ro dg x n = -1 then -1 else fcd (ro n) (dg n) (cxR ro dg x n)
def cxO (ro : Nat → Nat → Int32) (dg : Nat → Int32) (k : Nat) (x : Int32) : Nat → Int32
  | 0 => x
  | n + 1 => if cxO ro dg k x n = -1 then -1 else cxR ro dg (cxO ro dg k x n) k
theorem cxR_bad {ro : Nat → Nat → Int32} {dg : Nat → Int32} {x : Int32} {n : Nat} (h : cxR ro dg x n = -1) : ∀ k, cxR ro dg x (n + k) = -1
  | 0 => h
  | k + 1 => by
    show (if cxR ro dg x (n + k) = -1 then -1 else fcd (ro (n + k)) (dg (n + k)) (cxR ro dg x (n + k))) = -1
    rw [if_pos (cxR_bad h k)]
theorem cxO_bad {ro : Nat → Nat → Int32} {dg : Nat → Int32} {k : Nat} {x : Int32} {n : Nat} (h : cxO ro dg k x n = -1) : ∀ j, cxO ro dg k x (n + j) = -1
  | 0 => h
  | j + 1 => by
    show (if cxO ro dg k x (n + j) = -1 then -1 else cxR ro dg (cxO ro dg k x (n + j)) k) = -1
    rw [if_pos (cxO_bad h j)]
theorem cxO_fix {ro : Nat → Nat → Int32} {dg : Nat → Int32} {k : Nat} {x : Int32} {n : Nat} (h : cxO ro dg k x (n + 1) = cxO ro dg k x n) : ∀ j, cxO ro dg k x (n + j) = cxO ro dg k x n
  | 0 => rfl
  | j + 1 => by
    show (if cxO ro dg k x (n + j) = -1 then -1 else cxR ro dg (cxO ro dg k x (n + j)) k) = _
    rw [cxO_fix h j]
    exact h
theorem gt_ix {i N : Nat} {x M : Int32} (hx : x = nI i) (hM : M = nI N) (hi : i ≤ N + 1) (hN : N + 1 < 2 ^ 31) (h : M < x) : i = N + 1 := by
  rw [hx, hM, nI_ltI (by omega) (by omega)] at h; omega
theorem ngt_ix {i N : Nat} {x M : Int32} (hx : x = nI i) (hM : M = nI N) (hi : i ≤ N + 1) (hN : N + 1 < 2 ^ 31) (h : ¬ M < x) : i < N + 1 := by
  rw [hx, hM, nI_ltI (by omega) (by omega)] at h; omega
/-- solve, after n choices -/
def sxS (ro : Nat → Nat → Int32) (dg gv fo : Nat → Int32) (k : Nat) (q : soT) (n : Nat) : soT :=
  if prI q.1 q.2.1 q.2.2 (nI n) (ovI fo (nI n)) = 0 then q else if allB (msB ro dg gv (nI n) 1) k = true then (1, ovI fo (nI n), nI n) else q
def sxO (ro : Nat → Nat → Int32) (dg gv fo : Nat → Int32) (k : Nat) (le an : Int32) : Nat → soT
  | 0 => (0, le, an)
  | n + 1 => sxS ro dg gv fo k (sxO ro dg gv fo k le an n) n
