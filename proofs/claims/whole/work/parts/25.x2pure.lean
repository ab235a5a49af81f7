/-! ===== the reference's public methods: what they throw, what they answer ===== -/
def eqI (x y : Int32) : Int32 := if x = y then 1 else 0
def ltI (x y : Int32) : Int32 := if x < y then 1 else 0
def ntI (x : Int32) : Int32 := if x = 0 then 1 else 0
def orS (st tk : Int32) : Int32 := if st = 30 then 1 else if tk = 0 then 0 else 1
def tpI (v sk : Int32) : Int32 := if v = -2 then 0 else if sk < 1 then 1 else 0
def lrI (sk st : Int32) : Int32 := if sk < 1 then 1 else if st = 30 then 1 else 0
def thTerm (v a : Int32) : Int32 := flI (orI (outI v 0 9) (outI a (-99) 99)) 0 0
def thReq (st tk x y : Int32) : Int32 := flI (orI (outI x 0 1) (outI y (-9999) 9999)) (orS st tk) 0
def thObj (tk : Int32) : Int32 := flI tk 0 0
def thCon (st x y : Int32) : Int32 := flI (outI x 0 (st - 1)) (outI y (-2) 9) 0
def thClo (x y : Int32) : Int32 := flI (orI (outI x 0 1023) (outI y 0 1023)) 0 0
def thLoad (st sk x : Int32) : Int32 := flI (outI x 0 (st - 1)) (eqI sk 6) 0
def thAx (sk x : Int32) : Int32 := flI (outI x 0 9) (eqI sk 6) 0
def thAdd (sk : Int32) : Int32 := flI (ltI sk 2) 0 0
def thTim (sk x : Int32) : Int32 := flI (ltI sk 1) (outI x 1 1000) 0
def thDiv (sk x : Int32) : Int32 := flI (ltI sk 1) (outI x 1 1000000) 0
def thSat (sk : Int32) : Int32 := flI (ltI sk 1) 0 0
def thWea (sk x : Int32) : Int32 := flI (ltI sk 1) (outI x 0 9) 0
def thTop (sk x : Int32) : Int32 := flI (outI x (-2) 9) (tpI x sk) 0
def thLea (sk st : Int32) : Int32 := flI (lrI sk st) 0 0
def thCtr (st x : Int32) : Int32 := flI (outI x (-9999) 9999) (eqI st 30) 0
def thFou (st x : Int32) : Int32 := flI (outI x 0 1023) (eqI st 30) 0
def thBst (tk : Int32) : Int32 := flI (ntI tk) 0 0
def thVal (so x : Int32) : Int32 := flI (ntI so) (outI x 0 9) 0
def snI (x : Int32) : Int32 := if x = 0 then 1 else -1
def bdI (x y : Int32) : Int32 := if x = 0 then y else -y
def coR (fc fg : Nat → Int32) (x y : Int32) : Int32 := if y = -2 then (if fg x.toNatClampNeg = 0 then 0 else 1) else if y = -1 then fc (11 * x.toNatClampNeg + 10) else fc (11 * x.toNatClampNeg + y.toNatClampNeg)
def st0 (x y : Int32) (v : Nat) : Int32 := if bitI x (nI v) = 1 then bitI y (nI v) else -1
def seT (fs : Nat → Int32) (v : Nat) : Int32 := if fs v < 0 then 0 else 1024 <<< (nI v &&& 31)
def seU (fs : Nat → Int32) (v : Nat) : Int32 := if fs v = 1 then 1 <<< (nI v &&& 31) else 0
def seM (fs : Nat → Int32) : Nat → Int32
  | 0 => 0
  | v + 1 => seM fs v + seT fs v + seU fs v
def clM (fc fs : Nat → Int32) (k : Nat) (x y : Int32) : Int32 := if clB fc k 0 (mixf 10 (st0 x y) fs) = true then seM (clO fc k 0 (mixf 10 (st0 x y) fs) 12).1 10 else -1
def axC (fc : Nat → Int32) (u v : Nat) (y : Int32) : Nat → Int32 := upd (seg (11 * u) 11 (fun _ => 0) fc) (11 * u + v) (if y = 0 then -1 else 1)
def agI (a b : Int32) : Int32 := if 0 < a then (if b < 0 then 1 else (if a < 0 then (if 0 < b then 1 else 0) else 0)) else (if a < 0 then (if 0 < b then 1 else 0) else 0)
def adI (a b : Int32) : Int32 := if agI a b = 0 then 0 else if szI a < szI b then szI a else szI b
def adT (fc : Nat → Int32) (p q v : Nat) : Int32 := adI (fc (p + v)) (fc (q + v))
def adC (fc : Nat → Int32) (p q : Nat) : Nat → Int32 := upd (seg 396 10 (fun v => fc (p + v) + fc (q + v)) fc) 406 (cl0 (sgm (fc (p + 10) + fc (q + 10)) (adT fc p q) 10))
def tiC (fc : Nat → Int32) (u : Nat) (x : Int32) : Nat → Int32 := seg 396 11 (fun v => x * fc (11 * u + v)) fc
def dvI (w x : Int32) : Int32 := if w < 0 then -(ptI (-w) x) else ptI w x
def dvC (fc : Nat → Int32) (u : Nat) (x : Int32) : Nat → Int32 := seg (11 * u) 11 (fun v => dvI (fc (11 * u + v)) x) fc
def saI (w d : Int32) : Int32 := if d < szI w then (if w < 0 then -d else d) else w
def saC (fc : Nat → Int32) (u : Nat) : Nat → Int32 := seg (11 * u) 10 (fun v => saI (fc (11 * u + v)) (fc (11 * u + 10))) fc
def weC (fc : Nat → Int32) (u v : Nat) : Nat → Int32 := upd (upd fc (11 * u + 10) (cl0 (fc (11 * u + 10) - szI (fc (11 * u + v))))) (11 * u + v) 0
def tpR (fc : Nat → Int32) (u : Nat) (sk x : Int32) : Int32 := if x = -2 then sk else if x = -1 then fc (11 * u + 10) else fc (11 * u + x.toNatClampNeg)
/-- the contrary of the row 36, laid at the row 37 -/
def ctC (fc : Nat → Int32) : Nat → Int32 := upd (seg 407 10 (fun v => -(fc (396 + v))) fc) 417 (cl0 (szM fc 36 + 1 - fc 406))
def veR (fc fo : Nat → Int32) (k : Nat) (tk : Int32) : Int32 := if anyB (fun r => decide (szM fc r < fc (11 * r + 10))) k = true then (if tk = 0 then 1 else 2) else (if tk = 0 then 0 else (if bI (ngM fo) = 0 then 0 else 3))
def mtA (fc : Nat → Int32) (x : Int32) (k : Nat) : Bool := allB (fun r => decide (¬ mtM fc r x = 0)) k
/-- solve: solved, least, answer, after n choices -/
def gdB (fc fg : Nat → Int32) (x : Int32) (r : Nat) : Bool := decide (fg r = 0) || decide (¬ mtM fc r x = 0)
abbrev soT : Type := Int32 × Int32 × Int32
def soS (fc fg fo : Nat → Int32) (k : Nat) (q : soT) (n : Nat) : soT :=
  if (decide (q.1 = 0) || decide (wrM fo (tnI (nI n) 10) < q.2.1)) && allB (gdB fc fg (tnI (nI n) 10)) k then (1, wrM fo (tnI (nI n) 10), tnI (nI n) 10) else q
def soO (fc fg fo : Nat → Int32) (k : Nat) (le an : Int32) : Nat → soT
  | 0 => (0, le, an)
  | n + 1 => soS fc fg fo k (soO fc fg fo k le an n) n
theorem lt30 {st : Int32} {k : Nat} (est : st = nI k) (hk : k ≤ 30) (h : ¬ st = 30) : k < 30 := by
  rcases Nat.lt_or_ge k 30 with q | q
  · exact q
  · exact absurd (by rw [est, show k = 30 by omega]; rfl) h
theorem orS0 {st tk : Int32} (h : orS st tk = 0) : ¬ st = 30 ∧ tk = 0 := by
  by_cases h1 : st = 30 <;> by_cases h2 : tk = 0 <;> first | exact ⟨h1, h2⟩ | (exact absurd h (by simp only [orS, h1, h2, if_true, if_false]; decide))
theorem eqI0 {x y : Int32} (h : eqI x y = 0) : ¬ x = y := fun q => absurd h (by simp only [eqI, q, if_true]; decide)
theorem ltI0 {x y : Int32} (h : ltI x y = 0) : ¬ x < y := fun q => absurd h (by simp only [ltI, q, if_true]; decide)
theorem ge_n {x : Int32} {n N : Nat} {M : Int32} (ex : x = nI n) (hM : M = nI N) (hn : n < 2 ^ 31) (hN : N < 2 ^ 31) (h : ¬ x < M) : N ≤ n := by
  rw [ex, hM, nI_ltI hn hN] at h; omega
theorem ne_n {x : Int32} {n N : Nat} {M : Int32} (ex : x = nI n) (hM : M = nI N) (h : ¬ x = M) : ¬ n = N := fun q => h (by rw [ex, hM, q])
theorem na_pred {x : Int32} {k : Nat} (hx : x = nI k) (hk : 1 ≤ k) : x - 1 = nI (k - 1) := by
  obtain ⟨j, rfl⟩ : ∃ j, k = j + 1 := ⟨k - 1, by omega⟩
  rw [hx, nI_pred]; rfl
theorem na_sub {x y : Int32} {a b : Nat} (hx : x = nI a) (hy : y = nI b) (h : b ≤ a) : x - y = nI (a - b) := by rw [hx, hy]; exact pk_sub h
/-- a number of the store -/
theorem outS {x st : Int32} {k : Nat} (est : st = nI k) (hk : k < 2 ^ 31) (h : outI x 0 (st - 1) = 0) : x = nI x.toNatClampNeg ∧ x.toNatClampNeg < k := by
  rcases Nat.eq_zero_or_pos k with hz | hz
  · exfalso
    subst hz
    rw [est] at h
    unfold outI at h
    split at h
    · exact absurd h (by decide)
    · rename_i h1
      split at h
      · exact absurd h (by decide)
      · rename_i h2
        have e1 : (nI 0 - 1 : Int32).toInt = -1 := by decide
        simp only [Int32.lt_iff_toInt_lt] at h1 h2
        rw [e1] at h2
        have e0 : (0 : Int32).toInt = 0 := by decide
        omega
  · have h2 := out0 (N := k - 1) (by rw [na_pred est hz]) (by omega) h
    exact ⟨h2.1, by omega⟩
theorem outV {y : Int32} (h : outI y (-2) 9 = 0) (h2 : ¬ y = -2) (h1 : ¬ y = -1) : y = nI y.toNatClampNeg ∧ y.toNatClampNeg ≤ 9 := by
  refine out0 (N := 9) (hi := 9) rfl (by decide) ?_
  unfold outI at h ⊢
  split at h
  · exact absurd h (by decide)
  · rename_i ha
    rw [if_neg ?_]
    · exact h
    · intro hneg
      simp only [Int32.lt_iff_toInt_lt] at ha hneg
      have e0 : (0 : Int32).toInt = 0 := by decide
      have e2 : (-2 : Int32).toInt = -2 := by decide
      have : y.toInt = -2 ∨ y.toInt = -1 := by omega
      rcases this with q | q
      · exact h2 (Int32.toInt_inj.mp (by rw [q]; decide))
      · exact h1 (Int32.toInt_inj.mp (by rw [q]; decide))
theorem outP {x : Int32} {hi : Int32} (h : outI x 1 hi = 0) : ¬ x = 0 := by
  intro q
  rw [q] at h
  unfold outI at h
  rw [if_pos (by decide)] at h
  exact absurd h (by decide)
