def cxC (ro : Nat → Nat → Int32) (dg gv : Nat → Int32) (x y : Int32) : Int32 := if y = -2 then (if gv x.toNatClampNeg = 0 then 0 else 1) else wod (ro x.toNatClampNeg) (dg x.toNatClampNeg) y
def txR (ro : Nat → Nat → Int32) (dg : Nat → Int32) (n : Nat) (sk x : Int32) : Int32 := if x = -2 then sk else wod (ro (30 + (n - 1))) (dg (30 + (n - 1))) x
def vxR (ro : Nat → Nat → Int32) (dg fo : Nat → Int32) (k : Nat) (tk : Int32) : Int32 := if bI (voB ro dg k) = 0 then (if tk = 0 then 0 else (if bI (hoB fo) = 0 then 3 else 0)) else (if tk = 0 then 1 else 2)
theorem wodV {y : Int32} (h : outI y (-2) 9 = 0) (h2 : ¬ y = -2) : y = -1 ∨ ∃ v, v < 10 ∧ y = nI v := by
  by_cases h1 : y = -1
  · exact Or.inl h1
  · obtain ⟨e, hv⟩ := outV h h2 h1
    exact Or.inr ⟨_, by omega, e⟩
theorem ge1 {sk : Int32} {n : Nat} (esk : sk = nI n) (h : 1 ≤ n) (hn : n ≤ 6) : (1 : Int32) ≤ sk := by
  rw [esk]; exact nI_le h (by omega)
theorem ge2 {sk : Int32} {n : Nat} (esk : sk = nI n) (h : 2 ≤ n) (hn : n ≤ 6) : (2 : Int32) ≤ sk := by
  rw [esk]; exact nI_le h (by omega)
theorem lt6 {sk : Int32} {n : Nat} (esk : sk = nI n) (h : n < 6) : sk < 6 := by
  rw [esk]; exact nI_lt h (by decide)
theorem andI (a b : Nat) : nI a &&& nI b = nI (a &&& b) := by
  apply Int32.toBitVec_inj.mp
  rw [Int32.toBitVec_and]
  apply BitVec.eq_of_toNat_eq
  rw [BitVec.toNat_and]
  show (BitVec.ofNat 32 a).toNat &&& (BitVec.ofNat 32 b).toNat = (BitVec.ofNat 32 (a &&& b)).toNat
  rw [BitVec.toNat_ofNat, BitVec.toNat_ofNat, BitVec.toNat_ofNat, Nat.and_mod_two_pow]
theorem nIm1 {n : Nat} (h : n < 2 ^ 31) : ¬ nI n = -1 := fun q => nI_pos h (by rw [q]; decide)
theorem clo_ne {x y : Int32} (h1 : outI x 0 1023 = 0) (h2 : outI y 0 1023 = 0) : ¬ x * 1024 + (y &&& x) = -1 := by
  obtain ⟨ex, hx⟩ := out0 (N := 1023) rfl (by decide) h1
  obtain ⟨ey, hy⟩ := out0 (N := 1023) rfl (by decide) h2
  rw [ex, ey, andI, na_mul rfl (show (1024 : Int32) = nI 1024 from rfl), nI_add]
  refine nIm1 ?_
  have := @Nat.and_le_right y.toNatClampNeg x.toNatClampNeg
  omega
