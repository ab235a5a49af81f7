theorem ng_1 {x : Int32} {g : Nat → Bool} {i : Nat} (e : x = bI (allB g i)) (c : x = 0) : (0 : Int32) = bI (allB g (i + 1)) := by
  rw [e] at c
  have h := bI_eq c
  show _ = bI (allB g i && g i)
  rw [h]; rfl
theorem ng_2 {g : Nat → Bool} {i : Nat} (h : g i = false) : (0 : Int32) = bI (allB g (i + 1)) := by rw [allB_f h]; rfl
theorem ng_3 {x : Int32} {g : Nat → Bool} {i : Nat} (e : x = bI (allB g i)) (c : ¬ x = 0) (h : g i = true) : (1 : Int32) = bI (allB g (i + 1)) := by
  rw [e] at c
  rw [allB_t h, bI_ne c]; rfl
theorem clG_1 {y st x : Int32} {i k : Nat} (ey : y = nI i) (est : st = nI k) (hi : i < 2 ^ 31) (hk : k < 2 ^ 31) (h : y < st) : clG k x i = true := by
  rw [ey, est, nI_ltI hi hk] at h
  simp [clG, h]
theorem clG_2 {y x : Int32} {i k : Nat} (hx : ¬ x = 0) (ey : y = nI i) (hi : i < 2 ^ 31) (h : y = 37) : clG k x i = true := by
  rw [ey, show (37 : Int32) = nI 37 from rfl, nI_eq hi (by decide)] at h
  simp [clG, h, hx]
theorem clG_3 {y st x : Int32} {i k : Nat} (ey : y = nI i) (est : st = nI k) (hi : i < 2 ^ 31) (hk : k < 2 ^ 31) (h : ¬ y < st) (hx : x = 0) : clG k x i = false := by
  rw [ey, est, nI_ltI hi hk] at h
  simp [clG, h, hx]
theorem clG_4 {y st x : Int32} {i k : Nat} (ey : y = nI i) (est : st = nI k) (hi : i < 2 ^ 31) (hk : k < 2 ^ 31) (h : ¬ y < st) (h37 : ¬ y = 37) : clG k x i = false := by
  rw [ey, est, nI_ltI hi hk] at h
  have : ¬ i = 37 := fun q => h37 (by rw [ey, q]; rfl)
  simp [clG, h, this]
theorem cl_t {fc F h2 : Nat → Int32} {k i : Nat} {x y2 : Int32} (hbb : (clR fc k x F i).2.2 = false) (eg : h2 = (clR fc k x F i).1) (ey : y2 = (clR fc k x F i).2.1) (hG : clG k x i = true) :
    clR fc k x F (i + 1) = if tgA fc h2 i < 0 then (tgS fc h2 i, y2, true) else (tgS fc h2 i, onI y2 (tgA fc h2 i), false) := by
  show clS fc k x (clR fc k x F i) i = _
  unfold clS
  rw [if_neg (by rw [hbb]; decide), if_pos hG, ← eg, ← ey]
theorem cl_n {fc F h2 : Nat → Int32} {k i : Nat} {x y2 : Int32} (hbb : (clR fc k x F i).2.2 = false) (eg : h2 = (clR fc k x F i).1) (ey : y2 = (clR fc k x F i).2.1) (hG : clG k x i = false) :
    clR fc k x F (i + 1) = if (0 : Int32) < 0 then (h2, y2, true) else (h2, onI y2 0, false) := by
  show clS fc k x (clR fc k x F i) i = _
  unfold clS
  rw [if_neg (by rw [hbb]; decide), if_neg (by rw [hG]; decide), ← eg, ← ey, if_neg (by decide)]
