/-! ===== what the reference's methods answer ===== -/
theorem na_add {x y : Int32} {a b : Nat} (hx : x = nI a) (hy : y = nI b) : x + y = nI (a + b) := by rw [hx, hy]; exact nI_add a b
theorem na_mul {x y : Int32} {a b : Nat} (hx : x = nI a) (hy : y = nI b) : x * y = nI (a * b) := by rw [hx, hy]; exact pk_mul a b
theorem na_up {x : Int32} {k : Nat} (hx : x = nI k) (hk : 1 ≤ k) : 30 + x - 1 = nI (29 + k) := by
  rw [hx, show (30 : Int32) = nI 30 from rfl, nI_add]
  obtain ⟨j, rfl⟩ : ∃ j, k = j + 1 := ⟨k - 1, by omega⟩
  rw [show 30 + (j + 1) = (29 + (j + 1)) + 1 by omega, nI_pred]
def outI (v lo hi : Int32) : Int32 := if v < lo then 1 else if hi < v then 1 else 0
def szI (w : Int32) : Int32 := if w < 0 then -w else w
def flI (a b c : Int32) : Int32 := if a = 0 then (if b = 0 then (if c = 0 then 0 else 3) else 2) else 1
theorem cnt0 {a b c : Int32} (h : cntI (flI a b c) = 0) : flI a b c = 0 := by
  by_cases ha : a = 0 <;> by_cases hb : b = 0 <;> by_cases hc : c = 0 <;> first | (simp [flI, ha, hb, hc]; done) | (exact absurd h (by simp only [flI, ha, hb, hc, if_true, if_false]; decide))
theorem cnt1 {a b c : Int32} (h : ¬ cntI (flI a b c) = 0) : ¬ flI a b c = 0 := fun q => h (by rw [q]; rfl)
def orI (a b : Int32) : Int32 := if a = 0 then (if b = 0 then 0 else 1) else 1
/-- f, but n places from b on as g has them -/
def seg (b n : Nat) (g f : Nat → Int32) : Nat → Int32 := fun j => if b ≤ j ∧ j < b + n then g (j - b) else f j
theorem seg_0 (b : Nat) (g f : Nat → Int32) : seg b 0 g f = f := by
  funext j
  exact if_neg (by omega)
theorem seg_s (b n : Nat) (g f : Nat → Int32) : upd (seg b n g f) (b + n) (g n) = seg b (n + 1) g f := by
  funext j
  by_cases h : j = b + n
  · subst h; simp [upd, seg]
  · have : (b ≤ j ∧ j < b + (n + 1)) = (b ≤ j ∧ j < b + n) := by apply propext; omega
    simp [upd, seg, h, this]
theorem seg_in {b n v : Nat} (g f : Nat → Int32) (h : v < n) : seg b n g f (b + v) = g v := by
  have : b ≤ b + v ∧ b + v < b + n := by omega
  simp [seg, this]
theorem seg_out {b n j : Nat} (g f : Nat → Int32) (h : j < b ∨ b + n ≤ j) : seg b n g f j = f j := by
  have : ¬ (b ≤ j ∧ j < b + n) := by omega
  simp [seg, this]
theorem seg_skip {b n : Nat} {g f : Nat → Int32} (h : g n = f (b + n)) : seg b (n + 1) g f = seg b n g f := by
  rw [← seg_s]
  funext j
  by_cases hj : j = b + n
  · subst hj; simp [upd, h, seg]
  · simp [upd, hj]
theorem mixf_skip {n : Nat} {g f : Nat → Int32} (h : g n = f n) : mixf (n + 1) g f = mixf n g f := by
  rw [← mixf_s]
  funext j
  by_cases hj : j = n
  · subst hj; simp [upd, h, mixf]
  · simp [upd, hj]
theorem anyB_f {g : Nat → Bool} {n : Nat} (h : g n = false) : anyB g (n + 1) = anyB g n := by simp [anyB, h]
theorem anyB_t {g : Nat → Bool} {n : Nat} (h : g n = true) : anyB g (n + 1) = true := by simp [anyB, h]
theorem allB_t {g : Nat → Bool} {n : Nat} (h : g n = true) : allB g (n + 1) = allB g n := by simp [allB, h]
theorem allB_f {g : Nat → Bool} {n : Nat} (h : g n = false) : allB g (n + 1) = false := by simp [allB, h]
/-- a number within bounds is its own place -/
theorem out0 {x hi : Int32} {N : Nat} (hN : hi = nI N) (hlt : N < 2 ^ 31) (h : outI x 0 hi = 0) : x = nI x.toNatClampNeg ∧ x.toNatClampNeg ≤ N := by
  unfold outI at h
  split at h
  · exact absurd h (by decide)
  · rename_i h1
    split at h
    · exact absurd h (by decide)
    · rename_i h2
      obtain ⟨j, hj, rfl⟩ := nI_of h1
      rw [nI_clamp hj]
      refine ⟨rfl, ?_⟩
      rcases Nat.lt_or_ge N j with q | q
      · exact absurd (by rw [hN]; exact nI_lt q hj) h2
      · exact q
def szM (fc : Nat → Int32) (r : Nat) : Int32 := sg 0 (fun v => szI (fc (11 * r + v))) 10
/-! slack, tighten, closes -/
def ctM (s w : Int32) : Int32 := if s < 0 then 1 else if 0 < w then (if s = 1 then 1 else 0) else (if s = 0 then 1 else 0)
def slMT (fc fs : Nat → Int32) (r v : Nat) : Int32 := if ctM (fs v) (fc (11 * r + v)) = 0 then 0 else szI (fc (11 * r + v))
def slM (fc fs : Nat → Int32) (r : Nat) : Int32 := sg (-(fc (11 * r + 10))) (slMT fc fs r) 10
def tgG (fc fs : Nat → Int32) (r : Nat) (L : Int32) (v : Nat) : Int32 := if fs v < 0 then (if L < szI (fc (11 * r + v)) then cntI (fc (11 * r + v)) else fs v) else fs v
def tgB (fc fs : Nat → Int32) (r : Nat) (L : Int32) (v : Nat) : Bool := decide (fs v < 0) && decide (L < szI (fc (11 * r + v)))
def tgA (fc fs : Nat → Int32) (r : Nat) : Int32 := if slM fc fs r < 0 then -1 else bI (anyB (tgB fc fs r (slM fc fs r)) 10)
def tgS (fc fs : Nat → Int32) (r : Nat) : Nat → Int32 := if slM fc fs r < 0 then fs else mixf 10 (tgG fc fs r (slM fc fs r)) fs
def onI (on got : Int32) : Int32 := if on = 0 then (if 0 < got then 1 else 0) else 1
def clG (ns : Nat) (mo : Int32) (r : Nat) : Bool := decide (r < ns) || (!decide (mo = 0) && decide (r = 37))
abbrev clT : Type := (Nat → Int32) × Int32 × Bool
def clS (fc : Nat → Int32) (ns : Nat) (mo : Int32) (q : clT) (r : Nat) : clT := if q.2.2 = true then q else if clG ns mo r = true then (if tgA fc q.1 r < 0 then (tgS fc q.1 r, q.2.1, true) else (tgS fc q.1 r, onI q.2.1 (tgA fc q.1 r), false)) else (q.1, onI q.2.1 0, false)
def clR (fc : Nat → Int32) (ns : Nat) (mo : Int32) (fs : Nat → Int32) : Nat → clT
  | 0 => (fs, 0, false)
  | n + 1 => clS fc ns mo (clR fc ns mo fs n) n
def clO (fc : Nat → Int32) (ns : Nat) (mo : Int32) (fs : Nat → Int32) : Nat → clT
  | 0 => (fs, 1, false)
  | n + 1 => if (clO fc ns mo fs n).2.2 = true then clO fc ns mo fs n else if (clO fc ns mo fs n).2.1 = 0 then clO fc ns mo fs n else clR fc ns mo (clO fc ns mo fs n).1 38
theorem clR_bad {fc : Nat → Int32} {ns : Nat} {mo : Int32} {fs : Nat → Int32} {n : Nat} (h : (clR fc ns mo fs n).2.2 = true) : ∀ k, clR fc ns mo fs (n + k) = clR fc ns mo fs n
  | 0 => rfl
  | k + 1 => by
    show clS fc ns mo (clR fc ns mo fs (n + k)) (n + k) = _
    rw [clR_bad h k]; unfold clS; rw [if_pos h]
theorem clO_stop {fc : Nat → Int32} {ns : Nat} {mo : Int32} {fs : Nat → Int32} {n : Nat} (h : (clO fc ns mo fs n).2.2 = true ∨ (clO fc ns mo fs n).2.1 = 0) : ∀ k, clO fc ns mo fs (n + k) = clO fc ns mo fs n
  | 0 => rfl
  | k + 1 => by
    show (if (clO fc ns mo fs (n + k)).2.2 = true then clO fc ns mo fs (n + k) else if (clO fc ns mo fs (n + k)).2.1 = 0 then clO fc ns mo fs (n + k) else clR fc ns mo (clO fc ns mo fs (n + k)).1 38) = _
    rw [clO_stop h k]
    rcases h with h | h
    · rw [if_pos h]
    · split
      · rfl
      · first | rfl | rw [if_pos h]
def clB (fc : Nat → Int32) (ns : Nat) (mo : Int32) (fs : Nat → Int32) : Bool := !(clO fc ns mo fs 12).2.2
/-! the normal form, as the reference lays it at places 396 .. 406 -/
def nmT (fac : Nat → Int32) (sn : Int32) (v : Nat) : Int32 := if sn * fac v < 0 then -(sn * fac v) else 0
def cl0 (x : Int32) : Int32 := if x < 0 then 0 else x
def nmD (fac : Nat → Int32) (sn b : Int32) : Int32 := cl0 (sg b (nmT fac sn) 10)
def nmC (fc fac : Nat → Int32) (sn b : Int32) : Nat → Int32 := upd (seg 396 10 (fun v => sn * fac v) fc) 406 (nmD fac sn b)
def cpy11 (fc : Nat → Int32) (r t : Nat) : Nat → Int32 := seg (11 * t) 11 (fun v => fc (11 * r + v)) fc
def lgM (fc : Nat → Int32) (r : Nat) : Bool := decide (1000000 < fc (11 * r + 10)) || anyB (fun v => decide (1000000 < szI (fc (11 * r + v)))) 10
def ptI (n m : Int32) : Int32 := if n = 0 then 0 else (n - 1) / m + 1
def onC (x v : Int32) : Int32 := if bitI x v = 1 then 1 else 0
def mtT (fc : Nat → Int32) (r : Nat) (x : Int32) (v : Nat) : Int32 := if cntI (fc (11 * r + v)) = onC x (nI v) then szI (fc (11 * r + v)) else 0
def mtM (fc : Nat → Int32) (r : Nat) (x : Int32) : Int32 := if sg 0 (mtT fc r x) 10 < fc (11 * r + 10) then 0 else 1
def wrM (fo : Nat → Int32) (x : Int32) : Int32 := sg 0 (fun v => bitI x (nI v) * fo v) 10
def ngM (fo : Nat → Int32) : Bool := allB (fun v => decide (fo v = 0)) 10
def tnI (n : Int32) : Nat → Int32
  | 0 => 0
  | v + 1 => tnI n v ||| (bitI n (9 - nI v) <<< (nI v &&& 31))
