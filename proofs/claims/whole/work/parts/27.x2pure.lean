def thAdd2 (fc : Nat → Int32) (p q : Nat) : Int32 := flI 0 (bI (lgM (adC fc p q) 36)) 0
def thTim2 (fc : Nat → Int32) (u : Nat) (x : Int32) : Int32 := flI 0 0 (bI (lgM (tiC fc u x) 36))
theorem na_q {x : Int32} {n : Nat} (hx : x = nI (11 * (29 + n))) : x - 11 = nI (11 * (28 + n)) := by
  rw [na_sub hx (show (11 : Int32) = nI 11 from rfl) (by omega)]
  congr 1; omega
theorem tpI0 {x sk : Int32} (h : tpI x sk = 0) (hx : ¬ x = -2) : ¬ sk < 1 := by
  intro q
  unfold tpI at h
  rw [if_neg hx, if_pos q] at h
  exact absurd h (by decide)
theorem lrI0 {sk st : Int32} (h : lrI sk st = 0) : ¬ sk < 1 ∧ ¬ st = 30 := by
  by_cases h1 : sk < 1 <;> by_cases h2 : st = 30 <;> first | exact ⟨h1, h2⟩ | (exact absurd h (by simp only [lrI, h1, h2, if_true, if_false]; decide))
theorem so_t {x : Int32} {b : Bool} {g : Nat → Bool} {i : Nat} (e : x = bI (b && allB g i)) (c : ¬ x = 0) (h : g i = true) : (1 : Int32) = bI (b && allB g (i + 1)) := by
  rw [e] at c
  rw [allB_t h, bI_ne c]; rfl
theorem so_f {b : Bool} {g : Nat → Bool} {i : Nat} (h : g i = false) : (0 : Int32) = bI (b && allB g (i + 1)) := by
  rw [allB_f h, Bool.and_false]; rfl
theorem allB_le {g : Nat → Bool} {i : Nat} (h : allB g i = false) : ∀ n, allB g (i + n) = false
  | 0 => h
  | n + 1 => by
    show (allB g (i + n) && g (i + n)) = false
    rw [allB_le h n]; rfl
theorem so_e {x : Int32} {b : Bool} {g : Nat → Bool} {i k : Nat} (e : x = bI (b && allB g i)) (c : x = 0) (hi : i ≤ k) : (b && allB g k) = false := by
  rw [e] at c
  have h := bI_eq c
  cases b with
  | false => rfl
  | true =>
    have h2 := allB_le (g := g) (i := i) (by simpa using h) (k - i)
    rw [show i + (k - i) = k by omega] at h2
    rw [h2]; rfl
