theorem bI_ne {b : Bool} (h : ¬ bI b = 0) : b = true := by cases b with | false => exact absurd rfl h | true => rfl
theorem bI_eq {b : Bool} (h : bI b = 0) : b = false := by cases b with | true => exact absurd h (by decide) | false => rfl
theorem lg_1 {x : Int32} {a : Bool} {g : Nat → Bool} {i : Nat} (e : x = bI (a || anyB g i)) (c : ¬ x = 0) : (1 : Int32) = bI (a || anyB g (i + 1)) := by
  rw [e] at c
  have h := bI_ne c
  have : (a || anyB g (i + 1)) = true := by
    simp only [anyB, Bool.or_eq_true] at h ⊢
    rcases h with h | h
    · exact Or.inl h
    · exact Or.inr (Or.inl h)
  rw [this]; rfl
theorem lg_2 {a : Bool} {g : Nat → Bool} {i : Nat} (h : g i = true) : (1 : Int32) = bI (a || anyB g (i + 1)) := by
  rw [anyB_t h, Bool.or_true]; rfl
theorem lg_3 {x : Int32} {a : Bool} {g : Nat → Bool} {i : Nat} (e : x = bI (a || anyB g i)) (c : x = 0) (h : g i = false) : (0 : Int32) = bI (a || anyB g (i + 1)) := by
  rw [anyB_f h, ← e, c]
theorem fl0 {a b c : Int32} (h : flI a b c = 0) : a = 0 ∧ b = 0 ∧ c = 0 := by
  by_cases ha : a = 0 <;> by_cases hb : b = 0 <;> by_cases hc : c = 0 <;> first | exact ⟨ha, hb, hc⟩ | (exact absurd h (by simp only [flI, ha, hb, hc, if_true, if_false]; decide))
theorem or0 {a b : Int32} (h : orI a b = 0) : a = 0 ∧ b = 0 := by
  by_cases ha : a = 0 <;> by_cases hb : b = 0 <;> first | exact ⟨ha, hb⟩ | (exact absurd h (by simp only [orI, ha, hb, if_true, if_false]; decide))
