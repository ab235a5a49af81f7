/-! ===== the board's constructor ===== -/
def mo_P (G : Gt) (sz : Nat) (av : List Value) (ws : va_W) : Array Value → State → Prop := fun v U => mu_P G sz av ws v U ∧ va_AO RX0 U
theorem in_last {G : Gt} {ws : va_W} {x : Nat × va_E} {H : Heap} (hP : va_P G.1 vwCl (ws ++ [x]) H) : va_P G.1 vwCl [x] H := by
  intro k q hk
  have h0 : k = 0 := by have := (List.getElem?_eq_some_iff.mp hk).1; simp at this; exact this
  subst h0
  exact hP ws.length q (by rw [List.getElem?_append_right (Nat.le_refl _), Nat.sub_self]; exact hk)
theorem in_lastD {A : Nat → Prop} {ws : va_W} {x : Nat × va_E} (hD : va_D A (ws ++ [x])) : va_D A [x] := by
  refine ⟨fun i j u v hi hj _ => ?_, fun k q hk => ?_⟩
  · have h1 := (List.getElem?_eq_some_iff.mp hi).1
    have h2 := (List.getElem?_eq_some_iff.mp hj).1
    simp at h1 h2
    omega
  · have h0 : k = 0 := by have := (List.getElem?_eq_some_iff.mp hk).1; simp at this; exact this
    subst h0
    exact hD.2 ws.length q (by rw [List.getElem?_append_right (Nat.le_refl _), Nat.sub_self]; exact hk)
theorem in_free {A0 : Nat → Prop} {ws : va_W} {x : Nat × va_E} {H0 H : Heap} {locs : List Loc} (hD : va_D A0 (ws ++ [x])) (hS : va_S A0 H0 H locs) (hA : ∀ q, H0.size ≤ q → A0 q) : ∀ q, va_A [x] H.size q → A0 q := by
  intro q h
  rcases h with ⟨k, e, h⟩ | h
  · have := (in_lastD hD).2 k (q, e) h
    exact this
  · exact hA q (Nat.le_trans hS.1 h)
/-- constraints in the order of their making: the scratch, the store's, the stack's -/
def lst (G : Gt) (a w : Nat → Nat) : Nat → va_W
  | 0 => []
  | n + 1 => lst G a w n ++ [(a n, eC (w n) 0 0), (w n, eI G 10 (fun _ => 0))]
theorem lst_len (G : Gt) (a w : Nat → Nat) : ∀ n, (lst G a w n).length = 2 * n
  | 0 => rfl
  | n + 1 => by simp [lst, lst_len G a w n]; omega
theorem lst_up (G : Gt) (a w : Nat → Nat) (k q r : Nat) : ∀ n, n ≤ k → lst G (va_up a k q) (va_up w k r) n = lst G a w n
  | 0, _ => rfl
  | n + 1, h => by simp only [lst]; rw [lst_up G a w k q r n (by omega), va_up_ne _ _ (by omega), va_up_ne _ _ (by omega)]
theorem lst_s (G : Gt) (a w : Nat → Nat) (k q r : Nat) : lst G (va_up a k q) (va_up w k r) (k + 1) = lst G a w k ++ [(q, eC r 0 0), (r, eI G 10 (fun _ => 0))] := by
  simp only [lst]; rw [lst_up G a w k q r k (Nat.le_refl _), va_up_self, va_up_self]
theorem lst_c (G : Gt) (a w : Nat → Nat) (j : Nat) : ∀ n, j < n → (lst G a w n)[2 * j]? = some (a j, eC (w j) 0 0) ∧ (lst G a w n)[2 * j + 1]? = some (w j, eI G 10 (fun _ => 0))
  | 0, h => absurd h (by omega)
  | n + 1, h => by
    simp only [lst]
    by_cases e : j = n
    · subst e
      constructor
      · rw [List.getElem?_append_right (by rw [lst_len]; omega), lst_len, Nat.sub_self]; rfl
      · rw [List.getElem?_append_right (by rw [lst_len]; omega), lst_len, show 2 * j + 1 - 2 * j = 1 by omega]; rfl
    · have ih := lst_c G a w j n (by omega)
      rw [List.getElem?_append_left (by rw [lst_len]; omega), List.getElem?_append_left (by rw [lst_len]; omega)]
      exact ih
def f1x (G : Gt) (bx bd bo bs bk : Nat) (i j : Nat) (a : Nat → Nat) : va_W := [(bx, .inr (1, [.ref bd, .ref bo, .ref bs, .int 0, .ref bk, .int 0, .ref (a 0), .int 0, .int 0, .int 0, .int 0, .int 0])), (bd, eI G 10 (fun _ => 0)), (bo, eI G 10 (fun _ => 0)), (bs, eR G 30 (fun k => if k < i then some (a (1 + k)) else none)), (bk, eR G 6 (fun k => if k < j then some (a (31 + k)) else none))]
theorem x10 {G : Gt} {bx bd bo bs bk sc w_sc : Nat} : f1x G bx bd bo bs bk 0 0 (fun _ => sc) ++ lst G (fun _ => sc) (fun _ => w_sc) (1 + 0) = [(bx, .inr (1, [.ref bd, .ref bo, .ref bs, .int 0, .ref bk, .int 0, .ref sc, .int 0, .int 0, .int 0, .int 0, .int 0])), (bd, eI G 10 (fun _ => 0)), (bo, eI G 10 (fun _ => 0)), (bs, eR G 30 (fun _ => none)), (bk, eR G 6 (fun _ => none)), (sc, eC w_sc 0 0), (w_sc, eI G 10 (fun _ => 0))] := by
  simp only [f1x, lst, Nat.not_lt_zero, if_false]
  rfl
theorem x1at {F : va_W} {x y : Nat × va_E} {G : Gt} {a w : Nat → Nat} {n : Nat} (hL : F.length = 5) : (F ++ lst G a w n ++ [x, y])[5 + 2 * n]? = some x := by
  rw [List.getElem?_append_right (by rw [List.length_append, hL, lst_len]; omega), List.length_append, hL, lst_len, Nat.sub_self]
  rfl
theorem x1up {a : Nat → Nat} {i q r : Nat} (b : Nat) (h : r = b + i) : va_up (fun k => if k < i then some (a (b + k)) else none) i (some q) = fun k => if k < i + 1 then some (va_up a r q (b + k)) else none := by
  funext k
  by_cases e : k = i
  · subst e; subst h; simp [va_up]
  · by_cases e2 : k < i
    · have h3 : k < i + 1 := by omega
      have h4 : ¬ b + k = r := by omega
      simp [va_up, e, e2, h3, h4]
    · have h3 : ¬ k < i + 1 := by omega
      simp [va_up, e, e2, h3]
theorem x1eq {G : Gt} {bx bd bo bs bk i q r : Nat} {a w : Nat → Nat} : ((f1x G bx bd bo bs bk i 0 a ++ lst G a w (1 + i)) ++ [(q, eC r 0 0), (r, eI G 10 (fun _ => 0))]).set 3 (bs, eR G 30 (va_up (fun k => if k < i then some (a (1 + k)) else none) i (some q))) = f1x G bx bd bo bs bk (i + 1) 0 (va_up a (1 + i) q) ++ lst G (va_up a (1 + i) q) (va_up w (1 + i) r) (1 + (i + 1)) := by
  rw [show 1 + (i + 1) = (1 + i) + 1 by omega, lst_s, x1up 1 rfl, List.append_assoc]
  simp only [f1x, va_up_ne a q (show (0 : Nat) ≠ 1 + i by omega), Nat.not_lt_zero, if_false]
  rfl
theorem x1eq2 {G : Gt} {bx bd bo bs bk i q r : Nat} {a w : Nat → Nat} : ((f1x G bx bd bo bs bk 30 i a ++ lst G a w (31 + i)) ++ [(q, eC r 0 0), (r, eI G 10 (fun _ => 0))]).set 4 (bk, eR G 6 (va_up (fun k => if k < i then some (a (31 + k)) else none) i (some q))) = f1x G bx bd bo bs bk 30 (i + 1) (va_up a (31 + i) q) ++ lst G (va_up a (31 + i) q) (va_up w (31 + i) r) (31 + (i + 1)) := by
  have e9 : (fun k => if k < 30 then some (va_up a (31 + i) q (1 + k)) else none) = fun k => if k < 30 then some (a (1 + k)) else none := by
    funext k
    by_cases h : k < 30
    · rw [if_pos h, if_pos h, va_up_ne _ _ (by omega)]
    · rw [if_neg h, if_neg h]
  rw [show 31 + (i + 1) = (31 + i) + 1 by omega, lst_s, x1up 31 rfl, List.append_assoc]
  simp only [f1x, e9, va_up_ne a q (show (0 : Nat) ≠ 31 + i by omega)]
  rfl
section
variable {G : Gt} {bx bd bo bs bk i q r : Nat} {a w : Nat → Nat} {H : Heap} {A : Nat → Prop}
theorem x1st (h : va_P G.1 vwCl (((f1x G bx bd bo bs bk i 0 a ++ lst G a w (1 + i)) ++ [(q, eC r 0 0), (r, eI G 10 (fun _ => 0))]).set 3 (bs, eR G 30 (va_up (fun k => if k < i then some (a (1 + k)) else none) i (some q)))) H) : va_P G.1 vwCl (f1x G bx bd bo bs bk (i + 1) 0 (va_up a (1 + i) q) ++ lst G (va_up a (1 + i) q) (va_up w (1 + i) r) (1 + (i + 1))) H := by rw [← x1eq]; exact h
theorem x1stD (h : va_D A (((f1x G bx bd bo bs bk i 0 a ++ lst G a w (1 + i)) ++ [(q, eC r 0 0), (r, eI G 10 (fun _ => 0))]).set 3 (bs, eR G 30 (va_up (fun k => if k < i then some (a (1 + k)) else none) i (some q))))) : va_D A (f1x G bx bd bo bs bk (i + 1) 0 (va_up a (1 + i) q) ++ lst G (va_up a (1 + i) q) (va_up w (1 + i) r) (1 + (i + 1))) := by rw [← x1eq]; exact h
theorem x1st2 (h : va_P G.1 vwCl (((f1x G bx bd bo bs bk 30 i a ++ lst G a w (31 + i)) ++ [(q, eC r 0 0), (r, eI G 10 (fun _ => 0))]).set 4 (bk, eR G 6 (va_up (fun k => if k < i then some (a (31 + k)) else none) i (some q)))) H) : va_P G.1 vwCl (f1x G bx bd bo bs bk 30 (i + 1) (va_up a (31 + i) q) ++ lst G (va_up a (31 + i) q) (va_up w (31 + i) r) (31 + (i + 1))) H := by rw [← x1eq2]; exact h
theorem x1st2D (h : va_D A (((f1x G bx bd bo bs bk 30 i a ++ lst G a w (31 + i)) ++ [(q, eC r 0 0), (r, eI G 10 (fun _ => 0))]).set 4 (bk, eR G 6 (va_up (fun k => if k < i then some (a (31 + k)) else none) i (some q))))) : va_D A (f1x G bx bd bo bs bk 30 (i + 1) (va_up a (31 + i) q) ++ lst G (va_up a (31 + i) q) (va_up w (31 + i) r) (31 + (i + 1))) := by rw [← x1eq2]; exact h
end
def sg1 (i : Nat) : Nat := if i = 36 then 0 else 1 + i
def x1post (G : Gt) (bx : Nat) (u : (Nat × Nat × Nat × Nat) × (Nat → Nat) × (Nat → Nat)) : va_W := [(bx, .inr (1, [.ref u.1.1, .ref u.1.2.1, .ref u.1.2.2.1, .int 0, .ref u.1.2.2.2, .int 0, .ref (u.2.1 36), .int 0, .int 0, .int 0, .int 0, .int 0])), (u.1.1, eI G 10 (fun _ => 0)), (u.1.2.1, eI G 10 (fun _ => 0)), (u.1.2.2.1, eR G 30 (fun k => some (u.2.1 k))), (u.1.2.2.2, eR G 6 (fun k => some (u.2.1 (30 + k))))] ++ pool G u.2.1 u.2.2 (fun _ _ => 0) (fun _ => 0) (fun _ => 0)
theorem arrE {cA : ClassId} {n : Nat} {f g : Nat → Value} (h : ∀ k, k < n → f k = g k) : arrV cA n f = arrV cA n g := by
  have h1 : (arrV cA n f).slots = (arrV cA n g).slots := by
    apply Array.ext_getElem?
    intro i
    by_cases hi : i < n
    · rw [arrV_read _ _ hi, arrV_read _ _ hi, h i hi]
    · rw [Array.getElem?_eq_none (by rw [arrV_size]; omega), Array.getElem?_eq_none (by rw [arrV_size]; omega)]
  have e1 : arrV cA n f = { cls := (arrV cA n f).cls, slots := (arrV cA n f).slots, vm := (arrV cA n f).vm } := rfl
  rw [e1, h1]
  rfl
theorem va_PR {G : Gt} {ws : va_W} {H : Heap} {k q n : Nat} {f g : Nat → Option Nat} (hP : va_P G.1 vwCl ws H) (hk : ws[k]? = some (q, eR G n f)) (h : ∀ j, j < n → f j = g j) : va_P G.1 vwCl (ws.set k (q, eR G n g)) H := by
  have hl := (List.getElem?_eq_some_iff.mp hk).1
  intro j x hx
  by_cases e : j = k
  · subst e
    rw [List.getElem?_set_self hl] at hx
    cases hx
    have h0 : H[q]? = some (vp_cell G.2.2.2.1 (n, .inr (.inr (.inr (.inr f))))) := hP j _ hk
    show H[q]? = some (vp_cell G.2.2.2.1 (n, .inr (.inr (.inr (.inr g)))))
    rw [h0, vp_cell_q, vp_cell_q]
    exact congrArg some (arrE (fun k hk => by rw [h k hk]))
  · rw [List.getElem?_set_ne (Ne.symm e)] at hx
    exact hP j x hx
def x1is : List Nat := [0, 1, 2, 3, 4] ++ ((List.range 37).map (fun i => 5 + 2 * sg1 i) ++ (List.range 37).map (fun i => 5 + (2 * sg1 i + 1)))
theorem x1nd : va_nd x1is = true := by decide +kernel
theorem app2 {α : Type} {x x' y y' : List α} (h : x = x') (g : y = y') : x ++ y = x' ++ y' := by rw [h, g]
theorem x1mp0 {G : Gt} {c0 c1 c2 c3 c4 : Nat × va_E} {a w : Nat → Nat} {rs : List Nat} {n : Nat} (hs : ∀ i ∈ rs, sg1 i < n) :
    (([0, 1, 2, 3, 4] : List Nat) ++ (rs.map (fun i => 5 + 2 * sg1 i) ++ rs.map (fun i => 5 + (2 * sg1 i + 1)))).map (fun i => ([c0, c1, c2, c3, c4] ++ lst G a w n)[i]?) = ([c0, c1, c2, c3, c4] ++ (rs.map (fun i => (a (sg1 i), eC (w (sg1 i)) 0 0)) ++ rs.map (fun i => (w (sg1 i), eI G 10 (fun _ => 0))))).map some := by
  have hg : ∀ j : Nat, ([c0, c1, c2, c3, c4] ++ lst G a w n)[5 + j]? = (lst G a w n)[j]? := fun j => by
    rw [List.getElem?_append_right (Nat.le_add_right 5 j)]
    exact congrArg (fun z => (lst G a w n)[z]?) (show 5 + j - 5 = j by omega)
  rw [List.map_append, List.map_append, List.map_append, List.map_append, List.map_map, List.map_map, List.map_map, List.map_map]
  refine app2 rfl (app2 ?_ ?_)
  · refine List.map_congr_left (fun i hi => ?_)
    show ([c0, c1, c2, c3, c4] ++ lst G a w n)[5 + 2 * sg1 i]? = _
    rw [hg, (lst_c G a w (sg1 i) n (hs i hi)).1]
    rfl
  · refine List.map_congr_left (fun i hi => ?_)
    show ([c0, c1, c2, c3, c4] ++ lst G a w n)[5 + (2 * sg1 i + 1)]? = _
    rw [hg, (lst_c G a w (sg1 i) n (hs i hi)).2]
    rfl
theorem x1mp {G : Gt} {c0 c1 c2 c3 c4 : Nat × va_E} {a w : Nat → Nat} {n : Nat} (hn : n = 37) : x1is.map (fun i => ([c0, c1, c2, c3, c4] ++ lst G a w n)[i]?) = ([c0, c1, c2, c3, c4] ++ pool G (fun i => a (sg1 i)) (fun i => w (sg1 i)) (fun _ _ => 0) (fun _ => 0) (fun _ => 0)).map some :=
  x1mp0 (rs := List.range 37) (fun i hi => by
    have := List.mem_range.mp hi
    unfold sg1; split <;> omega)
theorem x1fin {G : Gt} {bx bd bo bs bk : Nat} {a w : Nat → Nat} {H : Heap} {A : Nat → Prop} (hP : va_P G.1 vwCl (f1x G bx bd bo bs bk 30 6 a ++ lst G a w (31 + 6)) H) (hD : va_D A (f1x G bx bd bo bs bk 30 6 a ++ lst G a w (31 + 6))) :
    va_P G.1 vwCl (x1post G bx ((bd, bo, bs, bk), (fun i => a (sg1 i)), (fun i => w (sg1 i)))) H ∧ va_D A (x1post G bx ((bd, bo, bs, bk), (fun i => a (sg1 i)), (fun i => w (sg1 i)))) := by
  have hP1 := lcP x1is hP (x1mp rfl)
  have hD1 := hD.sub x1is x1nd (x1mp rfl)
  have hP2 := va_PR (k := 3) (g := fun k => some (a (sg1 k))) hP1 rfl (fun j hj => by
    show (if j < 30 then some (a (1 + j)) else none) = _
    rw [if_pos hj]; unfold sg1; rw [if_neg (by omega)])
  have hD2 := va_D.set (e := eR G 30 (fun k => some (a (sg1 k)))) (p := 3) hD1 rfl
  have hP3 := va_PR (k := 4) (g := fun k => some (a (sg1 (30 + k)))) hP2 rfl (fun j hj => by
    show (if j < 6 then some (a (31 + j)) else none) = _
    rw [if_pos hj]; unfold sg1; rw [if_neg (by omega), show 1 + (30 + j) = 31 + j by omega])
  have hD3 := va_D.set (e := eR G 6 (fun k => some (a (sg1 (30 + k))))) (p := 4) hD2 rfl
  exact ⟨hP3, hD3⟩
abbrev rmX1_init : Room := { frames := 2, cells := 78, slots := 537, locals := 40 }
set_option maxHeartbeats 1000000 in
set_option maxRecDepth 100000 in
theorem c_X1_init (l : Launch) (G : Gt) (sz : Nat) (bx : Nat) : Met l yX1_init wsX1_init rmX1_init (mo_P G sz [.ref bx] [(bx, .inr (1, [.null, .null, .null, .int 0, .null, .int 0, .null, .int 0, .int 0, .int 0, .int 0, .int 0]))]) (in_Q G (x1post G bx) (va_A [(bx, .inr (1, [.null, .null, .null, .int 0, .null, .int 0, .null, .int 0, .int 0, .int 0, .int 0, .int 0]))] sz)) 78 537 (va_A [(bx, .inr (1, [.null, .null, .null, .int 0, .null, .int 0, .null, .int 0, .int 0, .int 0, .int 0, .int 0]))] sz) := by
  refine Met.ofW (cc := cX1_init) (maxL := 2) (ret := none) (by decide) rfl ?_
  intro p e s m args below meth c s₁ B hml hv
  obtain ⟨⟨rfl, hsz, hP, hD0, hK⟩, hao⟩ := hv
  have hx := B.exec
  have hb := B.bytes
  have hr := B.returns
  have hts := atoms_spec (ws := wsX1_init) B.pre
  have hown : s.vm.findClass RX1 = some m.cls := findClass_of_methodNamed B.named
  have hlocks := B.notSynchronized
  have hin : meth.name = "<init>" := (name_of_methodNamed B.named B.method).1
  subst hsz
  have hD := hD0.self (sz := s.heap.size)
  generalize hAe : va_A [(bx, .inr (1, [.null, .null, .null, .int 0, .null, .int 0, .null, .int 0, .int 0, .int 0, .int 0, .int 0]))] s.heap.size = A at hD ⊢
  have hA : ∀ q : Nat, s.heap.size ≤ q → A q := fun q h => by rw [← hAe]; exact Or.inr h
  have hS : va_S A s.heap s.heap [] := va_S.rf
  have hinX0 : ∀ w ∈ u_ws RX0 TX0 3, w ∈ wsX1_init := fun w h => List.mem_cons_of_mem _ (List.mem_append_right _ h)
  have hinX1 : ∀ w ∈ u_ws RX1 TX1 12, w ∈ wsX1_init := fun w h => List.mem_cons_of_mem _ (List.mem_append_left _ (List.mem_append_right _ h))
  have hw0 := hts (.methodLink RX1 3 objectInit) (by decide +kernel)
  have hw1 := hts (.instanceMethod objectInit) (by decide +kernel)
  have hw2 := hts (.code objectInit ⟨#[0xb1]⟩ 1 none) (by decide +kernel)
  have hw3 := hts (.arrayClass .int) (by decide +kernel)
  have hw5 := hts (.fieldLink RX1 9 "ChoiceBoard" "draft" "[I") (by decide +kernel)
  have hw6 := hts (.fieldLink RX1 13 "ChoiceBoard" "objectiveFactors" "[I") (by decide +kernel)
  have hw7 := hts (.classLink RX1 16 RX0) (by decide +kernel)
  have hw8 := hts (.fieldLink RX1 18 "ChoiceBoard" "store" "[LChoiceBoard$Constraint;") (by decide +kernel)
  have hw9 := hts (.fieldLink RX1 22 "ChoiceBoard" "stored" "I") (by decide +kernel)
  have hw10 := hts (.fieldLink RX1 26 "ChoiceBoard" "stack" "[LChoiceBoard$Constraint;") (by decide +kernel)
  have hw11 := hts (.fieldLink RX1 29 "ChoiceBoard" "stacked" "I") (by decide +kernel)
  have hw12 := hts (.instantiable RX0 3) (by decide +kernel)
  have hw13 := hts (.initialized RX0) (by decide +kernel)
  have hw14 := hts (.instanceMethod yX0_init) (by decide +kernel)
  have hw16 := hts (.fieldLink RX1 33 "ChoiceBoard" "scratch" "LChoiceBoard$Constraint;") (by decide +kernel)
  have hw17 := hts (.fieldLink RX1 37 "ChoiceBoard" "taken" "Z") (by decide +kernel)
  have hw18 := hts (.fieldLink RX1 41 "ChoiceBoard" "bestValue" "I") (by decide +kernel)
  have hw19 := hts (.fieldLink RX1 44 "ChoiceBoard" "solved" "Z") (by decide +kernel)
  have hw20 := hts (.fieldLink RX1 47 "ChoiceBoard" "leastValue" "I") (by decide +kernel)
  have hw21 := hts (.fieldLink RX1 50 "ChoiceBoard" "leastChoice" "I") (by decide +kernel)
  have hl := lv_entry ([.ref bx]) (n := 2) (Nat.le_of_ble_eq_true rfl)
  rw [lg_entry_eq]
  generalize (lg_sl ([.ref bx]) ++ List.replicate (2 - (lg_sl ([.ref bx])).length) Slot.unset).toArray = ls at hl ⊢
  have hl : lv_has ls 2 [(0, .ref bx)] := hl
  refine lv_aload_n hx hb dX1_init_0 rfl (lv_at hl 0 rfl) ?_
  refine W.objInit hx hb hown hw0 hw1 hw2 rfl (by rw [hml]; exact hl.1) rfl dX1_init_1 (Nat.le_of_ble_eq_true rfl) (Nat.le_of_ble_eq_true rfl) ?_
  refine W.eq (g2 := F0 m 4 ls []) rfl ?_
  refine lv_aload_n hx hb dX1_init_4 rfl (lv_at hl 0 rfl) ?_
  refine lv_bipush (v := 10) hx hb dX1_init_5 (by decide) ?_
  refine ra_newa (atype := .int) (n := 10) (N' := 10) (a0 := (10, .inl (fun _ => 0))) (t0 := 0) (ty := .int) hx hb hw3 rfl hK.1 hP hD hS hA rfl (fun _ h => h) (fun _ => rfl) (by decide) (by decide) (by decide) (Nat.le_of_ble_eq_true rfl) (Nat.le_of_ble_eq_true rfl) dX1_init_7 (fun bd H hP hD hS => ?_)
  have hP : va_P G.1 vwCl [(bx, .inr (1, [.null, .null, .null, .int 0, .null, .int 0, .null, .int 0, .int 0, .int 0, .int 0, .int 0])), (bd, eI G 10 (fun _ => 0))] H := hP
  have hD : va_D A [(bx, .inr (1, [.null, .null, .null, .int 0, .null, .int 0, .null, .int 0, .int 0, .int 0, .int 0, .int 0])), (bd, eI G 10 (fun _ => 0))] := hD
  refine va_putF (D := G.1) (ci := 1) (v := .ref bd) (ty := .array .int) (C := RX1) (T := TX1) (N := 12) hx hb hts hinX1 tyX1 tyX1_ok nmX1 hown hK.1 hP hD hS 0 rfl rfl 0 (by decide) hw5 (fun _ h9 => h9) rfl hin rfl (by decide +kernel) rfl rfl (Nat.le_of_ble_eq_true rfl) dX1_init_9 (fun H locs hP hD hS => ?_)
  have hP : va_P G.1 vwCl [(bx, .inr (1, [.ref bd, .null, .null, .int 0, .null, .int 0, .null, .int 0, .int 0, .int 0, .int 0, .int 0])), (bd, eI G 10 (fun _ => 0))] H := hP
  have hD : va_D A [(bx, .inr (1, [.ref bd, .null, .null, .int 0, .null, .int 0, .null, .int 0, .int 0, .int 0, .int 0, .int 0])), (bd, eI G 10 (fun _ => 0))] := hD
  refine lv_aload_n hx hb dX1_init_12 rfl (lv_at hl 0 rfl) ?_
  refine lv_bipush (v := 10) hx hb dX1_init_13 (by decide) ?_
  refine ra_newa (atype := .int) (n := 10) (N' := 10) (a0 := (10, .inl (fun _ => 0))) (t0 := 0) (ty := .int) hx hb hw3 rfl hK.1 hP hD hS hA rfl (fun _ h => h) (fun _ => rfl) (by decide) (by decide) (by decide) (Nat.le_of_ble_eq_true rfl) (Nat.le_of_ble_eq_true rfl) dX1_init_15 (fun bo H hP hD hS => ?_)
  have hP : va_P G.1 vwCl [(bx, .inr (1, [.ref bd, .null, .null, .int 0, .null, .int 0, .null, .int 0, .int 0, .int 0, .int 0, .int 0])), (bd, eI G 10 (fun _ => 0)), (bo, eI G 10 (fun _ => 0))] H := hP
  have hD : va_D A [(bx, .inr (1, [.ref bd, .null, .null, .int 0, .null, .int 0, .null, .int 0, .int 0, .int 0, .int 0, .int 0])), (bd, eI G 10 (fun _ => 0)), (bo, eI G 10 (fun _ => 0))] := hD
  refine va_putF (D := G.1) (ci := 1) (v := .ref bo) (ty := .array .int) (C := RX1) (T := TX1) (N := 12) hx hb hts hinX1 tyX1 tyX1_ok nmX1 hown hK.1 hP hD hS 0 rfl rfl 1 (by decide) hw6 (fun _ h9 => h9) rfl hin rfl (by decide +kernel) rfl rfl (Nat.le_of_ble_eq_true rfl) dX1_init_17 (fun H locs hP hD hS => ?_)
  have hP : va_P G.1 vwCl [(bx, .inr (1, [.ref bd, .ref bo, .null, .int 0, .null, .int 0, .null, .int 0, .int 0, .int 0, .int 0, .int 0])), (bd, eI G 10 (fun _ => 0)), (bo, eI G 10 (fun _ => 0))] H := hP
  have hD : va_D A [(bx, .inr (1, [.ref bd, .ref bo, .null, .int 0, .null, .int 0, .null, .int 0, .int 0, .int 0, .int 0, .int 0])), (bd, eI G 10 (fun _ => 0)), (bo, eI G 10 (fun _ => 0))] := hD
  refine lv_aload_n hx hb dX1_init_20 rfl (lv_at hl 0 rfl) ?_
  refine lv_bipush (v := 30) hx hb dX1_init_21 (by decide) ?_
  refine ra_newq (n := 30) (N' := 30) hx hb hown hw7 hao hK.1 hP hD hS hA (by decide) (by decide) (by decide) (Nat.le_of_ble_eq_true rfl) (Nat.le_of_ble_eq_true rfl) dX1_init_23 (fun bs H hP hD hS => ?_)
  have hP : va_P G.1 vwCl [(bx, .inr (1, [.ref bd, .ref bo, .null, .int 0, .null, .int 0, .null, .int 0, .int 0, .int 0, .int 0, .int 0])), (bd, eI G 10 (fun _ => 0)), (bo, eI G 10 (fun _ => 0)), (bs, eR G 30 (fun _ => none))] H := hP
  have hD : va_D A [(bx, .inr (1, [.ref bd, .ref bo, .null, .int 0, .null, .int 0, .null, .int 0, .int 0, .int 0, .int 0, .int 0])), (bd, eI G 10 (fun _ => 0)), (bo, eI G 10 (fun _ => 0)), (bs, eR G 30 (fun _ => none))] := hD
  refine va_putF (D := G.1) (ci := 1) (v := .ref bs) (ty := .array (.object "ChoiceBoard$Constraint")) (C := RX1) (T := TX1) (N := 12) hx hb hts hinX1 tyX1 tyX1_ok nmX1 hown hK.1 hP hD hS 0 rfl rfl 2 (by decide) hw8 (fun _ h9 => h9) rfl hin rfl (by decide +kernel) rfl rfl (Nat.le_of_ble_eq_true rfl) dX1_init_26 (fun H locs hP hD hS => ?_)
  have hP : va_P G.1 vwCl [(bx, .inr (1, [.ref bd, .ref bo, .ref bs, .int 0, .null, .int 0, .null, .int 0, .int 0, .int 0, .int 0, .int 0])), (bd, eI G 10 (fun _ => 0)), (bo, eI G 10 (fun _ => 0)), (bs, eR G 30 (fun _ => none))] H := hP
  have hD : va_D A [(bx, .inr (1, [.ref bd, .ref bo, .ref bs, .int 0, .null, .int 0, .null, .int 0, .int 0, .int 0, .int 0, .int 0])), (bd, eI G 10 (fun _ => 0)), (bo, eI G 10 (fun _ => 0)), (bs, eR G 30 (fun _ => none))] := hD
  refine lv_aload_n hx hb dX1_init_29 rfl (lv_at hl 0 rfl) ?_
  refine lv_iconst (v := 0) hx hb dX1_init_30 (by decide) ?_
  refine va_put (D := G.1) (ci := 1) (v := .int 0) (ty := .int) (C := RX1) (T := TX1) (N := 12) hx hb hts hinX1 tyX1 tyX1_ok nmX1 hown hK.1 hP hD hS 0 rfl rfl 3 (by decide) hw9 (fun _ h9 => h9) rfl (by decide +kernel) rfl rfl (Nat.le_of_ble_eq_true rfl) dX1_init_31 (fun H locs hP hD hS => ?_)
  have hP : va_P G.1 vwCl [(bx, .inr (1, [.ref bd, .ref bo, .ref bs, .int 0, .null, .int 0, .null, .int 0, .int 0, .int 0, .int 0, .int 0])), (bd, eI G 10 (fun _ => 0)), (bo, eI G 10 (fun _ => 0)), (bs, eR G 30 (fun _ => none))] H := hP
  have hD : va_D A [(bx, .inr (1, [.ref bd, .ref bo, .ref bs, .int 0, .null, .int 0, .null, .int 0, .int 0, .int 0, .int 0, .int 0])), (bd, eI G 10 (fun _ => 0)), (bo, eI G 10 (fun _ => 0)), (bs, eR G 30 (fun _ => none))] := hD
  refine lv_aload_n hx hb dX1_init_34 rfl (lv_at hl 0 rfl) ?_
  refine lv_bipush (v := 6) hx hb dX1_init_35 (by decide) ?_
  refine ra_newq (n := 6) (N' := 6) hx hb hown hw7 hao hK.1 hP hD hS hA (by decide) (by decide) (by decide) (Nat.le_of_ble_eq_true rfl) (Nat.le_of_ble_eq_true rfl) dX1_init_37 (fun bk H hP hD hS => ?_)
  have hP : va_P G.1 vwCl [(bx, .inr (1, [.ref bd, .ref bo, .ref bs, .int 0, .null, .int 0, .null, .int 0, .int 0, .int 0, .int 0, .int 0])), (bd, eI G 10 (fun _ => 0)), (bo, eI G 10 (fun _ => 0)), (bs, eR G 30 (fun _ => none)), (bk, eR G 6 (fun _ => none))] H := hP
  have hD : va_D A [(bx, .inr (1, [.ref bd, .ref bo, .ref bs, .int 0, .null, .int 0, .null, .int 0, .int 0, .int 0, .int 0, .int 0])), (bd, eI G 10 (fun _ => 0)), (bo, eI G 10 (fun _ => 0)), (bs, eR G 30 (fun _ => none)), (bk, eR G 6 (fun _ => none))] := hD
  refine va_putF (D := G.1) (ci := 1) (v := .ref bk) (ty := .array (.object "ChoiceBoard$Constraint")) (C := RX1) (T := TX1) (N := 12) hx hb hts hinX1 tyX1 tyX1_ok nmX1 hown hK.1 hP hD hS 0 rfl rfl 4 (by decide) hw10 (fun _ h9 => h9) rfl hin rfl (by decide +kernel) rfl rfl (Nat.le_of_ble_eq_true rfl) dX1_init_40 (fun H locs hP hD hS => ?_)
  have hP : va_P G.1 vwCl [(bx, .inr (1, [.ref bd, .ref bo, .ref bs, .int 0, .ref bk, .int 0, .null, .int 0, .int 0, .int 0, .int 0, .int 0])), (bd, eI G 10 (fun _ => 0)), (bo, eI G 10 (fun _ => 0)), (bs, eR G 30 (fun _ => none)), (bk, eR G 6 (fun _ => none))] H := hP
  have hD : va_D A [(bx, .inr (1, [.ref bd, .ref bo, .ref bs, .int 0, .ref bk, .int 0, .null, .int 0, .int 0, .int 0, .int 0, .int 0])), (bd, eI G 10 (fun _ => 0)), (bo, eI G 10 (fun _ => 0)), (bs, eR G 30 (fun _ => none)), (bk, eR G 6 (fun _ => none))] := hD
  refine lv_aload_n hx hb dX1_init_43 rfl (lv_at hl 0 rfl) ?_
  refine lv_iconst (v := 0) hx hb dX1_init_44 (by decide) ?_
  refine va_put (D := G.1) (ci := 1) (v := .int 0) (ty := .int) (C := RX1) (T := TX1) (N := 12) hx hb hts hinX1 tyX1 tyX1_ok nmX1 hown hK.1 hP hD hS 0 rfl rfl 5 (by decide) hw11 (fun _ h9 => h9) rfl (by decide +kernel) rfl rfl (Nat.le_of_ble_eq_true rfl) dX1_init_45 (fun H locs hP hD hS => ?_)
  have hP : va_P G.1 vwCl [(bx, .inr (1, [.ref bd, .ref bo, .ref bs, .int 0, .ref bk, .int 0, .null, .int 0, .int 0, .int 0, .int 0, .int 0])), (bd, eI G 10 (fun _ => 0)), (bo, eI G 10 (fun _ => 0)), (bs, eR G 30 (fun _ => none)), (bk, eR G 6 (fun _ => none))] H := hP
  have hD : va_D A [(bx, .inr (1, [.ref bd, .ref bo, .ref bs, .int 0, .ref bk, .int 0, .null, .int 0, .int 0, .int 0, .int 0, .int 0])), (bd, eI G 10 (fun _ => 0)), (bo, eI G 10 (fun _ => 0)), (bs, eR G 30 (fun _ => none)), (bk, eR G 6 (fun _ => none))] := hD
  refine lv_aload_n hx hb dX1_init_48 rfl (lv_at hl 0 rfl) ?_
  refine va_new (D := G.1) (ci := 0) (fs := [.null, .int 0, .int 0]) (C := RX0) (T := TX0) (N := 3) hx hb hts hinX0 tyX0 tyX0_ok hown hw7 hw12 hw13 hK.1 hP hD hS hA rfl (fun j hj => by rcases (show j = 0 ∨ j = 1 ∨ j = 2 by omega) with rfl | rfl | rfl <;> rfl) (Nat.le_of_ble_eq_true rfl) (Nat.le_of_ble_eq_true rfl) dX1_init_49 (fun sc H hP hD hS => ?_)
  refine lv_dup hx hb dX1_init_52 rfl ?_
  have hF := in_free hD hS hA
  refine in_call (va_runIN (host := RX1) (As := []) (rest := [.ref sc, .ref bx]) ⟨hx, hb, hml, hown, hts⟩ (c_X0_init l G _ sc) ⟨va_cnB 0 hts gX1_init_X0_init_n32 rfl rfl rfl hK.2.1 hw13 (by decide +kernel) ⟨Nat.le_of_ble_eq_true rfl, Nat.le_of_ble_eq_true rfl⟩, rfl, hw14⟩ ⟨mu_blind, mu_pre _ (in_last hP) (in_lastD hD) hK⟩ rfl rfl hl.1 rfl (lv_room (Nat.le_of_ble_eq_true rfl)) dX1_init_53 ⟨(Nat.le_of_ble_eq_true rfl), (Nat.le_of_ble_eq_true rfl)⟩) hS hF hF (fun w_sc H1 locs hP1 hD1 hk1 hS => ?_)
  obtain ⟨hP, hD⟩ := in_join hP hD hk1 hF hP1 hD1
  generalize H1 = H at hP hS ⊢
  have hP : va_P G.1 vwCl [(bx, .inr (1, [.ref bd, .ref bo, .ref bs, .int 0, .ref bk, .int 0, .null, .int 0, .int 0, .int 0, .int 0, .int 0])), (bd, eI G 10 (fun _ => 0)), (bo, eI G 10 (fun _ => 0)), (bs, eR G 30 (fun _ => none)), (bk, eR G 6 (fun _ => none)), (sc, .inr (0, [.ref w_sc, .int 0, .int 0])), (w_sc, eI G 10 (fun _ => 0))] H := hP
  have hD : va_D A [(bx, .inr (1, [.ref bd, .ref bo, .ref bs, .int 0, .ref bk, .int 0, .null, .int 0, .int 0, .int 0, .int 0, .int 0])), (bd, eI G 10 (fun _ => 0)), (bo, eI G 10 (fun _ => 0)), (bs, eR G 30 (fun _ => none)), (bk, eR G 6 (fun _ => none)), (sc, .inr (0, [.ref w_sc, .int 0, .int 0])), (w_sc, eI G 10 (fun _ => 0))] := hD
  refine va_putF (D := G.1) (ci := 1) (v := .ref sc) (ty := .object "ChoiceBoard$Constraint") (C := RX1) (T := TX1) (N := 12) hx hb hts hinX1 tyX1 tyX1_ok nmX1 hown hK.1 hP hD hS 0 rfl rfl 6 (by decide) hw16 (fun _ h9 => h9) rfl hin rfl (by decide +kernel) rfl rfl (Nat.le_of_ble_eq_true rfl) dX1_init_56 (fun H locs hP hD hS => ?_)
  have hP : va_P G.1 vwCl [(bx, .inr (1, [.ref bd, .ref bo, .ref bs, .int 0, .ref bk, .int 0, .ref sc, .int 0, .int 0, .int 0, .int 0, .int 0])), (bd, eI G 10 (fun _ => 0)), (bo, eI G 10 (fun _ => 0)), (bs, eR G 30 (fun _ => none)), (bk, eR G 6 (fun _ => none)), (sc, .inr (0, [.ref w_sc, .int 0, .int 0])), (w_sc, eI G 10 (fun _ => 0))] H := hP
  have hD : va_D A [(bx, .inr (1, [.ref bd, .ref bo, .ref bs, .int 0, .ref bk, .int 0, .ref sc, .int 0, .int 0, .int 0, .int 0, .int 0])), (bd, eI G 10 (fun _ => 0)), (bo, eI G 10 (fun _ => 0)), (bs, eR G 30 (fun _ => none)), (bk, eR G 6 (fun _ => none)), (sc, .inr (0, [.ref w_sc, .int 0, .int 0])), (w_sc, eI G 10 (fun _ => 0))] := hD
  refine lv_aload_n hx hb dX1_init_59 rfl (lv_at hl 0 rfl) ?_
  refine lv_iconst (v := 0) hx hb dX1_init_60 (by decide) ?_
  refine va_put (D := G.1) (ci := 1) (v := .int 0) (ty := .boolean) (C := RX1) (T := TX1) (N := 12) hx hb hts hinX1 tyX1 tyX1_ok nmX1 hown hK.1 hP hD hS 0 rfl rfl 7 (by decide) hw17 (fun _ h9 => h9) rfl (by decide +kernel) rfl rfl (Nat.le_of_ble_eq_true rfl) dX1_init_61 (fun H locs hP hD hS => ?_)
  have hP : va_P G.1 vwCl [(bx, .inr (1, [.ref bd, .ref bo, .ref bs, .int 0, .ref bk, .int 0, .ref sc, .int 0, .int 0, .int 0, .int 0, .int 0])), (bd, eI G 10 (fun _ => 0)), (bo, eI G 10 (fun _ => 0)), (bs, eR G 30 (fun _ => none)), (bk, eR G 6 (fun _ => none)), (sc, .inr (0, [.ref w_sc, .int 0, .int 0])), (w_sc, eI G 10 (fun _ => 0))] H := hP
  have hD : va_D A [(bx, .inr (1, [.ref bd, .ref bo, .ref bs, .int 0, .ref bk, .int 0, .ref sc, .int 0, .int 0, .int 0, .int 0, .int 0])), (bd, eI G 10 (fun _ => 0)), (bo, eI G 10 (fun _ => 0)), (bs, eR G 30 (fun _ => none)), (bk, eR G 6 (fun _ => none)), (sc, .inr (0, [.ref w_sc, .int 0, .int 0])), (w_sc, eI G 10 (fun _ => 0))] := hD
  refine lv_aload_n hx hb dX1_init_64 rfl (lv_at hl 0 rfl) ?_
  refine lv_iconst (v := 0) hx hb dX1_init_65 (by decide) ?_
  refine va_put (D := G.1) (ci := 1) (v := .int 0) (ty := .int) (C := RX1) (T := TX1) (N := 12) hx hb hts hinX1 tyX1 tyX1_ok nmX1 hown hK.1 hP hD hS 0 rfl rfl 8 (by decide) hw18 (fun _ h9 => h9) rfl (by decide +kernel) rfl rfl (Nat.le_of_ble_eq_true rfl) dX1_init_66 (fun H locs hP hD hS => ?_)
  have hP : va_P G.1 vwCl [(bx, .inr (1, [.ref bd, .ref bo, .ref bs, .int 0, .ref bk, .int 0, .ref sc, .int 0, .int 0, .int 0, .int 0, .int 0])), (bd, eI G 10 (fun _ => 0)), (bo, eI G 10 (fun _ => 0)), (bs, eR G 30 (fun _ => none)), (bk, eR G 6 (fun _ => none)), (sc, .inr (0, [.ref w_sc, .int 0, .int 0])), (w_sc, eI G 10 (fun _ => 0))] H := hP
  have hD : va_D A [(bx, .inr (1, [.ref bd, .ref bo, .ref bs, .int 0, .ref bk, .int 0, .ref sc, .int 0, .int 0, .int 0, .int 0, .int 0])), (bd, eI G 10 (fun _ => 0)), (bo, eI G 10 (fun _ => 0)), (bs, eR G 30 (fun _ => none)), (bk, eR G 6 (fun _ => none)), (sc, .inr (0, [.ref w_sc, .int 0, .int 0])), (w_sc, eI G 10 (fun _ => 0))] := hD
  refine lv_aload_n hx hb dX1_init_69 rfl (lv_at hl 0 rfl) ?_
  refine lv_iconst (v := 0) hx hb dX1_init_70 (by decide) ?_
  refine va_put (D := G.1) (ci := 1) (v := .int 0) (ty := .boolean) (C := RX1) (T := TX1) (N := 12) hx hb hts hinX1 tyX1 tyX1_ok nmX1 hown hK.1 hP hD hS 0 rfl rfl 9 (by decide) hw19 (fun _ h9 => h9) rfl (by decide +kernel) rfl rfl (Nat.le_of_ble_eq_true rfl) dX1_init_71 (fun H locs hP hD hS => ?_)
  have hP : va_P G.1 vwCl [(bx, .inr (1, [.ref bd, .ref bo, .ref bs, .int 0, .ref bk, .int 0, .ref sc, .int 0, .int 0, .int 0, .int 0, .int 0])), (bd, eI G 10 (fun _ => 0)), (bo, eI G 10 (fun _ => 0)), (bs, eR G 30 (fun _ => none)), (bk, eR G 6 (fun _ => none)), (sc, .inr (0, [.ref w_sc, .int 0, .int 0])), (w_sc, eI G 10 (fun _ => 0))] H := hP
  have hD : va_D A [(bx, .inr (1, [.ref bd, .ref bo, .ref bs, .int 0, .ref bk, .int 0, .ref sc, .int 0, .int 0, .int 0, .int 0, .int 0])), (bd, eI G 10 (fun _ => 0)), (bo, eI G 10 (fun _ => 0)), (bs, eR G 30 (fun _ => none)), (bk, eR G 6 (fun _ => none)), (sc, .inr (0, [.ref w_sc, .int 0, .int 0])), (w_sc, eI G 10 (fun _ => 0))] := hD
  refine lv_aload_n hx hb dX1_init_74 rfl (lv_at hl 0 rfl) ?_
  refine lv_iconst (v := 0) hx hb dX1_init_75 (by decide) ?_
  refine va_put (D := G.1) (ci := 1) (v := .int 0) (ty := .int) (C := RX1) (T := TX1) (N := 12) hx hb hts hinX1 tyX1 tyX1_ok nmX1 hown hK.1 hP hD hS 0 rfl rfl 10 (by decide) hw20 (fun _ h9 => h9) rfl (by decide +kernel) rfl rfl (Nat.le_of_ble_eq_true rfl) dX1_init_76 (fun H locs hP hD hS => ?_)
  have hP : va_P G.1 vwCl [(bx, .inr (1, [.ref bd, .ref bo, .ref bs, .int 0, .ref bk, .int 0, .ref sc, .int 0, .int 0, .int 0, .int 0, .int 0])), (bd, eI G 10 (fun _ => 0)), (bo, eI G 10 (fun _ => 0)), (bs, eR G 30 (fun _ => none)), (bk, eR G 6 (fun _ => none)), (sc, .inr (0, [.ref w_sc, .int 0, .int 0])), (w_sc, eI G 10 (fun _ => 0))] H := hP
  have hD : va_D A [(bx, .inr (1, [.ref bd, .ref bo, .ref bs, .int 0, .ref bk, .int 0, .ref sc, .int 0, .int 0, .int 0, .int 0, .int 0])), (bd, eI G 10 (fun _ => 0)), (bo, eI G 10 (fun _ => 0)), (bs, eR G 30 (fun _ => none)), (bk, eR G 6 (fun _ => none)), (sc, .inr (0, [.ref w_sc, .int 0, .int 0])), (w_sc, eI G 10 (fun _ => 0))] := hD
  refine lv_aload_n hx hb dX1_init_79 rfl (lv_at hl 0 rfl) ?_
  refine lv_iconst (v := 0) hx hb dX1_init_80 (by decide) ?_
  refine va_put (D := G.1) (ci := 1) (v := .int 0) (ty := .int) (C := RX1) (T := TX1) (N := 12) hx hb hts hinX1 tyX1 tyX1_ok nmX1 hown hK.1 hP hD hS 0 rfl rfl 11 (by decide) hw21 (fun _ h9 => h9) rfl (by decide +kernel) rfl rfl (Nat.le_of_ble_eq_true rfl) dX1_init_81 (fun H locs hP hD hS => ?_)
  have hP : va_P G.1 vwCl [(bx, .inr (1, [.ref bd, .ref bo, .ref bs, .int 0, .ref bk, .int 0, .ref sc, .int 0, .int 0, .int 0, .int 0, .int 0])), (bd, eI G 10 (fun _ => 0)), (bo, eI G 10 (fun _ => 0)), (bs, eR G 30 (fun _ => none)), (bk, eR G 6 (fun _ => none)), (sc, .inr (0, [.ref w_sc, .int 0, .int 0])), (w_sc, eI G 10 (fun _ => 0))] H := hP
  have hD : va_D A [(bx, .inr (1, [.ref bd, .ref bo, .ref bs, .int 0, .ref bk, .int 0, .ref sc, .int 0, .int 0, .int 0, .int 0, .int 0])), (bd, eI G 10 (fun _ => 0)), (bo, eI G 10 (fun _ => 0)), (bs, eR G 30 (fun _ => none)), (bk, eR G 6 (fun _ => none)), (sc, .inr (0, [.ref w_sc, .int 0, .int 0])), (w_sc, eI G 10 (fun _ => 0))] := hD
  have loop_113 : ∀ (n i : Nat) (a w : Nat → Nat) (xi : Int32), i ≤ 6 → 7 ≤ i + n → xi = nI i → ∀ (H : Heap) (locs : List Loc), va_P G.1 vwCl (f1x G bx bd bo bs bk 30 i a ++ lst G a w (31 + i)) H → va_D A (f1x G bx bd bo bs bk 30 i a ++ lst G a w (31 + i)) → va_S A s.heap H locs → ∀ ls : Array Slot, lv_has ls 2 [(0, .ref bx), (1, .int xi)] → W p l e rmX1_init s m [.ref bx].toArray below meth c H locs (66 + 2 * i) (459 + 13 * i) (MQ below (in_Q G (x1post G bx) A) [.ref bx].toArray s 78 537 A) (F0 m 113 ls []) := by
    intro n
    induction n with
    | zero => intro i a w xi h1 h2; exact absurd h2 (by omega)
    | succ n ih =>
      intro i a w xi hi hn ei H locs hP hD hS ls hl
      refine lv_iload_n hx hb dX1_init_113 rfl (lv_at hl 1 rfl) ?_
      refine lv_bipush (v := 6) hx hb dX1_init_114 (by decide) ?_
      refine lv_icmp_ge (tgt := 138) hx hb dX1_init_116 (by decide) (fun c_116 => ?_) (fun c_116 => ?_)
      · have hN : i = 6 := ge_ix ei (show (6 : Int32) = nI 6 from rfl) (by decide) c_116 hi
        subst hN
        refine W.widen (k := 78) (n := 537) (by omega) (by omega) ?_
        obtain ⟨hP9, hD9⟩ := x1fin hP hD
        exact W.vret hx hb hr (fun t ht hW => ⟨rfl, ((bd, bo, bs, bk), (fun i => a (sg1 i)), (fun i => w (sg1 i))), by rw [ht]; exact hP9, hD9, hS.F ht⟩) hS.2.2 dX1_init_138
      · have hlt : i < 6 := lt_ix ei (show (6 : Int32) = nI 6 from rfl) (by decide) c_116 hi
        refine lv_aload_n hx hb dX1_init_119 rfl (lv_at hl 0 rfl) ?_
        refine va_get (D := G.1) (ci := 1) (v := .ref bk) (C := RX1) (T := TX1) (N := 12) hx hb hts hinX1 hown hK.1 hP 0 rfl rfl 4 (by decide) hw10 (fun _ h9 => h9) rfl dX1_init_120 ?_
        refine lv_iload_n hx hb dX1_init_123 rfl (lv_at hl 1 rfl) ?_
        refine va_new (D := G.1) (ci := 0) (fs := [.null, .int 0, .int 0]) (C := RX0) (T := TX0) (N := 3) hx hb hts hinX0 tyX0 tyX0_ok hown hw7 hw12 hw13 hK.1 hP hD hS hA rfl (fun j hj => by rcases (show j = 0 ∨ j = 1 ∨ j = 2 by omega) with rfl | rfl | rfl <;> rfl) (show 66 + 2 * i + 1 ≤ 78 by omega) (show 459 + 13 * i + 3 ≤ 537 by omega) dX1_init_124 (fun q9 H hP hD hS => ?_)
        refine lv_dup hx hb dX1_init_127 rfl ?_
        have hF := in_free hD hS hA
        refine in_call (va_runIN (host := RX1) (As := []) (rest := [.ref q9, .int xi, .ref bk]) ⟨hx, hb, hml, hown, hts⟩ (c_X0_init l G _ q9) ⟨va_cnB 0 hts gX1_init_X0_init_n32 rfl rfl rfl hK.2.1 hw13 (by decide +kernel) ⟨Nat.le_of_ble_eq_true rfl, Nat.le_of_ble_eq_true rfl⟩, rfl, hw14⟩ ⟨mu_blind, mu_pre _ (in_last hP) (in_lastD hD) hK⟩ rfl rfl hl.1 rfl (lv_room (Nat.le_of_ble_eq_true rfl)) dX1_init_128 ⟨(show 66 + 2 * i + 1 + 1 ≤ 78 by omega), (show 459 + 13 * i + 3 + 10 ≤ 537 by omega)⟩) hS hF hF (fun w_q9 H1 locs hP1 hD1 hk1 hS => ?_)
        obtain ⟨hP, hD⟩ := in_join hP hD hk1 hF hP1 hD1
        generalize H1 = H at hP hS ⊢
        refine va_astq (r := (RX0, TX0, 3)) hx hb hK.1 hP hD hS 4 2 (5 + 2 * (31 + i)) 0 rfl rfl (x1at rfl) rfl (by rw [ei]; exact vp_in_nI hlt (by decide)) dX1_init_131 (fun H locs hP hD hS => ?_)
        rw [ei, nI_clamp (by omega)] at hP hD
        replace hP := x1st2 hP
        replace hD := x1st2D hD
        refine lv_iinc (v := xi + 1) (lv' := [(1, .int (xi + 1)), (0, .ref bx)]) hx hb dX1_init_132 hl (k := 1) rfl rfl (by decide) rfl (fun ls hl => ?_)
        refine lv_goto (tgt := 113) hx hb dX1_init_135 (by decide) ?_
        refine W.widen (k := 66 + 2 * (i + 1)) (n := 459 + 13 * (i + 1)) (by omega) (by omega) ?_
        exact ih (i + 1) _ _ (xi + 1) (by omega) (by omega) (by rw [ei]; exact nI_1 i) _ _ hP hD hS ls (lv_sub hl [1, 0] rfl)
  have loop_86 : ∀ (n i : Nat) (a w : Nat → Nat) (xi : Int32), i ≤ 30 → 31 ≤ i + n → xi = nI i → ∀ (H : Heap) (locs : List Loc), va_P G.1 vwCl (f1x G bx bd bo bs bk i 0 a ++ lst G a w (1 + i)) H → va_D A (f1x G bx bd bo bs bk i 0 a ++ lst G a w (1 + i)) → va_S A s.heap H locs → ∀ ls : Array Slot, lv_has ls 2 [(0, .ref bx), (1, .int xi)] → W p l e rmX1_init s m [.ref bx].toArray below meth c H locs (6 + 2 * i) (69 + 13 * i) (MQ below (in_Q G (x1post G bx) A) [.ref bx].toArray s 78 537 A) (F0 m 86 ls []) := by
    intro n
    induction n with
    | zero => intro i a w xi h1 h2; exact absurd h2 (by omega)
    | succ n ih =>
      intro i a w xi hi hn ei H locs hP hD hS ls hl
      refine lv_iload_n hx hb dX1_init_86 rfl (lv_at hl 1 rfl) ?_
      refine lv_bipush (v := 30) hx hb dX1_init_87 (by decide) ?_
      refine lv_icmp_ge (tgt := 111) hx hb dX1_init_89 (by decide) (fun c_89 => ?_) (fun c_89 => ?_)
      · have hN : i = 30 := ge_ix ei (show (30 : Int32) = nI 30 from rfl) (by decide) c_89 hi
        subst hN
        refine lv_iconst (v := 0) hx hb dX1_init_111 (by decide) ?_
        refine lv_istore_n (lv' := [(1, .int 0), (0, .ref bx)]) hx hb dX1_init_112 rfl hl (by decide) rfl (fun ls hl => ?_)
        refine W.widen (k := 66 + 2 * 0) (n := 459 + 13 * 0) (by omega) (by omega) ?_
        exact loop_113 7 0 a w 0 (by omega) (by omega) rfl _ _ hP hD hS ls (lv_sub hl [1, 0] rfl)
      · have hlt : i < 30 := lt_ix ei (show (30 : Int32) = nI 30 from rfl) (by decide) c_89 hi
        refine lv_aload_n hx hb dX1_init_92 rfl (lv_at hl 0 rfl) ?_
        refine va_get (D := G.1) (ci := 1) (v := .ref bs) (C := RX1) (T := TX1) (N := 12) hx hb hts hinX1 hown hK.1 hP 0 rfl rfl 2 (by decide) hw8 (fun _ h9 => h9) rfl dX1_init_93 ?_
        refine lv_iload_n hx hb dX1_init_96 rfl (lv_at hl 1 rfl) ?_
        refine va_new (D := G.1) (ci := 0) (fs := [.null, .int 0, .int 0]) (C := RX0) (T := TX0) (N := 3) hx hb hts hinX0 tyX0 tyX0_ok hown hw7 hw12 hw13 hK.1 hP hD hS hA rfl (fun j hj => by rcases (show j = 0 ∨ j = 1 ∨ j = 2 by omega) with rfl | rfl | rfl <;> rfl) (show 6 + 2 * i + 1 ≤ 78 by omega) (show 69 + 13 * i + 3 ≤ 537 by omega) dX1_init_97 (fun q9 H hP hD hS => ?_)
        refine lv_dup hx hb dX1_init_100 rfl ?_
        have hF := in_free hD hS hA
        refine in_call (va_runIN (host := RX1) (As := []) (rest := [.ref q9, .int xi, .ref bs]) ⟨hx, hb, hml, hown, hts⟩ (c_X0_init l G _ q9) ⟨va_cnB 0 hts gX1_init_X0_init_n32 rfl rfl rfl hK.2.1 hw13 (by decide +kernel) ⟨Nat.le_of_ble_eq_true rfl, Nat.le_of_ble_eq_true rfl⟩, rfl, hw14⟩ ⟨mu_blind, mu_pre _ (in_last hP) (in_lastD hD) hK⟩ rfl rfl hl.1 rfl (lv_room (Nat.le_of_ble_eq_true rfl)) dX1_init_101 ⟨(show 6 + 2 * i + 1 + 1 ≤ 78 by omega), (show 69 + 13 * i + 3 + 10 ≤ 537 by omega)⟩) hS hF hF (fun w_q9 H1 locs hP1 hD1 hk1 hS => ?_)
        obtain ⟨hP, hD⟩ := in_join hP hD hk1 hF hP1 hD1
        generalize H1 = H at hP hS ⊢
        refine va_astq (r := (RX0, TX0, 3)) hx hb hK.1 hP hD hS 3 2 (5 + 2 * (1 + i)) 0 rfl rfl (x1at rfl) rfl (by rw [ei]; exact vp_in_nI hlt (by decide)) dX1_init_104 (fun H locs hP hD hS => ?_)
        rw [ei, nI_clamp (by omega)] at hP hD
        replace hP := x1st hP
        replace hD := x1stD hD
        refine lv_iinc (v := xi + 1) (lv' := [(1, .int (xi + 1)), (0, .ref bx)]) hx hb dX1_init_105 hl (k := 1) rfl rfl (by decide) rfl (fun ls hl => ?_)
        refine lv_goto (tgt := 86) hx hb dX1_init_108 (by decide) ?_
        refine W.widen (k := 6 + 2 * (i + 1)) (n := 69 + 13 * (i + 1)) (by omega) (by omega) ?_
        exact ih (i + 1) _ _ (xi + 1) (by omega) (by omega) (by rw [ei]; exact nI_1 i) _ _ hP hD hS ls (lv_sub hl [1, 0] rfl)
  refine lv_iconst (v := 0) hx hb dX1_init_84 (by decide) ?_
  refine lv_istore_n (lv' := [(1, .int 0), (0, .ref bx)]) hx hb dX1_init_85 rfl hl (by decide) rfl (fun ls hl => ?_)
  refine W.widen (k := 6 + 2 * 0) (n := 69 + 13 * 0) (by decide) (by decide) ?_
  have e0 : f1x G bx bd bo bs bk 0 0 (fun _ => sc) ++ lst G (fun _ => sc) (fun _ => w_sc) (1 + 0) = [(bx, .inr (1, [.ref bd, .ref bo, .ref bs, .int 0, .ref bk, .int 0, .ref sc, .int 0, .int 0, .int 0, .int 0, .int 0])), (bd, eI G 10 (fun _ => 0)), (bo, eI G 10 (fun _ => 0)), (bs, eR G 30 (fun _ => none)), (bk, eR G 6 (fun _ => none)), (sc, .inr (0, [.ref w_sc, .int 0, .int 0])), (w_sc, eI G 10 (fun _ => 0))] := x10
  rw [← e0] at hP hD
  exact loop_86 31 0 _ _ 0 (by omega) (by omega) rfl _ _ hP hD hS ls (lv_sub hl [1, 0] rfl)
