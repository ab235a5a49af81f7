/-! ===== the board's world: its own five cells, then 37 constraints (30 of the store, 6 of the stack, the scratch), then their weights ===== -/
def pool (G : Gt) (ca wa : Nat → Nat) (ro : Nat → Nat → Int32) (dg gv : Nat → Int32) : va_W :=
  (List.range 37).map (fun i => (ca i, eC (wa i) (dg i) (gv i))) ++ (List.range 37).map (fun i => (wa i, eI G 10 (ro i)))
section Pool
variable {G : Gt} {ca wa : Nat → Nat} {ro : Nat → Nat → Int32} {dg gv : Nat → Int32} {F : va_W} {A0 : Nat → Prop} {H H1 : Heap}
theorem pool_c (hF : F.length = 5) {i : Nat} (hi : i < 37) : (F ++ pool G ca wa ro dg gv)[5 + i]? = some (ca i, eC (wa i) (dg i) (gv i)) := by
  rw [List.getElem?_append_right (by omega), hF, show 5 + i - 5 = i by omega]
  unfold pool
  rw [List.getElem?_append_left (by simp [hi]), List.getElem?_map, List.getElem?_range hi]
  rfl
theorem pool_w (hF : F.length = 5) {i : Nat} (hi : i < 37) : (F ++ pool G ca wa ro dg gv)[42 + i]? = some (wa i, eI G 10 (ro i)) := by
  rw [List.getElem?_append_right (by omega), hF, show 42 + i - 5 = 37 + i by omega]
  unfold pool
  rw [List.getElem?_append_right (by simp), List.getElem?_map]
  have e : 37 + i - ((List.range 37).map (fun i => (ca i, eC (wa i) (dg i) (gv i)))).length = i := by simp
  rw [e, List.getElem?_range hi]
  rfl
theorem pool_up (hF : F.length = 5) {k : Nat} (r : Nat → Int32) (d g : Int32) {p : Nat} (h1 : p ≠ 5 + k) (h2 : p ≠ 42 + k) : (F ++ pool G ca wa (va_up ro k r) (va_up dg k d) (va_up gv k g))[p]? = (F ++ pool G ca wa ro dg gv)[p]? := by
  by_cases hp : p < 5
  · rw [List.getElem?_append_left (by omega), List.getElem?_append_left (by omega)]
  · obtain ⟨i, rfl⟩ : ∃ i, p = 5 + i := ⟨p - 5, by omega⟩
    by_cases hi : i < 37
    · rw [pool_c hF hi, pool_c hF hi, va_up_ne _ _ (by omega), va_up_ne _ _ (by omega)]
    · obtain ⟨j, rfl⟩ : ∃ j, i = 37 + j := ⟨i - 37, by omega⟩
      by_cases hj : j < 37
      · rw [show 5 + (37 + j) = 42 + j by omega, pool_w hF hj, pool_w hF hj, va_up_ne _ _ (by omega)]
      · rw [List.getElem?_eq_none (by simp [pool]; omega), List.getElem?_eq_none (by simp [pool]; omega)]
theorem pool_fst (r : Nat → Nat → Int32) (d g : Nat → Int32) : (F ++ pool G ca wa r d g).map Prod.fst = (F ++ pool G ca wa ro dg gv).map Prod.fst := by
  simp [pool, List.map_append, List.map_map, Function.comp_def]
theorem lc {α : Type} {a b : α} {l l' : List α} (h : a = b) (t : l = l') : a :: l = b :: l' := by rw [h, t]
/-- behind a call on the constraint k: it alone has changed; the other cells that the callee had came back as they were -/
theorem pj (hF : F.length = 5) {k : Nat} (hk : k < 37) {wc w1 : va_W} {is' : List Nat} {r : Nat → Int32} {d g : Int32} (hP : va_P G.1 vwCl (F ++ pool G ca wa ro dg gv) H) (hD : va_D A0 (F ++ pool G ca wa ro dg gv))
    (hC : ((5 + k) :: (42 + k) :: is').map (fun i => (F ++ pool G ca wa ro dg gv)[i]?) = wc.map some) (hk1 : ∀ q : Nat, q < H.size → ¬ va_A wc H.size q → H1[q]? = H[q]?) (hP1 : va_P G.1 vwCl w1 H1)
    (h0 : w1[0]? = some (ca k, eC (wa k) d g)) (h1 : w1[1]? = some (wa k, eI G 10 r)) (hr : ∀ (j : Nat) (q : Nat × va_E), wc[j + 2]? = some q → ∃ j2 : Nat, w1[j2]? = some q) :
    va_P G.1 vwCl (F ++ pool G ca wa (va_up ro k r) (va_up dg k d) (va_up gv k g)) H1 ∧ va_D A0 (F ++ pool G ca wa (va_up ro k r) (va_up dg k d) (va_up gv k g)) := by
  refine rp_join hP hD ((5 + k) :: (42 + k) :: is') hC hk1 hP1 (fun p q hq => ?_) (pool_fst _ _ _)
  by_cases e1 : p = 5 + k
  · subst e1
    rw [pool_c hF hk, va_up_self, va_up_self] at hq
    exact Or.inl ⟨0, h0.trans hq⟩
  · by_cases e2 : p = 42 + k
    · subst e2
      rw [pool_w hF hk, va_up_self] at hq
      exact Or.inl ⟨1, h1.trans hq⟩
    · rw [pool_up hF r d g e1 e2] at hq
      by_cases hm : p ∈ is'
      · obtain ⟨j, hj⟩ := List.getElem?_of_mem hm
        left
        refine hr j q ?_
        have h9 : (((5 + k) :: (42 + k) :: is').map (fun i => (F ++ pool G ca wa ro dg gv)[i]?))[j + 2]? = some (some q) := by
          simp only [List.map_cons, List.getElem?_cons_succ, List.getElem?_map, hj, Option.map_some, hq]
        rw [hC, List.getElem?_map] at h9
        cases h8 : wc[j + 2]? with
        | none => rw [h8] at h9; cases h9
        | some z => rw [h8] at h9; rw [Option.some.inj (Option.some.inj h9)]
      · exact Or.inr ⟨by simp only [List.mem_cons, not_or]; exact ⟨e1, e2, hm⟩, hq⟩
/-- one field of one constraint is written -/
theorem pool_set (hF : F.length = 5) {k : Nat} (hk : k < 37) (g : Int32) : (F ++ pool G ca wa ro dg gv).set (5 + k) (ca k, eC (wa k) (dg k) g) = F ++ pool G ca wa ro dg (va_up gv k g) := by
  apply List.ext_getElem?
  intro p
  by_cases e1 : p = 5 + k
  · subst e1
    rw [pool_c hF hk, va_up_self, List.getElem?_set_self (by simp [pool]; omega)]
  · rw [List.getElem?_set_ne (by omega)]
    by_cases e2 : p = 42 + k
    · subst e2; rw [pool_w hF hk, pool_w hF hk]
    · have h := pool_up (G := G) (ca := ca) (wa := wa) (ro := ro) (dg := dg) (gv := gv) hF (ro k) (dg k) g e1 e2
      have e3 : va_up ro k (ro k) = ro := by funext j; by_cases hj : j = k <;> simp [va_up, hj]
      have e4 : va_up dg k (dg k) = dg := by funext j; by_cases hj : j = k <;> simp [va_up, hj]
      rw [e3, e4] at h
      exact h.symm
end Pool
theorem upS {α : Type} (f : Nat → α) (k : Nat) : va_up f k (f k) = f := by funext j; by_cases hj : j = k <;> simp [va_up, hj]
theorem nd2 (k : Nat) : va_nd [5 + k, 42 + k] = true := by simp [va_nd]
theorem nd3 (k j : Nat) (hj : j < 5) : va_nd [5 + k, 42 + k, j] = true := by simp [va_nd]; omega
theorem nd4 {k i : Nat} (hk : k < 37) (hi : i < 37) (h : k ≠ i) : va_nd [5 + k, 42 + k, 5 + i, 42 + i] = true := by simp [va_nd]; omega
theorem nd6 {k i j : Nat} (hk : k < 37) (hi : i < 37) (hj : j < 37) (h : k ≠ i) (h2 : k ≠ j) (h3 : i ≠ j) : va_nd [5 + k, 42 + k, 5 + i, 42 + i, 5 + j, 42 + j] = true := by simp [va_nd]; omega
theorem lcP {G : Gt} {ws wc : va_W} {H : Heap} (is : List Nat) (hP : va_P G.1 vwCl ws H) (hC : is.map (fun i => ws[i]?) = wc.map some) : va_P G.1 vwCl wc H := by
  intro k q hk
  have h1 : (is.map (fun i => ws[i]?))[k]? = some (some q) := by rw [hC, List.getElem?_map, hk]; rfl
  rw [List.getElem?_map] at h1
  cases hi : is[k]? with
  | none => rw [hi] at h1; cases h1
  | some i => rw [hi] at h1; exact hP i q (Option.some.inj h1)
section BoardRows
variable {p : Program} {l : Launch} {e : Env} {R : Room} {s : State} {m : MethodId} {args : Array Value} {below : List Frame} {meth : Method} {c : Code} {H : Heap} {locs : List Loc} {cells slots : Nat} {Q : State → Prop}
variable {cc : ByteArray} {pc : Nat} {ls : Array Slot} {rest : List Value} {D : va_G} {cl : List vw_C} {a : Nat} {tys : List (ClassId × FieldType)} {ws : va_W}
theorem ra_aald (hexec : p.tables.exec = Jvm.exec) (hb : c.code = cc) (hK : va_K D cl tys s) (hP : va_P D cl ws H) (q0 t0 : Nat) {cA : ClassId} {C : String} {n : Nat} {f : Nat → Option Nat} (ha : ws[q0]? = some (a, .inl (cA, n, .inr (.inr (.inr (.inr f)))))) (ht : tys[t0]? = some (cA, .object C)) {i : Int32} {v b : Nat} (hi : i = nI v) (hv : v < n) (hn : n < 2 ^ 31) (hf : f v = some b) (hdg : decode cc pc = .ok (.aaload, 1))
    (kk : W p l e R s m args below meth c H locs cells slots Q (F0 m (pc + 1) ls (.ref b :: rest))) : W p l e R s m args below meth c H locs cells slots Q (F0 m pc ls (.int i :: .ref a :: rest)) := by
  subst hi
  refine va_aldq hexec hb hK hP q0 t0 ha ht (vp_in_nI hv hn) hdg ?_
  rw [nI_clamp (by omega), hf]
  exact kk
end BoardRows
/-- a method that only reads and answers nothing -/
def ro_V : Array Value → State → Outcome → State → Prop := fun _ st oc t => oc = .returned none ∧ t.heap = st.heap
theorem ro_callv {p : Program} {l : Launch} {e : Env} {R : Room} {s : State} {m : MethodId} {args : Array Value} {below : List Frame} {meth : Method} {c : Code} {H : Heap} {locs : List Loc} {cells slots : Nat} {Q : State → Prop} {pc : Nat} {ls : Array Slot} {rest st0 : List Value} {a : Array Value} (hr : va_Run p l e R s m args below meth c H locs cells slots 0 0 (F0 m pc ls st0) rest (ro_V a) (fun _ => False)) (kk : W p l e R s m args below meth c H locs cells slots Q (F0 m (pc + 3) ls rest)) : W p l e R s m args below meth c H locs cells slots Q (F0 m pc ls st0) := by
  intro T hT X
  obtain ⟨v, st₀, t, T', L, h0, X', hL, e1, e2, ⟨hv, hh⟩, st⟩ := hr T hT X
  cases hv
  obtain ⟨t2, a1, b1⟩ := kk T' (by rw [e1, hh, h0]) (Stand.forget X' (fun q h => (hL q h).elim))
  exact ⟨t2, st t2 a1, b1⟩
theorem va_freeW {A0 : Nat → Prop} {ws : va_W} {H0 H : Heap} {locs : List Loc} (hD : va_D A0 ws) (hS : va_S A0 H0 H locs) (hA : ∀ q, H0.size ≤ q → A0 q) : ∀ q, va_A ws H.size q → A0 q := by
  intro q h
  rcases h with ⟨k, e, h⟩ | h
  · exact hD.2 k (q, e) h
  · exact hA q (Nat.le_trans hS.1 h)
