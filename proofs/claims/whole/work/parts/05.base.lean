/-! ===== the ground of all contracts: the classes' numbers, the array classes, the words of nest mates ===== -/
/-- classes' ids and slots; the array classes: int, boolean, Constraint, long -/
abbrev Gt : Type := va_G × ClassId × ClassId × ClassId × ClassId
abbrev tyA (G : Gt) : List (ClassId × FieldType) := [(G.2.1, .int), (G.2.2.1, .boolean), (G.2.2.2.1, .object RX0), (G.2.2.2.2, .long)]
def ke (G : Gt) (U : State) : Prop := va_K G.1 vwCl (tyA G) U ∧ va_Nw nwInit U ∧ va_Nw nwGiven U ∧ va_Nw nwBit U
theorem ke.warm {G : Gt} {s U : State} (hW : s.WarmedH U.vm) (h : ke G s) : ke G U := ⟨va_K.moved hW.alike h.1, va_Nw.warmM hW h.2.1, va_Nw.warmF hW h.2.2.1, va_Nw.warmM hW h.2.2.2⟩
theorem ke.same {G : Gt} {s U : State} (hv : s.vm = U.vm) (h : ke G s) : ke G U := ⟨va_K.moved (by rw [hv]; exact Vm.Alike.refl _) h.1, va_Nw.same rfl hv h.2.1, va_Nw.same rfl hv h.2.2.1, va_Nw.same rfl hv h.2.2.2⟩
/-- a constraint, an int array -/
abbrev eC (w : Nat) (d g : Int32) : va_E := .inr (0, [.ref w, .int d, .int g])
abbrev eI (G : Gt) (n : Nat) (f : Nat → Int32) : va_E := .inl (G.2.1, n, .inl f)
abbrev eZ (G : Gt) (n : Nat) (f : Nat → Int32) : va_E := .inl (G.2.2.1, n, .inl f)
abbrev eR (G : Gt) (n : Nat) (f : Nat → Option Nat) : va_E := .inl (G.2.2.2.1, n, .inr (.inr (.inr (.inr f))))
abbrev eL (G : Gt) (n : Nat) (f : Nat → Int64) : va_E := .inl (G.2.2.2.2, n, .inr (.inl f))
/-! a method that only reads: its start (QcRead is its end) -/
def ro_P (G : Gt) (av : List Value) (ws : va_W) : Array Value → State → Prop := fun v U => v = av.toArray ∧ va_P G.1 vwCl ws U.heap ∧ ke G U
theorem ro_blind {G : Gt} {av : List Value} {ws : va_W} : FrameBlind (ro_P G av ws) := fun _ _ _ _ h => ⟨h.1, h.2.1, ke.same rfl h.2.2⟩
theorem ro_pre {G : Gt} {s : State} {H : Heap} {ws : va_W} (av : List Value) (hP : va_P G.1 vwCl ws H) (hK : ke G s) : ∀ U : State, U.heap = H → s.WarmedH U.vm → ro_P G av ws av.toArray U := fun U hU hW => ⟨rfl, by rw [hU]; exact hP, ke.warm hW hK⟩
/-! a method that writes in its world: its start and its end -/
def mu_P (G : Gt) (sz : Nat) (av : List Value) (ws : va_W) : Array Value → State → Prop := fun v U => v = av.toArray ∧ U.heap.size = sz ∧ va_P G.1 vwCl ws U.heap ∧ va_D (fun _ => True) ws ∧ ke G U
def mu_Q (G : Gt) (r : Option Value) (ws' : va_W) (A : Nat → Prop) : Array Value → State → Outcome → State → Prop := fun _ st oc t => oc = .returned r ∧ va_P G.1 vwCl ws' t.heap ∧ va_D A ws' ∧ va_F A st t
theorem mu_blind {G : Gt} {sz : Nat} {av : List Value} {ws : va_W} : FrameBlind (mu_P G sz av ws) := fun _ _ _ _ h => ⟨h.1, h.2.1, h.2.2.1, h.2.2.2.1, ke.same rfl h.2.2.2.2⟩
theorem mu_pre {G : Gt} {s : State} {H : Heap} {ws : va_W} {A : Nat → Prop} (av : List Value) (hP : va_P G.1 vwCl ws H) (hD : va_D A ws) (hK : ke G s) : ∀ U : State, U.heap = H → s.WarmedH U.vm → mu_P G H.size av ws av.toArray U := fun U hU hW => ⟨rfl, by rw [hU], by rw [hU]; exact hP, hD.weaken (fun _ _ _ _ => trivial), ke.warm hW hK⟩
section BaseCalls
variable {p : Program} {l : Launch} {e : Env} {R : Room} {s : State} {m : MethodId} {args : Array Value} {below : List Frame} {meth : Method} {c : Code} {H : Heap} {locs : List Loc} {cells slots : Nat} {Q : State → Prop}
variable {pc : Nat} {ls : Array Slot} {rest st0 : List Value} {a : Array Value} {A0 A1 : Nat → Prop} {H0 : Heap} {mc ms : Nat} {free : Addr → Prop}
/-- behind a call that only read -/
theorem ro_call {r : Int32} (hr : va_Run p l e R s m args below meth c H locs cells slots 0 0 (F0 m pc ls st0) rest (QcRead r a) (fun _ => False)) (kk : W p l e R s m args below meth c H locs cells slots Q (F0 m (pc + 3) ls (.int r :: rest))) : W p l e R s m args below meth c H locs cells slots Q (F0 m pc ls st0) := by
  intro T hT X
  obtain ⟨v, st₀, t, T', L, h0, X', hL, e1, e2, ⟨hv, hh⟩, st⟩ := hr T hT X
  cases hv
  obtain ⟨t2, a1, b1⟩ := kk T' (by rw [e1, hh, h0]) (Stand.forget X' (fun q h => (hL q h).elim))
  exact ⟨t2, st t2 a1, b1⟩
/-- behind a call that wrote in its world -/
theorem mu_call {G : Gt} {r : Option Value} {ws' : va_W} (hr : va_Run p l e R s m args below meth c H locs cells slots mc ms (F0 m pc ls st0) rest (mu_Q G r ws' A1 a) free) (hS : va_S A0 H0 H locs) (hA : ∀ q, A1 q → A0 q) (hf : ∀ q, free q → A0 q)
    (kk : ∀ (H1 : Heap) (locs1 : List Loc), va_P G.1 vwCl ws' H1 → va_D A1 ws' → (∀ q : Nat, q < H.size → ¬ A1 q → H1[q]? = H[q]?) → va_S A0 H0 H1 locs1 → W p l e R s m args below meth c H1 locs1 (cells + mc) (slots + ms) Q (F0 m (pc + 3) ls (r.toList ++ rest))) : W p l e R s m args below meth c H locs cells slots Q (F0 m pc ls st0) := by
  intro T hT X
  obtain ⟨v, st₀, t, T', L, h0, X', hL, e1, e2, ⟨hv, hp, hd, hz, hk⟩, st⟩ := hr T hT X
  cases hv
  rw [h0] at hz hk
  obtain ⟨t2, a1, b1⟩ := kk T'.heap (locs ++ L) (by rw [e1]; exact hp) hd (fun q h1 h2 => by rw [e1]; exact hk q h1 h2)
    ⟨Nat.le_trans hS.1 (by rw [e1]; exact hz), fun q h1 h2 => by rw [e1, hk q (Nat.lt_of_lt_of_le h1 hS.1) (fun z => h2 (hA q z))]; exact hS.2.1 q h1 h2, fun q hq => by
      rcases List.mem_append.mp hq with h | h
      · exact hS.2.2 q h
      · exact hf _ (hL q h)⟩ T' rfl X'
  exact ⟨t2, st t2 a1, b1⟩
end BaseCalls
/-- behind a call: in the caller's world the callee's cells (by their places) are those that came back, at the same addresses -/
theorem rp_join {G : Gt} {A0 : Nat → Prop} {ws wc w1 ws' : va_W} {H H1 : Heap} (hP : va_P G.1 vwCl ws H) (hD : va_D A0 ws) (is : List Nat) (hC : is.map (fun i => ws[i]?) = wc.map some) (hk : ∀ q : Nat, q < H.size → ¬ va_A wc H.size q → H1[q]? = H[q]?) (hP1 : va_P G.1 vwCl w1 H1)
    (hs : ∀ (k : Nat) (q : Nat × va_E), ws'[k]? = some q → (∃ j : Nat, w1[j]? = some q) ∨ (k ∉ is ∧ ws[k]? = some q)) (ha : ws'.map Prod.fst = ws.map Prod.fst) : va_P G.1 vwCl ws' H1 ∧ va_D A0 ws' := by
  refine ⟨fun k q hq => ?_, ?_, ?_⟩
  · rcases hs k q hq with ⟨j, hj⟩ | ⟨hn, hw⟩
    · exact hP1 j q hj
    · refine (hP k q hw).kept (hk q.1 (hP k q hw).lt (fun h => ?_))
      rcases h with ⟨k2, e, h⟩ | h
      · have h1 : (is.map (fun i => ws[i]?))[k2]? = some (some (q.1, e)) := by rw [hC, List.getElem?_map, h]; rfl
        rw [List.getElem?_map] at h1
        cases hi : is[k2]? with
        | none => rw [hi] at h1; cases h1
        | some i =>
          rw [hi] at h1
          have h2 := hD.1 k i q (q.1, e) hw (Option.some.inj h1) rfl
          subst h2
          exact hn (List.mem_of_getElem? hi)
      · have := (hP k q hw).lt
        omega
  · intro i j x y hi hj hxy
    have at' : ∀ (k : Nat) (q : Nat × va_E), ws'[k]? = some q → ∃ q0, ws[k]? = some q0 ∧ q0.1 = q.1 := by
      intro k q hq
      have h1 : (ws'.map Prod.fst)[k]? = some q.1 := by rw [List.getElem?_map, hq]; rfl
      rw [ha, List.getElem?_map] at h1
      cases h2 : ws[k]? with
      | none => rw [h2] at h1; cases h1
      | some q0 => rw [h2] at h1; exact ⟨q0, rfl, Option.some.inj h1⟩
    obtain ⟨x0, h1, h2⟩ := at' i x hi
    obtain ⟨y0, h3, h4⟩ := at' j y hj
    exact hD.1 i j x0 y0 h1 h3 (h2.trans (hxy.trans h4.symm))
  · intro k q hq
    have h1 : (ws'.map Prod.fst)[k]? = some q.1 := by rw [List.getElem?_map, hq]; rfl
    rw [ha, List.getElem?_map] at h1
    cases h2 : ws[k]? with
    | none => rw [h2] at h1; cases h1
    | some q0 =>
      rw [h2] at h1
      rw [← Option.some.inj h1]
      exact hD.2 k q0 h2
/-! ===== numbers ===== -/
abbrev absI (x : Int32) : Int32 := if 0 ≤ x then x else 0 - x
abbrev maxI (x y : Int32) : Int32 := if x < y then y else x
abbrev minI (x y : Int32) : Int32 := if y < x then y else x
def bI (b : Bool) : Int32 := if b = true then 1 else 0
theorem nar_bI (b : Bool) : narrow .boolean (.int (bI b)) = .int (bI b) := by cases b <;> rfl
theorem fit_bI (b : Bool) : fits .boolean (.int (bI b)) = true := by cases b <;> rfl
/-- a sum that begins with a -/
def sg (a : Int32) (g : Nat → Int32) : Nat → Int32
  | 0 => a
  | n + 1 => sg a g n + g n
/-- f, but the first n places as g has them -/
def mixf (n : Nat) (g f : Nat → Int32) : Nat → Int32 := fun j => if j < n then g j else f j
theorem mixf_0 (g f : Nat → Int32) : mixf 0 g f = f := by funext j; simp [mixf]
theorem mixf_s (n : Nat) (g f : Nat → Int32) : upd (mixf n g f) n (g n) = mixf (n + 1) g f := by
  funext j
  by_cases h : j = n
  · subst h; simp [upd, mixf]
  · have : (j < n + 1) = (j < n) := by apply propext; omega
    simp [upd, mixf, h, this]
theorem mixf_hi {n j : Nat} (g f : Nat → Int32) (h : n ≤ j) : mixf n g f j = f j := by simp [mixf, Nat.not_lt.mpr h]
theorem mixf_lo {n j : Nat} (g f : Nat → Int32) (h : j < n) : mixf n g f j = g j := by simp [mixf, h]
theorem lt_ix {i N : Nat} {x M : Int32} (hx : x = nI i) (hM : M = nI N) (hN : N < 2 ^ 31) (h : ¬ M ≤ x) (hi : i ≤ N) : i < N := by
  rcases Nat.lt_or_ge i N with q | q
  · exact q
  · exact absurd (by rw [hx, hM]; exact nI_le q (by omega)) h
theorem ge_ix {i N : Nat} {x M : Int32} (hx : x = nI i) (hM : M = nI N) (hN : N < 2 ^ 31) (h : M ≤ x) (hi : i ≤ N) : i = N := by
  rcases Nat.lt_or_ge i N with q | q
  · exact absurd (by rw [hx, hM] at h; exact h) (nI_ge q hN)
  · omega
def anyB (g : Nat → Bool) : Nat → Bool
  | 0 => false
  | n + 1 => anyB g n || g n
theorem anyB_true {g : Nat → Bool} {i : Nat} (h : g i = true) : ∀ n, i < n → anyB g n = true
  | 0, hn => absurd hn (Nat.not_lt_zero _)
  | n + 1, hn => by
    by_cases e : i = n
    · subst e; simp [anyB, h]
    · simp [anyB, anyB_true h n (by omega)]
def allB (g : Nat → Bool) : Nat → Bool
  | 0 => true
  | n + 1 => allB g n && g n
theorem allB_false {g : Nat → Bool} {i : Nat} (h : g i = false) : ∀ n, i < n → allB g n = false
  | 0, hn => absurd hn (Nat.not_lt_zero _)
  | n + 1, hn => by
    by_cases e : i = n
    · subst e; simp [allB, h]
    · simp [allB, allB_false h n (by omega)]
section BaseRows
variable {p : Program} {l : Launch} {e : Env} {R : Room} {s : State} {m : MethodId} {args : Array Value} {below : List Frame} {meth : Method} {c : Code} {H : Heap} {locs : List Loc} {cells slots : Nat} {Q : State → Prop}
variable {cc : ByteArray} {pc : Nat} {ls : Array Slot} {rest : List Value} {D : va_G} {cl : List vw_C} {A : Nat → Prop} {a : Nat} {tys : List (ClassId × FieldType)} {ws : va_W} {H0 : Heap}
/-- array rows whose index is a number -/
theorem ra_iald (hexec : p.tables.exec = Jvm.exec) (hb : c.code = cc) (hK : va_K D cl tys s) (hP : va_P D cl ws H) (q0 t0 : Nat) {cA : ClassId} {n : Nat} {f : Nat → Int32} (ha : ws[q0]? = some (a, .inl (cA, n, .inl f))) (ht : tys[t0]? = some (cA, .int)) {i : Int32} {v : Nat} (hi : i = nI v) (hv : v < n) (hn : n < 2 ^ 31) (hdg : decode cc pc = .ok (.iaload, 1))
    (kk : W p l e R s m args below meth c H locs cells slots Q (F0 m (pc + 1) ls (.int (f v) :: rest))) : W p l e R s m args below meth c H locs cells slots Q (F0 m pc ls (.int i :: .ref a :: rest)) := by
  subst hi
  exact va_iald hexec hb hK hP q0 t0 ha ht (vp_in_nI hv hn) hdg (by rw [nI_clamp (by omega)]; exact kk)
theorem ra_zald (hexec : p.tables.exec = Jvm.exec) (hb : c.code = cc) (hK : va_K D cl tys s) (hP : va_P D cl ws H) (q0 t0 : Nat) {cA : ClassId} {n : Nat} {f : Nat → Int32} (ha : ws[q0]? = some (a, .inl (cA, n, .inl f))) (ht : tys[t0]? = some (cA, .boolean)) {i : Int32} {v : Nat} (hi : i = nI v) (hv : v < n) (hn : n < 2 ^ 31) (hdg : decode cc pc = .ok (.baload, 1))
    (kk : W p l e R s m args below meth c H locs cells slots Q (F0 m (pc + 1) ls (.int (f v) :: rest))) : W p l e R s m args below meth c H locs cells slots Q (F0 m pc ls (.int i :: .ref a :: rest)) := by
  subst hi
  exact va_zald hexec hb hK hP q0 t0 ha ht (vp_in_nI hv hn) hdg (by rw [nI_clamp (by omega)]; exact kk)
theorem ra_iast (hexec : p.tables.exec = Jvm.exec) (hb : c.code = cc) (hK : va_K D cl tys s) (hP : va_P D cl ws H) (hD : va_D A ws) (hS : va_S A H0 H locs) (q0 t0 : Nat) {cA : ClassId} {n : Nat} {f : Nat → Int32} (ha : ws[q0]? = some (a, .inl (cA, n, .inl f))) (ht : tys[t0]? = some (cA, .int)) {i : Int32} {x : Int32} {v : Nat} (hi : i = nI v) (hv : v < n) (hn : n < 2 ^ 31) (hdg : decode cc pc = .ok (.iastore, 1))
    (kk : ∀ (H1 : Heap) (locs1 : List Loc), va_P D cl (ws.set q0 (a, .inl (cA, n, .inl (upd f v x)))) H1 → va_D A (ws.set q0 (a, .inl (cA, n, .inl (upd f v x)))) → va_S A H0 H1 locs1 → W p l e R s m args below meth c H1 locs1 cells slots Q (F0 m (pc + 1) ls rest)) : W p l e R s m args below meth c H locs cells slots Q (F0 m pc ls (.int x :: .int i :: .ref a :: rest)) := by
  subst hi
  exact va_iast hexec hb hK hP hD hS q0 t0 ha ht (vp_in_nI hv hn) hdg (by rw [nI_clamp (by omega)]; exact kk)
theorem ra_zast (hexec : p.tables.exec = Jvm.exec) (hb : c.code = cc) (hK : va_K D cl tys s) (hP : va_P D cl ws H) (hD : va_D A ws) (hS : va_S A H0 H locs) (q0 t0 : Nat) {cA : ClassId} {n : Nat} {f : Nat → Int32} (ha : ws[q0]? = some (a, .inl (cA, n, .inl f))) (ht : tys[t0]? = some (cA, .boolean)) {i : Int32} {x : Int32} {v : Nat} (hi : i = nI v) (hv : v < n) (hn : n < 2 ^ 31) (hnar : vp_nar .boolean x = x) (hdg : decode cc pc = .ok (.bastore, 1))
    (kk : ∀ (H1 : Heap) (locs1 : List Loc), va_P D cl (ws.set q0 (a, .inl (cA, n, .inl (upd f v x)))) H1 → va_D A (ws.set q0 (a, .inl (cA, n, .inl (upd f v x)))) → va_S A H0 H1 locs1 → W p l e R s m args below meth c H1 locs1 cells slots Q (F0 m (pc + 1) ls rest)) : W p l e R s m args below meth c H locs cells slots Q (F0 m pc ls (.int x :: .int i :: .ref a :: rest)) := by
  subst hi
  exact va_zast hexec hb hK hP hD hS q0 t0 ha ht (vp_in_nI hv hn) hdg (by rw [nI_clamp (by omega), hnar]; exact kk)
theorem ra_copy (hexec : p.tables.exec = Jvm.exec) (hb : c.code = cc) (hml : c.maxLocals = ls.size) {own : String} {index : Nat} (hown : s.vm.findClass own = some m.cls) (hlink : (Cond.methodLink own index arraycopyName).before args s = true) (hnat : (Cond.native arraycopyName).before args s = true) (hstat : (Cond.static arraycopyName).before args s = true) (hini : (Cond.initialized "java/lang/System").before args s = true)
    (hK : va_K D cl tys s) (hP : va_P D cl ws H) (hD : va_D A ws) (hS : va_S A H0 H locs) (q0 q1 t0 t1 : Nat) {a0 : Nat} {c0 c1 : ClassId} {n0 n1 : Nat} {f g : Nat → Int32} (ha0 : ws[q0]? = some (a0, .inl (c0, n0, .inl f))) (ha1 : ws[q1]? = some (a, .inl (c1, n1, .inl g))) (ht0 : tys[t0]? = some (c0, .int)) (ht1 : tys[t1]? = some (c1, .int))
    {n : Int32} {N : Nat} (hN : n = nI N) (hlt : N < 2 ^ 31) (h4 : N ≤ n0) (h5 : N ≤ n1) (hframes : 1 ≤ R.frames) (hlocals : (rest.map fun v => v.category).sum + (nativeFrameWords "java/lang/System" "arraycopy" 5 + 11) ≤ R.locals) (hdg : decode cc pc = .ok (.invokestatic index, 3))
    (kk : ∀ (H1 : Heap) (locs1 : List Loc), va_P D cl (ws.set q1 (a, .inl (c1, n1, .inl (va_cpy f g 0 0 N)))) H1 → va_D A (ws.set q1 (a, .inl (c1, n1, .inl (va_cpy f g 0 0 N)))) → va_S A H0 H1 locs1 → W p l e R s m args below meth c H1 locs1 cells slots Q (F0 m (pc + 3) ls rest)) : W p l e R s m args below meth c H locs cells slots Q (F0 m pc ls (.int n :: .int 0 :: .ref a :: .int 0 :: .ref a0 :: rest)) := by
  subst hN
  have e0 : (0 : Int32).toNatClampNeg = 0 := by decide
  have eN : (nI N).toNatClampNeg = N := nI_clamp hlt
  exact va_copyi hexec hb hml hown hlink hnat hstat hini hK hP hD hS q0 q1 t0 t1 ha0 ha1 ht0 ht1 rfl (by decide) (by decide) (nI_pos hlt) (by rw [e0, eN]; omega) (by rw [e0, eN]; omega) (fun _ _ => rfl) hframes hlocals hdg (by rw [e0, eN]; exact kk)
end BaseRows
theorem cpy_mix (f g : Nat → Int32) (N : Nat) : va_cpy f g 0 0 N = mixf N f g := by
  funext j
  simp [va_cpy, mixf]
