/-! ===== constructors: cells are made ===== -/
def in_Q {α : Type} (G : Gt) (ws' : α → va_W) (A : Nat → Prop) : Array Value → State → Outcome → State → Prop := fun _ st oc t => oc = .returned none ∧ ∃ u : α, va_P G.1 vwCl (ws' u) t.heap ∧ va_D A (ws' u) ∧ va_F A st t
section InitRows
variable {p : Program} {l : Launch} {e : Env} {R : Room} {s : State} {m : MethodId} {args : Array Value} {below : List Frame} {meth : Method} {c : Code} {H : Heap} {locs : List Loc} {cells slots : Nat} {Q : State → Prop}
variable {pc : Nat} {ls : Array Slot} {rest st0 : List Value} {a : Array Value} {A A0 A1 : Nat → Prop} {H0 : Heap} {mc ms : Nat} {free : Addr → Prop} {cc : ByteArray} {G : Gt} {ws : va_W}
theorem in_call {α : Type} {ws' : α → va_W} (hr : va_Run p l e R s m args below meth c H locs cells slots mc ms (F0 m pc ls st0) rest (in_Q G ws' A1 a) free) (hS : va_S A0 H0 H locs) (hA : ∀ q, A1 q → A0 q) (hf : ∀ q, free q → A0 q)
    (kk : ∀ (u : α) (H1 : Heap) (locs1 : List Loc), va_P G.1 vwCl (ws' u) H1 → va_D A1 (ws' u) → (∀ q : Nat, q < H.size → ¬ A1 q → H1[q]? = H[q]?) → va_S A0 H0 H1 locs1 → W p l e R s m args below meth c H1 locs1 (cells + mc) (slots + ms) Q (F0 m (pc + 3) ls rest)) : W p l e R s m args below meth c H locs cells slots Q (F0 m pc ls st0) := by
  intro T hT X
  obtain ⟨v, st₀, t, T', L, h0, X', hL, e1, e2, ⟨hv, u, hp, hd, hz, hk⟩, st⟩ := hr T hT X
  cases hv
  rw [h0] at hz hk
  obtain ⟨t2, a1, b1⟩ := kk u T'.heap (locs ++ L) (by rw [e1]; exact hp) hd (fun q h1 h2 => by rw [e1]; exact hk q h1 h2)
    ⟨Nat.le_trans hS.1 (by rw [e1]; exact hz), fun q h1 h2 => by rw [e1, hk q (Nat.lt_of_lt_of_le h1 hS.1) (fun z => h2 (hA q z))]; exact hS.2.1 q h1 h2, fun q hq => by
      rcases List.mem_append.mp hq with h | h
      · exact hS.2.2 q h
      · exact hf _ (hL q h)⟩ T' rfl X'
  exact ⟨t2, st t2 a1, b1⟩
theorem ra_newa (hexec : p.tables.exec = Jvm.exec) (hb : c.code = cc) {atype : ArrayType} (harr : (Cond.arrayClass (newarray.typeOf atype)).before args s = true) {ty : FieldType} (hty : newarray.typeOf atype = ty) (hK : va_K G.1 vwCl (tyA G) s) (hP : va_P G.1 vwCl ws H) (hD : va_D A ws) (hS : va_S A H0 H locs) (hA : ∀ q, H0.size ≤ q → A q)
    {t0 : Nat} {cT : ClassId} (ht : (tyA G)[t0]? = some (cT, ty)) (hra : ∀ q, va_RA s q ty → s.vm.findClass ("[" ++ ty.toString) = some q)
    {n : Int32} {N' : Nat} {a0 : vp_A} (ha : ∀ cA : ClassId, vp_cell cA a0 = arrV cA N' (fun _ => defaultValue ty)) (hn : ¬ n < 0) (hN : n.toNatClampNeg = N') (hbytes : N' * componentBytes ty ≤ 536870912) (hcells : cells + 1 ≤ R.cells) (hslots : slots + N' ≤ R.slots) (hdg : decode cc pc = .ok (.newarray atype, 2))
    (kk : ∀ (q : Nat) (H1 : Heap), va_P G.1 vwCl (ws ++ [(q, .inl (cT, a0))]) H1 → va_D A (ws ++ [(q, .inl (cT, a0))]) → va_S A H0 H1 locs → W p l e R s m args below meth c H1 locs (cells + 1) (slots + N') Q (F0 m (pc + 2) ls (.ref q :: rest))) : W p l e R s m args below meth c H locs cells slots Q (F0 m pc ls (.int n :: rest)) := by
  refine va_newa hexec hb harr hty hK hP hD hS hA ha hn hN hbytes hcells hslots hdg (fun q cA H1 hK2 hP2 hD2 hS2 => ?_)
  have h1 := hra _ (hK.2 t0 _ ht).2
  have h2 := hra _ (hK2.2 4 (cA, ty) rfl).2
  have e9 : cA = cT := Option.some.inj (h2.symm.trans h1)
  subst e9
  exact kk q H1 hP2 hD2 hS2
theorem ra_newq (hexec : p.tables.exec = Jvm.exec) (hb : c.code = cc) {own : String} {index : Nat} (hown : s.vm.findClass own = some m.cls) (hclink : (Cond.classLink own index RX0).before args s = true) (hover : va_AO RX0 s) (hK : va_K G.1 vwCl (tyA G) s) (hP : va_P G.1 vwCl ws H) (hD : va_D A ws) (hS : va_S A H0 H locs) (hA : ∀ q, H0.size ≤ q → A q)
    {n : Int32} {N' : Nat} (hn : ¬ n < 0) (hN : n.toNatClampNeg = N') (hbytes : N' * 4 ≤ 536870912) (hcells : cells + 1 ≤ R.cells) (hslots : slots + N' ≤ R.slots) (hdg : decode cc pc = .ok (.anewarray index, 3))
    (kk : ∀ (q : Nat) (H1 : Heap), va_P G.1 vwCl (ws ++ [(q, eR G N' (fun _ => none))]) H1 → va_D A (ws ++ [(q, eR G N' (fun _ => none))]) → va_S A H0 H1 locs → W p l e R s m args below meth c H1 locs (cells + 1) (slots + N') Q (F0 m (pc + 3) ls (.ref q :: rest))) : W p l e R s m args below meth c H locs cells slots Q (F0 m pc ls (.int n :: rest)) := by
  refine va_newq hexec hb hown hclink hover hK hP hD hS hA hn hN hbytes hcells hslots hdg (fun q cA H1 hK2 hP2 hD2 hS2 => ?_)
  obtain ⟨_, _, _, _, _, h1⟩ := (hK.2 2 _ rfl).2
  obtain ⟨_, _, _, _, _, h2⟩ := (hK2.2 4 (cA, .object RX0) rfl).2
  have e9 : cA = G.2.2.2.1 := Option.some.inj (h2.symm.trans h1)
  subst e9
  exact kk q H1 hP2 hD2 hS2
end InitRows
/-- behind the constructor of a cell that was just made -/
theorem in_join {G : Gt} {A0 : Nat → Prop} {ws w1 : va_W} {x : Nat × va_E} {H H1 : Heap} (hP : va_P G.1 vwCl (ws ++ [x]) H) (hD : va_D A0 (ws ++ [x])) (hk : ∀ q : Nat, q < H.size → ¬ va_A [x] H.size q → H1[q]? = H[q]?) (hF : ∀ q, va_A [x] H.size q → A0 q) (hP1 : va_P G.1 vwCl w1 H1) (hD1 : va_D (va_A [x] H.size) w1) : va_P G.1 vwCl (ws ++ w1) H1 ∧ va_D A0 (ws ++ w1) := by
  have hx : (ws ++ [x])[ws.length]? = some x := by simp
  have ap : ∀ (k : Nat) (q : Nat × va_E), ws[k]? = some q → q.1 < H.size ∧ ¬ va_A [x] H.size q.1 := by
    intro k q hq
    have hkl := (List.getElem?_eq_some_iff.mp hq).1
    have hq2 : (ws ++ [x])[k]? = some q := by rw [List.getElem?_append_left hkl]; exact hq
    refine ⟨(hP k q hq2).lt, fun h => ?_⟩
    rcases h with ⟨k2, e, h⟩ | h
    · have h0 : k2 = 0 := by have := (List.getElem?_eq_some_iff.mp h).1; simp at this; exact this
      subst h0
      have h3 : x = (q.1, e) := by simpa using h
      have := hD.1 k ws.length q x hq2 hx (by rw [h3])
      omega
    · have := (hP k q hq2).lt
      omega
  refine ⟨va_P.app (fun k q hq => ?_) hP1, va_D.app ⟨fun i j u v hi hj huv => ?_, fun k q hq => ?_⟩ (hD1.weaken (fun k q _ h => hF q.1 h)) (fun i j u v hu hv huv => ?_)⟩
  · have hkl := (List.getElem?_eq_some_iff.mp hq).1
    exact (hP k q (by rw [List.getElem?_append_left hkl]; exact hq)).kept (hk q.1 (ap k q hq).1 (ap k q hq).2)
  · exact hD.1 i j u v (by rw [List.getElem?_append_left (List.getElem?_eq_some_iff.mp hi).1]; exact hi) (by rw [List.getElem?_append_left (List.getElem?_eq_some_iff.mp hj).1]; exact hj) huv
  · exact hD.2 k q (by rw [List.getElem?_append_left (List.getElem?_eq_some_iff.mp hq).1]; exact hq)
  · exact (ap i u hu).2 (by rw [huv]; exact hD1.2 j v hv)
