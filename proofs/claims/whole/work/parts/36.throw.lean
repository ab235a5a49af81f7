/-! ===== methods that throw: nothing that was there has changed, but one new cell ===== -/
abbrev eIA : String := "java/lang/IllegalArgumentException"
abbrev eIS : String := "java/lang/IllegalStateException"
abbrev eNS : String := "java/util/NoSuchElementException"
abbrev eAR : String := "java/lang/ArithmeticException"
abbrev nmE : List String := ["java/lang/RuntimeException", "java/lang/Exception"]
def xB (E : String) : List Cond := [.declares (Bundle.init0 "java/lang/RuntimeException"), .declares (Bundle.init0 "java/lang/Exception"), .declares (Bundle.init0 "java/lang/Throwable"), .castable E E]
theorem xB_moved {E : String} {u U : State} (hvm : u.vm.Alike U.vm) (h : ∀ w ∈ xB E, va_Nw w u) : ∀ w ∈ xB E, va_Nw w U := by
  intro w hw
  have hu := h w hw
  simp only [xB, List.mem_cons, List.not_mem_nil, or_false] at hw
  rcases hw with rfl | rfl | rfl | rfl
  · exact va_tabs rfl (rfl : (u.setVm U.vm).vm = U.vm) (by rw [Cond.declares_setVm (args := #[]) hvm]; exact hu)
  · exact va_tabs rfl (rfl : (u.setVm U.vm).vm = U.vm) (by rw [Cond.declares_setVm (args := #[]) hvm]; exact hu)
  · exact va_tabs rfl (rfl : (u.setVm U.vm).vm = U.vm) (by rw [Cond.declares_setVm (args := #[]) hvm]; exact hu)
  · exact va_tabs rfl (rfl : (u.setVm U.vm).vm = U.vm) (by rw [Cond.castable_setVm (args := #[]) hvm]; exact hu)
def xNo (a b c d : String) (U : State) : Prop := va_Nc a b U ∧ va_Nc a c U ∧ va_Nc a d U
def xw (U : State) : Prop := ((∀ w ∈ xB eIA, va_Nw w U) ∧ (∀ w ∈ xB eIS, va_Nw w U) ∧ (∀ w ∈ xB eNS, va_Nw w U) ∧ (∀ w ∈ xB eAR, va_Nw w U)) ∧ xNo eIA eIS eNS eAR U ∧ xNo eIS eIA eNS eAR U ∧ xNo eNS eIA eIS eAR U ∧ xNo eAR eIA eIS eNS U
theorem xNo.moved {a b c d : String} {u U : State} (hvm : u.vm.Alike U.vm) (h : xNo a b c d u) : xNo a b c d U := ⟨va_Nc.moved hvm h.1, va_Nc.moved hvm h.2.1, va_Nc.moved hvm h.2.2⟩
theorem xw.moved {u U : State} (hvm : u.vm.Alike U.vm) (h : xw u) : xw U := ⟨⟨xB_moved hvm h.1.1, xB_moved hvm h.1.2.1, xB_moved hvm h.1.2.2.1, xB_moved hvm h.1.2.2.2⟩, h.2.1.moved hvm, h.2.2.1.moved hvm, h.2.2.2.1.moved hvm, h.2.2.2.2.moved hvm⟩
def zz (A : Nat → Prop) (U : State) (H : Heap) : Prop := vx_Zq Bundle.tN "UNASSIGNED_STACK" Bundle.steD A U H ∧ vx_Zq Bundle.tN "SUPPRESSED_SENTINEL" Bundle.listD A U H
theorem zz.moved {A : Nat → Prop} {u U : State} {H : Heap} (hvm : u.vm.Alike U.vm) (h : zz A u H) : zz A U H := ⟨h.1.moved hvm, h.2.moved hvm⟩
theorem zz.kept {A : Nat → Prop} {U : State} {H H1 : Heap} (h : zz A U H) (hq : ∀ a : Nat, a < H.size → ¬ A a → H1[a]? = H[a]?) : zz A U H1 := ⟨h.1.kept hq, h.2.kept hq⟩
theorem zz.narrow {A B : Nat → Prop} {U : State} {H : Heap} (h : zz A U H) (hAB : ∀ q, B q → A q) : zz B U H := ⟨h.1.narrow hAB, h.2.narrow hAB⟩
/-- the words of an exception's making, out of the method's own and xw -/
theorem xat {own : String} {ic : Nat} {E : String} {args : Array Value} {s : State} (h0 : ∀ w ∈ (vx_at0 own ic E nmE).filter (fun w => !goodWord w), w ∈ xB E) (h1 : ∀ w ∈ (vx_at0 own ic E nmE).filter goodWord, w.before args s = true) (hx : ∀ w ∈ xB E, va_Nw w s) (hT : ∀ w ∈ xB E, w.onTables = true) : ∀ w ∈ vx_at0 own ic E nmE, w.before args s = true :=
  vx_hat (B := xB E) h1 h0 (fun w h => va_Nw.use (hT w h) (hx w h))
theorem xB_on (E : String) : ∀ w ∈ xB E, w.onTables = true := by
  intro w hw
  simp only [xB, List.mem_cons, List.not_mem_nil, or_false] at hw
  rcases hw with rfl | rfl | rfl | rfl <;> rfl
def tn_P (G : Gt) (av : List Value) (ws : va_W) : Array Value → State → Prop := fun v U => ro_P G av ws v U ∧ xw U ∧ zz (fun _ => False) U U.heap
theorem tn_blind {G : Gt} {av : List Value} {ws : va_W} : FrameBlind (tn_P G av ws) := fun a U g mk h => ⟨ro_blind a U g mk h.1, xw.moved (u := U) (U := U.calling g mk a) (Vm.Alike.refl U.vm) h.2.1, zz.moved (u := U) (U := U.calling g mk a) (Vm.Alike.refl U.vm) h.2.2⟩
theorem tn_pre {G : Gt} {s : State} {H : Heap} {ws : va_W} (av : List Value) (hP : va_P G.1 vwCl ws H) (hK : ke G s) (hx : xw s) (hz : zz (fun _ => False) s H) : ∀ U : State, U.heap = H → s.WarmedH U.vm → tn_P G av ws av.toArray U := fun U hU hW => ⟨ro_pre av hP hK U hU hW, hx.moved hW.alike, by rw [hU]; exact hz.moved hW.alike⟩
abbrev tn_X (E0 : String) : String → State → State → Prop := vx_X (fun _ : Unit => True) (fun E _ _ => E = E0) (fun _ => False)
abbrev tn_Qv : Array Value → State → Outcome → State → Prop := va_Qv (fun _ : Unit => False) (fun _ _ => True) (fun _ => False)
abbrev tn_Qi : Array Value → State → Outcome → State → Prop := va_Qi (fun (_ : Int32) (_ : Unit) => False) (fun _ _ => True) (fun _ => False)
theorem tn_at {E0 : String} {s : State} : ∀ t : State, s.vm.Alike t.vm → s.heap.size ≤ t.heap.size → (∀ q : Nat, q < s.heap.size → t.heap[q]? = s.heap[q]?) → tn_X E0 E0 s t := fun _ _ h1 h2 => ⟨(), trivial, rfl, h1, fun q hq _ => h2 q hq⟩
/-- .. or the method's world has changed before -/
def tw_P (G : Gt) (sz : Nat) (av : List Value) (ws : va_W) : Array Value → State → Prop := fun v U => mu_P G sz av ws v U ∧ xw U ∧ zz (va_A ws sz) U U.heap
theorem tw_blind {G : Gt} {sz : Nat} {av : List Value} {ws : va_W} : FrameBlind (tw_P G sz av ws) := fun a U g mk h => ⟨mu_blind a U g mk h.1, xw.moved (u := U) (U := U.calling g mk a) (Vm.Alike.refl U.vm) h.2.1, zz.moved (u := U) (U := U.calling g mk a) (Vm.Alike.refl U.vm) h.2.2⟩
theorem tw_pre {G : Gt} {s : State} {H : Heap} {ws : va_W} {A : Nat → Prop} (av : List Value) (hP : va_P G.1 vwCl ws H) (hD : va_D A ws) (hK : ke G s) (hx : xw s) (hz : zz (va_A ws H.size) s H) : ∀ U : State, U.heap = H → s.WarmedH U.vm → tw_P G H.size av ws av.toArray U := fun U hU hW => ⟨mu_pre av hP hD hK U hU hW, hx.moved hW.alike, by rw [hU]; exact hz.moved hW.alike⟩
abbrev tw_X (G : Gt) (E0 : String) (ws' : va_W) (A : Nat → Prop) : String → State → State → Prop := vx_X (fun _ : Unit => True) (fun E _ t => E = E0 ∧ va_P G.1 vwCl ws' t.heap ∧ va_D A ws') A
section Thru
variable {p : Program} {l : Launch} {e : Env} {R : Room} {s : State} {m : MethodId} {args : Array Value} {below : List Frame} {meth : Method} {c : Code} {pc : Nat} {ls : Array Slot} {rest st0 : List Value} {a : Array Value} {Qc : Array Value → State → Outcome → State → Prop}
/-- what a callee throws goes on -/
theorem tn_callv {E0 : String} (hr : vx_Run p l e R s m args below meth c s.heap [] 0 0 1 6 (F0 m pc ls st0) rest (tn_Qv a) (tn_X E0) (fun _ => False)) (htab : ∀ x ∈ c.exceptionTable.toList, False) (hlocks : meth.locks = false) :
    W p l e R s m args below meth c s.heap [] 0 0 (vx_MQ below Qc (tn_X E0) args s 1 6 (fun _ => False)) (F0 m pc ls st0) := by
  refine vx_callv hr (A0 := fun _ => False) va_S.rf (fun _ _ h => h) (fun _ h => h) (fun _ _ h => h) (fun E ce q9 u t H1 locs ht hvm hpx hB hz1 hk1 hS hq hcv hcl => ?_) (fun u t H1 locs _ _ hf => hf.elim)
  refine vx_out (fun x h => (htab x h).elim) hlocks hq hcv hcl (fun t2 ht2 _ => ⟨(), trivial, hB, by rw [ht2]; exact hz1, fun q hq2 _ => by rw [ht2]; exact hk1 q hq2 id⟩) (fun z hz => (hS.2.2 z hz).elim) (Nat.le_of_ble_eq_true rfl) (Nat.le_of_ble_eq_true rfl)
theorem tw_callv {G : Gt} {E0 : String} {ws' : va_W} {A : Nat → Prop} {H : Heap} {locs : List Loc} (hr : vx_Run p l e R s m args below meth c H locs 0 0 1 6 (F0 m pc ls st0) rest (tn_Qv a) (tn_X E0) (fun _ => False)) (htab : ∀ x ∈ c.exceptionTable.toList, False) (hlocks : meth.locks = false) (hS : va_S A s.heap H locs) (hP : va_P G.1 vwCl ws' H) (hD : va_D A ws') :
    W p l e R s m args below meth c H locs 0 0 (vx_MQ below Qc (tw_X G E0 ws' A) args s 1 6 A) (F0 m pc ls st0) := by
  refine vx_callv hr hS (fun _ _ h => h.elim) (fun _ h => h.elim) (fun _ _ h => h.elim) (fun E ce q9 u t H1 locs ht hvm hpx hB hz1 hk1 hS1 hq hcv hcl => ?_) (fun u t H1 locs _ _ hf => hf.elim)
  refine vx_out (fun x h => (htab x h).elim) hlocks hq hcv hcl (fun t2 ht2 _ => ⟨(), trivial, ⟨hB, by rw [ht2]; exact hP.kept (fun k q h => hk1 q.1 (hP k q h).lt id), hD⟩, hS1.F ht2⟩) hS1.2.2 (Nat.le_of_ble_eq_true rfl) (Nat.le_of_ble_eq_true rfl)
end Thru
