/-! ===== the law's world: the reference's cells, the long array, the board's ===== -/
/-- the board: stored, stacked, taken, best, solved, least, answer; draft, objective; weights, degrees, given -/
abbrev BT : Type := (Int32 × Int32 × Int32 × Int32 × Int32 × Int32 × Int32) × (Nat → Int32) × (Nat → Int32) × (Nat → Nat → Int32) × (Nat → Int32) × (Nat → Int32)
abbrev mkB (st sk tk be so le an : Int32) (fd fo : Nat → Int32) (ro : Nat → Nat → Int32) (dg gv : Nat → Int32) : BT := ((st, sk, tk, be, so, le, an), fd, fo, ro, dg, gv)
abbrev bst (b : BT) : Int32 := b.1.1
abbrev bsk (b : BT) : Int32 := b.1.2.1
abbrev btk (b : BT) : Int32 := b.1.2.2.1
abbrev bbe (b : BT) : Int32 := b.1.2.2.2.1
abbrev bso (b : BT) : Int32 := b.1.2.2.2.2.1
abbrev ble (b : BT) : Int32 := b.1.2.2.2.2.2.1
abbrev ban (b : BT) : Int32 := b.1.2.2.2.2.2.2
abbrev bfd (b : BT) : Nat → Int32 := b.2.1
abbrev bfo (b : BT) : Nat → Int32 := b.2.2.1
abbrev bro (b : BT) : Nat → Nat → Int32 := b.2.2.2.1
abbrev bdg (b : BT) : Nat → Int32 := b.2.2.2.2.1
abbrev bgv (b : BT) : Nat → Int32 := b.2.2.2.2.2
def bw (G : Gt) (bx bd bo bs bk : Nat) (ca wa : Nat → Nat) (b : BT) : va_W := [(bx, .inr (1, [.ref bd, .ref bo, .ref bs, .int (bst b), .ref bk, .int (bsk b), .ref (ca 36), .int (btk b), .int (bbe b), .int (bso b), .int (ble b), .int (ban b)])), (bd, eI G 10 (bfd b)), (bo, eI G 10 (bfo b)), (bs, eR G 30 (fun k => some (ca k))), (bk, eR G 6 (fun k => some (ca (30 + k))))] ++ pool G ca wa (bro b) (bdg b) (bgv b)
/-- the reference: thrown, stored, stacked, taken, best, solved, least, answer; cell, given, draft, goal, state -/
abbrev MT : Type := (Int32 × Int32 × Int32 × Int32 × Int32 × Int32 × Int32 × Int32) × (Nat → Int32) × (Nat → Int32) × (Nat → Int32) × (Nat → Int32) × (Nat → Int32)
abbrev mkM (th st sk tk be so le an : Int32) (fc fg fd fo fs : Nat → Int32) : MT := ((th, st, sk, tk, be, so, le, an), fc, fg, fd, fo, fs)
abbrev mth (x : MT) : Int32 := x.1.1
abbrev mst (x : MT) : Int32 := x.1.2.1
abbrev msk (x : MT) : Int32 := x.1.2.2.1
abbrev mtk (x : MT) : Int32 := x.1.2.2.2.1
abbrev mbe (x : MT) : Int32 := x.1.2.2.2.2.1
abbrev mso (x : MT) : Int32 := x.1.2.2.2.2.2.1
abbrev mle (x : MT) : Int32 := x.1.2.2.2.2.2.2.1
abbrev man (x : MT) : Int32 := x.1.2.2.2.2.2.2.2
abbrev mfc (x : MT) : Nat → Int32 := x.2.1
abbrev mfg (x : MT) : Nat → Int32 := x.2.2.1
abbrev mfd (x : MT) : Nat → Int32 := x.2.2.2.1
abbrev mfo (x : MT) : Nat → Int32 := x.2.2.2.2.1
abbrev mfs (x : MT) : Nat → Int32 := x.2.2.2.2.2
def mw (G : Gt) (mo ce gv dr go sa : Nat) (x : MT) : va_W := [(mo, .inr (2, [.int (mth x), .ref ce, .ref gv, .int (mst x), .int (msk x), .ref dr, .ref go, .int (mtk x), .int (mbe x), .int (mso x), .int (mle x), .int (man x), .ref sa])), (ce, eI G 418 (mfc x)), (gv, eZ G 30 (mfg x)), (dr, eI G 10 (mfd x)), (go, eI G 10 (mfo x)), (sa, eI G 10 (mfs x))]
abbrev ow (G : Gt) (ou : Nat) (fl : Nat → Int64) : va_W := [(ou, eL G 1 fl)]
/-! two worlds side by side: a call on one of them -/
section Sides
variable {G : Gt} {A0 : Nat → Prop} {wa wb w1 : va_W} {H H1 : Heap} {H0 : Heap} {locs : List Loc}
theorem sr_P (h : va_P G.1 vwCl (wa ++ wb) H) : va_P G.1 vwCl wb H := fun k q hk => h (wa.length + k) q (by rw [List.getElem?_append_right (Nat.le_add_right _ _), Nat.add_sub_cancel_left]; exact hk)
theorem sl_P (h : va_P G.1 vwCl (wa ++ wb) H) : va_P G.1 vwCl wa H := fun k q hk => h k q (by rw [List.getElem?_append_left (List.getElem?_eq_some_iff.mp hk).1]; exact hk)
theorem sr_D (h : va_D A0 (wa ++ wb)) : va_D A0 wb := by
  have key : ∀ (k : Nat) (q : Nat × va_E), wb[k]? = some q → (wa ++ wb)[wa.length + k]? = some q := fun k q hk => by rw [List.getElem?_append_right (Nat.le_add_right _ _), Nat.add_sub_cancel_left]; exact hk
  refine ⟨fun i j x y hi hj hxy => ?_, fun k q hk => h.2 _ q (key k q hk)⟩
  have := h.1 _ _ x y (key i x hi) (key j y hj) hxy
  omega
theorem sl_D (h : va_D A0 (wa ++ wb)) : va_D A0 wa := by
  have key : ∀ (k : Nat) (q : Nat × va_E), wa[k]? = some q → (wa ++ wb)[k]? = some q := fun k q hk => by rw [List.getElem?_append_left (List.getElem?_eq_some_iff.mp hk).1]; exact hk
  exact ⟨fun i j x y hi hj hxy => h.1 _ _ x y (key i x hi) (key j y hj) hxy, fun k q hk => h.2 _ q (key k q hk)⟩
theorem sd_X (h : va_D A0 (wa ++ wb)) : ∀ (i j : Nat) (x y : Nat × va_E), wa[i]? = some x → wb[j]? = some y → x.1 ≠ y.1 := by
  intro i j x y hi hj hxy
  have hl := (List.getElem?_eq_some_iff.mp hi).1
  have := h.1 i (wa.length + j) x y (by rw [List.getElem?_append_left hl]; exact hi) (by rw [List.getElem?_append_right (Nat.le_add_right _ _), Nat.add_sub_cancel_left]; exact hj) hxy
  omega
theorem sr_F (hD : va_D A0 (wa ++ wb)) (hS : va_S A0 H0 H locs) (hA : ∀ q, H0.size ≤ q → A0 q) : ∀ q, va_A wb H.size q → A0 q := va_freeW (sr_D hD) hS hA
theorem sl_F (hD : va_D A0 (wa ++ wb)) (hS : va_S A0 H0 H locs) (hA : ∀ q, H0.size ≤ q → A0 q) : ∀ q, va_A wa H.size q → A0 q := va_freeW (sl_D hD) hS hA
theorem sr_J (hP : va_P G.1 vwCl (wa ++ wb) H) (hD : va_D A0 (wa ++ wb)) (hk : ∀ q : Nat, q < H.size → ¬ va_A wb H.size q → H1[q]? = H[q]?) (hF : ∀ q, va_A wb H.size q → A0 q) (hP1 : va_P G.1 vwCl w1 H1) (hD1 : va_D (va_A wb H.size) w1) : va_P G.1 vwCl (wa ++ w1) H1 ∧ va_D A0 (wa ++ w1) := by
  have ap : ∀ (k : Nat) (q : Nat × va_E), wa[k]? = some q → q.1 < H.size ∧ ¬ va_A wb H.size q.1 := by
    intro k q hq
    have hl := (sl_P hP k q hq).lt
    refine ⟨hl, fun h => ?_⟩
    rcases h with ⟨k2, e, h⟩ | h
    · exact sd_X hD k k2 q (q.1, e) hq h rfl
    · omega
  exact ⟨va_P.app (fun k q hq => (sl_P hP k q hq).kept (hk q.1 (ap k q hq).1 (ap k q hq).2)) hP1, va_D.app (sl_D hD) (hD1.weaken (fun k q _ h => hF q.1 h)) (fun i j u v hu hv huv => (ap i u hu).2 (by rw [huv]; exact hD1.2 j v hv))⟩
theorem sl_J (hP : va_P G.1 vwCl (wa ++ wb) H) (hD : va_D A0 (wa ++ wb)) (hk : ∀ q : Nat, q < H.size → ¬ va_A wa H.size q → H1[q]? = H[q]?) (hF : ∀ q, va_A wa H.size q → A0 q) (hP1 : va_P G.1 vwCl w1 H1) (hD1 : va_D (va_A wa H.size) w1) : va_P G.1 vwCl (w1 ++ wb) H1 ∧ va_D A0 (w1 ++ wb) := by
  have ap : ∀ (k : Nat) (q : Nat × va_E), wb[k]? = some q → q.1 < H.size ∧ ¬ va_A wa H.size q.1 := by
    intro k q hq
    have hl := (sr_P hP k q hq).lt
    refine ⟨hl, fun h => ?_⟩
    rcases h with ⟨k2, e, h⟩ | h
    · exact sd_X hD k2 k (q.1, e) q h hq rfl
    · omega
  exact ⟨va_P.app hP1 (fun k q hq => (sr_P hP k q hq).kept (hk q.1 (ap k q hq).1 (ap k q hq).2)), va_D.app (hD1.weaken (fun k q _ h => hF q.1 h)) (sr_D hD) (fun i j u v hu hv huv => (ap j v hv).2 (by rw [← huv]; exact hD1.2 i u hu))⟩
end Sides
theorem xcast {E : String} {s : State} {args : Array Value} (h : ∀ w ∈ xB E, va_Nw w s) : (Cond.castable E E).before args s = true := va_Nw.use rfl (h _ (by simp [xB]))
section Catch
variable {p : Program} {l : Launch} {e : Env} {R : Room} {s : State} {m : MethodId} {args : Array Value} {below : List Frame} {meth : Method} {c : Code} {H : Heap} {locs : List Loc} {cells slots : Nat} {Q : State → Prop} {pc : Nat} {ls : Array Slot} {rest st0 : List Value} {a : Array Value} {A : Nat → Prop} {G : Gt} {ws : va_W}
/-- what a callee throws is caught: nothing has changed .. -/
theorem lh_catch {E0 own : String} (hr : vx_Run p l e R s m args below meth c H locs cells slots 1 6 (F0 m pc ls st0) rest (tn_Qv a) (tn_X E0) (fun _ => False)) (hS : va_S A s.heap H locs) (hP : va_P G.1 vwCl ws H) (hown : s.vm.findClass own = some m.cls) (pre : List ExceptionTableEntry) (x : ExceptionTableEntry) (suf : List ExceptionTableEntry) (hsplit : c.exceptionTable.toList = pre ++ x :: suf)
    (hpass : ∀ z ∈ pre, covers z pc = false ∨ (z.catchType ≠ 0 ∧ ∃ nm : String, (Cond.classLink own z.catchType nm).before args s = true ∧ va_Nc E0 nm s)) (hx : covers x pc = true) (h0 : x.catchType ≠ 0) (hlink : (Cond.classLink own x.catchType E0).before args s = true) (hcast : (Cond.castable E0 E0).before args s = true)
    (kk : ∀ (q9 : Addr) (H1 : Heap) (locs1 : List Loc), va_P G.1 vwCl ws H1 → va_S A s.heap H1 locs1 → W p l e R s m args below meth c H1 locs1 (cells + 1) (slots + 6) Q (F0 m x.handlerPc ls [.ref q9])) : W p l e R s m args below meth c H locs cells slots Q (F0 m pc ls st0) := by
  refine vx_callv hr hS (fun _ _ h => h.elim) (fun _ h => h.elim) (fun _ _ h => h.elim) (fun E ce q9 u t H1 locs1 ht hvm hpx hB hz1 hk1 hS1 hq hcv hcl => ?_) (fun u t H1 locs _ _ hf => hf.elim)
  have hB : E = E0 := hB
  subst hB
  exact vx_catch hown pre x suf hsplit hpass hx h0 hlink hcast hq hcv hcl (kk q9 H1 locs1 (hP.kept (fun k q h => hk1 q.1 (hP k q h).lt id)) hS1)
/-- .. or the callee's world has -/
theorem lh_catchw {E0 own : String} {wb w1 : va_W} (hr : vx_Run p l e R s m args below meth c H locs cells slots 1 6 (F0 m pc ls st0) rest (tn_Qv a) (tw_X G E0 w1 (va_A wb H.size)) (va_A wb H.size)) (hS : va_S A s.heap H locs) (hF : ∀ q, va_A wb H.size q → A q) (hown : s.vm.findClass own = some m.cls) (pre : List ExceptionTableEntry) (x : ExceptionTableEntry) (suf : List ExceptionTableEntry) (hsplit : c.exceptionTable.toList = pre ++ x :: suf)
    (hpass : ∀ z ∈ pre, covers z pc = false ∨ (z.catchType ≠ 0 ∧ ∃ nm : String, (Cond.classLink own z.catchType nm).before args s = true ∧ va_Nc E0 nm s)) (hx : covers x pc = true) (h0 : x.catchType ≠ 0) (hlink : (Cond.classLink own x.catchType E0).before args s = true) (hcast : (Cond.castable E0 E0).before args s = true)
    (kk : ∀ (q9 : Addr) (H1 : Heap) (locs1 : List Loc), va_P G.1 vwCl w1 H1 → va_D (va_A wb H.size) w1 → (∀ q : Nat, q < H.size → ¬ va_A wb H.size q → H1[q]? = H[q]?) → va_S A s.heap H1 locs1 → W p l e R s m args below meth c H1 locs1 (cells + 1) (slots + 6) Q (F0 m x.handlerPc ls [.ref q9])) : W p l e R s m args below meth c H locs cells slots Q (F0 m pc ls st0) := by
  refine vx_callv hr hS (fun _ _ h => h.elim) hF (fun q _ h => hF q h) (fun E ce q9 u t H1 locs1 ht hvm hpx hB hz1 hk1 hS1 hq hcv hcl => ?_) (fun u t H1 locs _ _ hf => hf.elim)
  obtain ⟨hE, hP1, hD1⟩ := hB
  subst hE
  rw [ht] at hP1
  exact vx_catch hown pre x suf hsplit hpass hx h0 hlink hcast hq hcv hcl (kk q9 H1 locs1 hP1 hD1 hk1 hS1)
end Catch
