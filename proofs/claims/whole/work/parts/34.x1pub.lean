abbrev rmX1_clear : Room := { frames := 1, cells := 0, slots := 0, locals := 23 }
set_option maxHeartbeats 4000000 in
set_option maxRecDepth 100000 in
theorem c_X1_clear (l : Launch) (G : Gt) (sz : Nat) (bx bd bo bs bk : Nat) (ca wa : Nat → Nat) (st sk tk be so le an : Int32) (fd fo : Nat → Int32) (ro : Nat → Nat → Int32) (dg gv : Nat → Int32) : Met l yX1_clear wsX1_clear rmX1_clear (mu_P G sz [.ref bx] ([(bx, .inr (1, [.ref bd, .ref bo, .ref bs, .int st, .ref bk, .int sk, .ref (ca 36), .int tk, .int be, .int so, .int le, .int an])), (bd, eI G 10 fd), (bo, eI G 10 fo), (bs, eR G 30 (fun k => some (ca k))), (bk, eR G 6 (fun k => some (ca (30 + k))))] ++ pool G ca wa ro dg gv)) (mu_Q G none ([(bx, .inr (1, [.ref bd, .ref bo, .ref bs, .int st, .ref bk, .int sk, .ref (ca 36), .int tk, .int be, .int so, .int le, .int an])), (bd, eI G 10 (mixf 10 (fun _ => 0) fd)), (bo, eI G 10 fo), (bs, eR G 30 (fun k => some (ca k))), (bk, eR G 6 (fun k => some (ca (30 + k))))] ++ pool G ca wa ro dg gv) (va_A ([(bx, .inr (1, [.ref bd, .ref bo, .ref bs, .int st, .ref bk, .int sk, .ref (ca 36), .int tk, .int be, .int so, .int le, .int an])), (bd, eI G 10 fd), (bo, eI G 10 fo), (bs, eR G 30 (fun k => some (ca k))), (bk, eR G 6 (fun k => some (ca (30 + k))))] ++ pool G ca wa ro dg gv) sz)) 0 0 (va_A ([(bx, .inr (1, [.ref bd, .ref bo, .ref bs, .int st, .ref bk, .int sk, .ref (ca 36), .int tk, .int be, .int so, .int le, .int an])), (bd, eI G 10 fd), (bo, eI G 10 fo), (bs, eR G 30 (fun k => some (ca k))), (bk, eR G 6 (fun k => some (ca (30 + k))))] ++ pool G ca wa ro dg gv) sz) := by
  refine Met.ofW (cc := cX1_clear) (maxL := 1) (ret := none) (by decide) rfl ?_
  intro p e s m args below meth c s₁ B hml hv
  obtain ⟨rfl, hsz, hP, hD0, hK⟩ := hv
  have hx := B.exec
  have hb := B.bytes
  have hr := B.returns
  have hts := atoms_spec (ws := wsX1_clear) B.pre
  have hown : s.vm.findClass RX1 = some m.cls := findClass_of_methodNamed B.named
  have hlocks := B.notSynchronized
  subst hsz
  have hD := hD0.self (sz := s.heap.size)
  generalize hAe : va_A ([(bx, .inr (1, [.ref bd, .ref bo, .ref bs, .int st, .ref bk, .int sk, .ref (ca 36), .int tk, .int be, .int so, .int le, .int an])), (bd, eI G 10 fd), (bo, eI G 10 fo), (bs, eR G 30 (fun k => some (ca k))), (bk, eR G 6 (fun k => some (ca (30 + k))))] ++ pool G ca wa ro dg gv) s.heap.size = A at hD ⊢
  have hA : ∀ q : Nat, s.heap.size ≤ q → A q := fun q h => by rw [← hAe]; exact Or.inr h
  have hS : va_S A s.heap s.heap [] := va_S.rf
  have hinX1 : ∀ w ∈ u_ws RX1 TX1 12, w ∈ wsX1_clear := fun w h => List.mem_cons_of_mem _ (List.mem_append_right _ h)
  have hw1 := hts (.fieldLink RX1 9 "ChoiceBoard" "draft" "[I") (by decide +kernel)
  have hl := lv_entry ([.ref bx]) (n := 1) (Nat.le_of_ble_eq_true rfl)
  rw [lg_entry_eq]
  generalize (lg_sl ([.ref bx]) ++ List.replicate (1 - (lg_sl ([.ref bx])).length) Slot.unset).toArray = ls at hl ⊢
  have hl : lv_has ls 1 [(0, .ref bx)] := hl
  refine lv_aload_n hx hb dX1_clear_0 rfl (lv_at hl 0 rfl) ?_
  refine va_get (D := G.1) (ci := 1) (v := .ref bd) (C := RX1) (T := TX1) (N := 12) hx hb hts hinX1 hown hK.1 hP 0 rfl rfl 0 (by decide) hw1 (fun _ h9 => h9) rfl dX1_clear_1 ?_
  refine lv_iconst (v := 0) hx hb dX1_clear_4 (by decide) ?_
  refine mu_call (va_runS (As := [.ref bd, .int 0]) (rest := []) ⟨hx, hb, hml, hown, hts⟩ (c_J7_fill_53178 l G _ bd fd 0) (va_cwS 2 hts gX1_clear_J7_fill_53178 rfl rfl rfl (by decide +kernel) ⟨Nat.le_of_ble_eq_true rfl, Nat.le_of_ble_eq_true rfl⟩) ⟨mu_blind, mu_pre _ (hP.sub [1] rfl) (hD.sub [1] (by decide) rfl) hK⟩ rfl rfl hl.1 rfl (lv_room (Nat.le_of_ble_eq_true rfl)) dX1_clear_5 ⟨Nat.le_refl _, Nat.le_refl _⟩) hS (va_free hD hS hA [1] rfl) (va_free hD hS hA [1] rfl) (fun H1 locs hP1 hD1 hk1 hS => ?_)
  obtain ⟨hP, hD⟩ := rp_join (ws' := ([(bx, .inr (1, [.ref bd, .ref bo, .ref bs, .int st, .ref bk, .int sk, .ref (ca 36), .int tk, .int be, .int so, .int le, .int an])), (bd, eI G 10 (mixf 10 (fun _ => 0) fd)), (bo, eI G 10 fo), (bs, eR G 30 (fun k => some (ca k))), (bk, eR G 6 (fun k => some (ca (30 + k))))] ++ pool G ca wa ro dg gv)) hP hD [1] rfl hk1 hP1 (fun k q h => match k, q, h with | 0, q, h => Or.inr ⟨by decide, h⟩ | 1, q, h => Or.inl ⟨0, h⟩ | 2, q, h => Or.inr ⟨by decide, h⟩ | 3, q, h => Or.inr ⟨by decide, h⟩ | 4, q, h => Or.inr ⟨by decide, h⟩ | k + 5, q, h => Or.inr ⟨by simp, h⟩) rfl
  generalize H1 = H at hP hS ⊢
  have hP : va_P G.1 vwCl ([(bx, .inr (1, [.ref bd, .ref bo, .ref bs, .int st, .ref bk, .int sk, .ref (ca 36), .int tk, .int be, .int so, .int le, .int an])), (bd, eI G 10 (mixf 10 (fun _ => 0) fd)), (bo, eI G 10 fo), (bs, eR G 30 (fun k => some (ca k))), (bk, eR G 6 (fun k => some (ca (30 + k))))] ++ pool G ca wa ro dg gv) H := hP
  have hD : va_D A ([(bx, .inr (1, [.ref bd, .ref bo, .ref bs, .int st, .ref bk, .int sk, .ref (ca 36), .int tk, .int be, .int so, .int le, .int an])), (bd, eI G 10 (mixf 10 (fun _ => 0) fd)), (bo, eI G 10 fo), (bs, eR G 30 (fun k => some (ca k))), (bk, eR G 6 (fun k => some (ca (30 + k))))] ++ pool G ca wa ro dg gv) := hD
  have hP9 : va_P G.1 vwCl ([(bx, .inr (1, [.ref bd, .ref bo, .ref bs, .int st, .ref bk, .int sk, .ref (ca 36), .int tk, .int be, .int so, .int le, .int an])), (bd, eI G 10 (mixf 10 (fun _ => 0) fd)), (bo, eI G 10 fo), (bs, eR G 30 (fun k => some (ca k))), (bk, eR G 6 (fun k => some (ca (30 + k))))] ++ pool G ca wa ro dg gv) _ := (hP)
  have hD9 : va_D A ([(bx, .inr (1, [.ref bd, .ref bo, .ref bs, .int st, .ref bk, .int sk, .ref (ca 36), .int tk, .int be, .int so, .int le, .int an])), (bd, eI G 10 (mixf 10 (fun _ => 0) fd)), (bo, eI G 10 fo), (bs, eR G 30 (fun k => some (ca k))), (bk, eR G 6 (fun k => some (ca (30 + k))))] ++ pool G ca wa ro dg gv) := (hD)
  exact W.vret hx hb hr (fun t ht hW => ⟨rfl, by rw [ht]; exact hP9, hD9, hS.F ht⟩) hS.2.2 dX1_clear_8

abbrev rmX1_keepNext : Room := { frames := 0, cells := 0, slots := 0, locals := 0 }
set_option maxHeartbeats 4000000 in
set_option maxRecDepth 100000 in
theorem c_X1_keepNext (l : Launch) (G : Gt) (sz : Nat) (bx bd bo bs bk : Nat) (ca wa : Nat → Nat) (st sk tk be so le an : Int32) (fd fo : Nat → Int32) (ro : Nat → Nat → Int32) (dg gv : Nat → Int32) (y : Int32) (hn : narrow .boolean (.int y) = .int y) (hf : fits .boolean (.int y) = true) (k : Nat) (est : st = nI k) (hk : k < 30) : Met l yX1_keepNext wsX1_keepNext rmX1_keepNext (mu_P G sz [.ref bx, .int y] ([(bx, .inr (1, [.ref bd, .ref bo, .ref bs, .int st, .ref bk, .int sk, .ref (ca 36), .int tk, .int be, .int so, .int le, .int an])), (bd, eI G 10 fd), (bo, eI G 10 fo), (bs, eR G 30 (fun k => some (ca k))), (bk, eR G 6 (fun k => some (ca (30 + k))))] ++ pool G ca wa ro dg gv)) (mu_Q G (some (.int (st + 1 - 1))) ([(bx, .inr (1, [.ref bd, .ref bo, .ref bs, .int (st + 1), .ref bk, .int sk, .ref (ca 36), .int tk, .int be, .int so, .int le, .int an])), (bd, eI G 10 fd), (bo, eI G 10 fo), (bs, eR G 30 (fun k => some (ca k))), (bk, eR G 6 (fun k => some (ca (30 + k))))] ++ pool G ca wa ro dg (va_up gv k y)) (va_A ([(bx, .inr (1, [.ref bd, .ref bo, .ref bs, .int st, .ref bk, .int sk, .ref (ca 36), .int tk, .int be, .int so, .int le, .int an])), (bd, eI G 10 fd), (bo, eI G 10 fo), (bs, eR G 30 (fun k => some (ca k))), (bk, eR G 6 (fun k => some (ca (30 + k))))] ++ pool G ca wa ro dg gv) sz)) 0 0 (va_A ([(bx, .inr (1, [.ref bd, .ref bo, .ref bs, .int st, .ref bk, .int sk, .ref (ca 36), .int tk, .int be, .int so, .int le, .int an])), (bd, eI G 10 fd), (bo, eI G 10 fo), (bs, eR G 30 (fun k => some (ca k))), (bk, eR G 6 (fun k => some (ca (30 + k))))] ++ pool G ca wa ro dg gv) sz) := by
  refine Met.ofW (cc := cX1_keepNext) (maxL := 2) (ret := (some .int)) (by decide) rfl ?_
  intro p e s m args below meth c s₁ B hml hv
  obtain ⟨rfl, hsz, hP, hD0, hK⟩ := hv
  have hx := B.exec
  have hb := B.bytes
  have hr := B.returns
  have hts := atoms_spec (ws := wsX1_keepNext) B.pre
  have hown : s.vm.findClass RX1 = some m.cls := findClass_of_methodNamed B.named
  have hlocks := B.notSynchronized
  subst hsz
  have hD := hD0.self (sz := s.heap.size)
  generalize hAe : va_A ([(bx, .inr (1, [.ref bd, .ref bo, .ref bs, .int st, .ref bk, .int sk, .ref (ca 36), .int tk, .int be, .int so, .int le, .int an])), (bd, eI G 10 fd), (bo, eI G 10 fo), (bs, eR G 30 (fun k => some (ca k))), (bk, eR G 6 (fun k => some (ca (30 + k))))] ++ pool G ca wa ro dg gv) s.heap.size = A at hD ⊢
  have hA : ∀ q : Nat, s.heap.size ≤ q → A q := fun q h => by rw [← hAe]; exact Or.inr h
  have hS : va_S A s.heap s.heap [] := va_S.rf
  have hinX0 : ∀ w ∈ u_ws RX0 TX0 3, w ∈ wsX1_keepNext := fun w h => List.mem_cons_of_mem _ (List.mem_append_right _ h)
  have hinX1 : ∀ w ∈ u_ws RX1 TX1 12, w ∈ wsX1_keepNext := fun w h => List.mem_cons_of_mem _ (List.mem_append_left _ (List.mem_append_right _ h))
  have hw1 := hts (.fieldLink RX1 18 "ChoiceBoard" "store" "[LChoiceBoard$Constraint;") (by decide +kernel)
  have hw2 := hts (.fieldLink RX1 22 "ChoiceBoard" "stored" "I") (by decide +kernel)
  have hl := lv_entry ([.ref bx, .int y]) (n := 2) (Nat.le_of_ble_eq_true rfl)
  rw [lg_entry_eq]
  generalize (lg_sl ([.ref bx, .int y]) ++ List.replicate (2 - (lg_sl ([.ref bx, .int y])).length) Slot.unset).toArray = ls at hl ⊢
  have hl : lv_has ls 2 [(0, .ref bx), (1, .int y)] := hl
  refine lv_aload_n hx hb dX1_keepNext_0 rfl (lv_at hl 0 rfl) ?_
  refine va_get (D := G.1) (ci := 1) (v := .ref bs) (C := RX1) (T := TX1) (N := 12) hx hb hts hinX1 hown hK.1 hP 0 rfl rfl 2 (by decide) hw1 (fun _ h9 => h9) rfl dX1_keepNext_1 ?_
  refine lv_aload_n hx hb dX1_keepNext_4 rfl (lv_at hl 0 rfl) ?_
  refine va_get (D := G.1) (ci := 1) (v := .int st) (C := RX1) (T := TX1) (N := 12) hx hb hts hinX1 hown hK.1 hP 0 rfl rfl 3 (by decide) hw2 (fun _ h9 => h9) rfl dX1_keepNext_5 ?_
  refine ra_aald (v := k) (b := ca k) hx hb hK.1 hP 3 2 rfl rfl est (by omega) (by decide) rfl dX1_keepNext_8 ?_
  refine lv_iload_n hx hb dX1_keepNext_9 rfl (lv_at hl 1 rfl) ?_
  refine va_putN (D := G.1) (ci := 0) (v := .int y) (ty := .boolean) (C := RX0) (T := TX0) (N := 3) hx hb hts hinX0 tyX0 tyX0_ok nmX0 hown hK.1 hP hD hS (5 + k) (pool_c rfl (by omega)) rfl 2 (by decide) (va_Nw.use rfl hK.2.2.1) (fun _ h9 => h9) rfl (by decide +kernel) hn hf (Nat.le_of_ble_eq_true rfl) dX1_keepNext_10 (fun H locs hP hD hS => ?_)
  have hP : va_P G.1 vwCl (([(bx, .inr (1, [.ref bd, .ref bo, .ref bs, .int st, .ref bk, .int sk, .ref (ca 36), .int tk, .int be, .int so, .int le, .int an])), (bd, eI G 10 fd), (bo, eI G 10 fo), (bs, eR G 30 (fun k => some (ca k))), (bk, eR G 6 (fun k => some (ca (30 + k))))] ++ pool G ca wa ro dg gv).set (5 + k) (ca k, eC (wa k) (dg k) y)) H := hP
  rw [pool_set rfl (by omega)] at hP
  have hD : va_D A (([(bx, .inr (1, [.ref bd, .ref bo, .ref bs, .int st, .ref bk, .int sk, .ref (ca 36), .int tk, .int be, .int so, .int le, .int an])), (bd, eI G 10 fd), (bo, eI G 10 fo), (bs, eR G 30 (fun k => some (ca k))), (bk, eR G 6 (fun k => some (ca (30 + k))))] ++ pool G ca wa ro dg gv).set (5 + k) (ca k, eC (wa k) (dg k) y)) := hD
  rw [pool_set rfl (by omega)] at hD
  have hP : va_P G.1 vwCl ([(bx, .inr (1, [.ref bd, .ref bo, .ref bs, .int st, .ref bk, .int sk, .ref (ca 36), .int tk, .int be, .int so, .int le, .int an])), (bd, eI G 10 fd), (bo, eI G 10 fo), (bs, eR G 30 (fun k => some (ca k))), (bk, eR G 6 (fun k => some (ca (30 + k))))] ++ pool G ca wa ro dg (va_up gv k y)) H := hP
  have hD : va_D A ([(bx, .inr (1, [.ref bd, .ref bo, .ref bs, .int st, .ref bk, .int sk, .ref (ca 36), .int tk, .int be, .int so, .int le, .int an])), (bd, eI G 10 fd), (bo, eI G 10 fo), (bs, eR G 30 (fun k => some (ca k))), (bk, eR G 6 (fun k => some (ca (30 + k))))] ++ pool G ca wa ro dg (va_up gv k y)) := hD
  refine lv_aload_n hx hb dX1_keepNext_13 rfl (lv_at hl 0 rfl) ?_
  refine lv_dup hx hb dX1_keepNext_14 rfl ?_
  refine va_get (D := G.1) (ci := 1) (v := .int st) (C := RX1) (T := TX1) (N := 12) hx hb hts hinX1 hown hK.1 hP 0 rfl rfl 3 (by decide) hw2 (fun _ h9 => h9) rfl dX1_keepNext_15 ?_
  refine lv_iconst (v := 1) hx hb dX1_keepNext_18 (by decide) ?_
  refine lv_iadd hx hb dX1_keepNext_19 ?_
  refine va_put (D := G.1) (ci := 1) (v := .int (st + 1)) (ty := .int) (C := RX1) (T := TX1) (N := 12) hx hb hts hinX1 tyX1 tyX1_ok nmX1 hown hK.1 hP hD hS 0 rfl rfl 3 (by decide) hw2 (fun _ h9 => h9) rfl (by decide +kernel) rfl rfl (Nat.le_of_ble_eq_true rfl) dX1_keepNext_20 (fun H locs hP hD hS => ?_)
  have hP : va_P G.1 vwCl ([(bx, .inr (1, [.ref bd, .ref bo, .ref bs, .int (st + 1), .ref bk, .int sk, .ref (ca 36), .int tk, .int be, .int so, .int le, .int an])), (bd, eI G 10 fd), (bo, eI G 10 fo), (bs, eR G 30 (fun k => some (ca k))), (bk, eR G 6 (fun k => some (ca (30 + k))))] ++ pool G ca wa ro dg (va_up gv k y)) H := hP
  have hD : va_D A ([(bx, .inr (1, [.ref bd, .ref bo, .ref bs, .int (st + 1), .ref bk, .int sk, .ref (ca 36), .int tk, .int be, .int so, .int le, .int an])), (bd, eI G 10 fd), (bo, eI G 10 fo), (bs, eR G 30 (fun k => some (ca k))), (bk, eR G 6 (fun k => some (ca (30 + k))))] ++ pool G ca wa ro dg (va_up gv k y)) := hD
  refine lv_aload_n hx hb dX1_keepNext_23 rfl (lv_at hl 0 rfl) ?_
  refine va_get (D := G.1) (ci := 1) (v := .int (st + 1)) (C := RX1) (T := TX1) (N := 12) hx hb hts hinX1 hown hK.1 hP 0 rfl rfl 3 (by decide) hw2 (fun _ h9 => h9) rfl dX1_keepNext_24 ?_
  refine lv_iconst (v := 1) hx hb dX1_keepNext_27 (by decide) ?_
  refine lv_isub hx hb dX1_keepNext_28 ?_
  have hP9 : va_P G.1 vwCl ([(bx, .inr (1, [.ref bd, .ref bo, .ref bs, .int (st + 1), .ref bk, .int sk, .ref (ca 36), .int tk, .int be, .int so, .int le, .int an])), (bd, eI G 10 fd), (bo, eI G 10 fo), (bs, eR G 30 (fun k => some (ca k))), (bk, eR G 6 (fun k => some (ca (30 + k))))] ++ pool G ca wa ro dg (va_up gv k y)) _ := (hP)
  have hD9 : va_D A ([(bx, .inr (1, [.ref bd, .ref bo, .ref bs, .int (st + 1), .ref bk, .int sk, .ref (ca 36), .int tk, .int be, .int so, .int le, .int an])), (bd, eI G 10 fd), (bo, eI G 10 fo), (bs, eR G 30 (fun k => some (ca k))), (bk, eR G 6 (fun k => some (ca (30 + k))))] ++ pool G ca wa ro dg (va_up gv k y)) := (hD)
  exact W.iret (v := (st + 1) - 1) hx hb hr (fun t ht hW => ⟨congrArg (fun z => Outcome.returned (some (Value.int z))) (rfl), by rw [ht]; exact hP9, hD9, hS.F ht⟩) hS.2.2 dX1_keepNext_29

abbrev rmX1_term : Room := { frames := 2, cells := 0, slots := 0, locals := 42 }
set_option maxHeartbeats 4000000 in
set_option maxRecDepth 100000 in
theorem c_X1_term (l : Launch) (G : Gt) (sz : Nat) (bx bd bo bs bk : Nat) (ca wa : Nat → Nat) (st sk tk be so le an : Int32) (fd fo : Nat → Int32) (ro : Nat → Nat → Int32) (dg gv : Nat → Int32) (v a : Int32) (h1 : outI v 0 9 = 0) (h2 : outI a (-99) 99 = 0) : Met l yX1_term wsX1_term rmX1_term (mu_P G sz [.ref bx, .int v, .int a] ([(bx, .inr (1, [.ref bd, .ref bo, .ref bs, .int st, .ref bk, .int sk, .ref (ca 36), .int tk, .int be, .int so, .int le, .int an])), (bd, eI G 10 fd), (bo, eI G 10 fo), (bs, eR G 30 (fun k => some (ca k))), (bk, eR G 6 (fun k => some (ca (30 + k))))] ++ pool G ca wa ro dg gv)) (mu_Q G none ([(bx, .inr (1, [.ref bd, .ref bo, .ref bs, .int st, .ref bk, .int sk, .ref (ca 36), .int tk, .int be, .int so, .int le, .int an])), (bd, eI G 10 (upd fd v.toNatClampNeg a)), (bo, eI G 10 fo), (bs, eR G 30 (fun k => some (ca k))), (bk, eR G 6 (fun k => some (ca (30 + k))))] ++ pool G ca wa ro dg gv) (va_A ([(bx, .inr (1, [.ref bd, .ref bo, .ref bs, .int st, .ref bk, .int sk, .ref (ca 36), .int tk, .int be, .int so, .int le, .int an])), (bd, eI G 10 fd), (bo, eI G 10 fo), (bs, eR G 30 (fun k => some (ca k))), (bk, eR G 6 (fun k => some (ca (30 + k))))] ++ pool G ca wa ro dg gv) sz)) 0 0 (va_A ([(bx, .inr (1, [.ref bd, .ref bo, .ref bs, .int st, .ref bk, .int sk, .ref (ca 36), .int tk, .int be, .int so, .int le, .int an])), (bd, eI G 10 fd), (bo, eI G 10 fo), (bs, eR G 30 (fun k => some (ca k))), (bk, eR G 6 (fun k => some (ca (30 + k))))] ++ pool G ca wa ro dg gv) sz) := by
  refine Met.ofW (cc := cX1_term) (maxL := 3) (ret := none) (by decide) rfl ?_
  intro p e s m args below meth c s₁ B hml hv
  obtain ⟨rfl, hsz, hP, hD0, hK⟩ := hv
  have hx := B.exec
  have hb := B.bytes
  have hr := B.returns
  have hts := atoms_spec (ws := wsX1_term) B.pre
  have hown : s.vm.findClass RX1 = some m.cls := findClass_of_methodNamed B.named
  have hlocks := B.notSynchronized
  subst hsz
  have hD := hD0.self (sz := s.heap.size)
  generalize hAe : va_A ([(bx, .inr (1, [.ref bd, .ref bo, .ref bs, .int st, .ref bk, .int sk, .ref (ca 36), .int tk, .int be, .int so, .int le, .int an])), (bd, eI G 10 fd), (bo, eI G 10 fo), (bs, eR G 30 (fun k => some (ca k))), (bk, eR G 6 (fun k => some (ca (30 + k))))] ++ pool G ca wa ro dg gv) s.heap.size = A at hD ⊢
  have hA : ∀ q : Nat, s.heap.size ≤ q → A q := fun q h => by rw [← hAe]; exact Or.inr h
  have hS : va_S A s.heap s.heap [] := va_S.rf
  have hinX1 : ∀ w ∈ u_ws RX1 TX1 12, w ∈ wsX1_term := fun w h => List.mem_cons_of_mem _ (List.mem_append_left _ (List.mem_append_right _ h))
  have hw1 := hts (.fieldLink RX1 9 "ChoiceBoard" "draft" "[I") (by decide +kernel)
  obtain ⟨ev, hv9⟩ := out0 (N := 9) rfl (by decide) h1
  have hl := lv_entry ([.ref bx, .int v, .int a]) (n := 3) (Nat.le_of_ble_eq_true rfl)
  rw [lg_entry_eq]
  generalize (lg_sl ([.ref bx, .int v, .int a]) ++ List.replicate (3 - (lg_sl ([.ref bx, .int v, .int a])).length) Slot.unset).toArray = ls at hl ⊢
  have hl : lv_has ls 3 [(0, .ref bx), (1, .int v), (2, .int a)] := hl
  refine lv_iload_n hx hb dX1_term_0 rfl (lv_at hl 1 rfl) ?_
  refine ro_call (va_runS (As := [.int v]) (rest := []) ⟨hx, hb, hml, hown, hts⟩ (c_X1_isVariable l G v) (va_cwS 1 hts gX1_term_X1_isVariable rfl rfl rfl (by decide +kernel) ⟨Nat.le_of_ble_eq_true rfl, Nat.le_of_ble_eq_true rfl⟩) ⟨ro_blind, ro_pre _ (hP.sub [] rfl) hK⟩ rfl rfl hl.1 rfl (lv_room (Nat.le_of_ble_eq_true rfl)) dX1_term_1 ⟨Nat.le_refl _, Nat.le_refl _⟩) ?_
  refine lv_if_eq (tgt := 18) hx hb dX1_term_4 (by decide) (fun c_4 => ?_) (fun c_4 => ?_)
  · exact absurd c_4 (in_o0 h1)
  · refine lv_iload_n hx hb dX1_term_7 rfl (lv_at hl 2 rfl) ?_
    refine lv_bipush (v := (-99)) hx hb dX1_term_8 (by decide) ?_
    refine lv_bipush (v := 99) hx hb dX1_term_10 (by decide) ?_
    refine ro_call (va_runS (As := [.int a, .int (-99), .int 99]) (rest := []) ⟨hx, hb, hml, hown, hts⟩ (c_X1_isWithin l G a (-99) 99) (va_cwS 3 hts gX1_term_X1_isWithin rfl rfl rfl (by decide +kernel) ⟨Nat.le_of_ble_eq_true rfl, Nat.le_of_ble_eq_true rfl⟩) ⟨ro_blind, ro_pre _ (hP.sub [] rfl) hK⟩ rfl rfl hl.1 rfl (lv_room (Nat.le_of_ble_eq_true rfl)) dX1_term_12 ⟨Nat.le_refl _, Nat.le_refl _⟩) ?_
    refine lv_if_ne (tgt := 26) hx hb dX1_term_15 (by decide) (fun c_15 => ?_) (fun c_15 => ?_)
    · refine lv_aload_n hx hb dX1_term_26 rfl (lv_at hl 0 rfl) ?_
      refine va_get (D := G.1) (ci := 1) (v := .ref bd) (C := RX1) (T := TX1) (N := 12) hx hb hts hinX1 hown hK.1 hP 0 rfl rfl 0 (by decide) hw1 (fun _ h9 => h9) rfl dX1_term_27 ?_
      refine lv_iload_n hx hb dX1_term_30 rfl (lv_at hl 1 rfl) ?_
      refine lv_iload_n hx hb dX1_term_31 rfl (lv_at hl 2 rfl) ?_
      refine ra_iast (v := v.toNatClampNeg) hx hb hK.1 hP hD hS 1 0 rfl rfl ev (by omega) (by decide) dX1_term_32 (fun H locs hP hD hS => ?_)
      have hP : va_P G.1 vwCl ([(bx, .inr (1, [.ref bd, .ref bo, .ref bs, .int st, .ref bk, .int sk, .ref (ca 36), .int tk, .int be, .int so, .int le, .int an])), (bd, eI G 10 (upd fd v.toNatClampNeg a)), (bo, eI G 10 fo), (bs, eR G 30 (fun k => some (ca k))), (bk, eR G 6 (fun k => some (ca (30 + k))))] ++ pool G ca wa ro dg gv) H := hP
      have hD : va_D A ([(bx, .inr (1, [.ref bd, .ref bo, .ref bs, .int st, .ref bk, .int sk, .ref (ca 36), .int tk, .int be, .int so, .int le, .int an])), (bd, eI G 10 (upd fd v.toNatClampNeg a)), (bo, eI G 10 fo), (bs, eR G 30 (fun k => some (ca k))), (bk, eR G 6 (fun k => some (ca (30 + k))))] ++ pool G ca wa ro dg gv) := hD
      have hP9 : va_P G.1 vwCl ([(bx, .inr (1, [.ref bd, .ref bo, .ref bs, .int st, .ref bk, .int sk, .ref (ca 36), .int tk, .int be, .int so, .int le, .int an])), (bd, eI G 10 (upd fd v.toNatClampNeg a)), (bo, eI G 10 fo), (bs, eR G 30 (fun k => some (ca k))), (bk, eR G 6 (fun k => some (ca (30 + k))))] ++ pool G ca wa ro dg gv) _ := (hP)
      have hD9 : va_D A ([(bx, .inr (1, [.ref bd, .ref bo, .ref bs, .int st, .ref bk, .int sk, .ref (ca 36), .int tk, .int be, .int so, .int le, .int an])), (bd, eI G 10 (upd fd v.toNatClampNeg a)), (bo, eI G 10 fo), (bs, eR G 30 (fun k => some (ca k))), (bk, eR G 6 (fun k => some (ca (30 + k))))] ++ pool G ca wa ro dg gv) := (hD)
      exact W.vret hx hb hr (fun t ht hW => ⟨rfl, by rw [ht]; exact hP9, hD9, hS.F ht⟩) hS.2.2 dX1_term_33
    · exact absurd c_15 (in_o0 h2)

abbrev rmX1_require : Room := { frames := 4, cells := 0, slots := 0, locals := 89 }
set_option maxHeartbeats 4000000 in
set_option maxRecDepth 100000 in
theorem c_X1_require (l : Launch) (G : Gt) (sz : Nat) (bx bd bo bs bk : Nat) (ca wa : Nat → Nat) (st sk tk be so le an : Int32) (fd fo : Nat → Int32) (ro : Nat → Nat → Int32) (dg gv : Nat → Int32) (x y : Int32) (h1 : outI x 0 1 = 0) (h2 : outI y (-9999) 9999 = 0) (k : Nat) (est : st = nI k) (hk : k < 30) (htk : tk = 0) : Met l yX1_require wsX1_require rmX1_require (mu_P G sz [.ref bx, .int x, .int y] ([(bx, .inr (1, [.ref bd, .ref bo, .ref bs, .int st, .ref bk, .int sk, .ref (ca 36), .int tk, .int be, .int so, .int le, .int an])), (bd, eI G 10 fd), (bo, eI G 10 fo), (bs, eR G 30 (fun k => some (ca k))), (bk, eR G 6 (fun k => some (ca (30 + k))))] ++ pool G ca wa ro dg gv)) (mu_Q G (some (.int (st + 1 - 1))) ([(bx, .inr (1, [.ref bd, .ref bo, .ref bs, .int (st + 1), .ref bk, .int sk, .ref (ca 36), .int tk, .int be, .int so, .int le, .int an])), (bd, eI G 10 (mixf 10 (fun _ => 0) fd)), (bo, eI G 10 fo), (bs, eR G 30 (fun k => some (ca k))), (bk, eR G 6 (fun k => some (ca (30 + k))))] ++ pool G ca wa (va_up ro k (mixf 10 (nrW fd (snI x)) (ro k))) (va_up dg k (nrD fd (snI x) (bdI x y))) (va_up gv k 1)) (va_A ([(bx, .inr (1, [.ref bd, .ref bo, .ref bs, .int st, .ref bk, .int sk, .ref (ca 36), .int tk, .int be, .int so, .int le, .int an])), (bd, eI G 10 fd), (bo, eI G 10 fo), (bs, eR G 30 (fun k => some (ca k))), (bk, eR G 6 (fun k => some (ca (30 + k))))] ++ pool G ca wa ro dg gv) sz)) 0 0 (va_A ([(bx, .inr (1, [.ref bd, .ref bo, .ref bs, .int st, .ref bk, .int sk, .ref (ca 36), .int tk, .int be, .int so, .int le, .int an])), (bd, eI G 10 fd), (bo, eI G 10 fo), (bs, eR G 30 (fun k => some (ca k))), (bk, eR G 6 (fun k => some (ca (30 + k))))] ++ pool G ca wa ro dg gv) sz) := by
  refine Met.ofW (cc := cX1_require) (maxL := 3) (ret := (some .int)) (by decide) rfl ?_
  intro p e s m args below meth c s₁ B hml hv
  obtain ⟨rfl, hsz, hP, hD0, hK⟩ := hv
  have hx := B.exec
  have hb := B.bytes
  have hr := B.returns
  have hts := atoms_spec (ws := wsX1_require) B.pre
  have hown : s.vm.findClass RX1 = some m.cls := findClass_of_methodNamed B.named
  have hlocks := B.notSynchronized
  subst hsz
  have hD := hD0.self (sz := s.heap.size)
  generalize hAe : va_A ([(bx, .inr (1, [.ref bd, .ref bo, .ref bs, .int st, .ref bk, .int sk, .ref (ca 36), .int tk, .int be, .int so, .int le, .int an])), (bd, eI G 10 fd), (bo, eI G 10 fo), (bs, eR G 30 (fun k => some (ca k))), (bk, eR G 6 (fun k => some (ca (30 + k))))] ++ pool G ca wa ro dg gv) s.heap.size = A at hD ⊢
  have hA : ∀ q : Nat, s.heap.size ≤ q → A q := fun q h => by rw [← hAe]; exact Or.inr h
  have hS : va_S A s.heap s.heap [] := va_S.rf
  have hinX1 : ∀ w ∈ u_ws RX1 TX1 12, w ∈ wsX1_require := fun w h => List.mem_cons_of_mem _ (List.mem_append_left _ (List.mem_append_left _ (List.mem_append_left _ (List.mem_append_right _ h))))
  have hw1 := hts (.fieldLink RX1 37 "ChoiceBoard" "taken" "Z") (by decide +kernel)
  have hw2 := hts (.fieldLink RX1 18 "ChoiceBoard" "store" "[LChoiceBoard$Constraint;") (by decide +kernel)
  have hw3 := hts (.fieldLink RX1 22 "ChoiceBoard" "stored" "I") (by decide +kernel)
  have hw4 := hts (.fieldLink RX1 9 "ChoiceBoard" "draft" "[I") (by decide +kernel)
  have hl := lv_entry ([.ref bx, .int x, .int y]) (n := 3) (Nat.le_of_ble_eq_true rfl)
  rw [lg_entry_eq]
  generalize (lg_sl ([.ref bx, .int x, .int y]) ++ List.replicate (3 - (lg_sl ([.ref bx, .int x, .int y])).length) Slot.unset).toArray = ls at hl ⊢
  have hl : lv_has ls 3 [(0, .ref bx), (1, .int x), (2, .int y)] := hl
  refine lv_iload_n hx hb dX1_require_0 rfl (lv_at hl 1 rfl) ?_
  refine lv_iconst (v := 0) hx hb dX1_require_1 (by decide) ?_
  refine lv_iconst (v := 1) hx hb dX1_require_2 (by decide) ?_
  refine ro_call (va_runS (As := [.int x, .int 0, .int 1]) (rest := []) ⟨hx, hb, hml, hown, hts⟩ (c_X1_isWithin l G x 0 1) (va_cwS 3 hts gX1_require_X1_isWithin rfl rfl rfl (by decide +kernel) ⟨Nat.le_of_ble_eq_true rfl, Nat.le_of_ble_eq_true rfl⟩) ⟨ro_blind, ro_pre _ (hP.sub [] rfl) hK⟩ rfl rfl hl.1 rfl (lv_room (Nat.le_of_ble_eq_true rfl)) dX1_require_3 ⟨Nat.le_refl _, Nat.le_refl _⟩) ?_
  refine lv_if_eq (tgt := 22) hx hb dX1_require_6 (by decide) (fun c_6 => ?_) (fun c_6 => ?_)
  · exact absurd c_6 (in_o0 h1)
  · refine lv_iload_n hx hb dX1_require_9 rfl (lv_at hl 2 rfl) ?_
    refine lv_sipush (v := (-9999)) hx hb dX1_require_10 (by decide) ?_
    refine lv_sipush (v := 9999) hx hb dX1_require_13 (by decide) ?_
    refine ro_call (va_runS (As := [.int y, .int (-9999), .int 9999]) (rest := []) ⟨hx, hb, hml, hown, hts⟩ (c_X1_isWithin l G y (-9999) 9999) (va_cwS 3 hts gX1_require_X1_isWithin rfl rfl rfl (by decide +kernel) ⟨Nat.le_of_ble_eq_true rfl, Nat.le_of_ble_eq_true rfl⟩) ⟨ro_blind, ro_pre _ (hP.sub [] rfl) hK⟩ rfl rfl hl.1 rfl (lv_room (Nat.le_of_ble_eq_true rfl)) dX1_require_16 ⟨Nat.le_refl _, Nat.le_refl _⟩) ?_
    refine lv_if_ne (tgt := 30) hx hb dX1_require_19 (by decide) (fun c_19 => ?_) (fun c_19 => ?_)
    · refine lv_aload_n hx hb dX1_require_30 rfl (lv_at hl 0 rfl) ?_
      refine ro_call (va_runV (As := []) (rest := []) ⟨hx, hb, hml, hown, hts⟩ (c_X1_isStoreFull l G bx bd bo bs bk (ca 36) st sk tk be so le an) (cwV 0 hts gX1_require_X1_isStoreFull rfl rfl rfl (by decide +kernel) ⟨Nat.le_of_ble_eq_true rfl, Nat.le_of_ble_eq_true rfl⟩) ⟨ro_blind, va_recv hK.1 hP (ci := 1) (q0 := 0) rfl rfl, ro_pre _ (hP.sub [0] rfl) hK⟩ rfl rfl hl.1 rfl (lv_room (Nat.le_of_ble_eq_true rfl)) dX1_require_31 ⟨Nat.le_refl _, Nat.le_refl _⟩) ?_
      refine lv_if_ne (tgt := 44) hx hb dX1_require_34 (by decide) (fun c_34 => ?_) (fun c_34 => ?_)
      · exact absurd (fu0 est hk) c_34
      · refine lv_aload_n hx hb dX1_require_37 rfl (lv_at hl 0 rfl) ?_
        refine va_get (D := G.1) (ci := 1) (v := .int tk) (C := RX1) (T := TX1) (N := 12) hx hb hts hinX1 hown hK.1 hP 0 rfl rfl 7 (by decide) hw1 (fun _ h9 => h9) rfl dX1_require_38 ?_
        refine lv_if_eq (tgt := 52) hx hb dX1_require_41 (by decide) (fun c_41 => ?_) (fun c_41 => ?_)
        · refine lv_iload_n hx hb dX1_require_52 rfl (lv_at hl 1 rfl) ?_
          refine lv_if_ne (tgt := 76) hx hb dX1_require_53 (by decide) (fun c_53 => ?_) (fun c_53 => ?_)
          · refine lv_aload_n hx hb dX1_require_76 rfl (lv_at hl 0 rfl) ?_
            refine va_get (D := G.1) (ci := 1) (v := .ref bs) (C := RX1) (T := TX1) (N := 12) hx hb hts hinX1 hown hK.1 hP 0 rfl rfl 2 (by decide) hw2 (fun _ h9 => h9) rfl dX1_require_77 ?_
            refine lv_aload_n hx hb dX1_require_80 rfl (lv_at hl 0 rfl) ?_
            refine va_get (D := G.1) (ci := 1) (v := .int st) (C := RX1) (T := TX1) (N := 12) hx hb hts hinX1 hown hK.1 hP 0 rfl rfl 3 (by decide) hw3 (fun _ h9 => h9) rfl dX1_require_81 ?_
            refine ra_aald (v := k) (b := ca k) hx hb hK.1 hP 3 2 rfl rfl est (by omega) (by decide) rfl dX1_require_84 ?_
            refine lv_aload_n hx hb dX1_require_85 rfl (lv_at hl 0 rfl) ?_
            refine va_get (D := G.1) (ci := 1) (v := .ref bd) (C := RX1) (T := TX1) (N := 12) hx hb hts hinX1 hown hK.1 hP 0 rfl rfl 0 (by decide) hw4 (fun _ h9 => h9) rfl dX1_require_86 ?_
            refine lv_iload_n hx hb dX1_require_89 rfl (lv_at hl 2 rfl) ?_
            refine mu_call (va_runV (As := [.ref bd, .int y]) (rest := []) ⟨hx, hb, hml, hown, hts⟩ (c_X0_becomeAtMost l G _ (ca k) (wa k) (dg k) (gv k) (ro k) bd fd y) (cwV 2 hts gX1_require_X0_becomeAtMost rfl rfl rfl (by decide +kernel) ⟨Nat.le_of_ble_eq_true rfl, Nat.le_of_ble_eq_true rfl⟩) ⟨mu_blind, va_recv hK.1 hP (ci := 0) (q0 := 5 + k) rfl (pool_c rfl (by omega)), mu_pre _ (lcP [5 + k, 42 + k, 1] hP (lc (pool_c rfl (by omega)) (lc (pool_w rfl (by omega)) (lc rfl rfl)))) (hD.sub [5 + k, 42 + k, 1] (nd3 k 1 (by decide)) (lc (pool_c rfl (by omega)) (lc (pool_w rfl (by omega)) (lc rfl rfl)))) hK⟩ rfl rfl hl.1 rfl (lv_room (Nat.le_of_ble_eq_true rfl)) dX1_require_90 ⟨Nat.le_refl _, Nat.le_refl _⟩) hS (va_free hD hS hA [5 + k, 42 + k, 1] (lc (pool_c rfl (by omega)) (lc (pool_w rfl (by omega)) (lc rfl rfl)))) (va_free hD hS hA [5 + k, 42 + k, 1] (lc (pool_c rfl (by omega)) (lc (pool_w rfl (by omega)) (lc rfl rfl)))) (fun H1 locs hP1 hD1 hk1 hS => ?_)
            obtain ⟨hP, hD⟩ := pj (k := k) (is' := [1]) (wc := [(ca k, .inr (0, [.ref (wa k), .int (dg k), .int (gv k)])), (wa k, eI G 10 (ro k)), (bd, eI G 10 fd)]) rfl (by omega) hP hD (lc (pool_c rfl (by omega)) (lc (pool_w rfl (by omega)) (lc rfl rfl))) hk1 hP1 rfl rfl (fun j q h => ⟨j + 2, h⟩)
            rw [upS gv k] at hP hD
            generalize H1 = H at hP hS ⊢
            have hP : va_P G.1 vwCl ([(bx, .inr (1, [.ref bd, .ref bo, .ref bs, .int st, .ref bk, .int sk, .ref (ca 36), .int tk, .int be, .int so, .int le, .int an])), (bd, eI G 10 fd), (bo, eI G 10 fo), (bs, eR G 30 (fun k => some (ca k))), (bk, eR G 6 (fun k => some (ca (30 + k))))] ++ pool G ca wa (va_up ro k (mixf 10 (nrW fd (-1)) (ro k))) (va_up dg k (nrD fd (-1) (-y))) gv) H := hP
            have hD : va_D A ([(bx, .inr (1, [.ref bd, .ref bo, .ref bs, .int st, .ref bk, .int sk, .ref (ca 36), .int tk, .int be, .int so, .int le, .int an])), (bd, eI G 10 fd), (bo, eI G 10 fo), (bs, eR G 30 (fun k => some (ca k))), (bk, eR G 6 (fun k => some (ca (30 + k))))] ++ pool G ca wa (va_up ro k (mixf 10 (nrW fd (-1)) (ro k))) (va_up dg k (nrD fd (-1) (-y))) gv) := hD
            refine lv_aload_n hx hb dX1_require_93 rfl (lv_at hl 0 rfl) ?_
            have hFw := va_freeW hD hS hA
            refine mu_call (va_runV (As := []) (rest := []) ⟨hx, hb, hml, hown, hts⟩ (c_X1_clear l G _ bx bd bo bs bk ca wa st sk tk be so le an fd fo (va_up ro k (mixf 10 (nrW fd (-1)) (ro k))) (va_up dg k (nrD fd (-1) (-y))) gv) (cwV 0 hts gX1_require_X1_clear rfl rfl rfl (by decide +kernel) ⟨Nat.le_of_ble_eq_true rfl, Nat.le_of_ble_eq_true rfl⟩) ⟨mu_blind, va_recv hK.1 hP (ci := 1) (q0 := 0) rfl rfl, mu_pre _ hP hD hK⟩ rfl rfl hl.1 rfl (lv_room (Nat.le_of_ble_eq_true rfl)) dX1_require_94 ⟨Nat.le_refl _, Nat.le_refl _⟩) hS hFw hFw (fun H1 locs hP1 hD1 hk1 hS => ?_)
            have hD := hD1.weaken (fun _ q _ h9 => hFw q.1 h9)
            have hP := hP1
            generalize H1 = H at hP hS ⊢
            have hP : va_P G.1 vwCl ([(bx, .inr (1, [.ref bd, .ref bo, .ref bs, .int st, .ref bk, .int sk, .ref (ca 36), .int tk, .int be, .int so, .int le, .int an])), (bd, eI G 10 (mixf 10 (fun _ => 0) fd)), (bo, eI G 10 fo), (bs, eR G 30 (fun k => some (ca k))), (bk, eR G 6 (fun k => some (ca (30 + k))))] ++ pool G ca wa (va_up ro k (mixf 10 (nrW fd (-1)) (ro k))) (va_up dg k (nrD fd (-1) (-y))) gv) H := hP
            have hD : va_D A ([(bx, .inr (1, [.ref bd, .ref bo, .ref bs, .int st, .ref bk, .int sk, .ref (ca 36), .int tk, .int be, .int so, .int le, .int an])), (bd, eI G 10 (mixf 10 (fun _ => 0) fd)), (bo, eI G 10 fo), (bs, eR G 30 (fun k => some (ca k))), (bk, eR G 6 (fun k => some (ca (30 + k))))] ++ pool G ca wa (va_up ro k (mixf 10 (nrW fd (-1)) (ro k))) (va_up dg k (nrD fd (-1) (-y))) gv) := hD
            refine lv_aload_n hx hb dX1_require_97 rfl (lv_at hl 0 rfl) ?_
            refine lv_iconst (v := 1) hx hb dX1_require_98 (by decide) ?_
            have hFw := va_freeW hD hS hA
            refine mu_call (va_runV (As := [.int 1]) (rest := []) ⟨hx, hb, hml, hown, hts⟩ (c_X1_keepNext l G _ bx bd bo bs bk ca wa st sk tk be so le an (mixf 10 (fun _ => 0) fd) fo (va_up ro k (mixf 10 (nrW fd (-1)) (ro k))) (va_up dg k (nrD fd (-1) (-y))) gv 1 rfl rfl k est (by omega)) (cwV 1 hts gX1_require_X1_keepNext rfl rfl rfl (by decide +kernel) ⟨Nat.le_of_ble_eq_true rfl, Nat.le_of_ble_eq_true rfl⟩) ⟨mu_blind, va_recv hK.1 hP (ci := 1) (q0 := 0) rfl rfl, mu_pre _ hP hD hK⟩ rfl rfl hl.1 rfl (lv_room (Nat.le_of_ble_eq_true rfl)) dX1_require_99 ⟨Nat.le_refl _, Nat.le_refl _⟩) hS hFw hFw (fun H1 locs hP1 hD1 hk1 hS => ?_)
            have hD := hD1.weaken (fun _ q _ h9 => hFw q.1 h9)
            have hP := hP1
            generalize H1 = H at hP hS ⊢
            have hP : va_P G.1 vwCl ([(bx, .inr (1, [.ref bd, .ref bo, .ref bs, .int (st + 1), .ref bk, .int sk, .ref (ca 36), .int tk, .int be, .int so, .int le, .int an])), (bd, eI G 10 (mixf 10 (fun _ => 0) fd)), (bo, eI G 10 fo), (bs, eR G 30 (fun k => some (ca k))), (bk, eR G 6 (fun k => some (ca (30 + k))))] ++ pool G ca wa (va_up ro k (mixf 10 (nrW fd (-1)) (ro k))) (va_up dg k (nrD fd (-1) (-y))) (va_up gv k 1)) H := hP
            have hD : va_D A ([(bx, .inr (1, [.ref bd, .ref bo, .ref bs, .int (st + 1), .ref bk, .int sk, .ref (ca 36), .int tk, .int be, .int so, .int le, .int an])), (bd, eI G 10 (mixf 10 (fun _ => 0) fd)), (bo, eI G 10 fo), (bs, eR G 30 (fun k => some (ca k))), (bk, eR G 6 (fun k => some (ca (30 + k))))] ++ pool G ca wa (va_up ro k (mixf 10 (nrW fd (-1)) (ro k))) (va_up dg k (nrD fd (-1) (-y))) (va_up gv k 1)) := hD
            have hP9 : va_P G.1 vwCl ([(bx, .inr (1, [.ref bd, .ref bo, .ref bs, .int (st + 1), .ref bk, .int sk, .ref (ca 36), .int tk, .int be, .int so, .int le, .int an])), (bd, eI G 10 (mixf 10 (fun _ => 0) fd)), (bo, eI G 10 fo), (bs, eR G 30 (fun k => some (ca k))), (bk, eR G 6 (fun k => some (ca (30 + k))))] ++ pool G ca wa (va_up ro k (mixf 10 (nrW fd (snI x)) (ro k))) (va_up dg k (nrD fd (snI x) (bdI x y))) (va_up gv k 1)) _ := (by rw [show snI x = _ from if_neg c_53, show bdI x y = _ from if_neg c_53]; exact hP)
            have hD9 : va_D A ([(bx, .inr (1, [.ref bd, .ref bo, .ref bs, .int (st + 1), .ref bk, .int sk, .ref (ca 36), .int tk, .int be, .int so, .int le, .int an])), (bd, eI G 10 (mixf 10 (fun _ => 0) fd)), (bo, eI G 10 fo), (bs, eR G 30 (fun k => some (ca k))), (bk, eR G 6 (fun k => some (ca (30 + k))))] ++ pool G ca wa (va_up ro k (mixf 10 (nrW fd (snI x)) (ro k))) (va_up dg k (nrD fd (snI x) (bdI x y))) (va_up gv k 1)) := (by rw [show snI x = _ from if_neg c_53, show bdI x y = _ from if_neg c_53]; exact hD)
            exact W.iret (v := st + 1 - 1) hx hb hr (fun t ht hW => ⟨congrArg (fun z => Outcome.returned (some (Value.int z))) (rfl), by rw [ht]; exact hP9, hD9, hS.F ht⟩) hS.2.2 dX1_require_102
          · refine lv_aload_n hx hb dX1_require_56 rfl (lv_at hl 0 rfl) ?_
            refine va_get (D := G.1) (ci := 1) (v := .ref bs) (C := RX1) (T := TX1) (N := 12) hx hb hts hinX1 hown hK.1 hP 0 rfl rfl 2 (by decide) hw2 (fun _ h9 => h9) rfl dX1_require_57 ?_
            refine lv_aload_n hx hb dX1_require_60 rfl (lv_at hl 0 rfl) ?_
            refine va_get (D := G.1) (ci := 1) (v := .int st) (C := RX1) (T := TX1) (N := 12) hx hb hts hinX1 hown hK.1 hP 0 rfl rfl 3 (by decide) hw3 (fun _ h9 => h9) rfl dX1_require_61 ?_
            refine ra_aald (v := k) (b := ca k) hx hb hK.1 hP 3 2 rfl rfl est (by omega) (by decide) rfl dX1_require_64 ?_
            refine lv_aload_n hx hb dX1_require_65 rfl (lv_at hl 0 rfl) ?_
            refine va_get (D := G.1) (ci := 1) (v := .ref bd) (C := RX1) (T := TX1) (N := 12) hx hb hts hinX1 hown hK.1 hP 0 rfl rfl 0 (by decide) hw4 (fun _ h9 => h9) rfl dX1_require_66 ?_
            refine lv_iload_n hx hb dX1_require_69 rfl (lv_at hl 2 rfl) ?_
            refine mu_call (va_runV (As := [.ref bd, .int y]) (rest := []) ⟨hx, hb, hml, hown, hts⟩ (c_X0_becomeAtLeast l G _ (ca k) (wa k) (dg k) (gv k) (ro k) bd fd y) (cwV 2 hts gX1_require_X0_becomeAtLeast rfl rfl rfl (by decide +kernel) ⟨Nat.le_of_ble_eq_true rfl, Nat.le_of_ble_eq_true rfl⟩) ⟨mu_blind, va_recv hK.1 hP (ci := 0) (q0 := 5 + k) rfl (pool_c rfl (by omega)), mu_pre _ (lcP [5 + k, 42 + k, 1] hP (lc (pool_c rfl (by omega)) (lc (pool_w rfl (by omega)) (lc rfl rfl)))) (hD.sub [5 + k, 42 + k, 1] (nd3 k 1 (by decide)) (lc (pool_c rfl (by omega)) (lc (pool_w rfl (by omega)) (lc rfl rfl)))) hK⟩ rfl rfl hl.1 rfl (lv_room (Nat.le_of_ble_eq_true rfl)) dX1_require_70 ⟨Nat.le_refl _, Nat.le_refl _⟩) hS (va_free hD hS hA [5 + k, 42 + k, 1] (lc (pool_c rfl (by omega)) (lc (pool_w rfl (by omega)) (lc rfl rfl)))) (va_free hD hS hA [5 + k, 42 + k, 1] (lc (pool_c rfl (by omega)) (lc (pool_w rfl (by omega)) (lc rfl rfl)))) (fun H1 locs hP1 hD1 hk1 hS => ?_)
            obtain ⟨hP, hD⟩ := pj (k := k) (is' := [1]) (wc := [(ca k, .inr (0, [.ref (wa k), .int (dg k), .int (gv k)])), (wa k, eI G 10 (ro k)), (bd, eI G 10 fd)]) rfl (by omega) hP hD (lc (pool_c rfl (by omega)) (lc (pool_w rfl (by omega)) (lc rfl rfl))) hk1 hP1 rfl rfl (fun j q h => ⟨j + 2, h⟩)
            rw [upS gv k] at hP hD
            generalize H1 = H at hP hS ⊢
            have hP : va_P G.1 vwCl ([(bx, .inr (1, [.ref bd, .ref bo, .ref bs, .int st, .ref bk, .int sk, .ref (ca 36), .int tk, .int be, .int so, .int le, .int an])), (bd, eI G 10 fd), (bo, eI G 10 fo), (bs, eR G 30 (fun k => some (ca k))), (bk, eR G 6 (fun k => some (ca (30 + k))))] ++ pool G ca wa (va_up ro k (mixf 10 (nrW fd 1) (ro k))) (va_up dg k (nrD fd 1 y)) gv) H := hP
            have hD : va_D A ([(bx, .inr (1, [.ref bd, .ref bo, .ref bs, .int st, .ref bk, .int sk, .ref (ca 36), .int tk, .int be, .int so, .int le, .int an])), (bd, eI G 10 fd), (bo, eI G 10 fo), (bs, eR G 30 (fun k => some (ca k))), (bk, eR G 6 (fun k => some (ca (30 + k))))] ++ pool G ca wa (va_up ro k (mixf 10 (nrW fd 1) (ro k))) (va_up dg k (nrD fd 1 y)) gv) := hD
            refine lv_goto (tgt := 93) hx hb dX1_require_73 (by decide) ?_
            refine lv_aload_n hx hb dX1_require_93 rfl (lv_at hl 0 rfl) ?_
            have hFw := va_freeW hD hS hA
            refine mu_call (va_runV (As := []) (rest := []) ⟨hx, hb, hml, hown, hts⟩ (c_X1_clear l G _ bx bd bo bs bk ca wa st sk tk be so le an fd fo (va_up ro k (mixf 10 (nrW fd 1) (ro k))) (va_up dg k (nrD fd 1 y)) gv) (cwV 0 hts gX1_require_X1_clear rfl rfl rfl (by decide +kernel) ⟨Nat.le_of_ble_eq_true rfl, Nat.le_of_ble_eq_true rfl⟩) ⟨mu_blind, va_recv hK.1 hP (ci := 1) (q0 := 0) rfl rfl, mu_pre _ hP hD hK⟩ rfl rfl hl.1 rfl (lv_room (Nat.le_of_ble_eq_true rfl)) dX1_require_94 ⟨Nat.le_refl _, Nat.le_refl _⟩) hS hFw hFw (fun H1 locs hP1 hD1 hk1 hS => ?_)
            have hD := hD1.weaken (fun _ q _ h9 => hFw q.1 h9)
            have hP := hP1
            generalize H1 = H at hP hS ⊢
            have hP : va_P G.1 vwCl ([(bx, .inr (1, [.ref bd, .ref bo, .ref bs, .int st, .ref bk, .int sk, .ref (ca 36), .int tk, .int be, .int so, .int le, .int an])), (bd, eI G 10 (mixf 10 (fun _ => 0) fd)), (bo, eI G 10 fo), (bs, eR G 30 (fun k => some (ca k))), (bk, eR G 6 (fun k => some (ca (30 + k))))] ++ pool G ca wa (va_up ro k (mixf 10 (nrW fd 1) (ro k))) (va_up dg k (nrD fd 1 y)) gv) H := hP
            have hD : va_D A ([(bx, .inr (1, [.ref bd, .ref bo, .ref bs, .int st, .ref bk, .int sk, .ref (ca 36), .int tk, .int be, .int so, .int le, .int an])), (bd, eI G 10 (mixf 10 (fun _ => 0) fd)), (bo, eI G 10 fo), (bs, eR G 30 (fun k => some (ca k))), (bk, eR G 6 (fun k => some (ca (30 + k))))] ++ pool G ca wa (va_up ro k (mixf 10 (nrW fd 1) (ro k))) (va_up dg k (nrD fd 1 y)) gv) := hD
            refine lv_aload_n hx hb dX1_require_97 rfl (lv_at hl 0 rfl) ?_
            refine lv_iconst (v := 1) hx hb dX1_require_98 (by decide) ?_
            have hFw := va_freeW hD hS hA
            refine mu_call (va_runV (As := [.int 1]) (rest := []) ⟨hx, hb, hml, hown, hts⟩ (c_X1_keepNext l G _ bx bd bo bs bk ca wa st sk tk be so le an (mixf 10 (fun _ => 0) fd) fo (va_up ro k (mixf 10 (nrW fd 1) (ro k))) (va_up dg k (nrD fd 1 y)) gv 1 rfl rfl k est (by omega)) (cwV 1 hts gX1_require_X1_keepNext rfl rfl rfl (by decide +kernel) ⟨Nat.le_of_ble_eq_true rfl, Nat.le_of_ble_eq_true rfl⟩) ⟨mu_blind, va_recv hK.1 hP (ci := 1) (q0 := 0) rfl rfl, mu_pre _ hP hD hK⟩ rfl rfl hl.1 rfl (lv_room (Nat.le_of_ble_eq_true rfl)) dX1_require_99 ⟨Nat.le_refl _, Nat.le_refl _⟩) hS hFw hFw (fun H1 locs hP1 hD1 hk1 hS => ?_)
            have hD := hD1.weaken (fun _ q _ h9 => hFw q.1 h9)
            have hP := hP1
            generalize H1 = H at hP hS ⊢
            have hP : va_P G.1 vwCl ([(bx, .inr (1, [.ref bd, .ref bo, .ref bs, .int (st + 1), .ref bk, .int sk, .ref (ca 36), .int tk, .int be, .int so, .int le, .int an])), (bd, eI G 10 (mixf 10 (fun _ => 0) fd)), (bo, eI G 10 fo), (bs, eR G 30 (fun k => some (ca k))), (bk, eR G 6 (fun k => some (ca (30 + k))))] ++ pool G ca wa (va_up ro k (mixf 10 (nrW fd 1) (ro k))) (va_up dg k (nrD fd 1 y)) (va_up gv k 1)) H := hP
            have hD : va_D A ([(bx, .inr (1, [.ref bd, .ref bo, .ref bs, .int (st + 1), .ref bk, .int sk, .ref (ca 36), .int tk, .int be, .int so, .int le, .int an])), (bd, eI G 10 (mixf 10 (fun _ => 0) fd)), (bo, eI G 10 fo), (bs, eR G 30 (fun k => some (ca k))), (bk, eR G 6 (fun k => some (ca (30 + k))))] ++ pool G ca wa (va_up ro k (mixf 10 (nrW fd 1) (ro k))) (va_up dg k (nrD fd 1 y)) (va_up gv k 1)) := hD
            have hP9 : va_P G.1 vwCl ([(bx, .inr (1, [.ref bd, .ref bo, .ref bs, .int (st + 1), .ref bk, .int sk, .ref (ca 36), .int tk, .int be, .int so, .int le, .int an])), (bd, eI G 10 (mixf 10 (fun _ => 0) fd)), (bo, eI G 10 fo), (bs, eR G 30 (fun k => some (ca k))), (bk, eR G 6 (fun k => some (ca (30 + k))))] ++ pool G ca wa (va_up ro k (mixf 10 (nrW fd (snI x)) (ro k))) (va_up dg k (nrD fd (snI x) (bdI x y))) (va_up gv k 1)) _ := (by rw [show snI x = _ from if_pos c_53, show bdI x y = _ from if_pos c_53]; exact hP)
            have hD9 : va_D A ([(bx, .inr (1, [.ref bd, .ref bo, .ref bs, .int (st + 1), .ref bk, .int sk, .ref (ca 36), .int tk, .int be, .int so, .int le, .int an])), (bd, eI G 10 (mixf 10 (fun _ => 0) fd)), (bo, eI G 10 fo), (bs, eR G 30 (fun k => some (ca k))), (bk, eR G 6 (fun k => some (ca (30 + k))))] ++ pool G ca wa (va_up ro k (mixf 10 (nrW fd (snI x)) (ro k))) (va_up dg k (nrD fd (snI x) (bdI x y))) (va_up gv k 1)) := (by rw [show snI x = _ from if_pos c_53, show bdI x y = _ from if_pos c_53]; exact hD)
            exact W.iret (v := st + 1 - 1) hx hb hr (fun t ht hW => ⟨congrArg (fun z => Outcome.returned (some (Value.int z))) (rfl), by rw [ht]; exact hP9, hD9, hS.F ht⟩) hS.2.2 dX1_require_102
        · exact absurd htk c_41
    · exact absurd c_19 (in_o0 h2)

abbrev rmX1_objective : Room := { frames := 2, cells := 0, slots := 0, locals := 48 }
set_option maxHeartbeats 4000000 in
set_option maxRecDepth 100000 in
theorem c_X1_objective (l : Launch) (G : Gt) (sz : Nat) (bx bd bo bs bk : Nat) (ca wa : Nat → Nat) (st sk tk be so le an : Int32) (fd fo : Nat → Int32) (ro : Nat → Nat → Int32) (dg gv : Nat → Int32) (htk : tk = 0) : Met l yX1_objective wsX1_objective rmX1_objective (mu_P G sz [.ref bx] ([(bx, .inr (1, [.ref bd, .ref bo, .ref bs, .int st, .ref bk, .int sk, .ref (ca 36), .int tk, .int be, .int so, .int le, .int an])), (bd, eI G 10 fd), (bo, eI G 10 fo), (bs, eR G 30 (fun k => some (ca k))), (bk, eR G 6 (fun k => some (ca (30 + k))))] ++ pool G ca wa ro dg gv)) (mu_Q G none ([(bx, .inr (1, [.ref bd, .ref bo, .ref bs, .int st, .ref bk, .int sk, .ref (ca 36), .int tk, .int be, .int so, .int le, .int an])), (bd, eI G 10 (mixf 10 (fun _ => 0) fd)), (bo, eI G 10 (mixf 10 fd fo)), (bs, eR G 30 (fun k => some (ca k))), (bk, eR G 6 (fun k => some (ca (30 + k))))] ++ pool G ca wa ro dg gv) (va_A ([(bx, .inr (1, [.ref bd, .ref bo, .ref bs, .int st, .ref bk, .int sk, .ref (ca 36), .int tk, .int be, .int so, .int le, .int an])), (bd, eI G 10 fd), (bo, eI G 10 fo), (bs, eR G 30 (fun k => some (ca k))), (bk, eR G 6 (fun k => some (ca (30 + k))))] ++ pool G ca wa ro dg gv) sz)) 0 0 (va_A ([(bx, .inr (1, [.ref bd, .ref bo, .ref bs, .int st, .ref bk, .int sk, .ref (ca 36), .int tk, .int be, .int so, .int le, .int an])), (bd, eI G 10 fd), (bo, eI G 10 fo), (bs, eR G 30 (fun k => some (ca k))), (bk, eR G 6 (fun k => some (ca (30 + k))))] ++ pool G ca wa ro dg gv) sz) := by
  refine Met.ofW (cc := cX1_objective) (maxL := 1) (ret := none) (by decide) rfl ?_
  intro p e s m args below meth c s₁ B hml hv
  obtain ⟨rfl, hsz, hP, hD0, hK⟩ := hv
  have hx := B.exec
  have hb := B.bytes
  have hr := B.returns
  have hts := atoms_spec (ws := wsX1_objective) B.pre
  have hown : s.vm.findClass RX1 = some m.cls := findClass_of_methodNamed B.named
  have hlocks := B.notSynchronized
  subst hsz
  have hD := hD0.self (sz := s.heap.size)
  generalize hAe : va_A ([(bx, .inr (1, [.ref bd, .ref bo, .ref bs, .int st, .ref bk, .int sk, .ref (ca 36), .int tk, .int be, .int so, .int le, .int an])), (bd, eI G 10 fd), (bo, eI G 10 fo), (bs, eR G 30 (fun k => some (ca k))), (bk, eR G 6 (fun k => some (ca (30 + k))))] ++ pool G ca wa ro dg gv) s.heap.size = A at hD ⊢
  have hA : ∀ q : Nat, s.heap.size ≤ q → A q := fun q h => by rw [← hAe]; exact Or.inr h
  have hS : va_S A s.heap s.heap [] := va_S.rf
  have hinX1 : ∀ w ∈ u_ws RX1 TX1 12, w ∈ wsX1_objective := fun w h => List.mem_cons_of_mem _ (List.mem_append_left _ (List.mem_append_right _ h))
  have hw1 := hts (.fieldLink RX1 37 "ChoiceBoard" "taken" "Z") (by decide +kernel)
  have hw2 := hts (.fieldLink RX1 9 "ChoiceBoard" "draft" "[I") (by decide +kernel)
  have hw3 := hts (.fieldLink RX1 13 "ChoiceBoard" "objectiveFactors" "[I") (by decide +kernel)
  have hw4 := hts (.methodLink RX1 90 arraycopyName) (by decide +kernel)
  have hw5 := hts (.native arraycopyName) (by decide +kernel)
  have hw6 := hts (.static arraycopyName) (by decide +kernel)
  have hw7 := hts (.initialized "java/lang/System") (by decide +kernel)
  have hl := lv_entry ([.ref bx]) (n := 1) (Nat.le_of_ble_eq_true rfl)
  rw [lg_entry_eq]
  generalize (lg_sl ([.ref bx]) ++ List.replicate (1 - (lg_sl ([.ref bx])).length) Slot.unset).toArray = ls at hl ⊢
  have hl : lv_has ls 1 [(0, .ref bx)] := hl
  refine lv_aload_n hx hb dX1_objective_0 rfl (lv_at hl 0 rfl) ?_
  refine va_get (D := G.1) (ci := 1) (v := .int tk) (C := RX1) (T := TX1) (N := 12) hx hb hts hinX1 hown hK.1 hP 0 rfl rfl 7 (by decide) hw1 (fun _ h9 => h9) rfl dX1_objective_1 ?_
  refine lv_if_eq (tgt := 15) hx hb dX1_objective_4 (by decide) (fun c_4 => ?_) (fun c_4 => ?_)
  · refine lv_aload_n hx hb dX1_objective_15 rfl (lv_at hl 0 rfl) ?_
    refine va_get (D := G.1) (ci := 1) (v := .ref bd) (C := RX1) (T := TX1) (N := 12) hx hb hts hinX1 hown hK.1 hP 0 rfl rfl 0 (by decide) hw2 (fun _ h9 => h9) rfl dX1_objective_16 ?_
    refine lv_iconst (v := 0) hx hb dX1_objective_19 (by decide) ?_
    refine lv_aload_n hx hb dX1_objective_20 rfl (lv_at hl 0 rfl) ?_
    refine va_get (D := G.1) (ci := 1) (v := .ref bo) (C := RX1) (T := TX1) (N := 12) hx hb hts hinX1 hown hK.1 hP 0 rfl rfl 1 (by decide) hw3 (fun _ h9 => h9) rfl dX1_objective_21 ?_
    refine lv_iconst (v := 0) hx hb dX1_objective_24 (by decide) ?_
    refine lv_bipush (v := 10) hx hb dX1_objective_25 (by decide) ?_
    refine ra_copy hx hb (hml.trans hl.1.symm) hown hw4 hw5 hw6 hw7 hK.1 hP hD hS 1 2 0 0 rfl rfl rfl rfl (n := 10) (N := 10) (by decide) (by decide) (by decide) (by decide) (Nat.le_of_ble_eq_true rfl) (Nat.le_of_ble_eq_true rfl) dX1_objective_27 (fun H locs hP hD hS => ?_)
    have hP : va_P G.1 vwCl ([(bx, .inr (1, [.ref bd, .ref bo, .ref bs, .int st, .ref bk, .int sk, .ref (ca 36), .int tk, .int be, .int so, .int le, .int an])), (bd, eI G 10 fd), (bo, eI G 10 (va_cpy fd fo 0 0 10)), (bs, eR G 30 (fun k => some (ca k))), (bk, eR G 6 (fun k => some (ca (30 + k))))] ++ pool G ca wa ro dg gv) H := hP
    have hD : va_D A ([(bx, .inr (1, [.ref bd, .ref bo, .ref bs, .int st, .ref bk, .int sk, .ref (ca 36), .int tk, .int be, .int so, .int le, .int an])), (bd, eI G 10 fd), (bo, eI G 10 (va_cpy fd fo 0 0 10)), (bs, eR G 30 (fun k => some (ca k))), (bk, eR G 6 (fun k => some (ca (30 + k))))] ++ pool G ca wa ro dg gv) := hD
    have eA27 : va_cpy fd fo 0 0 10 = mixf 10 fd fo := cpy_mix fd fo 10
    rw [eA27] at hP hD
    refine lv_aload_n hx hb dX1_objective_30 rfl (lv_at hl 0 rfl) ?_
    have hFw := va_freeW hD hS hA
    refine mu_call (va_runV (As := []) (rest := []) ⟨hx, hb, hml, hown, hts⟩ (c_X1_clear l G _ bx bd bo bs bk ca wa st sk tk be so le an fd (mixf 10 fd fo) ro dg gv) (cwV 0 hts gX1_objective_X1_clear rfl rfl rfl (by decide +kernel) ⟨Nat.le_of_ble_eq_true rfl, Nat.le_of_ble_eq_true rfl⟩) ⟨mu_blind, va_recv hK.1 hP (ci := 1) (q0 := 0) rfl rfl, mu_pre _ hP hD hK⟩ rfl rfl hl.1 rfl (lv_room (Nat.le_of_ble_eq_true rfl)) dX1_objective_31 ⟨Nat.le_refl _, Nat.le_refl _⟩) hS hFw hFw (fun H1 locs hP1 hD1 hk1 hS => ?_)
    have hD := hD1.weaken (fun _ q _ h9 => hFw q.1 h9)
    have hP := hP1
    generalize H1 = H at hP hS ⊢
    have hP : va_P G.1 vwCl ([(bx, .inr (1, [.ref bd, .ref bo, .ref bs, .int st, .ref bk, .int sk, .ref (ca 36), .int tk, .int be, .int so, .int le, .int an])), (bd, eI G 10 (mixf 10 (fun _ => 0) fd)), (bo, eI G 10 (mixf 10 fd fo)), (bs, eR G 30 (fun k => some (ca k))), (bk, eR G 6 (fun k => some (ca (30 + k))))] ++ pool G ca wa ro dg gv) H := hP
    have hD : va_D A ([(bx, .inr (1, [.ref bd, .ref bo, .ref bs, .int st, .ref bk, .int sk, .ref (ca 36), .int tk, .int be, .int so, .int le, .int an])), (bd, eI G 10 (mixf 10 (fun _ => 0) fd)), (bo, eI G 10 (mixf 10 fd fo)), (bs, eR G 30 (fun k => some (ca k))), (bk, eR G 6 (fun k => some (ca (30 + k))))] ++ pool G ca wa ro dg gv) := hD
    have hP9 : va_P G.1 vwCl ([(bx, .inr (1, [.ref bd, .ref bo, .ref bs, .int st, .ref bk, .int sk, .ref (ca 36), .int tk, .int be, .int so, .int le, .int an])), (bd, eI G 10 (mixf 10 (fun _ => 0) fd)), (bo, eI G 10 (mixf 10 fd fo)), (bs, eR G 30 (fun k => some (ca k))), (bk, eR G 6 (fun k => some (ca (30 + k))))] ++ pool G ca wa ro dg gv) _ := (hP)
    have hD9 : va_D A ([(bx, .inr (1, [.ref bd, .ref bo, .ref bs, .int st, .ref bk, .int sk, .ref (ca 36), .int tk, .int be, .int so, .int le, .int an])), (bd, eI G 10 (mixf 10 (fun _ => 0) fd)), (bo, eI G 10 (mixf 10 fd fo)), (bs, eR G 30 (fun k => some (ca k))), (bk, eR G 6 (fun k => some (ca (30 + k))))] ++ pool G ca wa ro dg gv) := (hD)
    exact W.vret hx hb hr (fun t ht hW => ⟨rfl, by rw [ht]; exact hP9, hD9, hS.F ht⟩) hS.2.2 dX1_objective_34
  · exact absurd htk c_4

abbrev rmX1_constraints : Room := { frames := 0, cells := 0, slots := 0, locals := 0 }
set_option maxHeartbeats 4000000 in
set_option maxRecDepth 100000 in
theorem c_X1_constraints (l : Launch) (G : Gt) (bx bd bo bs bk : Nat) (ca wa : Nat → Nat) (st sk tk be so le an : Int32) (fd fo : Nat → Int32) (ro : Nat → Nat → Int32) (dg gv : Nat → Int32) : Met l yX1_constraints wsX1_constraints rmX1_constraints (ro_P G [.ref bx] ([(bx, .inr (1, [.ref bd, .ref bo, .ref bs, .int st, .ref bk, .int sk, .ref (ca 36), .int tk, .int be, .int so, .int le, .int an])), (bd, eI G 10 fd), (bo, eI G 10 fo), (bs, eR G 30 (fun k => some (ca k))), (bk, eR G 6 (fun k => some (ca (30 + k))))] ++ pool G ca wa ro dg gv)) (QcRead st) 0 0 (fun _ => False) := by
  refine Met.ofW (cc := cX1_constraints) (maxL := 1) (ret := (some .int)) (by decide) rfl ?_
  intro p e s m args below meth c s₁ B hml hv
  obtain ⟨rfl, hP, hK⟩ := hv
  have hx := B.exec
  have hb := B.bytes
  have hr := B.returns
  have hts := atoms_spec (ws := wsX1_constraints) B.pre
  have hown : s.vm.findClass RX1 = some m.cls := findClass_of_methodNamed B.named
  have hlocks := B.notSynchronized
  have hinX1 : ∀ w ∈ u_ws RX1 TX1 12, w ∈ wsX1_constraints := fun w h => List.mem_cons_of_mem _ (List.mem_append_right _ h)
  have hw1 := hts (.fieldLink RX1 22 "ChoiceBoard" "stored" "I") (by decide +kernel)
  have hl := lv_entry ([.ref bx]) (n := 1) (Nat.le_of_ble_eq_true rfl)
  rw [lg_entry_eq]
  generalize (lg_sl ([.ref bx]) ++ List.replicate (1 - (lg_sl ([.ref bx])).length) Slot.unset).toArray = ls at hl ⊢
  have hl : lv_has ls 1 [(0, .ref bx)] := hl
  refine lv_aload_n hx hb dX1_constraints_0 rfl (lv_at hl 0 rfl) ?_
  refine va_get (D := G.1) (ci := 1) (v := .int st) (C := RX1) (T := TX1) (N := 12) hx hb hts hinX1 hown hK.1 hP 0 rfl rfl 3 (by decide) hw1 (fun _ h9 => h9) rfl dX1_constraints_1 ?_
  exact W.iret (v := st) hx hb hr (fun t ht hW => ⟨congrArg (fun z => Outcome.returned (some (Value.int z))) (rfl), ht⟩) (fun _ h => nomatch h) dX1_constraints_4

abbrev rmX1_constraint : Room := { frames := 2, cells := 0, slots := 0, locals := 43 }
set_option maxHeartbeats 4000000 in
set_option maxRecDepth 100000 in
theorem c_X1_constraint (l : Launch) (G : Gt) (bx bd bo bs bk : Nat) (ca wa : Nat → Nat) (st sk tk be so le an : Int32) (fd fo : Nat → Int32) (ro : Nat → Nat → Int32) (dg gv : Nat → Int32) (x y : Int32) (k : Nat) (est : st = nI k) (hk30 : k ≤ 30) (h1 : outI x 0 (st - 1) = 0) (h2 : outI y (-2) 9 = 0) : Met l yX1_constraint wsX1_constraint rmX1_constraint (ro_P G [.ref bx, .int x, .int y] ([(bx, .inr (1, [.ref bd, .ref bo, .ref bs, .int st, .ref bk, .int sk, .ref (ca 36), .int tk, .int be, .int so, .int le, .int an])), (bd, eI G 10 fd), (bo, eI G 10 fo), (bs, eR G 30 (fun k => some (ca k))), (bk, eR G 6 (fun k => some (ca (30 + k))))] ++ pool G ca wa ro dg gv)) (QcRead (cxC ro dg gv x y)) 0 0 (fun _ => False) := by
  refine Met.ofW (cc := cX1_constraint) (maxL := 3) (ret := (some .int)) (by decide) rfl ?_
  intro p e s m args below meth c s₁ B hml hv
  obtain ⟨rfl, hP, hK⟩ := hv
  have hx := B.exec
  have hb := B.bytes
  have hr := B.returns
  have hts := atoms_spec (ws := wsX1_constraint) B.pre
  have hown : s.vm.findClass RX1 = some m.cls := findClass_of_methodNamed B.named
  have hlocks := B.notSynchronized
  have hinX0 : ∀ w ∈ u_ws RX0 TX0 3, w ∈ wsX1_constraint := fun w h => List.mem_cons_of_mem _ (List.mem_append_left _ (List.mem_append_left _ (List.mem_append_right _ h)))
  have hinX1 : ∀ w ∈ u_ws RX1 TX1 12, w ∈ wsX1_constraint := fun w h => List.mem_cons_of_mem _ (List.mem_append_left _ (List.mem_append_left _ (List.mem_append_left _ (List.mem_append_right _ h))))
  have hw1 := hts (.fieldLink RX1 18 "ChoiceBoard" "store" "[LChoiceBoard$Constraint;") (by decide +kernel)
  obtain ⟨exn, hxn⟩ := outS est (by omega) h1
  have hl := lv_entry ([.ref bx, .int x, .int y]) (n := 3) (Nat.le_of_ble_eq_true rfl)
  rw [lg_entry_eq]
  generalize (lg_sl ([.ref bx, .int x, .int y]) ++ List.replicate (3 - (lg_sl ([.ref bx, .int x, .int y])).length) Slot.unset).toArray = ls at hl ⊢
  have hl : lv_has ls 3 [(0, .ref bx), (1, .int x), (2, .int y)] := hl
  refine lv_aload_n hx hb dX1_constraint_0 rfl (lv_at hl 0 rfl) ?_
  refine lv_iload_n hx hb dX1_constraint_1 rfl (lv_at hl 1 rfl) ?_
  refine ro_call (va_runV (As := [.int x]) (rest := []) ⟨hx, hb, hml, hown, hts⟩ (c_X1_isStored l G bx bd bo bs bk (ca 36) st sk tk be so le an x) (cwV 1 hts gX1_constraint_X1_isStored rfl rfl rfl (by decide +kernel) ⟨Nat.le_of_ble_eq_true rfl, Nat.le_of_ble_eq_true rfl⟩) ⟨ro_blind, va_recv hK.1 hP (ci := 1) (q0 := 0) rfl rfl, ro_pre _ (hP.sub [0] rfl) hK⟩ rfl rfl hl.1 rfl (lv_room (Nat.le_of_ble_eq_true rfl)) dX1_constraint_2 ⟨Nat.le_refl _, Nat.le_refl _⟩) ?_
  refine lv_if_ne (tgt := 16) hx hb dX1_constraint_5 (by decide) (fun c_5 => ?_) (fun c_5 => ?_)
  · refine lv_iload_n hx hb dX1_constraint_16 rfl (lv_at hl 2 rfl) ?_
    refine ro_call (va_runS (As := [.int y]) (rest := []) ⟨hx, hb, hml, hown, hts⟩ (c_X1_isQuestion l G y) (va_cwS 1 hts gX1_constraint_X1_isQuestion rfl rfl rfl (by decide +kernel) ⟨Nat.le_of_ble_eq_true rfl, Nat.le_of_ble_eq_true rfl⟩) ⟨ro_blind, ro_pre _ (hP.sub [] rfl) hK⟩ rfl rfl hl.1 rfl (lv_room (Nat.le_of_ble_eq_true rfl)) dX1_constraint_17 ⟨Nat.le_refl _, Nat.le_refl _⟩) ?_
    refine lv_if_ne (tgt := 31) hx hb dX1_constraint_20 (by decide) (fun c_20 => ?_) (fun c_20 => ?_)
    · refine lv_iload_n hx hb dX1_constraint_31 rfl (lv_at hl 2 rfl) ?_
      refine lv_bipush (v := (-2)) hx hb dX1_constraint_32 (by decide) ?_
      refine lv_icmp_ne (tgt := 55) hx hb dX1_constraint_34 (by decide) (fun c_34 => ?_) (fun c_34 => ?_)
      · refine lv_aload_n hx hb dX1_constraint_55 rfl (lv_at hl 0 rfl) ?_
        refine va_get (D := G.1) (ci := 1) (v := .ref bs) (C := RX1) (T := TX1) (N := 12) hx hb hts hinX1 hown hK.1 hP 0 rfl rfl 2 (by decide) hw1 (fun _ h9 => h9) rfl dX1_constraint_56 ?_
        refine lv_iload_n hx hb dX1_constraint_59 rfl (lv_at hl 1 rfl) ?_
        refine ra_aald (v := x.toNatClampNeg) (b := ca x.toNatClampNeg) hx hb hK.1 hP 3 2 rfl rfl exn (by omega) (by decide) rfl dX1_constraint_60 ?_
        refine lv_iload_n hx hb dX1_constraint_61 rfl (lv_at hl 2 rfl) ?_
        refine ro_call (va_runV (As := [.int y]) (rest := []) ⟨hx, hb, hml, hown, hts⟩ (c_X0_weightOrDegree l G (ca x.toNatClampNeg) (wa x.toNatClampNeg) (dg x.toNatClampNeg) (gv x.toNatClampNeg) (ro x.toNatClampNeg) y (wodV h2 c_34)) (cwV 1 hts gX1_constraint_X0_weightOrDegree rfl rfl rfl (by decide +kernel) ⟨Nat.le_of_ble_eq_true rfl, Nat.le_of_ble_eq_true rfl⟩) ⟨ro_blind, va_recv hK.1 hP (ci := 0) (q0 := 5 + x.toNatClampNeg) rfl (pool_c rfl (by omega)), ro_pre _ (lcP [5 + x.toNatClampNeg, 42 + x.toNatClampNeg] hP (lc (pool_c rfl (by omega)) (lc (pool_w rfl (by omega)) rfl))) hK⟩ rfl rfl hl.1 rfl (lv_room (Nat.le_of_ble_eq_true rfl)) dX1_constraint_62 ⟨Nat.le_refl _, Nat.le_refl _⟩) ?_
        exact W.iret (v := wod (ro x.toNatClampNeg) (dg x.toNatClampNeg) y) hx hb hr (fun t ht hW => ⟨congrArg (fun z => Outcome.returned (some (Value.int z))) (by unfold cxC; rw [if_neg c_34]), ht⟩) (fun _ h => nomatch h) dX1_constraint_65
      · refine lv_aload_n hx hb dX1_constraint_37 rfl (lv_at hl 0 rfl) ?_
        refine va_get (D := G.1) (ci := 1) (v := .ref bs) (C := RX1) (T := TX1) (N := 12) hx hb hts hinX1 hown hK.1 hP 0 rfl rfl 2 (by decide) hw1 (fun _ h9 => h9) rfl dX1_constraint_38 ?_
        refine lv_iload_n hx hb dX1_constraint_41 rfl (lv_at hl 1 rfl) ?_
        refine ra_aald (v := x.toNatClampNeg) (b := ca x.toNatClampNeg) hx hb hK.1 hP 3 2 rfl rfl exn (by omega) (by decide) rfl dX1_constraint_42 ?_
        refine va_getN (D := G.1) (ci := 0) (v := .int (gv x.toNatClampNeg)) (C := RX0) (T := TX0) (N := 3) hx hb hts hinX0 hown hK.1 hP (5 + x.toNatClampNeg) (pool_c rfl (by omega)) rfl 2 (by decide) (va_Nw.use rfl hK.2.2.1) (fun _ h9 => h9) rfl dX1_constraint_43 ?_
        refine lv_if_eq (tgt := 53) hx hb dX1_constraint_46 (by decide) (fun c_46 => ?_) (fun c_46 => ?_)
        · refine lv_iconst (v := 0) hx hb dX1_constraint_53 (by decide) ?_
          exact W.iret (v := 0) hx hb hr (fun t ht hW => ⟨congrArg (fun z => Outcome.returned (some (Value.int z))) (by unfold cxC; rw [if_pos c_34, if_pos c_46]), ht⟩) (fun _ h => nomatch h) dX1_constraint_54
        · refine lv_iconst (v := 1) hx hb dX1_constraint_49 (by decide) ?_
          refine lv_goto (tgt := 54) hx hb dX1_constraint_50 (by decide) ?_
          exact W.iret (v := 1) hx hb hr (fun t ht hW => ⟨congrArg (fun z => Outcome.returned (some (Value.int z))) (by unfold cxC; rw [if_pos c_34, if_neg c_46]), ht⟩) (fun _ h => nomatch h) dX1_constraint_54
    · exact absurd c_20 (in_o0 h2)
  · exact absurd c_5 (in_o0 h1)

abbrev rmX1_close : Room := { frames := 5, cells := 0, slots := 0, locals := 117 }
set_option maxHeartbeats 4000000 in
set_option maxRecDepth 100000 in
theorem c_X1_close (l : Launch) (G : Gt) (bx bd bo bs bk : Nat) (ca wa : Nat → Nat) (st sk tk be so le an : Int32) (fd fo : Nat → Int32) (ro : Nat → Nat → Int32) (dg gv : Nat → Int32) (x y : Int32) (k : Nat) (est : st = nI k) (hk30 : k ≤ 30) (h1 : outI x 0 1023 = 0) (h2 : outI y 0 1023 = 0) : Met l yX1_close wsX1_close rmX1_close (ro_P G [.ref bx, .int x, .int y] ([(bx, .inr (1, [.ref bd, .ref bo, .ref bs, .int st, .ref bk, .int sk, .ref (ca 36), .int tk, .int be, .int so, .int le, .int an])), (bd, eI G 10 fd), (bo, eI G 10 fo), (bs, eR G 30 (fun k => some (ca k))), (bk, eR G 6 (fun k => some (ca (30 + k))))] ++ pool G ca wa ro dg gv)) (QcRead (cxO ro dg k (x * 1024 + (y &&& x)) 11)) 0 0 (fun _ => False) := by
  refine Met.ofW (cc := cX1_close) (maxL := 3) (ret := (some .int)) (by decide) rfl ?_
  intro p e s m args below meth c s₁ B hml hv
  obtain ⟨rfl, hP, hK⟩ := hv
  have hx := B.exec
  have hb := B.bytes
  have hr := B.returns
  have hts := atoms_spec (ws := wsX1_close) B.pre
  have hown : s.vm.findClass RX1 = some m.cls := findClass_of_methodNamed B.named
  have hlocks := B.notSynchronized
  have hinX1 : ∀ w ∈ u_ws RX1 TX1 12, w ∈ wsX1_close := fun w h => List.mem_cons_of_mem _ (List.mem_append_left _ (List.mem_append_left _ (List.mem_append_right _ h)))
  have hw1 := hts (.fieldLink RX1 22 "ChoiceBoard" "stored" "I") (by decide +kernel)
  have hl := lv_entry ([.ref bx, .int x, .int y]) (n := 3) (Nat.le_of_ble_eq_true rfl)
  rw [lg_entry_eq]
  generalize (lg_sl ([.ref bx, .int x, .int y]) ++ List.replicate (3 - (lg_sl ([.ref bx, .int x, .int y])).length) Slot.unset).toArray = ls at hl ⊢
  have hl : lv_has ls 3 [(0, .ref bx), (1, .int x), (2, .int y)] := hl
  refine lv_iload_n hx hb dX1_close_0 rfl (lv_at hl 1 rfl) ?_
  refine ro_call (va_runS (As := [.int x]) (rest := []) ⟨hx, hb, hml, hown, hts⟩ (c_X1_isChoice l G x) (va_cwS 1 hts gX1_close_X1_isChoice rfl rfl rfl (by decide +kernel) ⟨Nat.le_of_ble_eq_true rfl, Nat.le_of_ble_eq_true rfl⟩) ⟨ro_blind, ro_pre _ (hP.sub [] rfl) hK⟩ rfl rfl hl.1 rfl (lv_room (Nat.le_of_ble_eq_true rfl)) dX1_close_1 ⟨Nat.le_refl _, Nat.le_refl _⟩) ?_
  refine lv_if_eq (tgt := 14) hx hb dX1_close_4 (by decide) (fun c_4 => ?_) (fun c_4 => ?_)
  · exact absurd c_4 (in_o0 h1)
  · refine lv_iload_n hx hb dX1_close_7 rfl (lv_at hl 2 rfl) ?_
    refine ro_call (va_runS (As := [.int y]) (rest := []) ⟨hx, hb, hml, hown, hts⟩ (c_X1_isChoice l G y) (va_cwS 1 hts gX1_close_X1_isChoice rfl rfl rfl (by decide +kernel) ⟨Nat.le_of_ble_eq_true rfl, Nat.le_of_ble_eq_true rfl⟩) ⟨ro_blind, ro_pre _ (hP.sub [] rfl) hK⟩ rfl rfl hl.1 rfl (lv_room (Nat.le_of_ble_eq_true rfl)) dX1_close_8 ⟨Nat.le_refl _, Nat.le_refl _⟩) ?_
    refine lv_if_ne (tgt := 22) hx hb dX1_close_11 (by decide) (fun c_11 => ?_) (fun c_11 => ?_)
    · refine lv_aload_n hx hb dX1_close_22 rfl (lv_at hl 0 rfl) ?_
      refine lv_iload_n hx hb dX1_close_23 rfl (lv_at hl 1 rfl) ?_
      refine lv_sipush (v := 1024) hx hb dX1_close_24 (by decide) ?_
      refine lv_imul hx hb dX1_close_27 ?_
      refine lv_iload_n hx hb dX1_close_28 rfl (lv_at hl 2 rfl) ?_
      refine lv_iload_n hx hb dX1_close_29 rfl (lv_at hl 1 rfl) ?_
      refine lv_iand hx hb dX1_close_30 ?_
      refine lv_iadd hx hb dX1_close_31 ?_
      refine lv_aload_n hx hb dX1_close_32 rfl (lv_at hl 0 rfl) ?_
      refine va_get (D := G.1) (ci := 1) (v := .int st) (C := RX1) (T := TX1) (N := 12) hx hb hts hinX1 hown hK.1 hP 0 rfl rfl 3 (by decide) hw1 (fun _ h9 => h9) rfl dX1_close_33 ?_
      refine ro_call (va_runV (As := [.int ((x * 1024) + (y &&& x)), .int st]) (rest := []) ⟨hx, hb, hml, hown, hts⟩ (c_X1_closed l G bx bd bo bs bk ca wa st sk tk be so le an fd fo ro dg gv ((x * 1024) + (y &&& x)) (clo_ne h1 h2) st k est (by omega)) (cwV 2 hts gX1_close_X1_closed rfl rfl rfl (by decide +kernel) ⟨Nat.le_of_ble_eq_true rfl, Nat.le_of_ble_eq_true rfl⟩) ⟨ro_blind, va_recv hK.1 hP (ci := 1) (q0 := 0) rfl rfl, ro_pre _ hP hK⟩ rfl rfl hl.1 rfl (lv_room (Nat.le_of_ble_eq_true rfl)) dX1_close_36 ⟨Nat.le_refl _, Nat.le_refl _⟩) ?_
      exact W.iret (v := cxO ro dg k ((x * 1024) + (y &&& x)) 11) hx hb hr (fun t ht hW => ⟨congrArg (fun z => Outcome.returned (some (Value.int z))) (rfl), ht⟩) (fun _ h => nomatch h) dX1_close_39
    · exact absurd c_11 (in_o0 h2)

abbrev rmX1_load : Room := { frames := 2, cells := 0, slots := 0, locals := 69 }
set_option maxHeartbeats 4000000 in
set_option maxRecDepth 100000 in
theorem c_X1_load (l : Launch) (G : Gt) (sz : Nat) (bx bd bo bs bk : Nat) (ca wa : Nat → Nat) (st sk tk be so le an : Int32) (fd fo : Nat → Int32) (ro : Nat → Nat → Int32) (dg gv : Nat → Int32) (x : Int32) (k : Nat) (est : st = nI k) (hk30 : k ≤ 30) (n : Nat) (esk : sk = nI n) (hn : n < 6) (h1 : outI x 0 (st - 1) = 0) : Met l yX1_load wsX1_load rmX1_load (mu_P G sz [.ref bx, .int x] ([(bx, .inr (1, [.ref bd, .ref bo, .ref bs, .int st, .ref bk, .int sk, .ref (ca 36), .int tk, .int be, .int so, .int le, .int an])), (bd, eI G 10 fd), (bo, eI G 10 fo), (bs, eR G 30 (fun k => some (ca k))), (bk, eR G 6 (fun k => some (ca (30 + k))))] ++ pool G ca wa ro dg gv)) (mu_Q G none ([(bx, .inr (1, [.ref bd, .ref bo, .ref bs, .int st, .ref bk, .int (sk + 1), .ref (ca 36), .int tk, .int be, .int so, .int le, .int an])), (bd, eI G 10 fd), (bo, eI G 10 fo), (bs, eR G 30 (fun k => some (ca k))), (bk, eR G 6 (fun k => some (ca (30 + k))))] ++ pool G ca wa (va_up ro (30 + n) (mixf 10 (ro x.toNatClampNeg) (ro (30 + n)))) (va_up dg (30 + n) (dg x.toNatClampNeg)) gv) (va_A ([(bx, .inr (1, [.ref bd, .ref bo, .ref bs, .int st, .ref bk, .int sk, .ref (ca 36), .int tk, .int be, .int so, .int le, .int an])), (bd, eI G 10 fd), (bo, eI G 10 fo), (bs, eR G 30 (fun k => some (ca k))), (bk, eR G 6 (fun k => some (ca (30 + k))))] ++ pool G ca wa ro dg gv) sz)) 0 0 (va_A ([(bx, .inr (1, [.ref bd, .ref bo, .ref bs, .int st, .ref bk, .int sk, .ref (ca 36), .int tk, .int be, .int so, .int le, .int an])), (bd, eI G 10 fd), (bo, eI G 10 fo), (bs, eR G 30 (fun k => some (ca k))), (bk, eR G 6 (fun k => some (ca (30 + k))))] ++ pool G ca wa ro dg gv) sz) := by
  refine Met.ofW (cc := cX1_load) (maxL := 2) (ret := none) (by decide) rfl ?_
  intro p e s m args below meth c s₁ B hml hv
  obtain ⟨rfl, hsz, hP, hD0, hK⟩ := hv
  have hx := B.exec
  have hb := B.bytes
  have hr := B.returns
  have hts := atoms_spec (ws := wsX1_load) B.pre
  have hown : s.vm.findClass RX1 = some m.cls := findClass_of_methodNamed B.named
  have hlocks := B.notSynchronized
  subst hsz
  have hD := hD0.self (sz := s.heap.size)
  generalize hAe : va_A ([(bx, .inr (1, [.ref bd, .ref bo, .ref bs, .int st, .ref bk, .int sk, .ref (ca 36), .int tk, .int be, .int so, .int le, .int an])), (bd, eI G 10 fd), (bo, eI G 10 fo), (bs, eR G 30 (fun k => some (ca k))), (bk, eR G 6 (fun k => some (ca (30 + k))))] ++ pool G ca wa ro dg gv) s.heap.size = A at hD ⊢
  have hA : ∀ q : Nat, s.heap.size ≤ q → A q := fun q h => by rw [← hAe]; exact Or.inr h
  have hS : va_S A s.heap s.heap [] := va_S.rf
  have hinX1 : ∀ w ∈ u_ws RX1 TX1 12, w ∈ wsX1_load := fun w h => List.mem_cons_of_mem _ (List.mem_append_left _ (List.mem_append_left _ (List.mem_append_left _ (List.mem_append_right _ h))))
  have hw1 := hts (.fieldLink RX1 26 "ChoiceBoard" "stack" "[LChoiceBoard$Constraint;") (by decide +kernel)
  have hw2 := hts (.fieldLink RX1 29 "ChoiceBoard" "stacked" "I") (by decide +kernel)
  have hw3 := hts (.fieldLink RX1 18 "ChoiceBoard" "store" "[LChoiceBoard$Constraint;") (by decide +kernel)
  obtain ⟨exn, hxn⟩ := outS est (by omega) h1
  have hl := lv_entry ([.ref bx, .int x]) (n := 2) (Nat.le_of_ble_eq_true rfl)
  rw [lg_entry_eq]
  generalize (lg_sl ([.ref bx, .int x]) ++ List.replicate (2 - (lg_sl ([.ref bx, .int x])).length) Slot.unset).toArray = ls at hl ⊢
  have hl : lv_has ls 2 [(0, .ref bx), (1, .int x)] := hl
  refine lv_aload_n hx hb dX1_load_0 rfl (lv_at hl 0 rfl) ?_
  refine lv_iload_n hx hb dX1_load_1 rfl (lv_at hl 1 rfl) ?_
  refine ro_call (va_runV (As := [.int x]) (rest := []) ⟨hx, hb, hml, hown, hts⟩ (c_X1_isStored l G bx bd bo bs bk (ca 36) st sk tk be so le an x) (cwV 1 hts gX1_load_X1_isStored rfl rfl rfl (by decide +kernel) ⟨Nat.le_of_ble_eq_true rfl, Nat.le_of_ble_eq_true rfl⟩) ⟨ro_blind, va_recv hK.1 hP (ci := 1) (q0 := 0) rfl rfl, ro_pre _ (hP.sub [0] rfl) hK⟩ rfl rfl hl.1 rfl (lv_room (Nat.le_of_ble_eq_true rfl)) dX1_load_2 ⟨Nat.le_refl _, Nat.le_refl _⟩) ?_
  refine lv_if_ne (tgt := 16) hx hb dX1_load_5 (by decide) (fun c_5 => ?_) (fun c_5 => ?_)
  · refine lv_aload_n hx hb dX1_load_16 rfl (lv_at hl 0 rfl) ?_
    refine ro_callv (va_runV (As := []) (rest := []) ⟨hx, hb, hml, hown, hts⟩ (c_X1_refuseFullStack l G bx bd bo bs bk (ca 36) st sk tk be so le an (lt6 esk hn)) (cwV 0 hts gX1_load_X1_refuseFullStack rfl rfl rfl (by decide +kernel) ⟨Nat.le_of_ble_eq_true rfl, Nat.le_of_ble_eq_true rfl⟩) ⟨ro_blind, va_recv hK.1 hP (ci := 1) (q0 := 0) rfl rfl, ro_pre _ (hP.sub [0] rfl) hK⟩ rfl rfl hl.1 rfl (lv_room (Nat.le_of_ble_eq_true rfl)) dX1_load_17 ⟨Nat.le_refl _, Nat.le_refl _⟩) ?_
    refine lv_aload_n hx hb dX1_load_20 rfl (lv_at hl 0 rfl) ?_
    refine va_get (D := G.1) (ci := 1) (v := .ref bk) (C := RX1) (T := TX1) (N := 12) hx hb hts hinX1 hown hK.1 hP 0 rfl rfl 4 (by decide) hw1 (fun _ h9 => h9) rfl dX1_load_21 ?_
    refine lv_aload_n hx hb dX1_load_24 rfl (lv_at hl 0 rfl) ?_
    refine va_get (D := G.1) (ci := 1) (v := .int sk) (C := RX1) (T := TX1) (N := 12) hx hb hts hinX1 hown hK.1 hP 0 rfl rfl 5 (by decide) hw2 (fun _ h9 => h9) rfl dX1_load_25 ?_
    refine ra_aald (v := n) (b := ca (30 + n)) hx hb hK.1 hP 4 2 rfl rfl esk (by omega) (by decide) rfl dX1_load_28 ?_
    refine lv_aload_n hx hb dX1_load_29 rfl (lv_at hl 0 rfl) ?_
    refine va_get (D := G.1) (ci := 1) (v := .ref bs) (C := RX1) (T := TX1) (N := 12) hx hb hts hinX1 hown hK.1 hP 0 rfl rfl 2 (by decide) hw3 (fun _ h9 => h9) rfl dX1_load_30 ?_
    refine lv_iload_n hx hb dX1_load_33 rfl (lv_at hl 1 rfl) ?_
    refine ra_aald (v := x.toNatClampNeg) (b := ca x.toNatClampNeg) hx hb hK.1 hP 3 2 rfl rfl exn (by omega) (by decide) rfl dX1_load_34 ?_
    refine mu_call (va_runV (As := [.ref (ca x.toNatClampNeg)]) (rest := []) ⟨hx, hb, hml, hown, hts⟩ (c_X0_become l G _ (ca (30 + n)) (wa (30 + n)) (dg (30 + n)) (gv (30 + n)) (ro (30 + n)) (ca x.toNatClampNeg) (wa x.toNatClampNeg) (dg x.toNatClampNeg) (gv x.toNatClampNeg) (ro x.toNatClampNeg)) (cwV 1 hts gX1_load_X0_become rfl rfl rfl (by decide +kernel) ⟨Nat.le_of_ble_eq_true rfl, Nat.le_of_ble_eq_true rfl⟩) ⟨mu_blind, va_recv hK.1 hP (ci := 0) (q0 := 5 + (30 + n)) rfl (pool_c rfl (by omega)), mu_pre _ (lcP [5 + (30 + n), 42 + (30 + n), 5 + x.toNatClampNeg, 42 + x.toNatClampNeg] hP (lc (pool_c rfl (by omega)) (lc (pool_w rfl (by omega)) (lc (pool_c rfl (by omega)) (lc (pool_w rfl (by omega)) rfl))))) (hD.sub [5 + (30 + n), 42 + (30 + n), 5 + x.toNatClampNeg, 42 + x.toNatClampNeg] (nd4 (by omega) (by omega) (by omega)) (lc (pool_c rfl (by omega)) (lc (pool_w rfl (by omega)) (lc (pool_c rfl (by omega)) (lc (pool_w rfl (by omega)) rfl))))) hK⟩ rfl rfl hl.1 rfl (lv_room (Nat.le_of_ble_eq_true rfl)) dX1_load_35 ⟨Nat.le_refl _, Nat.le_refl _⟩) hS (va_free hD hS hA [5 + (30 + n), 42 + (30 + n), 5 + x.toNatClampNeg, 42 + x.toNatClampNeg] (lc (pool_c rfl (by omega)) (lc (pool_w rfl (by omega)) (lc (pool_c rfl (by omega)) (lc (pool_w rfl (by omega)) rfl))))) (va_free hD hS hA [5 + (30 + n), 42 + (30 + n), 5 + x.toNatClampNeg, 42 + x.toNatClampNeg] (lc (pool_c rfl (by omega)) (lc (pool_w rfl (by omega)) (lc (pool_c rfl (by omega)) (lc (pool_w rfl (by omega)) rfl))))) (fun H1 locs hP1 hD1 hk1 hS => ?_)
    obtain ⟨hP, hD⟩ := pj (k := (30 + n)) (is' := [5 + x.toNatClampNeg, 42 + x.toNatClampNeg]) (wc := [(ca (30 + n), .inr (0, [.ref (wa (30 + n)), .int (dg (30 + n)), .int (gv (30 + n))])), (wa (30 + n), eI G 10 (ro (30 + n))), (ca x.toNatClampNeg, .inr (0, [.ref (wa x.toNatClampNeg), .int (dg x.toNatClampNeg), .int (gv x.toNatClampNeg)])), (wa x.toNatClampNeg, eI G 10 (ro x.toNatClampNeg))]) rfl (by omega) hP hD (lc (pool_c rfl (by omega)) (lc (pool_w rfl (by omega)) (lc (pool_c rfl (by omega)) (lc (pool_w rfl (by omega)) rfl)))) hk1 hP1 rfl rfl (fun j q h => ⟨j + 2, h⟩)
    rw [upS gv (30 + n)] at hP hD
    generalize H1 = H at hP hS ⊢
    have hP : va_P G.1 vwCl ([(bx, .inr (1, [.ref bd, .ref bo, .ref bs, .int st, .ref bk, .int sk, .ref (ca 36), .int tk, .int be, .int so, .int le, .int an])), (bd, eI G 10 fd), (bo, eI G 10 fo), (bs, eR G 30 (fun k => some (ca k))), (bk, eR G 6 (fun k => some (ca (30 + k))))] ++ pool G ca wa (va_up ro (30 + n) (mixf 10 (ro x.toNatClampNeg) (ro (30 + n)))) (va_up dg (30 + n) (dg x.toNatClampNeg)) gv) H := hP
    have hD : va_D A ([(bx, .inr (1, [.ref bd, .ref bo, .ref bs, .int st, .ref bk, .int sk, .ref (ca 36), .int tk, .int be, .int so, .int le, .int an])), (bd, eI G 10 fd), (bo, eI G 10 fo), (bs, eR G 30 (fun k => some (ca k))), (bk, eR G 6 (fun k => some (ca (30 + k))))] ++ pool G ca wa (va_up ro (30 + n) (mixf 10 (ro x.toNatClampNeg) (ro (30 + n)))) (va_up dg (30 + n) (dg x.toNatClampNeg)) gv) := hD
    refine lv_aload_n hx hb dX1_load_38 rfl (lv_at hl 0 rfl) ?_
    refine lv_dup hx hb dX1_load_39 rfl ?_
    refine va_get (D := G.1) (ci := 1) (v := .int sk) (C := RX1) (T := TX1) (N := 12) hx hb hts hinX1 hown hK.1 hP 0 rfl rfl 5 (by decide) hw2 (fun _ h9 => h9) rfl dX1_load_40 ?_
    refine lv_iconst (v := 1) hx hb dX1_load_43 (by decide) ?_
    refine lv_iadd hx hb dX1_load_44 ?_
    refine va_put (D := G.1) (ci := 1) (v := .int (sk + 1)) (ty := .int) (C := RX1) (T := TX1) (N := 12) hx hb hts hinX1 tyX1 tyX1_ok nmX1 hown hK.1 hP hD hS 0 rfl rfl 5 (by decide) hw2 (fun _ h9 => h9) rfl (by decide +kernel) rfl rfl (Nat.le_of_ble_eq_true rfl) dX1_load_45 (fun H locs hP hD hS => ?_)
    have hP : va_P G.1 vwCl ([(bx, .inr (1, [.ref bd, .ref bo, .ref bs, .int st, .ref bk, .int (sk + 1), .ref (ca 36), .int tk, .int be, .int so, .int le, .int an])), (bd, eI G 10 fd), (bo, eI G 10 fo), (bs, eR G 30 (fun k => some (ca k))), (bk, eR G 6 (fun k => some (ca (30 + k))))] ++ pool G ca wa (va_up ro (30 + n) (mixf 10 (ro x.toNatClampNeg) (ro (30 + n)))) (va_up dg (30 + n) (dg x.toNatClampNeg)) gv) H := hP
    have hD : va_D A ([(bx, .inr (1, [.ref bd, .ref bo, .ref bs, .int st, .ref bk, .int (sk + 1), .ref (ca 36), .int tk, .int be, .int so, .int le, .int an])), (bd, eI G 10 fd), (bo, eI G 10 fo), (bs, eR G 30 (fun k => some (ca k))), (bk, eR G 6 (fun k => some (ca (30 + k))))] ++ pool G ca wa (va_up ro (30 + n) (mixf 10 (ro x.toNatClampNeg) (ro (30 + n)))) (va_up dg (30 + n) (dg x.toNatClampNeg)) gv) := hD
    have hP9 : va_P G.1 vwCl ([(bx, .inr (1, [.ref bd, .ref bo, .ref bs, .int st, .ref bk, .int (sk + 1), .ref (ca 36), .int tk, .int be, .int so, .int le, .int an])), (bd, eI G 10 fd), (bo, eI G 10 fo), (bs, eR G 30 (fun k => some (ca k))), (bk, eR G 6 (fun k => some (ca (30 + k))))] ++ pool G ca wa (va_up ro (30 + n) (mixf 10 (ro x.toNatClampNeg) (ro (30 + n)))) (va_up dg (30 + n) (dg x.toNatClampNeg)) gv) _ := (hP)
    have hD9 : va_D A ([(bx, .inr (1, [.ref bd, .ref bo, .ref bs, .int st, .ref bk, .int (sk + 1), .ref (ca 36), .int tk, .int be, .int so, .int le, .int an])), (bd, eI G 10 fd), (bo, eI G 10 fo), (bs, eR G 30 (fun k => some (ca k))), (bk, eR G 6 (fun k => some (ca (30 + k))))] ++ pool G ca wa (va_up ro (30 + n) (mixf 10 (ro x.toNatClampNeg) (ro (30 + n)))) (va_up dg (30 + n) (dg x.toNatClampNeg)) gv) := (hD)
    exact W.vret hx hb hr (fun t ht hW => ⟨rfl, by rw [ht]; exact hP9, hD9, hS.F ht⟩) hS.2.2 dX1_load_48
  · exact absurd c_5 (in_o0 h1)

abbrev rmX1_axiom : Room := { frames := 2, cells := 0, slots := 0, locals := 45 }
set_option maxHeartbeats 4000000 in
set_option maxRecDepth 100000 in
theorem c_X1_axiom (l : Launch) (G : Gt) (sz : Nat) (bx bd bo bs bk : Nat) (ca wa : Nat → Nat) (st sk tk be so le an : Int32) (fd fo : Nat → Int32) (ro : Nat → Nat → Int32) (dg gv : Nat → Int32) (x y : Int32) (n : Nat) (esk : sk = nI n) (hn : n < 6) (h1 : outI x 0 9 = 0) : Met l yX1_axiom wsX1_axiom rmX1_axiom (mu_P G sz [.ref bx, .int x, .int y] ([(bx, .inr (1, [.ref bd, .ref bo, .ref bs, .int st, .ref bk, .int sk, .ref (ca 36), .int tk, .int be, .int so, .int le, .int an])), (bd, eI G 10 fd), (bo, eI G 10 fo), (bs, eR G 30 (fun k => some (ca k))), (bk, eR G 6 (fun k => some (ca (30 + k))))] ++ pool G ca wa ro dg gv)) (mu_Q G none ([(bx, .inr (1, [.ref bd, .ref bo, .ref bs, .int st, .ref bk, .int (sk + 1), .ref (ca 36), .int tk, .int be, .int so, .int le, .int an])), (bd, eI G 10 fd), (bo, eI G 10 fo), (bs, eR G 30 (fun k => some (ca k))), (bk, eR G 6 (fun k => some (ca (30 + k))))] ++ pool G ca wa (va_up ro (30 + n) (upd (mixf 10 (fun _ => 0) (ro (30 + n))) x.toNatClampNeg (if y = 0 then -1 else 1))) (va_up dg (30 + n) 0) gv) (va_A ([(bx, .inr (1, [.ref bd, .ref bo, .ref bs, .int st, .ref bk, .int sk, .ref (ca 36), .int tk, .int be, .int so, .int le, .int an])), (bd, eI G 10 fd), (bo, eI G 10 fo), (bs, eR G 30 (fun k => some (ca k))), (bk, eR G 6 (fun k => some (ca (30 + k))))] ++ pool G ca wa ro dg gv) sz)) 0 0 (va_A ([(bx, .inr (1, [.ref bd, .ref bo, .ref bs, .int st, .ref bk, .int sk, .ref (ca 36), .int tk, .int be, .int so, .int le, .int an])), (bd, eI G 10 fd), (bo, eI G 10 fo), (bs, eR G 30 (fun k => some (ca k))), (bk, eR G 6 (fun k => some (ca (30 + k))))] ++ pool G ca wa ro dg gv) sz) := by
  refine Met.ofW (cc := cX1_axiom) (maxL := 3) (ret := none) (by decide) rfl ?_
  intro p e s m args below meth c s₁ B hml hv
  obtain ⟨rfl, hsz, hP, hD0, hK⟩ := hv
  have hx := B.exec
  have hb := B.bytes
  have hr := B.returns
  have hts := atoms_spec (ws := wsX1_axiom) B.pre
  have hown : s.vm.findClass RX1 = some m.cls := findClass_of_methodNamed B.named
  have hlocks := B.notSynchronized
  subst hsz
  have hD := hD0.self (sz := s.heap.size)
  generalize hAe : va_A ([(bx, .inr (1, [.ref bd, .ref bo, .ref bs, .int st, .ref bk, .int sk, .ref (ca 36), .int tk, .int be, .int so, .int le, .int an])), (bd, eI G 10 fd), (bo, eI G 10 fo), (bs, eR G 30 (fun k => some (ca k))), (bk, eR G 6 (fun k => some (ca (30 + k))))] ++ pool G ca wa ro dg gv) s.heap.size = A at hD ⊢
  have hA : ∀ q : Nat, s.heap.size ≤ q → A q := fun q h => by rw [← hAe]; exact Or.inr h
  have hS : va_S A s.heap s.heap [] := va_S.rf
  have hinX1 : ∀ w ∈ u_ws RX1 TX1 12, w ∈ wsX1_axiom := fun w h => List.mem_cons_of_mem _ (List.mem_append_left _ (List.mem_append_left _ (List.mem_append_left _ (List.mem_append_right _ h))))
  have hw1 := hts (.fieldLink RX1 26 "ChoiceBoard" "stack" "[LChoiceBoard$Constraint;") (by decide +kernel)
  have hw2 := hts (.fieldLink RX1 29 "ChoiceBoard" "stacked" "I") (by decide +kernel)
  obtain ⟨exn, hxn⟩ := out0 (N := 9) rfl (by decide) h1
  have hl := lv_entry ([.ref bx, .int x, .int y]) (n := 3) (Nat.le_of_ble_eq_true rfl)
  rw [lg_entry_eq]
  generalize (lg_sl ([.ref bx, .int x, .int y]) ++ List.replicate (3 - (lg_sl ([.ref bx, .int x, .int y])).length) Slot.unset).toArray = ls at hl ⊢
  have hl : lv_has ls 3 [(0, .ref bx), (1, .int x), (2, .int y)] := hl
  refine lv_iload_n hx hb dX1_axiom_0 rfl (lv_at hl 1 rfl) ?_
  refine ro_call (va_runS (As := [.int x]) (rest := []) ⟨hx, hb, hml, hown, hts⟩ (c_X1_isVariable l G x) (va_cwS 1 hts gX1_axiom_X1_isVariable rfl rfl rfl (by decide +kernel) ⟨Nat.le_of_ble_eq_true rfl, Nat.le_of_ble_eq_true rfl⟩) ⟨ro_blind, ro_pre _ (hP.sub [] rfl) hK⟩ rfl rfl hl.1 rfl (lv_room (Nat.le_of_ble_eq_true rfl)) dX1_axiom_1 ⟨Nat.le_refl _, Nat.le_refl _⟩) ?_
  refine lv_if_ne (tgt := 15) hx hb dX1_axiom_4 (by decide) (fun c_4 => ?_) (fun c_4 => ?_)
  · refine lv_aload_n hx hb dX1_axiom_15 rfl (lv_at hl 0 rfl) ?_
    refine ro_callv (va_runV (As := []) (rest := []) ⟨hx, hb, hml, hown, hts⟩ (c_X1_refuseFullStack l G bx bd bo bs bk (ca 36) st sk tk be so le an (lt6 esk hn)) (cwV 0 hts gX1_axiom_X1_refuseFullStack rfl rfl rfl (by decide +kernel) ⟨Nat.le_of_ble_eq_true rfl, Nat.le_of_ble_eq_true rfl⟩) ⟨ro_blind, va_recv hK.1 hP (ci := 1) (q0 := 0) rfl rfl, ro_pre _ (hP.sub [0] rfl) hK⟩ rfl rfl hl.1 rfl (lv_room (Nat.le_of_ble_eq_true rfl)) dX1_axiom_16 ⟨Nat.le_refl _, Nat.le_refl _⟩) ?_
    refine lv_aload_n hx hb dX1_axiom_19 rfl (lv_at hl 0 rfl) ?_
    refine va_get (D := G.1) (ci := 1) (v := .ref bk) (C := RX1) (T := TX1) (N := 12) hx hb hts hinX1 hown hK.1 hP 0 rfl rfl 4 (by decide) hw1 (fun _ h9 => h9) rfl dX1_axiom_20 ?_
    refine lv_aload_n hx hb dX1_axiom_23 rfl (lv_at hl 0 rfl) ?_
    refine va_get (D := G.1) (ci := 1) (v := .int sk) (C := RX1) (T := TX1) (N := 12) hx hb hts hinX1 hown hK.1 hP 0 rfl rfl 5 (by decide) hw2 (fun _ h9 => h9) rfl dX1_axiom_24 ?_
    refine ra_aald (v := n) (b := ca (30 + n)) hx hb hK.1 hP 4 2 rfl rfl esk (by omega) (by decide) rfl dX1_axiom_27 ?_
    refine lv_iload_n hx hb dX1_axiom_28 rfl (lv_at hl 1 rfl) ?_
    refine lv_iload_n hx hb dX1_axiom_29 rfl (lv_at hl 2 rfl) ?_
    refine mu_call (va_runV (As := [.int x, .int y]) (rest := []) ⟨hx, hb, hml, hown, hts⟩ (c_X0_becomeAxiom l G _ (ca (30 + n)) (wa (30 + n)) (dg (30 + n)) (gv (30 + n)) (ro (30 + n)) x y x.toNatClampNeg exn (by omega)) (cwV 2 hts gX1_axiom_X0_becomeAxiom rfl rfl rfl (by decide +kernel) ⟨Nat.le_of_ble_eq_true rfl, Nat.le_of_ble_eq_true rfl⟩) ⟨mu_blind, va_recv hK.1 hP (ci := 0) (q0 := 5 + (30 + n)) rfl (pool_c rfl (by omega)), mu_pre _ (lcP [5 + (30 + n), 42 + (30 + n)] hP (lc (pool_c rfl (by omega)) (lc (pool_w rfl (by omega)) rfl))) (hD.sub [5 + (30 + n), 42 + (30 + n)] (nd2 (30 + n)) (lc (pool_c rfl (by omega)) (lc (pool_w rfl (by omega)) rfl))) hK⟩ rfl rfl hl.1 rfl (lv_room (Nat.le_of_ble_eq_true rfl)) dX1_axiom_30 ⟨Nat.le_refl _, Nat.le_refl _⟩) hS (va_free hD hS hA [5 + (30 + n), 42 + (30 + n)] (lc (pool_c rfl (by omega)) (lc (pool_w rfl (by omega)) rfl))) (va_free hD hS hA [5 + (30 + n), 42 + (30 + n)] (lc (pool_c rfl (by omega)) (lc (pool_w rfl (by omega)) rfl))) (fun H1 locs hP1 hD1 hk1 hS => ?_)
    obtain ⟨hP, hD⟩ := pj (k := (30 + n)) (is' := []) (wc := [(ca (30 + n), .inr (0, [.ref (wa (30 + n)), .int (dg (30 + n)), .int (gv (30 + n))])), (wa (30 + n), eI G 10 (ro (30 + n)))]) rfl (by omega) hP hD (lc (pool_c rfl (by omega)) (lc (pool_w rfl (by omega)) rfl)) hk1 hP1 rfl rfl (fun j q h => ⟨j + 2, h⟩)
    rw [upS gv (30 + n)] at hP hD
    generalize H1 = H at hP hS ⊢
    have hP : va_P G.1 vwCl ([(bx, .inr (1, [.ref bd, .ref bo, .ref bs, .int st, .ref bk, .int sk, .ref (ca 36), .int tk, .int be, .int so, .int le, .int an])), (bd, eI G 10 fd), (bo, eI G 10 fo), (bs, eR G 30 (fun k => some (ca k))), (bk, eR G 6 (fun k => some (ca (30 + k))))] ++ pool G ca wa (va_up ro (30 + n) (upd (mixf 10 (fun _ => 0) (ro (30 + n))) x.toNatClampNeg (if y = 0 then -1 else 1))) (va_up dg (30 + n) 0) gv) H := hP
    have hD : va_D A ([(bx, .inr (1, [.ref bd, .ref bo, .ref bs, .int st, .ref bk, .int sk, .ref (ca 36), .int tk, .int be, .int so, .int le, .int an])), (bd, eI G 10 fd), (bo, eI G 10 fo), (bs, eR G 30 (fun k => some (ca k))), (bk, eR G 6 (fun k => some (ca (30 + k))))] ++ pool G ca wa (va_up ro (30 + n) (upd (mixf 10 (fun _ => 0) (ro (30 + n))) x.toNatClampNeg (if y = 0 then -1 else 1))) (va_up dg (30 + n) 0) gv) := hD
    refine lv_aload_n hx hb dX1_axiom_33 rfl (lv_at hl 0 rfl) ?_
    refine lv_dup hx hb dX1_axiom_34 rfl ?_
    refine va_get (D := G.1) (ci := 1) (v := .int sk) (C := RX1) (T := TX1) (N := 12) hx hb hts hinX1 hown hK.1 hP 0 rfl rfl 5 (by decide) hw2 (fun _ h9 => h9) rfl dX1_axiom_35 ?_
    refine lv_iconst (v := 1) hx hb dX1_axiom_38 (by decide) ?_
    refine lv_iadd hx hb dX1_axiom_39 ?_
    refine va_put (D := G.1) (ci := 1) (v := .int (sk + 1)) (ty := .int) (C := RX1) (T := TX1) (N := 12) hx hb hts hinX1 tyX1 tyX1_ok nmX1 hown hK.1 hP hD hS 0 rfl rfl 5 (by decide) hw2 (fun _ h9 => h9) rfl (by decide +kernel) rfl rfl (Nat.le_of_ble_eq_true rfl) dX1_axiom_40 (fun H locs hP hD hS => ?_)
    have hP : va_P G.1 vwCl ([(bx, .inr (1, [.ref bd, .ref bo, .ref bs, .int st, .ref bk, .int (sk + 1), .ref (ca 36), .int tk, .int be, .int so, .int le, .int an])), (bd, eI G 10 fd), (bo, eI G 10 fo), (bs, eR G 30 (fun k => some (ca k))), (bk, eR G 6 (fun k => some (ca (30 + k))))] ++ pool G ca wa (va_up ro (30 + n) (upd (mixf 10 (fun _ => 0) (ro (30 + n))) x.toNatClampNeg (if y = 0 then -1 else 1))) (va_up dg (30 + n) 0) gv) H := hP
    have hD : va_D A ([(bx, .inr (1, [.ref bd, .ref bo, .ref bs, .int st, .ref bk, .int (sk + 1), .ref (ca 36), .int tk, .int be, .int so, .int le, .int an])), (bd, eI G 10 fd), (bo, eI G 10 fo), (bs, eR G 30 (fun k => some (ca k))), (bk, eR G 6 (fun k => some (ca (30 + k))))] ++ pool G ca wa (va_up ro (30 + n) (upd (mixf 10 (fun _ => 0) (ro (30 + n))) x.toNatClampNeg (if y = 0 then -1 else 1))) (va_up dg (30 + n) 0) gv) := hD
    have hP9 : va_P G.1 vwCl ([(bx, .inr (1, [.ref bd, .ref bo, .ref bs, .int st, .ref bk, .int (sk + 1), .ref (ca 36), .int tk, .int be, .int so, .int le, .int an])), (bd, eI G 10 fd), (bo, eI G 10 fo), (bs, eR G 30 (fun k => some (ca k))), (bk, eR G 6 (fun k => some (ca (30 + k))))] ++ pool G ca wa (va_up ro (30 + n) (upd (mixf 10 (fun _ => 0) (ro (30 + n))) x.toNatClampNeg (if y = 0 then -1 else 1))) (va_up dg (30 + n) 0) gv) _ := (hP)
    have hD9 : va_D A ([(bx, .inr (1, [.ref bd, .ref bo, .ref bs, .int st, .ref bk, .int (sk + 1), .ref (ca 36), .int tk, .int be, .int so, .int le, .int an])), (bd, eI G 10 fd), (bo, eI G 10 fo), (bs, eR G 30 (fun k => some (ca k))), (bk, eR G 6 (fun k => some (ca (30 + k))))] ++ pool G ca wa (va_up ro (30 + n) (upd (mixf 10 (fun _ => 0) (ro (30 + n))) x.toNatClampNeg (if y = 0 then -1 else 1))) (va_up dg (30 + n) 0) gv) := (hD)
    exact W.vret hx hb hr (fun t ht hW => ⟨rfl, by rw [ht]; exact hP9, hD9, hS.F ht⟩) hS.2.2 dX1_axiom_43
  · exact absurd c_4 (in_o0 h1)

abbrev rmX1_add : Room := { frames := 4, cells := 0, slots := 0, locals := 83 }
set_option maxHeartbeats 4000000 in
set_option maxRecDepth 100000 in
theorem c_X1_add (l : Launch) (G : Gt) (sz : Nat) (bx bd bo bs bk : Nat) (ca wa : Nat → Nat) (st sk tk be so le an : Int32) (fd fo : Nat → Int32) (ro : Nat → Nat → Int32) (dg gv : Nat → Int32) (n : Nat) (esk : sk = nI n) (hn6 : n ≤ 6) (hn2 : 2 ≤ n) (hbig : tlI (mixf 10 (fun v => (ro (30 + (n - 2)) v) + (ro (30 + (n - 1)) v)) (ro 36)) (smD (ro (30 + (n - 2))) (ro (30 + (n - 1))) (dg (30 + (n - 2))) (dg (30 + (n - 1)))) = false) : Met l yX1_add wsX1_add rmX1_add (mu_P G sz [.ref bx] ([(bx, .inr (1, [.ref bd, .ref bo, .ref bs, .int st, .ref bk, .int sk, .ref (ca 36), .int tk, .int be, .int so, .int le, .int an])), (bd, eI G 10 fd), (bo, eI G 10 fo), (bs, eR G 30 (fun k => some (ca k))), (bk, eR G 6 (fun k => some (ca (30 + k))))] ++ pool G ca wa ro dg gv)) (mu_Q G none ([(bx, .inr (1, [.ref bd, .ref bo, .ref bs, .int st, .ref bk, .int (sk - 1), .ref (ca 36), .int tk, .int be, .int so, .int le, .int an])), (bd, eI G 10 fd), (bo, eI G 10 fo), (bs, eR G 30 (fun k => some (ca k))), (bk, eR G 6 (fun k => some (ca (30 + k))))] ++ pool G ca wa (va_up (va_up ro 36 (mixf 10 (fun v => (ro (30 + (n - 2)) v) + (ro (30 + (n - 1)) v)) (ro 36))) (30 + (n - 2)) (mixf 10 ((va_up ro 36 (mixf 10 (fun v => (ro (30 + (n - 2)) v) + (ro (30 + (n - 1)) v)) (ro 36))) 36) ((va_up ro 36 (mixf 10 (fun v => (ro (30 + (n - 2)) v) + (ro (30 + (n - 1)) v)) (ro 36))) (30 + (n - 2))))) (va_up (va_up dg 36 (smD (ro (30 + (n - 2))) (ro (30 + (n - 1))) (dg (30 + (n - 2))) (dg (30 + (n - 1))))) (30 + (n - 2)) ((va_up dg 36 (smD (ro (30 + (n - 2))) (ro (30 + (n - 1))) (dg (30 + (n - 2))) (dg (30 + (n - 1))))) 36)) gv) (va_A ([(bx, .inr (1, [.ref bd, .ref bo, .ref bs, .int st, .ref bk, .int sk, .ref (ca 36), .int tk, .int be, .int so, .int le, .int an])), (bd, eI G 10 fd), (bo, eI G 10 fo), (bs, eR G 30 (fun k => some (ca k))), (bk, eR G 6 (fun k => some (ca (30 + k))))] ++ pool G ca wa ro dg gv) sz)) 0 0 (va_A ([(bx, .inr (1, [.ref bd, .ref bo, .ref bs, .int st, .ref bk, .int sk, .ref (ca 36), .int tk, .int be, .int so, .int le, .int an])), (bd, eI G 10 fd), (bo, eI G 10 fo), (bs, eR G 30 (fun k => some (ca k))), (bk, eR G 6 (fun k => some (ca (30 + k))))] ++ pool G ca wa ro dg gv) sz) := by
  refine Met.ofW (cc := cX1_add) (maxL := 1) (ret := none) (by decide) rfl ?_
  intro p e s m args below meth c s₁ B hml hv
  obtain ⟨rfl, hsz, hP, hD0, hK⟩ := hv
  have hx := B.exec
  have hb := B.bytes
  have hr := B.returns
  have hts := atoms_spec (ws := wsX1_add) B.pre
  have hown : s.vm.findClass RX1 = some m.cls := findClass_of_methodNamed B.named
  have hlocks := B.notSynchronized
  subst hsz
  have hD := hD0.self (sz := s.heap.size)
  generalize hAe : va_A ([(bx, .inr (1, [.ref bd, .ref bo, .ref bs, .int st, .ref bk, .int sk, .ref (ca 36), .int tk, .int be, .int so, .int le, .int an])), (bd, eI G 10 fd), (bo, eI G 10 fo), (bs, eR G 30 (fun k => some (ca k))), (bk, eR G 6 (fun k => some (ca (30 + k))))] ++ pool G ca wa ro dg gv) s.heap.size = A at hD ⊢
  have hA : ∀ q : Nat, s.heap.size ≤ q → A q := fun q h => by rw [← hAe]; exact Or.inr h
  have hS : va_S A s.heap s.heap [] := va_S.rf
  have hinX1 : ∀ w ∈ u_ws RX1 TX1 12, w ∈ wsX1_add := fun w h => List.mem_cons_of_mem _ (List.mem_append_left _ (List.mem_append_left _ (List.mem_append_left _ (List.mem_append_right _ h))))
  have hw1 := hts (.fieldLink RX1 29 "ChoiceBoard" "stacked" "I") (by decide +kernel)
  have hw2 := hts (.fieldLink RX1 33 "ChoiceBoard" "scratch" "LChoiceBoard$Constraint;") (by decide +kernel)
  have hw3 := hts (.fieldLink RX1 26 "ChoiceBoard" "stack" "[LChoiceBoard$Constraint;") (by decide +kernel)
  have hl := lv_entry ([.ref bx]) (n := 1) (Nat.le_of_ble_eq_true rfl)
  rw [lg_entry_eq]
  generalize (lg_sl ([.ref bx]) ++ List.replicate (1 - (lg_sl ([.ref bx])).length) Slot.unset).toArray = ls at hl ⊢
  have hl : lv_has ls 1 [(0, .ref bx)] := hl
  refine lv_aload_n hx hb dX1_add_0 rfl (lv_at hl 0 rfl) ?_
  refine va_get (D := G.1) (ci := 1) (v := .int sk) (C := RX1) (T := TX1) (N := 12) hx hb hts hinX1 hown hK.1 hP 0 rfl rfl 5 (by decide) hw1 (fun _ h9 => h9) rfl dX1_add_1 ?_
  refine lv_iconst (v := 2) hx hb dX1_add_4 (by decide) ?_
  refine lv_icmp_ge (tgt := 16) hx hb dX1_add_5 (by decide) (fun c_5 => ?_) (fun c_5 => ?_)
  · refine lv_aload_n hx hb dX1_add_16 rfl (lv_at hl 0 rfl) ?_
    refine va_get (D := G.1) (ci := 1) (v := .ref (ca 36)) (C := RX1) (T := TX1) (N := 12) hx hb hts hinX1 hown hK.1 hP 0 rfl rfl 6 (by decide) hw2 (fun _ h9 => h9) rfl dX1_add_17 ?_
    refine lv_aload_n hx hb dX1_add_20 rfl (lv_at hl 0 rfl) ?_
    refine va_get (D := G.1) (ci := 1) (v := .ref bk) (C := RX1) (T := TX1) (N := 12) hx hb hts hinX1 hown hK.1 hP 0 rfl rfl 4 (by decide) hw3 (fun _ h9 => h9) rfl dX1_add_21 ?_
    refine lv_aload_n hx hb dX1_add_24 rfl (lv_at hl 0 rfl) ?_
    refine va_get (D := G.1) (ci := 1) (v := .int sk) (C := RX1) (T := TX1) (N := 12) hx hb hts hinX1 hown hK.1 hP 0 rfl rfl 5 (by decide) hw1 (fun _ h9 => h9) rfl dX1_add_25 ?_
    refine lv_iconst (v := 2) hx hb dX1_add_28 (by decide) ?_
    refine lv_isub hx hb dX1_add_29 ?_
    refine ra_aald (v := (n - 2)) (b := ca (30 + (n - 2))) hx hb hK.1 hP 4 2 rfl rfl (na_sub esk (show (2 : Int32) = nI 2 from rfl) (by omega)) (by omega) (by decide) rfl dX1_add_30 ?_
    refine lv_aload_n hx hb dX1_add_31 rfl (lv_at hl 0 rfl) ?_
    refine va_get (D := G.1) (ci := 1) (v := .ref bk) (C := RX1) (T := TX1) (N := 12) hx hb hts hinX1 hown hK.1 hP 0 rfl rfl 4 (by decide) hw3 (fun _ h9 => h9) rfl dX1_add_32 ?_
    refine lv_aload_n hx hb dX1_add_35 rfl (lv_at hl 0 rfl) ?_
    refine va_get (D := G.1) (ci := 1) (v := .int sk) (C := RX1) (T := TX1) (N := 12) hx hb hts hinX1 hown hK.1 hP 0 rfl rfl 5 (by decide) hw1 (fun _ h9 => h9) rfl dX1_add_36 ?_
    refine lv_iconst (v := 1) hx hb dX1_add_39 (by decide) ?_
    refine lv_isub hx hb dX1_add_40 ?_
    refine ra_aald (v := (n - 1)) (b := ca (30 + (n - 1))) hx hb hK.1 hP 4 2 rfl rfl (na_pred esk (by omega)) (by omega) (by decide) rfl dX1_add_41 ?_
    refine mu_call (va_runV (As := [.ref (ca (30 + (n - 2))), .ref (ca (30 + (n - 1)))]) (rest := []) ⟨hx, hb, hml, hown, hts⟩ (c_X0_becomeSum l G _ (ca 36) (wa 36) (dg 36) (gv 36) (ro 36) (ca (30 + (n - 2))) (wa (30 + (n - 2))) (dg (30 + (n - 2))) (gv (30 + (n - 2))) (ro (30 + (n - 2))) (ca (30 + (n - 1))) (wa (30 + (n - 1))) (dg (30 + (n - 1))) (gv (30 + (n - 1))) (ro (30 + (n - 1)))) (cwV 2 hts gX1_add_X0_becomeSum rfl rfl rfl (by decide +kernel) ⟨Nat.le_of_ble_eq_true rfl, Nat.le_of_ble_eq_true rfl⟩) ⟨mu_blind, va_recv hK.1 hP (ci := 0) (q0 := 5 + 36) rfl (pool_c rfl (by omega)), mu_pre _ (lcP [5 + 36, 42 + 36, 5 + (30 + (n - 2)), 42 + (30 + (n - 2)), 5 + (30 + (n - 1)), 42 + (30 + (n - 1))] hP (lc (pool_c rfl (by omega)) (lc (pool_w rfl (by omega)) (lc (pool_c rfl (by omega)) (lc (pool_w rfl (by omega)) (lc (pool_c rfl (by omega)) (lc (pool_w rfl (by omega)) rfl))))))) (hD.sub [5 + 36, 42 + 36, 5 + (30 + (n - 2)), 42 + (30 + (n - 2)), 5 + (30 + (n - 1)), 42 + (30 + (n - 1))] (nd6 (by omega) (by omega) (by omega) (by omega) (by omega) (by omega)) (lc (pool_c rfl (by omega)) (lc (pool_w rfl (by omega)) (lc (pool_c rfl (by omega)) (lc (pool_w rfl (by omega)) (lc (pool_c rfl (by omega)) (lc (pool_w rfl (by omega)) rfl))))))) hK⟩ rfl rfl hl.1 rfl (lv_room (Nat.le_of_ble_eq_true rfl)) dX1_add_42 ⟨Nat.le_refl _, Nat.le_refl _⟩) hS (va_free hD hS hA [5 + 36, 42 + 36, 5 + (30 + (n - 2)), 42 + (30 + (n - 2)), 5 + (30 + (n - 1)), 42 + (30 + (n - 1))] (lc (pool_c rfl (by omega)) (lc (pool_w rfl (by omega)) (lc (pool_c rfl (by omega)) (lc (pool_w rfl (by omega)) (lc (pool_c rfl (by omega)) (lc (pool_w rfl (by omega)) rfl))))))) (va_free hD hS hA [5 + 36, 42 + 36, 5 + (30 + (n - 2)), 42 + (30 + (n - 2)), 5 + (30 + (n - 1)), 42 + (30 + (n - 1))] (lc (pool_c rfl (by omega)) (lc (pool_w rfl (by omega)) (lc (pool_c rfl (by omega)) (lc (pool_w rfl (by omega)) (lc (pool_c rfl (by omega)) (lc (pool_w rfl (by omega)) rfl))))))) (fun H1 locs hP1 hD1 hk1 hS => ?_)
    obtain ⟨hP, hD⟩ := pj (k := 36) (is' := [5 + (30 + (n - 2)), 42 + (30 + (n - 2)), 5 + (30 + (n - 1)), 42 + (30 + (n - 1))]) (wc := [(ca 36, .inr (0, [.ref (wa 36), .int (dg 36), .int (gv 36)])), (wa 36, eI G 10 (ro 36)), (ca (30 + (n - 2)), .inr (0, [.ref (wa (30 + (n - 2))), .int (dg (30 + (n - 2))), .int (gv (30 + (n - 2)))])), (wa (30 + (n - 2)), eI G 10 (ro (30 + (n - 2)))), (ca (30 + (n - 1)), .inr (0, [.ref (wa (30 + (n - 1))), .int (dg (30 + (n - 1))), .int (gv (30 + (n - 1)))])), (wa (30 + (n - 1)), eI G 10 (ro (30 + (n - 1))))]) rfl (by omega) hP hD (lc (pool_c rfl (by omega)) (lc (pool_w rfl (by omega)) (lc (pool_c rfl (by omega)) (lc (pool_w rfl (by omega)) (lc (pool_c rfl (by omega)) (lc (pool_w rfl (by omega)) rfl)))))) hk1 hP1 rfl rfl (fun j q h => ⟨j + 2, h⟩)
    rw [upS gv 36] at hP hD
    generalize H1 = H at hP hS ⊢
    have hP : va_P G.1 vwCl ([(bx, .inr (1, [.ref bd, .ref bo, .ref bs, .int st, .ref bk, .int sk, .ref (ca 36), .int tk, .int be, .int so, .int le, .int an])), (bd, eI G 10 fd), (bo, eI G 10 fo), (bs, eR G 30 (fun k => some (ca k))), (bk, eR G 6 (fun k => some (ca (30 + k))))] ++ pool G ca wa (va_up ro 36 (mixf 10 (fun v => ((ro (30 + (n - 2))) v) + ((ro (30 + (n - 1))) v)) (ro 36))) (va_up dg 36 (smD (ro (30 + (n - 2))) (ro (30 + (n - 1))) (dg (30 + (n - 2))) (dg (30 + (n - 1))))) gv) H := hP
    have hD : va_D A ([(bx, .inr (1, [.ref bd, .ref bo, .ref bs, .int st, .ref bk, .int sk, .ref (ca 36), .int tk, .int be, .int so, .int le, .int an])), (bd, eI G 10 fd), (bo, eI G 10 fo), (bs, eR G 30 (fun k => some (ca k))), (bk, eR G 6 (fun k => some (ca (30 + k))))] ++ pool G ca wa (va_up ro 36 (mixf 10 (fun v => ((ro (30 + (n - 2))) v) + ((ro (30 + (n - 1))) v)) (ro 36))) (va_up dg 36 (smD (ro (30 + (n - 2))) (ro (30 + (n - 1))) (dg (30 + (n - 2))) (dg (30 + (n - 1))))) gv) := hD
    refine lv_aload_n hx hb dX1_add_45 rfl (lv_at hl 0 rfl) ?_
    refine ro_callv (va_runV (As := []) (rest := []) ⟨hx, hb, hml, hown, hts⟩ (c_X1_refuseTooLargeScratch l G bx bd bo bs bk ca wa st sk tk be so le an fd fo (va_up ro 36 (mixf 10 (fun v => ((ro (30 + (n - 2))) v) + ((ro (30 + (n - 1))) v)) (ro 36))) (va_up dg 36 (smD (ro (30 + (n - 2))) (ro (30 + (n - 1))) (dg (30 + (n - 2))) (dg (30 + (n - 1))))) gv (by rw [va_up_self, va_up_self]; exact hbig)) (cwV 0 hts gX1_add_X1_refuseTooLargeScratch rfl rfl rfl (by decide +kernel) ⟨Nat.le_of_ble_eq_true rfl, Nat.le_of_ble_eq_true rfl⟩) ⟨ro_blind, va_recv hK.1 hP (ci := 1) (q0 := 0) rfl rfl, ro_pre _ hP hK⟩ rfl rfl hl.1 rfl (lv_room (Nat.le_of_ble_eq_true rfl)) dX1_add_46 ⟨Nat.le_refl _, Nat.le_refl _⟩) ?_
    refine lv_aload_n hx hb dX1_add_49 rfl (lv_at hl 0 rfl) ?_
    refine va_get (D := G.1) (ci := 1) (v := .ref bk) (C := RX1) (T := TX1) (N := 12) hx hb hts hinX1 hown hK.1 hP 0 rfl rfl 4 (by decide) hw3 (fun _ h9 => h9) rfl dX1_add_50 ?_
    refine lv_aload_n hx hb dX1_add_53 rfl (lv_at hl 0 rfl) ?_
    refine va_get (D := G.1) (ci := 1) (v := .int sk) (C := RX1) (T := TX1) (N := 12) hx hb hts hinX1 hown hK.1 hP 0 rfl rfl 5 (by decide) hw1 (fun _ h9 => h9) rfl dX1_add_54 ?_
    refine lv_iconst (v := 2) hx hb dX1_add_57 (by decide) ?_
    refine lv_isub hx hb dX1_add_58 ?_
    refine ra_aald (v := (n - 2)) (b := ca (30 + (n - 2))) hx hb hK.1 hP 4 2 rfl rfl (na_sub esk (show (2 : Int32) = nI 2 from rfl) (by omega)) (by omega) (by decide) rfl dX1_add_59 ?_
    refine lv_aload_n hx hb dX1_add_60 rfl (lv_at hl 0 rfl) ?_
    refine va_get (D := G.1) (ci := 1) (v := .ref (ca 36)) (C := RX1) (T := TX1) (N := 12) hx hb hts hinX1 hown hK.1 hP 0 rfl rfl 6 (by decide) hw2 (fun _ h9 => h9) rfl dX1_add_61 ?_
    refine mu_call (va_runV (As := [.ref (ca 36)]) (rest := []) ⟨hx, hb, hml, hown, hts⟩ (c_X0_become l G _ (ca (30 + (n - 2))) (wa (30 + (n - 2))) ((va_up dg 36 (smD (ro (30 + (n - 2))) (ro (30 + (n - 1))) (dg (30 + (n - 2))) (dg (30 + (n - 1))))) (30 + (n - 2))) (gv (30 + (n - 2))) ((va_up ro 36 (mixf 10 (fun v => ((ro (30 + (n - 2))) v) + ((ro (30 + (n - 1))) v)) (ro 36))) (30 + (n - 2))) (ca 36) (wa 36) ((va_up dg 36 (smD (ro (30 + (n - 2))) (ro (30 + (n - 1))) (dg (30 + (n - 2))) (dg (30 + (n - 1))))) 36) (gv 36) ((va_up ro 36 (mixf 10 (fun v => ((ro (30 + (n - 2))) v) + ((ro (30 + (n - 1))) v)) (ro 36))) 36)) (cwV 1 hts gX1_add_X0_become rfl rfl rfl (by decide +kernel) ⟨Nat.le_of_ble_eq_true rfl, Nat.le_of_ble_eq_true rfl⟩) ⟨mu_blind, va_recv hK.1 hP (ci := 0) (q0 := 5 + (30 + (n - 2))) rfl (pool_c rfl (by omega)), mu_pre _ (lcP [5 + (30 + (n - 2)), 42 + (30 + (n - 2)), 5 + 36, 42 + 36] hP (lc (pool_c rfl (by omega)) (lc (pool_w rfl (by omega)) (lc (pool_c rfl (by omega)) (lc (pool_w rfl (by omega)) rfl))))) (hD.sub [5 + (30 + (n - 2)), 42 + (30 + (n - 2)), 5 + 36, 42 + 36] (nd4 (by omega) (by omega) (by omega)) (lc (pool_c rfl (by omega)) (lc (pool_w rfl (by omega)) (lc (pool_c rfl (by omega)) (lc (pool_w rfl (by omega)) rfl))))) hK⟩ rfl rfl hl.1 rfl (lv_room (Nat.le_of_ble_eq_true rfl)) dX1_add_64 ⟨Nat.le_refl _, Nat.le_refl _⟩) hS (va_free hD hS hA [5 + (30 + (n - 2)), 42 + (30 + (n - 2)), 5 + 36, 42 + 36] (lc (pool_c rfl (by omega)) (lc (pool_w rfl (by omega)) (lc (pool_c rfl (by omega)) (lc (pool_w rfl (by omega)) rfl))))) (va_free hD hS hA [5 + (30 + (n - 2)), 42 + (30 + (n - 2)), 5 + 36, 42 + 36] (lc (pool_c rfl (by omega)) (lc (pool_w rfl (by omega)) (lc (pool_c rfl (by omega)) (lc (pool_w rfl (by omega)) rfl))))) (fun H1 locs hP1 hD1 hk1 hS => ?_)
    obtain ⟨hP, hD⟩ := pj (k := (30 + (n - 2))) (is' := [5 + 36, 42 + 36]) (wc := [(ca (30 + (n - 2)), .inr (0, [.ref (wa (30 + (n - 2))), .int ((va_up dg 36 (smD (ro (30 + (n - 2))) (ro (30 + (n - 1))) (dg (30 + (n - 2))) (dg (30 + (n - 1))))) (30 + (n - 2))), .int (gv (30 + (n - 2)))])), (wa (30 + (n - 2)), eI G 10 ((va_up ro 36 (mixf 10 (fun v => ((ro (30 + (n - 2))) v) + ((ro (30 + (n - 1))) v)) (ro 36))) (30 + (n - 2)))), (ca 36, .inr (0, [.ref (wa 36), .int ((va_up dg 36 (smD (ro (30 + (n - 2))) (ro (30 + (n - 1))) (dg (30 + (n - 2))) (dg (30 + (n - 1))))) 36), .int (gv 36)])), (wa 36, eI G 10 ((va_up ro 36 (mixf 10 (fun v => ((ro (30 + (n - 2))) v) + ((ro (30 + (n - 1))) v)) (ro 36))) 36))]) rfl (by omega) hP hD (lc (pool_c rfl (by omega)) (lc (pool_w rfl (by omega)) (lc (pool_c rfl (by omega)) (lc (pool_w rfl (by omega)) rfl)))) hk1 hP1 rfl rfl (fun j q h => ⟨j + 2, h⟩)
    rw [upS gv (30 + (n - 2))] at hP hD
    generalize H1 = H at hP hS ⊢
    have hP : va_P G.1 vwCl ([(bx, .inr (1, [.ref bd, .ref bo, .ref bs, .int st, .ref bk, .int sk, .ref (ca 36), .int tk, .int be, .int so, .int le, .int an])), (bd, eI G 10 fd), (bo, eI G 10 fo), (bs, eR G 30 (fun k => some (ca k))), (bk, eR G 6 (fun k => some (ca (30 + k))))] ++ pool G ca wa (va_up (va_up ro 36 (mixf 10 (fun v => ((ro (30 + (n - 2))) v) + ((ro (30 + (n - 1))) v)) (ro 36))) (30 + (n - 2)) (mixf 10 ((va_up ro 36 (mixf 10 (fun v => ((ro (30 + (n - 2))) v) + ((ro (30 + (n - 1))) v)) (ro 36))) 36) ((va_up ro 36 (mixf 10 (fun v => ((ro (30 + (n - 2))) v) + ((ro (30 + (n - 1))) v)) (ro 36))) (30 + (n - 2))))) (va_up (va_up dg 36 (smD (ro (30 + (n - 2))) (ro (30 + (n - 1))) (dg (30 + (n - 2))) (dg (30 + (n - 1))))) (30 + (n - 2)) ((va_up dg 36 (smD (ro (30 + (n - 2))) (ro (30 + (n - 1))) (dg (30 + (n - 2))) (dg (30 + (n - 1))))) 36)) gv) H := hP
    have hD : va_D A ([(bx, .inr (1, [.ref bd, .ref bo, .ref bs, .int st, .ref bk, .int sk, .ref (ca 36), .int tk, .int be, .int so, .int le, .int an])), (bd, eI G 10 fd), (bo, eI G 10 fo), (bs, eR G 30 (fun k => some (ca k))), (bk, eR G 6 (fun k => some (ca (30 + k))))] ++ pool G ca wa (va_up (va_up ro 36 (mixf 10 (fun v => ((ro (30 + (n - 2))) v) + ((ro (30 + (n - 1))) v)) (ro 36))) (30 + (n - 2)) (mixf 10 ((va_up ro 36 (mixf 10 (fun v => ((ro (30 + (n - 2))) v) + ((ro (30 + (n - 1))) v)) (ro 36))) 36) ((va_up ro 36 (mixf 10 (fun v => ((ro (30 + (n - 2))) v) + ((ro (30 + (n - 1))) v)) (ro 36))) (30 + (n - 2))))) (va_up (va_up dg 36 (smD (ro (30 + (n - 2))) (ro (30 + (n - 1))) (dg (30 + (n - 2))) (dg (30 + (n - 1))))) (30 + (n - 2)) ((va_up dg 36 (smD (ro (30 + (n - 2))) (ro (30 + (n - 1))) (dg (30 + (n - 2))) (dg (30 + (n - 1))))) 36)) gv) := hD
    refine lv_aload_n hx hb dX1_add_67 rfl (lv_at hl 0 rfl) ?_
    refine lv_dup hx hb dX1_add_68 rfl ?_
    refine va_get (D := G.1) (ci := 1) (v := .int sk) (C := RX1) (T := TX1) (N := 12) hx hb hts hinX1 hown hK.1 hP 0 rfl rfl 5 (by decide) hw1 (fun _ h9 => h9) rfl dX1_add_69 ?_
    refine lv_iconst (v := 1) hx hb dX1_add_72 (by decide) ?_
    refine lv_isub hx hb dX1_add_73 ?_
    refine va_put (D := G.1) (ci := 1) (v := .int (sk - 1)) (ty := .int) (C := RX1) (T := TX1) (N := 12) hx hb hts hinX1 tyX1 tyX1_ok nmX1 hown hK.1 hP hD hS 0 rfl rfl 5 (by decide) hw1 (fun _ h9 => h9) rfl (by decide +kernel) rfl rfl (Nat.le_of_ble_eq_true rfl) dX1_add_74 (fun H locs hP hD hS => ?_)
    have hP : va_P G.1 vwCl ([(bx, .inr (1, [.ref bd, .ref bo, .ref bs, .int st, .ref bk, .int (sk - 1), .ref (ca 36), .int tk, .int be, .int so, .int le, .int an])), (bd, eI G 10 fd), (bo, eI G 10 fo), (bs, eR G 30 (fun k => some (ca k))), (bk, eR G 6 (fun k => some (ca (30 + k))))] ++ pool G ca wa (va_up (va_up ro 36 (mixf 10 (fun v => ((ro (30 + (n - 2))) v) + ((ro (30 + (n - 1))) v)) (ro 36))) (30 + (n - 2)) (mixf 10 ((va_up ro 36 (mixf 10 (fun v => ((ro (30 + (n - 2))) v) + ((ro (30 + (n - 1))) v)) (ro 36))) 36) ((va_up ro 36 (mixf 10 (fun v => ((ro (30 + (n - 2))) v) + ((ro (30 + (n - 1))) v)) (ro 36))) (30 + (n - 2))))) (va_up (va_up dg 36 (smD (ro (30 + (n - 2))) (ro (30 + (n - 1))) (dg (30 + (n - 2))) (dg (30 + (n - 1))))) (30 + (n - 2)) ((va_up dg 36 (smD (ro (30 + (n - 2))) (ro (30 + (n - 1))) (dg (30 + (n - 2))) (dg (30 + (n - 1))))) 36)) gv) H := hP
    have hD : va_D A ([(bx, .inr (1, [.ref bd, .ref bo, .ref bs, .int st, .ref bk, .int (sk - 1), .ref (ca 36), .int tk, .int be, .int so, .int le, .int an])), (bd, eI G 10 fd), (bo, eI G 10 fo), (bs, eR G 30 (fun k => some (ca k))), (bk, eR G 6 (fun k => some (ca (30 + k))))] ++ pool G ca wa (va_up (va_up ro 36 (mixf 10 (fun v => ((ro (30 + (n - 2))) v) + ((ro (30 + (n - 1))) v)) (ro 36))) (30 + (n - 2)) (mixf 10 ((va_up ro 36 (mixf 10 (fun v => ((ro (30 + (n - 2))) v) + ((ro (30 + (n - 1))) v)) (ro 36))) 36) ((va_up ro 36 (mixf 10 (fun v => ((ro (30 + (n - 2))) v) + ((ro (30 + (n - 1))) v)) (ro 36))) (30 + (n - 2))))) (va_up (va_up dg 36 (smD (ro (30 + (n - 2))) (ro (30 + (n - 1))) (dg (30 + (n - 2))) (dg (30 + (n - 1))))) (30 + (n - 2)) ((va_up dg 36 (smD (ro (30 + (n - 2))) (ro (30 + (n - 1))) (dg (30 + (n - 2))) (dg (30 + (n - 1))))) 36)) gv) := hD
    have hP9 : va_P G.1 vwCl ([(bx, .inr (1, [.ref bd, .ref bo, .ref bs, .int st, .ref bk, .int (sk - 1), .ref (ca 36), .int tk, .int be, .int so, .int le, .int an])), (bd, eI G 10 fd), (bo, eI G 10 fo), (bs, eR G 30 (fun k => some (ca k))), (bk, eR G 6 (fun k => some (ca (30 + k))))] ++ pool G ca wa (va_up (va_up ro 36 (mixf 10 (fun v => (ro (30 + (n - 2)) v) + (ro (30 + (n - 1)) v)) (ro 36))) (30 + (n - 2)) (mixf 10 ((va_up ro 36 (mixf 10 (fun v => (ro (30 + (n - 2)) v) + (ro (30 + (n - 1)) v)) (ro 36))) 36) ((va_up ro 36 (mixf 10 (fun v => (ro (30 + (n - 2)) v) + (ro (30 + (n - 1)) v)) (ro 36))) (30 + (n - 2))))) (va_up (va_up dg 36 (smD (ro (30 + (n - 2))) (ro (30 + (n - 1))) (dg (30 + (n - 2))) (dg (30 + (n - 1))))) (30 + (n - 2)) ((va_up dg 36 (smD (ro (30 + (n - 2))) (ro (30 + (n - 1))) (dg (30 + (n - 2))) (dg (30 + (n - 1))))) 36)) gv) _ := (hP)
    have hD9 : va_D A ([(bx, .inr (1, [.ref bd, .ref bo, .ref bs, .int st, .ref bk, .int (sk - 1), .ref (ca 36), .int tk, .int be, .int so, .int le, .int an])), (bd, eI G 10 fd), (bo, eI G 10 fo), (bs, eR G 30 (fun k => some (ca k))), (bk, eR G 6 (fun k => some (ca (30 + k))))] ++ pool G ca wa (va_up (va_up ro 36 (mixf 10 (fun v => (ro (30 + (n - 2)) v) + (ro (30 + (n - 1)) v)) (ro 36))) (30 + (n - 2)) (mixf 10 ((va_up ro 36 (mixf 10 (fun v => (ro (30 + (n - 2)) v) + (ro (30 + (n - 1)) v)) (ro 36))) 36) ((va_up ro 36 (mixf 10 (fun v => (ro (30 + (n - 2)) v) + (ro (30 + (n - 1)) v)) (ro 36))) (30 + (n - 2))))) (va_up (va_up dg 36 (smD (ro (30 + (n - 2))) (ro (30 + (n - 1))) (dg (30 + (n - 2))) (dg (30 + (n - 1))))) (30 + (n - 2)) ((va_up dg 36 (smD (ro (30 + (n - 2))) (ro (30 + (n - 1))) (dg (30 + (n - 2))) (dg (30 + (n - 1))))) 36)) gv) := (hD)
    exact W.vret hx hb hr (fun t ht hW => ⟨rfl, by rw [ht]; exact hP9, hD9, hS.F ht⟩) hS.2.2 dX1_add_77
  · exact absurd (ge2 esk hn2 hn6) c_5

abbrev rmX1_times : Room := { frames := 4, cells := 0, slots := 0, locals := 83 }
set_option maxHeartbeats 4000000 in
set_option maxRecDepth 100000 in
theorem c_X1_times (l : Launch) (G : Gt) (sz : Nat) (bx bd bo bs bk : Nat) (ca wa : Nat → Nat) (st sk tk be so le an : Int32) (fd fo : Nat → Int32) (ro : Nat → Nat → Int32) (dg gv : Nat → Int32) (x : Int32) (n : Nat) (esk : sk = nI n) (hn6 : n ≤ 6) (hn1 : 1 ≤ n) (h1 : outI x 1 1000 = 0) (hbig : tlI (mixf 10 (fun v => x * (ro (30 + (n - 1)) v)) (ro 36)) (x * (dg (30 + (n - 1)))) = false) : Met l yX1_times wsX1_times rmX1_times (mu_P G sz [.ref bx, .int x] ([(bx, .inr (1, [.ref bd, .ref bo, .ref bs, .int st, .ref bk, .int sk, .ref (ca 36), .int tk, .int be, .int so, .int le, .int an])), (bd, eI G 10 fd), (bo, eI G 10 fo), (bs, eR G 30 (fun k => some (ca k))), (bk, eR G 6 (fun k => some (ca (30 + k))))] ++ pool G ca wa ro dg gv)) (mu_Q G none ([(bx, .inr (1, [.ref bd, .ref bo, .ref bs, .int st, .ref bk, .int sk, .ref (ca 36), .int tk, .int be, .int so, .int le, .int an])), (bd, eI G 10 fd), (bo, eI G 10 fo), (bs, eR G 30 (fun k => some (ca k))), (bk, eR G 6 (fun k => some (ca (30 + k))))] ++ pool G ca wa (va_up (va_up ro 36 (mixf 10 (fun v => x * (ro (30 + (n - 1)) v)) (ro 36))) (30 + (n - 1)) (mixf 10 ((va_up ro 36 (mixf 10 (fun v => x * (ro (30 + (n - 1)) v)) (ro 36))) 36) ((va_up ro 36 (mixf 10 (fun v => x * (ro (30 + (n - 1)) v)) (ro 36))) (30 + (n - 1))))) (va_up (va_up dg 36 (x * (dg (30 + (n - 1))))) (30 + (n - 1)) ((va_up dg 36 (x * (dg (30 + (n - 1))))) 36)) gv) (va_A ([(bx, .inr (1, [.ref bd, .ref bo, .ref bs, .int st, .ref bk, .int sk, .ref (ca 36), .int tk, .int be, .int so, .int le, .int an])), (bd, eI G 10 fd), (bo, eI G 10 fo), (bs, eR G 30 (fun k => some (ca k))), (bk, eR G 6 (fun k => some (ca (30 + k))))] ++ pool G ca wa ro dg gv) sz)) 0 0 (va_A ([(bx, .inr (1, [.ref bd, .ref bo, .ref bs, .int st, .ref bk, .int sk, .ref (ca 36), .int tk, .int be, .int so, .int le, .int an])), (bd, eI G 10 fd), (bo, eI G 10 fo), (bs, eR G 30 (fun k => some (ca k))), (bk, eR G 6 (fun k => some (ca (30 + k))))] ++ pool G ca wa ro dg gv) sz) := by
  refine Met.ofW (cc := cX1_times) (maxL := 2) (ret := none) (by decide) rfl ?_
  intro p e s m args below meth c s₁ B hml hv
  obtain ⟨rfl, hsz, hP, hD0, hK⟩ := hv
  have hx := B.exec
  have hb := B.bytes
  have hr := B.returns
  have hts := atoms_spec (ws := wsX1_times) B.pre
  have hown : s.vm.findClass RX1 = some m.cls := findClass_of_methodNamed B.named
  have hlocks := B.notSynchronized
  subst hsz
  have hD := hD0.self (sz := s.heap.size)
  generalize hAe : va_A ([(bx, .inr (1, [.ref bd, .ref bo, .ref bs, .int st, .ref bk, .int sk, .ref (ca 36), .int tk, .int be, .int so, .int le, .int an])), (bd, eI G 10 fd), (bo, eI G 10 fo), (bs, eR G 30 (fun k => some (ca k))), (bk, eR G 6 (fun k => some (ca (30 + k))))] ++ pool G ca wa ro dg gv) s.heap.size = A at hD ⊢
  have hA : ∀ q : Nat, s.heap.size ≤ q → A q := fun q h => by rw [← hAe]; exact Or.inr h
  have hS : va_S A s.heap s.heap [] := va_S.rf
  have hinX1 : ∀ w ∈ u_ws RX1 TX1 12, w ∈ wsX1_times := fun w h => List.mem_cons_of_mem _ (List.mem_append_left _ (List.mem_append_left _ (List.mem_append_left _ (List.mem_append_left _ (List.mem_append_right _ h)))))
  have hw1 := hts (.fieldLink RX1 33 "ChoiceBoard" "scratch" "LChoiceBoard$Constraint;") (by decide +kernel)
  have hw2 := hts (.fieldLink RX1 26 "ChoiceBoard" "stack" "[LChoiceBoard$Constraint;") (by decide +kernel)
  have hw3 := hts (.fieldLink RX1 29 "ChoiceBoard" "stacked" "I") (by decide +kernel)
  have hl := lv_entry ([.ref bx, .int x]) (n := 2) (Nat.le_of_ble_eq_true rfl)
  rw [lg_entry_eq]
  generalize (lg_sl ([.ref bx, .int x]) ++ List.replicate (2 - (lg_sl ([.ref bx, .int x])).length) Slot.unset).toArray = ls at hl ⊢
  have hl : lv_has ls 2 [(0, .ref bx), (1, .int x)] := hl
  refine lv_aload_n hx hb dX1_times_0 rfl (lv_at hl 0 rfl) ?_
  refine ro_callv (va_runV (As := []) (rest := []) ⟨hx, hb, hml, hown, hts⟩ (c_X1_refuseEmptyStack l G bx bd bo bs bk (ca 36) st sk tk be so le an (ge1 esk hn1 hn6)) (cwV 0 hts gX1_times_X1_refuseEmptyStack rfl rfl rfl (by decide +kernel) ⟨Nat.le_of_ble_eq_true rfl, Nat.le_of_ble_eq_true rfl⟩) ⟨ro_blind, va_recv hK.1 hP (ci := 1) (q0 := 0) rfl rfl, ro_pre _ (hP.sub [0] rfl) hK⟩ rfl rfl hl.1 rfl (lv_room (Nat.le_of_ble_eq_true rfl)) dX1_times_1 ⟨Nat.le_refl _, Nat.le_refl _⟩) ?_
  refine lv_iload_n hx hb dX1_times_4 rfl (lv_at hl 1 rfl) ?_
  refine lv_iconst (v := 1) hx hb dX1_times_5 (by decide) ?_
  refine lv_sipush (v := 1000) hx hb dX1_times_6 (by decide) ?_
  refine ro_call (va_runS (As := [.int x, .int 1, .int 1000]) (rest := []) ⟨hx, hb, hml, hown, hts⟩ (c_X1_isWithin l G x 1 1000) (va_cwS 3 hts gX1_times_X1_isWithin rfl rfl rfl (by decide +kernel) ⟨Nat.le_of_ble_eq_true rfl, Nat.le_of_ble_eq_true rfl⟩) ⟨ro_blind, ro_pre _ (hP.sub [] rfl) hK⟩ rfl rfl hl.1 rfl (lv_room (Nat.le_of_ble_eq_true rfl)) dX1_times_9 ⟨Nat.le_refl _, Nat.le_refl _⟩) ?_
  refine lv_if_ne (tgt := 23) hx hb dX1_times_12 (by decide) (fun c_12 => ?_) (fun c_12 => ?_)
  · refine lv_aload_n hx hb dX1_times_23 rfl (lv_at hl 0 rfl) ?_
    refine va_get (D := G.1) (ci := 1) (v := .ref (ca 36)) (C := RX1) (T := TX1) (N := 12) hx hb hts hinX1 hown hK.1 hP 0 rfl rfl 6 (by decide) hw1 (fun _ h9 => h9) rfl dX1_times_24 ?_
    refine lv_aload_n hx hb dX1_times_27 rfl (lv_at hl 0 rfl) ?_
    refine va_get (D := G.1) (ci := 1) (v := .ref bk) (C := RX1) (T := TX1) (N := 12) hx hb hts hinX1 hown hK.1 hP 0 rfl rfl 4 (by decide) hw2 (fun _ h9 => h9) rfl dX1_times_28 ?_
    refine lv_aload_n hx hb dX1_times_31 rfl (lv_at hl 0 rfl) ?_
    refine va_get (D := G.1) (ci := 1) (v := .int sk) (C := RX1) (T := TX1) (N := 12) hx hb hts hinX1 hown hK.1 hP 0 rfl rfl 5 (by decide) hw3 (fun _ h9 => h9) rfl dX1_times_32 ?_
    refine lv_iconst (v := 1) hx hb dX1_times_35 (by decide) ?_
    refine lv_isub hx hb dX1_times_36 ?_
    refine ra_aald (v := (n - 1)) (b := ca (30 + (n - 1))) hx hb hK.1 hP 4 2 rfl rfl (na_pred esk (by omega)) (by omega) (by decide) rfl dX1_times_37 ?_
    refine lv_iload_n hx hb dX1_times_38 rfl (lv_at hl 1 rfl) ?_
    refine mu_call (va_runV (As := [.ref (ca (30 + (n - 1))), .int x]) (rest := []) ⟨hx, hb, hml, hown, hts⟩ (c_X0_becomeMultiple l G _ (ca 36) (wa 36) (dg 36) (gv 36) (ro 36) (ca (30 + (n - 1))) (wa (30 + (n - 1))) (dg (30 + (n - 1))) (gv (30 + (n - 1))) (ro (30 + (n - 1))) x) (cwV 2 hts gX1_times_X0_becomeMultiple rfl rfl rfl (by decide +kernel) ⟨Nat.le_of_ble_eq_true rfl, Nat.le_of_ble_eq_true rfl⟩) ⟨mu_blind, va_recv hK.1 hP (ci := 0) (q0 := 5 + 36) rfl (pool_c rfl (by omega)), mu_pre _ (lcP [5 + 36, 42 + 36, 5 + (30 + (n - 1)), 42 + (30 + (n - 1))] hP (lc (pool_c rfl (by omega)) (lc (pool_w rfl (by omega)) (lc (pool_c rfl (by omega)) (lc (pool_w rfl (by omega)) rfl))))) (hD.sub [5 + 36, 42 + 36, 5 + (30 + (n - 1)), 42 + (30 + (n - 1))] (nd4 (by omega) (by omega) (by omega)) (lc (pool_c rfl (by omega)) (lc (pool_w rfl (by omega)) (lc (pool_c rfl (by omega)) (lc (pool_w rfl (by omega)) rfl))))) hK⟩ rfl rfl hl.1 rfl (lv_room (Nat.le_of_ble_eq_true rfl)) dX1_times_39 ⟨Nat.le_refl _, Nat.le_refl _⟩) hS (va_free hD hS hA [5 + 36, 42 + 36, 5 + (30 + (n - 1)), 42 + (30 + (n - 1))] (lc (pool_c rfl (by omega)) (lc (pool_w rfl (by omega)) (lc (pool_c rfl (by omega)) (lc (pool_w rfl (by omega)) rfl))))) (va_free hD hS hA [5 + 36, 42 + 36, 5 + (30 + (n - 1)), 42 + (30 + (n - 1))] (lc (pool_c rfl (by omega)) (lc (pool_w rfl (by omega)) (lc (pool_c rfl (by omega)) (lc (pool_w rfl (by omega)) rfl))))) (fun H1 locs hP1 hD1 hk1 hS => ?_)
    obtain ⟨hP, hD⟩ := pj (k := 36) (is' := [5 + (30 + (n - 1)), 42 + (30 + (n - 1))]) (wc := [(ca 36, .inr (0, [.ref (wa 36), .int (dg 36), .int (gv 36)])), (wa 36, eI G 10 (ro 36)), (ca (30 + (n - 1)), .inr (0, [.ref (wa (30 + (n - 1))), .int (dg (30 + (n - 1))), .int (gv (30 + (n - 1)))])), (wa (30 + (n - 1)), eI G 10 (ro (30 + (n - 1))))]) rfl (by omega) hP hD (lc (pool_c rfl (by omega)) (lc (pool_w rfl (by omega)) (lc (pool_c rfl (by omega)) (lc (pool_w rfl (by omega)) rfl)))) hk1 hP1 rfl rfl (fun j q h => ⟨j + 2, h⟩)
    rw [upS gv 36] at hP hD
    generalize H1 = H at hP hS ⊢
    have hP : va_P G.1 vwCl ([(bx, .inr (1, [.ref bd, .ref bo, .ref bs, .int st, .ref bk, .int sk, .ref (ca 36), .int tk, .int be, .int so, .int le, .int an])), (bd, eI G 10 fd), (bo, eI G 10 fo), (bs, eR G 30 (fun k => some (ca k))), (bk, eR G 6 (fun k => some (ca (30 + k))))] ++ pool G ca wa (va_up ro 36 (mixf 10 (fun v => x * ((ro (30 + (n - 1))) v)) (ro 36))) (va_up dg 36 (x * (dg (30 + (n - 1))))) gv) H := hP
    have hD : va_D A ([(bx, .inr (1, [.ref bd, .ref bo, .ref bs, .int st, .ref bk, .int sk, .ref (ca 36), .int tk, .int be, .int so, .int le, .int an])), (bd, eI G 10 fd), (bo, eI G 10 fo), (bs, eR G 30 (fun k => some (ca k))), (bk, eR G 6 (fun k => some (ca (30 + k))))] ++ pool G ca wa (va_up ro 36 (mixf 10 (fun v => x * ((ro (30 + (n - 1))) v)) (ro 36))) (va_up dg 36 (x * (dg (30 + (n - 1))))) gv) := hD
    refine lv_aload_n hx hb dX1_times_42 rfl (lv_at hl 0 rfl) ?_
    refine ro_callv (va_runV (As := []) (rest := []) ⟨hx, hb, hml, hown, hts⟩ (c_X1_refuseTooLargeScratch l G bx bd bo bs bk ca wa st sk tk be so le an fd fo (va_up ro 36 (mixf 10 (fun v => x * ((ro (30 + (n - 1))) v)) (ro 36))) (va_up dg 36 (x * (dg (30 + (n - 1))))) gv (by rw [va_up_self, va_up_self]; exact hbig)) (cwV 0 hts gX1_times_X1_refuseTooLargeScratch rfl rfl rfl (by decide +kernel) ⟨Nat.le_of_ble_eq_true rfl, Nat.le_of_ble_eq_true rfl⟩) ⟨ro_blind, va_recv hK.1 hP (ci := 1) (q0 := 0) rfl rfl, ro_pre _ hP hK⟩ rfl rfl hl.1 rfl (lv_room (Nat.le_of_ble_eq_true rfl)) dX1_times_43 ⟨Nat.le_refl _, Nat.le_refl _⟩) ?_
    refine lv_aload_n hx hb dX1_times_46 rfl (lv_at hl 0 rfl) ?_
    refine va_get (D := G.1) (ci := 1) (v := .ref bk) (C := RX1) (T := TX1) (N := 12) hx hb hts hinX1 hown hK.1 hP 0 rfl rfl 4 (by decide) hw2 (fun _ h9 => h9) rfl dX1_times_47 ?_
    refine lv_aload_n hx hb dX1_times_50 rfl (lv_at hl 0 rfl) ?_
    refine va_get (D := G.1) (ci := 1) (v := .int sk) (C := RX1) (T := TX1) (N := 12) hx hb hts hinX1 hown hK.1 hP 0 rfl rfl 5 (by decide) hw3 (fun _ h9 => h9) rfl dX1_times_51 ?_
    refine lv_iconst (v := 1) hx hb dX1_times_54 (by decide) ?_
    refine lv_isub hx hb dX1_times_55 ?_
    refine ra_aald (v := (n - 1)) (b := ca (30 + (n - 1))) hx hb hK.1 hP 4 2 rfl rfl (na_pred esk (by omega)) (by omega) (by decide) rfl dX1_times_56 ?_
    refine lv_aload_n hx hb dX1_times_57 rfl (lv_at hl 0 rfl) ?_
    refine va_get (D := G.1) (ci := 1) (v := .ref (ca 36)) (C := RX1) (T := TX1) (N := 12) hx hb hts hinX1 hown hK.1 hP 0 rfl rfl 6 (by decide) hw1 (fun _ h9 => h9) rfl dX1_times_58 ?_
    refine mu_call (va_runV (As := [.ref (ca 36)]) (rest := []) ⟨hx, hb, hml, hown, hts⟩ (c_X0_become l G _ (ca (30 + (n - 1))) (wa (30 + (n - 1))) ((va_up dg 36 (x * (dg (30 + (n - 1))))) (30 + (n - 1))) (gv (30 + (n - 1))) ((va_up ro 36 (mixf 10 (fun v => x * ((ro (30 + (n - 1))) v)) (ro 36))) (30 + (n - 1))) (ca 36) (wa 36) ((va_up dg 36 (x * (dg (30 + (n - 1))))) 36) (gv 36) ((va_up ro 36 (mixf 10 (fun v => x * ((ro (30 + (n - 1))) v)) (ro 36))) 36)) (cwV 1 hts gX1_times_X0_become rfl rfl rfl (by decide +kernel) ⟨Nat.le_of_ble_eq_true rfl, Nat.le_of_ble_eq_true rfl⟩) ⟨mu_blind, va_recv hK.1 hP (ci := 0) (q0 := 5 + (30 + (n - 1))) rfl (pool_c rfl (by omega)), mu_pre _ (lcP [5 + (30 + (n - 1)), 42 + (30 + (n - 1)), 5 + 36, 42 + 36] hP (lc (pool_c rfl (by omega)) (lc (pool_w rfl (by omega)) (lc (pool_c rfl (by omega)) (lc (pool_w rfl (by omega)) rfl))))) (hD.sub [5 + (30 + (n - 1)), 42 + (30 + (n - 1)), 5 + 36, 42 + 36] (nd4 (by omega) (by omega) (by omega)) (lc (pool_c rfl (by omega)) (lc (pool_w rfl (by omega)) (lc (pool_c rfl (by omega)) (lc (pool_w rfl (by omega)) rfl))))) hK⟩ rfl rfl hl.1 rfl (lv_room (Nat.le_of_ble_eq_true rfl)) dX1_times_61 ⟨Nat.le_refl _, Nat.le_refl _⟩) hS (va_free hD hS hA [5 + (30 + (n - 1)), 42 + (30 + (n - 1)), 5 + 36, 42 + 36] (lc (pool_c rfl (by omega)) (lc (pool_w rfl (by omega)) (lc (pool_c rfl (by omega)) (lc (pool_w rfl (by omega)) rfl))))) (va_free hD hS hA [5 + (30 + (n - 1)), 42 + (30 + (n - 1)), 5 + 36, 42 + 36] (lc (pool_c rfl (by omega)) (lc (pool_w rfl (by omega)) (lc (pool_c rfl (by omega)) (lc (pool_w rfl (by omega)) rfl))))) (fun H1 locs hP1 hD1 hk1 hS => ?_)
    obtain ⟨hP, hD⟩ := pj (k := (30 + (n - 1))) (is' := [5 + 36, 42 + 36]) (wc := [(ca (30 + (n - 1)), .inr (0, [.ref (wa (30 + (n - 1))), .int ((va_up dg 36 (x * (dg (30 + (n - 1))))) (30 + (n - 1))), .int (gv (30 + (n - 1)))])), (wa (30 + (n - 1)), eI G 10 ((va_up ro 36 (mixf 10 (fun v => x * ((ro (30 + (n - 1))) v)) (ro 36))) (30 + (n - 1)))), (ca 36, .inr (0, [.ref (wa 36), .int ((va_up dg 36 (x * (dg (30 + (n - 1))))) 36), .int (gv 36)])), (wa 36, eI G 10 ((va_up ro 36 (mixf 10 (fun v => x * ((ro (30 + (n - 1))) v)) (ro 36))) 36))]) rfl (by omega) hP hD (lc (pool_c rfl (by omega)) (lc (pool_w rfl (by omega)) (lc (pool_c rfl (by omega)) (lc (pool_w rfl (by omega)) rfl)))) hk1 hP1 rfl rfl (fun j q h => ⟨j + 2, h⟩)
    rw [upS gv (30 + (n - 1))] at hP hD
    generalize H1 = H at hP hS ⊢
    have hP : va_P G.1 vwCl ([(bx, .inr (1, [.ref bd, .ref bo, .ref bs, .int st, .ref bk, .int sk, .ref (ca 36), .int tk, .int be, .int so, .int le, .int an])), (bd, eI G 10 fd), (bo, eI G 10 fo), (bs, eR G 30 (fun k => some (ca k))), (bk, eR G 6 (fun k => some (ca (30 + k))))] ++ pool G ca wa (va_up (va_up ro 36 (mixf 10 (fun v => x * ((ro (30 + (n - 1))) v)) (ro 36))) (30 + (n - 1)) (mixf 10 ((va_up ro 36 (mixf 10 (fun v => x * ((ro (30 + (n - 1))) v)) (ro 36))) 36) ((va_up ro 36 (mixf 10 (fun v => x * ((ro (30 + (n - 1))) v)) (ro 36))) (30 + (n - 1))))) (va_up (va_up dg 36 (x * (dg (30 + (n - 1))))) (30 + (n - 1)) ((va_up dg 36 (x * (dg (30 + (n - 1))))) 36)) gv) H := hP
    have hD : va_D A ([(bx, .inr (1, [.ref bd, .ref bo, .ref bs, .int st, .ref bk, .int sk, .ref (ca 36), .int tk, .int be, .int so, .int le, .int an])), (bd, eI G 10 fd), (bo, eI G 10 fo), (bs, eR G 30 (fun k => some (ca k))), (bk, eR G 6 (fun k => some (ca (30 + k))))] ++ pool G ca wa (va_up (va_up ro 36 (mixf 10 (fun v => x * ((ro (30 + (n - 1))) v)) (ro 36))) (30 + (n - 1)) (mixf 10 ((va_up ro 36 (mixf 10 (fun v => x * ((ro (30 + (n - 1))) v)) (ro 36))) 36) ((va_up ro 36 (mixf 10 (fun v => x * ((ro (30 + (n - 1))) v)) (ro 36))) (30 + (n - 1))))) (va_up (va_up dg 36 (x * (dg (30 + (n - 1))))) (30 + (n - 1)) ((va_up dg 36 (x * (dg (30 + (n - 1))))) 36)) gv) := hD
    have hP9 : va_P G.1 vwCl ([(bx, .inr (1, [.ref bd, .ref bo, .ref bs, .int st, .ref bk, .int sk, .ref (ca 36), .int tk, .int be, .int so, .int le, .int an])), (bd, eI G 10 fd), (bo, eI G 10 fo), (bs, eR G 30 (fun k => some (ca k))), (bk, eR G 6 (fun k => some (ca (30 + k))))] ++ pool G ca wa (va_up (va_up ro 36 (mixf 10 (fun v => x * (ro (30 + (n - 1)) v)) (ro 36))) (30 + (n - 1)) (mixf 10 ((va_up ro 36 (mixf 10 (fun v => x * (ro (30 + (n - 1)) v)) (ro 36))) 36) ((va_up ro 36 (mixf 10 (fun v => x * (ro (30 + (n - 1)) v)) (ro 36))) (30 + (n - 1))))) (va_up (va_up dg 36 (x * (dg (30 + (n - 1))))) (30 + (n - 1)) ((va_up dg 36 (x * (dg (30 + (n - 1))))) 36)) gv) _ := (hP)
    have hD9 : va_D A ([(bx, .inr (1, [.ref bd, .ref bo, .ref bs, .int st, .ref bk, .int sk, .ref (ca 36), .int tk, .int be, .int so, .int le, .int an])), (bd, eI G 10 fd), (bo, eI G 10 fo), (bs, eR G 30 (fun k => some (ca k))), (bk, eR G 6 (fun k => some (ca (30 + k))))] ++ pool G ca wa (va_up (va_up ro 36 (mixf 10 (fun v => x * (ro (30 + (n - 1)) v)) (ro 36))) (30 + (n - 1)) (mixf 10 ((va_up ro 36 (mixf 10 (fun v => x * (ro (30 + (n - 1)) v)) (ro 36))) 36) ((va_up ro 36 (mixf 10 (fun v => x * (ro (30 + (n - 1)) v)) (ro 36))) (30 + (n - 1))))) (va_up (va_up dg 36 (x * (dg (30 + (n - 1))))) (30 + (n - 1)) ((va_up dg 36 (x * (dg (30 + (n - 1))))) 36)) gv) := (hD)
    exact W.vret hx hb hr (fun t ht hW => ⟨rfl, by rw [ht]; exact hP9, hD9, hS.F ht⟩) hS.2.2 dX1_times_64
  · exact absurd c_12 (in_o0 h1)

abbrev rmX1_divide : Room := { frames := 3, cells := 0, slots := 0, locals := 64 }
set_option maxHeartbeats 4000000 in
set_option maxRecDepth 100000 in
theorem c_X1_divide (l : Launch) (G : Gt) (sz : Nat) (bx bd bo bs bk : Nat) (ca wa : Nat → Nat) (st sk tk be so le an : Int32) (fd fo : Nat → Int32) (ro : Nat → Nat → Int32) (dg gv : Nat → Int32) (x : Int32) (n : Nat) (esk : sk = nI n) (hn6 : n ≤ 6) (hn1 : 1 ≤ n) (h1 : outI x 1 1000000 = 0) : Met l yX1_divide wsX1_divide rmX1_divide (mu_P G sz [.ref bx, .int x] ([(bx, .inr (1, [.ref bd, .ref bo, .ref bs, .int st, .ref bk, .int sk, .ref (ca 36), .int tk, .int be, .int so, .int le, .int an])), (bd, eI G 10 fd), (bo, eI G 10 fo), (bs, eR G 30 (fun k => some (ca k))), (bk, eR G 6 (fun k => some (ca (30 + k))))] ++ pool G ca wa ro dg gv)) (mu_Q G none ([(bx, .inr (1, [.ref bd, .ref bo, .ref bs, .int st, .ref bk, .int sk, .ref (ca 36), .int tk, .int be, .int so, .int le, .int an])), (bd, eI G 10 fd), (bo, eI G 10 fo), (bs, eR G 30 (fun k => some (ca k))), (bk, eR G 6 (fun k => some (ca (30 + k))))] ++ pool G ca wa (va_up ro (30 + (n - 1)) (mixf 10 (fun v => rsz (ro (30 + (n - 1)) v) (quoI (absI (ro (30 + (n - 1)) v)) x)) (ro (30 + (n - 1))))) (va_up dg (30 + (n - 1)) (quoI (dg (30 + (n - 1))) x)) gv) (va_A ([(bx, .inr (1, [.ref bd, .ref bo, .ref bs, .int st, .ref bk, .int sk, .ref (ca 36), .int tk, .int be, .int so, .int le, .int an])), (bd, eI G 10 fd), (bo, eI G 10 fo), (bs, eR G 30 (fun k => some (ca k))), (bk, eR G 6 (fun k => some (ca (30 + k))))] ++ pool G ca wa ro dg gv) sz)) 0 0 (va_A ([(bx, .inr (1, [.ref bd, .ref bo, .ref bs, .int st, .ref bk, .int sk, .ref (ca 36), .int tk, .int be, .int so, .int le, .int an])), (bd, eI G 10 fd), (bo, eI G 10 fo), (bs, eR G 30 (fun k => some (ca k))), (bk, eR G 6 (fun k => some (ca (30 + k))))] ++ pool G ca wa ro dg gv) sz) := by
  refine Met.ofW (cc := cX1_divide) (maxL := 2) (ret := none) (by decide) rfl ?_
  intro p e s m args below meth c s₁ B hml hv
  obtain ⟨rfl, hsz, hP, hD0, hK⟩ := hv
  have hx := B.exec
  have hb := B.bytes
  have hr := B.returns
  have hts := atoms_spec (ws := wsX1_divide) B.pre
  have hown : s.vm.findClass RX1 = some m.cls := findClass_of_methodNamed B.named
  have hlocks := B.notSynchronized
  subst hsz
  have hD := hD0.self (sz := s.heap.size)
  generalize hAe : va_A ([(bx, .inr (1, [.ref bd, .ref bo, .ref bs, .int st, .ref bk, .int sk, .ref (ca 36), .int tk, .int be, .int so, .int le, .int an])), (bd, eI G 10 fd), (bo, eI G 10 fo), (bs, eR G 30 (fun k => some (ca k))), (bk, eR G 6 (fun k => some (ca (30 + k))))] ++ pool G ca wa ro dg gv) s.heap.size = A at hD ⊢
  have hA : ∀ q : Nat, s.heap.size ≤ q → A q := fun q h => by rw [← hAe]; exact Or.inr h
  have hS : va_S A s.heap s.heap [] := va_S.rf
  have hinX1 : ∀ w ∈ u_ws RX1 TX1 12, w ∈ wsX1_divide := fun w h => List.mem_cons_of_mem _ (List.mem_append_left _ (List.mem_append_left _ (List.mem_append_left _ (List.mem_append_right _ h))))
  have hw0 := hts (.constant RX1 144 (1000000)) (by decide +kernel)
  have hw2 := hts (.fieldLink RX1 26 "ChoiceBoard" "stack" "[LChoiceBoard$Constraint;") (by decide +kernel)
  have hw3 := hts (.fieldLink RX1 29 "ChoiceBoard" "stacked" "I") (by decide +kernel)
  have hl := lv_entry ([.ref bx, .int x]) (n := 2) (Nat.le_of_ble_eq_true rfl)
  rw [lg_entry_eq]
  generalize (lg_sl ([.ref bx, .int x]) ++ List.replicate (2 - (lg_sl ([.ref bx, .int x])).length) Slot.unset).toArray = ls at hl ⊢
  have hl : lv_has ls 2 [(0, .ref bx), (1, .int x)] := hl
  refine lv_aload_n hx hb dX1_divide_0 rfl (lv_at hl 0 rfl) ?_
  refine ro_callv (va_runV (As := []) (rest := []) ⟨hx, hb, hml, hown, hts⟩ (c_X1_refuseEmptyStack l G bx bd bo bs bk (ca 36) st sk tk be so le an (ge1 esk hn1 hn6)) (cwV 0 hts gX1_divide_X1_refuseEmptyStack rfl rfl rfl (by decide +kernel) ⟨Nat.le_of_ble_eq_true rfl, Nat.le_of_ble_eq_true rfl⟩) ⟨ro_blind, va_recv hK.1 hP (ci := 1) (q0 := 0) rfl rfl, ro_pre _ (hP.sub [0] rfl) hK⟩ rfl rfl hl.1 rfl (lv_room (Nat.le_of_ble_eq_true rfl)) dX1_divide_1 ⟨Nat.le_refl _, Nat.le_refl _⟩) ?_
  refine lv_iload_n hx hb dX1_divide_4 rfl (lv_at hl 1 rfl) ?_
  refine lv_iconst (v := 1) hx hb dX1_divide_5 (by decide) ?_
  refine lv_ldc (v := 1000000) hx hb hown hw0 dX1_divide_6 ?_
  refine ro_call (va_runS (As := [.int x, .int 1, .int 1000000]) (rest := []) ⟨hx, hb, hml, hown, hts⟩ (c_X1_isWithin l G x 1 1000000) (va_cwS 3 hts gX1_divide_X1_isWithin rfl rfl rfl (by decide +kernel) ⟨Nat.le_of_ble_eq_true rfl, Nat.le_of_ble_eq_true rfl⟩) ⟨ro_blind, ro_pre _ (hP.sub [] rfl) hK⟩ rfl rfl hl.1 rfl (lv_room (Nat.le_of_ble_eq_true rfl)) dX1_divide_8 ⟨Nat.le_refl _, Nat.le_refl _⟩) ?_
  refine lv_if_ne (tgt := 22) hx hb dX1_divide_11 (by decide) (fun c_11 => ?_) (fun c_11 => ?_)
  · refine lv_aload_n hx hb dX1_divide_22 rfl (lv_at hl 0 rfl) ?_
    refine va_get (D := G.1) (ci := 1) (v := .ref bk) (C := RX1) (T := TX1) (N := 12) hx hb hts hinX1 hown hK.1 hP 0 rfl rfl 4 (by decide) hw2 (fun _ h9 => h9) rfl dX1_divide_23 ?_
    refine lv_aload_n hx hb dX1_divide_26 rfl (lv_at hl 0 rfl) ?_
    refine va_get (D := G.1) (ci := 1) (v := .int sk) (C := RX1) (T := TX1) (N := 12) hx hb hts hinX1 hown hK.1 hP 0 rfl rfl 5 (by decide) hw3 (fun _ h9 => h9) rfl dX1_divide_27 ?_
    refine lv_iconst (v := 1) hx hb dX1_divide_30 (by decide) ?_
    refine lv_isub hx hb dX1_divide_31 ?_
    refine ra_aald (v := (n - 1)) (b := ca (30 + (n - 1))) hx hb hK.1 hP 4 2 rfl rfl (na_pred esk (by omega)) (by omega) (by decide) rfl dX1_divide_32 ?_
    refine lv_iload_n hx hb dX1_divide_33 rfl (lv_at hl 1 rfl) ?_
    refine mu_call (va_runV (As := [.int x]) (rest := []) ⟨hx, hb, hml, hown, hts⟩ (c_X0_divideRoundingUp l G _ (ca (30 + (n - 1))) (wa (30 + (n - 1))) (dg (30 + (n - 1))) (gv (30 + (n - 1))) (ro (30 + (n - 1))) x (outP h1)) (cwV 1 hts gX1_divide_X0_divideRoundingUp rfl rfl rfl (by decide +kernel) ⟨Nat.le_of_ble_eq_true rfl, Nat.le_of_ble_eq_true rfl⟩) ⟨mu_blind, va_recv hK.1 hP (ci := 0) (q0 := 5 + (30 + (n - 1))) rfl (pool_c rfl (by omega)), mu_pre _ (lcP [5 + (30 + (n - 1)), 42 + (30 + (n - 1))] hP (lc (pool_c rfl (by omega)) (lc (pool_w rfl (by omega)) rfl))) (hD.sub [5 + (30 + (n - 1)), 42 + (30 + (n - 1))] (nd2 (30 + (n - 1))) (lc (pool_c rfl (by omega)) (lc (pool_w rfl (by omega)) rfl))) hK⟩ rfl rfl hl.1 rfl (lv_room (Nat.le_of_ble_eq_true rfl)) dX1_divide_34 ⟨Nat.le_refl _, Nat.le_refl _⟩) hS (va_free hD hS hA [5 + (30 + (n - 1)), 42 + (30 + (n - 1))] (lc (pool_c rfl (by omega)) (lc (pool_w rfl (by omega)) rfl))) (va_free hD hS hA [5 + (30 + (n - 1)), 42 + (30 + (n - 1))] (lc (pool_c rfl (by omega)) (lc (pool_w rfl (by omega)) rfl))) (fun H1 locs hP1 hD1 hk1 hS => ?_)
    obtain ⟨hP, hD⟩ := pj (k := (30 + (n - 1))) (is' := []) (wc := [(ca (30 + (n - 1)), .inr (0, [.ref (wa (30 + (n - 1))), .int (dg (30 + (n - 1))), .int (gv (30 + (n - 1)))])), (wa (30 + (n - 1)), eI G 10 (ro (30 + (n - 1))))]) rfl (by omega) hP hD (lc (pool_c rfl (by omega)) (lc (pool_w rfl (by omega)) rfl)) hk1 hP1 rfl rfl (fun j q h => ⟨j + 2, h⟩)
    rw [upS gv (30 + (n - 1))] at hP hD
    generalize H1 = H at hP hS ⊢
    have hP : va_P G.1 vwCl ([(bx, .inr (1, [.ref bd, .ref bo, .ref bs, .int st, .ref bk, .int sk, .ref (ca 36), .int tk, .int be, .int so, .int le, .int an])), (bd, eI G 10 fd), (bo, eI G 10 fo), (bs, eR G 30 (fun k => some (ca k))), (bk, eR G 6 (fun k => some (ca (30 + k))))] ++ pool G ca wa (va_up ro (30 + (n - 1)) (mixf 10 (fun v => rsz ((ro (30 + (n - 1))) v) (quoI (absI ((ro (30 + (n - 1))) v)) x)) (ro (30 + (n - 1))))) (va_up dg (30 + (n - 1)) (quoI (dg (30 + (n - 1))) x)) gv) H := hP
    have hD : va_D A ([(bx, .inr (1, [.ref bd, .ref bo, .ref bs, .int st, .ref bk, .int sk, .ref (ca 36), .int tk, .int be, .int so, .int le, .int an])), (bd, eI G 10 fd), (bo, eI G 10 fo), (bs, eR G 30 (fun k => some (ca k))), (bk, eR G 6 (fun k => some (ca (30 + k))))] ++ pool G ca wa (va_up ro (30 + (n - 1)) (mixf 10 (fun v => rsz ((ro (30 + (n - 1))) v) (quoI (absI ((ro (30 + (n - 1))) v)) x)) (ro (30 + (n - 1))))) (va_up dg (30 + (n - 1)) (quoI (dg (30 + (n - 1))) x)) gv) := hD
    have hP9 : va_P G.1 vwCl ([(bx, .inr (1, [.ref bd, .ref bo, .ref bs, .int st, .ref bk, .int sk, .ref (ca 36), .int tk, .int be, .int so, .int le, .int an])), (bd, eI G 10 fd), (bo, eI G 10 fo), (bs, eR G 30 (fun k => some (ca k))), (bk, eR G 6 (fun k => some (ca (30 + k))))] ++ pool G ca wa (va_up ro (30 + (n - 1)) (mixf 10 (fun v => rsz (ro (30 + (n - 1)) v) (quoI (absI (ro (30 + (n - 1)) v)) x)) (ro (30 + (n - 1))))) (va_up dg (30 + (n - 1)) (quoI (dg (30 + (n - 1))) x)) gv) _ := (hP)
    have hD9 : va_D A ([(bx, .inr (1, [.ref bd, .ref bo, .ref bs, .int st, .ref bk, .int sk, .ref (ca 36), .int tk, .int be, .int so, .int le, .int an])), (bd, eI G 10 fd), (bo, eI G 10 fo), (bs, eR G 30 (fun k => some (ca k))), (bk, eR G 6 (fun k => some (ca (30 + k))))] ++ pool G ca wa (va_up ro (30 + (n - 1)) (mixf 10 (fun v => rsz (ro (30 + (n - 1)) v) (quoI (absI (ro (30 + (n - 1)) v)) x)) (ro (30 + (n - 1))))) (va_up dg (30 + (n - 1)) (quoI (dg (30 + (n - 1))) x)) gv) := (hD)
    exact W.vret hx hb hr (fun t ht hW => ⟨rfl, by rw [ht]; exact hP9, hD9, hS.F ht⟩) hS.2.2 dX1_divide_37
  · exact absurd c_11 (in_o0 h1)

abbrev rmX1_saturate : Room := { frames := 3, cells := 0, slots := 0, locals := 63 }
set_option maxHeartbeats 4000000 in
set_option maxRecDepth 100000 in
theorem c_X1_saturate (l : Launch) (G : Gt) (sz : Nat) (bx bd bo bs bk : Nat) (ca wa : Nat → Nat) (st sk tk be so le an : Int32) (fd fo : Nat → Int32) (ro : Nat → Nat → Int32) (dg gv : Nat → Int32) (n : Nat) (esk : sk = nI n) (hn6 : n ≤ 6) (hn1 : 1 ≤ n) : Met l yX1_saturate wsX1_saturate rmX1_saturate (mu_P G sz [.ref bx] ([(bx, .inr (1, [.ref bd, .ref bo, .ref bs, .int st, .ref bk, .int sk, .ref (ca 36), .int tk, .int be, .int so, .int le, .int an])), (bd, eI G 10 fd), (bo, eI G 10 fo), (bs, eR G 30 (fun k => some (ca k))), (bk, eR G 6 (fun k => some (ca (30 + k))))] ++ pool G ca wa ro dg gv)) (mu_Q G none ([(bx, .inr (1, [.ref bd, .ref bo, .ref bs, .int st, .ref bk, .int sk, .ref (ca 36), .int tk, .int be, .int so, .int le, .int an])), (bd, eI G 10 fd), (bo, eI G 10 fo), (bs, eR G 30 (fun k => some (ca k))), (bk, eR G 6 (fun k => some (ca (30 + k))))] ++ pool G ca wa (va_up ro (30 + (n - 1)) (mixf 10 (fun v => rsz (ro (30 + (n - 1)) v) (minI (absI (ro (30 + (n - 1)) v)) (dg (30 + (n - 1))))) (ro (30 + (n - 1))))) dg gv) (va_A ([(bx, .inr (1, [.ref bd, .ref bo, .ref bs, .int st, .ref bk, .int sk, .ref (ca 36), .int tk, .int be, .int so, .int le, .int an])), (bd, eI G 10 fd), (bo, eI G 10 fo), (bs, eR G 30 (fun k => some (ca k))), (bk, eR G 6 (fun k => some (ca (30 + k))))] ++ pool G ca wa ro dg gv) sz)) 0 0 (va_A ([(bx, .inr (1, [.ref bd, .ref bo, .ref bs, .int st, .ref bk, .int sk, .ref (ca 36), .int tk, .int be, .int so, .int le, .int an])), (bd, eI G 10 fd), (bo, eI G 10 fo), (bs, eR G 30 (fun k => some (ca k))), (bk, eR G 6 (fun k => some (ca (30 + k))))] ++ pool G ca wa ro dg gv) sz) := by
  refine Met.ofW (cc := cX1_saturate) (maxL := 1) (ret := none) (by decide) rfl ?_
  intro p e s m args below meth c s₁ B hml hv
  obtain ⟨rfl, hsz, hP, hD0, hK⟩ := hv
  have hx := B.exec
  have hb := B.bytes
  have hr := B.returns
  have hts := atoms_spec (ws := wsX1_saturate) B.pre
  have hown : s.vm.findClass RX1 = some m.cls := findClass_of_methodNamed B.named
  have hlocks := B.notSynchronized
  subst hsz
  have hD := hD0.self (sz := s.heap.size)
  generalize hAe : va_A ([(bx, .inr (1, [.ref bd, .ref bo, .ref bs, .int st, .ref bk, .int sk, .ref (ca 36), .int tk, .int be, .int so, .int le, .int an])), (bd, eI G 10 fd), (bo, eI G 10 fo), (bs, eR G 30 (fun k => some (ca k))), (bk, eR G 6 (fun k => some (ca (30 + k))))] ++ pool G ca wa ro dg gv) s.heap.size = A at hD ⊢
  have hA : ∀ q : Nat, s.heap.size ≤ q → A q := fun q h => by rw [← hAe]; exact Or.inr h
  have hS : va_S A s.heap s.heap [] := va_S.rf
  have hinX1 : ∀ w ∈ u_ws RX1 TX1 12, w ∈ wsX1_saturate := fun w h => List.mem_cons_of_mem _ (List.mem_append_left _ (List.mem_append_left _ (List.mem_append_right _ h)))
  have hw1 := hts (.fieldLink RX1 26 "ChoiceBoard" "stack" "[LChoiceBoard$Constraint;") (by decide +kernel)
  have hw2 := hts (.fieldLink RX1 29 "ChoiceBoard" "stacked" "I") (by decide +kernel)
  have hl := lv_entry ([.ref bx]) (n := 1) (Nat.le_of_ble_eq_true rfl)
  rw [lg_entry_eq]
  generalize (lg_sl ([.ref bx]) ++ List.replicate (1 - (lg_sl ([.ref bx])).length) Slot.unset).toArray = ls at hl ⊢
  have hl : lv_has ls 1 [(0, .ref bx)] := hl
  refine lv_aload_n hx hb dX1_saturate_0 rfl (lv_at hl 0 rfl) ?_
  refine ro_callv (va_runV (As := []) (rest := []) ⟨hx, hb, hml, hown, hts⟩ (c_X1_refuseEmptyStack l G bx bd bo bs bk (ca 36) st sk tk be so le an (ge1 esk hn1 hn6)) (cwV 0 hts gX1_saturate_X1_refuseEmptyStack rfl rfl rfl (by decide +kernel) ⟨Nat.le_of_ble_eq_true rfl, Nat.le_of_ble_eq_true rfl⟩) ⟨ro_blind, va_recv hK.1 hP (ci := 1) (q0 := 0) rfl rfl, ro_pre _ (hP.sub [0] rfl) hK⟩ rfl rfl hl.1 rfl (lv_room (Nat.le_of_ble_eq_true rfl)) dX1_saturate_1 ⟨Nat.le_refl _, Nat.le_refl _⟩) ?_
  refine lv_aload_n hx hb dX1_saturate_4 rfl (lv_at hl 0 rfl) ?_
  refine va_get (D := G.1) (ci := 1) (v := .ref bk) (C := RX1) (T := TX1) (N := 12) hx hb hts hinX1 hown hK.1 hP 0 rfl rfl 4 (by decide) hw1 (fun _ h9 => h9) rfl dX1_saturate_5 ?_
  refine lv_aload_n hx hb dX1_saturate_8 rfl (lv_at hl 0 rfl) ?_
  refine va_get (D := G.1) (ci := 1) (v := .int sk) (C := RX1) (T := TX1) (N := 12) hx hb hts hinX1 hown hK.1 hP 0 rfl rfl 5 (by decide) hw2 (fun _ h9 => h9) rfl dX1_saturate_9 ?_
  refine lv_iconst (v := 1) hx hb dX1_saturate_12 (by decide) ?_
  refine lv_isub hx hb dX1_saturate_13 ?_
  refine ra_aald (v := (n - 1)) (b := ca (30 + (n - 1))) hx hb hK.1 hP 4 2 rfl rfl (na_pred esk (by omega)) (by omega) (by decide) rfl dX1_saturate_14 ?_
  refine mu_call (va_runV (As := []) (rest := []) ⟨hx, hb, hml, hown, hts⟩ (c_X0_limitSizesToDegree l G _ (ca (30 + (n - 1))) (wa (30 + (n - 1))) (dg (30 + (n - 1))) (gv (30 + (n - 1))) (ro (30 + (n - 1)))) (cwV 0 hts gX1_saturate_X0_limitSizesToDegree rfl rfl rfl (by decide +kernel) ⟨Nat.le_of_ble_eq_true rfl, Nat.le_of_ble_eq_true rfl⟩) ⟨mu_blind, va_recv hK.1 hP (ci := 0) (q0 := 5 + (30 + (n - 1))) rfl (pool_c rfl (by omega)), mu_pre _ (lcP [5 + (30 + (n - 1)), 42 + (30 + (n - 1))] hP (lc (pool_c rfl (by omega)) (lc (pool_w rfl (by omega)) rfl))) (hD.sub [5 + (30 + (n - 1)), 42 + (30 + (n - 1))] (nd2 (30 + (n - 1))) (lc (pool_c rfl (by omega)) (lc (pool_w rfl (by omega)) rfl))) hK⟩ rfl rfl hl.1 rfl (lv_room (Nat.le_of_ble_eq_true rfl)) dX1_saturate_15 ⟨Nat.le_refl _, Nat.le_refl _⟩) hS (va_free hD hS hA [5 + (30 + (n - 1)), 42 + (30 + (n - 1))] (lc (pool_c rfl (by omega)) (lc (pool_w rfl (by omega)) rfl))) (va_free hD hS hA [5 + (30 + (n - 1)), 42 + (30 + (n - 1))] (lc (pool_c rfl (by omega)) (lc (pool_w rfl (by omega)) rfl))) (fun H1 locs hP1 hD1 hk1 hS => ?_)
  obtain ⟨hP, hD⟩ := pj (k := (30 + (n - 1))) (is' := []) (wc := [(ca (30 + (n - 1)), .inr (0, [.ref (wa (30 + (n - 1))), .int (dg (30 + (n - 1))), .int (gv (30 + (n - 1)))])), (wa (30 + (n - 1)), eI G 10 (ro (30 + (n - 1))))]) rfl (by omega) hP hD (lc (pool_c rfl (by omega)) (lc (pool_w rfl (by omega)) rfl)) hk1 hP1 rfl rfl (fun j q h => ⟨j + 2, h⟩)
  rw [upS gv (30 + (n - 1))] at hP hD
  rw [upS dg (30 + (n - 1))] at hP hD
  generalize H1 = H at hP hS ⊢
  have hP : va_P G.1 vwCl ([(bx, .inr (1, [.ref bd, .ref bo, .ref bs, .int st, .ref bk, .int sk, .ref (ca 36), .int tk, .int be, .int so, .int le, .int an])), (bd, eI G 10 fd), (bo, eI G 10 fo), (bs, eR G 30 (fun k => some (ca k))), (bk, eR G 6 (fun k => some (ca (30 + k))))] ++ pool G ca wa (va_up ro (30 + (n - 1)) (mixf 10 (fun v => rsz ((ro (30 + (n - 1))) v) (minI (absI ((ro (30 + (n - 1))) v)) (dg (30 + (n - 1))))) (ro (30 + (n - 1))))) dg gv) H := hP
  have hD : va_D A ([(bx, .inr (1, [.ref bd, .ref bo, .ref bs, .int st, .ref bk, .int sk, .ref (ca 36), .int tk, .int be, .int so, .int le, .int an])), (bd, eI G 10 fd), (bo, eI G 10 fo), (bs, eR G 30 (fun k => some (ca k))), (bk, eR G 6 (fun k => some (ca (30 + k))))] ++ pool G ca wa (va_up ro (30 + (n - 1)) (mixf 10 (fun v => rsz ((ro (30 + (n - 1))) v) (minI (absI ((ro (30 + (n - 1))) v)) (dg (30 + (n - 1))))) (ro (30 + (n - 1))))) dg gv) := hD
  have hP9 : va_P G.1 vwCl ([(bx, .inr (1, [.ref bd, .ref bo, .ref bs, .int st, .ref bk, .int sk, .ref (ca 36), .int tk, .int be, .int so, .int le, .int an])), (bd, eI G 10 fd), (bo, eI G 10 fo), (bs, eR G 30 (fun k => some (ca k))), (bk, eR G 6 (fun k => some (ca (30 + k))))] ++ pool G ca wa (va_up ro (30 + (n - 1)) (mixf 10 (fun v => rsz (ro (30 + (n - 1)) v) (minI (absI (ro (30 + (n - 1)) v)) (dg (30 + (n - 1))))) (ro (30 + (n - 1))))) dg gv) _ := (hP)
  have hD9 : va_D A ([(bx, .inr (1, [.ref bd, .ref bo, .ref bs, .int st, .ref bk, .int sk, .ref (ca 36), .int tk, .int be, .int so, .int le, .int an])), (bd, eI G 10 fd), (bo, eI G 10 fo), (bs, eR G 30 (fun k => some (ca k))), (bk, eR G 6 (fun k => some (ca (30 + k))))] ++ pool G ca wa (va_up ro (30 + (n - 1)) (mixf 10 (fun v => rsz (ro (30 + (n - 1)) v) (minI (absI (ro (30 + (n - 1)) v)) (dg (30 + (n - 1))))) (ro (30 + (n - 1))))) dg gv) := (hD)
  exact W.vret hx hb hr (fun t ht hW => ⟨rfl, by rw [ht]; exact hP9, hD9, hS.F ht⟩) hS.2.2 dX1_saturate_18

abbrev rmX1_weaken : Room := { frames := 3, cells := 0, slots := 0, locals := 63 }
set_option maxHeartbeats 4000000 in
set_option maxRecDepth 100000 in
theorem c_X1_weaken (l : Launch) (G : Gt) (sz : Nat) (bx bd bo bs bk : Nat) (ca wa : Nat → Nat) (st sk tk be so le an : Int32) (fd fo : Nat → Int32) (ro : Nat → Nat → Int32) (dg gv : Nat → Int32) (x : Int32) (n : Nat) (esk : sk = nI n) (hn6 : n ≤ 6) (hn1 : 1 ≤ n) (h1 : outI x 0 9 = 0) : Met l yX1_weaken wsX1_weaken rmX1_weaken (mu_P G sz [.ref bx, .int x] ([(bx, .inr (1, [.ref bd, .ref bo, .ref bs, .int st, .ref bk, .int sk, .ref (ca 36), .int tk, .int be, .int so, .int le, .int an])), (bd, eI G 10 fd), (bo, eI G 10 fo), (bs, eR G 30 (fun k => some (ca k))), (bk, eR G 6 (fun k => some (ca (30 + k))))] ++ pool G ca wa ro dg gv)) (mu_Q G none ([(bx, .inr (1, [.ref bd, .ref bo, .ref bs, .int st, .ref bk, .int sk, .ref (ca 36), .int tk, .int be, .int so, .int le, .int an])), (bd, eI G 10 fd), (bo, eI G 10 fo), (bs, eR G 30 (fun k => some (ca k))), (bk, eR G 6 (fun k => some (ca (30 + k))))] ++ pool G ca wa (va_up ro (30 + (n - 1)) (upd (ro (30 + (n - 1))) x.toNatClampNeg 0)) (va_up dg (30 + (n - 1)) (maxI (dg (30 + (n - 1)) - absI (ro (30 + (n - 1)) x.toNatClampNeg)) 0)) gv) (va_A ([(bx, .inr (1, [.ref bd, .ref bo, .ref bs, .int st, .ref bk, .int sk, .ref (ca 36), .int tk, .int be, .int so, .int le, .int an])), (bd, eI G 10 fd), (bo, eI G 10 fo), (bs, eR G 30 (fun k => some (ca k))), (bk, eR G 6 (fun k => some (ca (30 + k))))] ++ pool G ca wa ro dg gv) sz)) 0 0 (va_A ([(bx, .inr (1, [.ref bd, .ref bo, .ref bs, .int st, .ref bk, .int sk, .ref (ca 36), .int tk, .int be, .int so, .int le, .int an])), (bd, eI G 10 fd), (bo, eI G 10 fo), (bs, eR G 30 (fun k => some (ca k))), (bk, eR G 6 (fun k => some (ca (30 + k))))] ++ pool G ca wa ro dg gv) sz) := by
  refine Met.ofW (cc := cX1_weaken) (maxL := 2) (ret := none) (by decide) rfl ?_
  intro p e s m args below meth c s₁ B hml hv
  obtain ⟨rfl, hsz, hP, hD0, hK⟩ := hv
  have hx := B.exec
  have hb := B.bytes
  have hr := B.returns
  have hts := atoms_spec (ws := wsX1_weaken) B.pre
  have hown : s.vm.findClass RX1 = some m.cls := findClass_of_methodNamed B.named
  have hlocks := B.notSynchronized
  subst hsz
  have hD := hD0.self (sz := s.heap.size)
  generalize hAe : va_A ([(bx, .inr (1, [.ref bd, .ref bo, .ref bs, .int st, .ref bk, .int sk, .ref (ca 36), .int tk, .int be, .int so, .int le, .int an])), (bd, eI G 10 fd), (bo, eI G 10 fo), (bs, eR G 30 (fun k => some (ca k))), (bk, eR G 6 (fun k => some (ca (30 + k))))] ++ pool G ca wa ro dg gv) s.heap.size = A at hD ⊢
  have hA : ∀ q : Nat, s.heap.size ≤ q → A q := fun q h => by rw [← hAe]; exact Or.inr h
  have hS : va_S A s.heap s.heap [] := va_S.rf
  have hinX1 : ∀ w ∈ u_ws RX1 TX1 12, w ∈ wsX1_weaken := fun w h => List.mem_cons_of_mem _ (List.mem_append_left _ (List.mem_append_left _ (List.mem_append_left _ (List.mem_append_right _ h))))
  have hw1 := hts (.fieldLink RX1 26 "ChoiceBoard" "stack" "[LChoiceBoard$Constraint;") (by decide +kernel)
  have hw2 := hts (.fieldLink RX1 29 "ChoiceBoard" "stacked" "I") (by decide +kernel)
  obtain ⟨exn, hxn⟩ := out0 (N := 9) rfl (by decide) h1
  have hl := lv_entry ([.ref bx, .int x]) (n := 2) (Nat.le_of_ble_eq_true rfl)
  rw [lg_entry_eq]
  generalize (lg_sl ([.ref bx, .int x]) ++ List.replicate (2 - (lg_sl ([.ref bx, .int x])).length) Slot.unset).toArray = ls at hl ⊢
  have hl : lv_has ls 2 [(0, .ref bx), (1, .int x)] := hl
  refine lv_aload_n hx hb dX1_weaken_0 rfl (lv_at hl 0 rfl) ?_
  refine ro_callv (va_runV (As := []) (rest := []) ⟨hx, hb, hml, hown, hts⟩ (c_X1_refuseEmptyStack l G bx bd bo bs bk (ca 36) st sk tk be so le an (ge1 esk hn1 hn6)) (cwV 0 hts gX1_weaken_X1_refuseEmptyStack rfl rfl rfl (by decide +kernel) ⟨Nat.le_of_ble_eq_true rfl, Nat.le_of_ble_eq_true rfl⟩) ⟨ro_blind, va_recv hK.1 hP (ci := 1) (q0 := 0) rfl rfl, ro_pre _ (hP.sub [0] rfl) hK⟩ rfl rfl hl.1 rfl (lv_room (Nat.le_of_ble_eq_true rfl)) dX1_weaken_1 ⟨Nat.le_refl _, Nat.le_refl _⟩) ?_
  refine lv_iload_n hx hb dX1_weaken_4 rfl (lv_at hl 1 rfl) ?_
  refine ro_call (va_runS (As := [.int x]) (rest := []) ⟨hx, hb, hml, hown, hts⟩ (c_X1_isVariable l G x) (va_cwS 1 hts gX1_weaken_X1_isVariable rfl rfl rfl (by decide +kernel) ⟨Nat.le_of_ble_eq_true rfl, Nat.le_of_ble_eq_true rfl⟩) ⟨ro_blind, ro_pre _ (hP.sub [] rfl) hK⟩ rfl rfl hl.1 rfl (lv_room (Nat.le_of_ble_eq_true rfl)) dX1_weaken_5 ⟨Nat.le_refl _, Nat.le_refl _⟩) ?_
  refine lv_if_ne (tgt := 19) hx hb dX1_weaken_8 (by decide) (fun c_8 => ?_) (fun c_8 => ?_)
  · refine lv_aload_n hx hb dX1_weaken_19 rfl (lv_at hl 0 rfl) ?_
    refine va_get (D := G.1) (ci := 1) (v := .ref bk) (C := RX1) (T := TX1) (N := 12) hx hb hts hinX1 hown hK.1 hP 0 rfl rfl 4 (by decide) hw1 (fun _ h9 => h9) rfl dX1_weaken_20 ?_
    refine lv_aload_n hx hb dX1_weaken_23 rfl (lv_at hl 0 rfl) ?_
    refine va_get (D := G.1) (ci := 1) (v := .int sk) (C := RX1) (T := TX1) (N := 12) hx hb hts hinX1 hown hK.1 hP 0 rfl rfl 5 (by decide) hw2 (fun _ h9 => h9) rfl dX1_weaken_24 ?_
    refine lv_iconst (v := 1) hx hb dX1_weaken_27 (by decide) ?_
    refine lv_isub hx hb dX1_weaken_28 ?_
    refine ra_aald (v := (n - 1)) (b := ca (30 + (n - 1))) hx hb hK.1 hP 4 2 rfl rfl (na_pred esk (by omega)) (by omega) (by decide) rfl dX1_weaken_29 ?_
    refine lv_iload_n hx hb dX1_weaken_30 rfl (lv_at hl 1 rfl) ?_
    refine mu_call (va_runV (As := [.int x]) (rest := []) ⟨hx, hb, hml, hown, hts⟩ (c_X0_giveUp l G _ (ca (30 + (n - 1))) (wa (30 + (n - 1))) (dg (30 + (n - 1))) (gv (30 + (n - 1))) (ro (30 + (n - 1))) x x.toNatClampNeg exn (by omega)) (cwV 1 hts gX1_weaken_X0_giveUp rfl rfl rfl (by decide +kernel) ⟨Nat.le_of_ble_eq_true rfl, Nat.le_of_ble_eq_true rfl⟩) ⟨mu_blind, va_recv hK.1 hP (ci := 0) (q0 := 5 + (30 + (n - 1))) rfl (pool_c rfl (by omega)), mu_pre _ (lcP [5 + (30 + (n - 1)), 42 + (30 + (n - 1))] hP (lc (pool_c rfl (by omega)) (lc (pool_w rfl (by omega)) rfl))) (hD.sub [5 + (30 + (n - 1)), 42 + (30 + (n - 1))] (nd2 (30 + (n - 1))) (lc (pool_c rfl (by omega)) (lc (pool_w rfl (by omega)) rfl))) hK⟩ rfl rfl hl.1 rfl (lv_room (Nat.le_of_ble_eq_true rfl)) dX1_weaken_31 ⟨Nat.le_refl _, Nat.le_refl _⟩) hS (va_free hD hS hA [5 + (30 + (n - 1)), 42 + (30 + (n - 1))] (lc (pool_c rfl (by omega)) (lc (pool_w rfl (by omega)) rfl))) (va_free hD hS hA [5 + (30 + (n - 1)), 42 + (30 + (n - 1))] (lc (pool_c rfl (by omega)) (lc (pool_w rfl (by omega)) rfl))) (fun H1 locs hP1 hD1 hk1 hS => ?_)
    obtain ⟨hP, hD⟩ := pj (k := (30 + (n - 1))) (is' := []) (wc := [(ca (30 + (n - 1)), .inr (0, [.ref (wa (30 + (n - 1))), .int (dg (30 + (n - 1))), .int (gv (30 + (n - 1)))])), (wa (30 + (n - 1)), eI G 10 (ro (30 + (n - 1))))]) rfl (by omega) hP hD (lc (pool_c rfl (by omega)) (lc (pool_w rfl (by omega)) rfl)) hk1 hP1 rfl rfl (fun j q h => ⟨j + 2, h⟩)
    rw [upS gv (30 + (n - 1))] at hP hD
    generalize H1 = H at hP hS ⊢
    have hP : va_P G.1 vwCl ([(bx, .inr (1, [.ref bd, .ref bo, .ref bs, .int st, .ref bk, .int sk, .ref (ca 36), .int tk, .int be, .int so, .int le, .int an])), (bd, eI G 10 fd), (bo, eI G 10 fo), (bs, eR G 30 (fun k => some (ca k))), (bk, eR G 6 (fun k => some (ca (30 + k))))] ++ pool G ca wa (va_up ro (30 + (n - 1)) (upd (ro (30 + (n - 1))) x.toNatClampNeg 0)) (va_up dg (30 + (n - 1)) (maxI ((dg (30 + (n - 1))) - (absI ((ro (30 + (n - 1))) x.toNatClampNeg))) 0)) gv) H := hP
    have hD : va_D A ([(bx, .inr (1, [.ref bd, .ref bo, .ref bs, .int st, .ref bk, .int sk, .ref (ca 36), .int tk, .int be, .int so, .int le, .int an])), (bd, eI G 10 fd), (bo, eI G 10 fo), (bs, eR G 30 (fun k => some (ca k))), (bk, eR G 6 (fun k => some (ca (30 + k))))] ++ pool G ca wa (va_up ro (30 + (n - 1)) (upd (ro (30 + (n - 1))) x.toNatClampNeg 0)) (va_up dg (30 + (n - 1)) (maxI ((dg (30 + (n - 1))) - (absI ((ro (30 + (n - 1))) x.toNatClampNeg))) 0)) gv) := hD
    have hP9 : va_P G.1 vwCl ([(bx, .inr (1, [.ref bd, .ref bo, .ref bs, .int st, .ref bk, .int sk, .ref (ca 36), .int tk, .int be, .int so, .int le, .int an])), (bd, eI G 10 fd), (bo, eI G 10 fo), (bs, eR G 30 (fun k => some (ca k))), (bk, eR G 6 (fun k => some (ca (30 + k))))] ++ pool G ca wa (va_up ro (30 + (n - 1)) (upd (ro (30 + (n - 1))) x.toNatClampNeg 0)) (va_up dg (30 + (n - 1)) (maxI (dg (30 + (n - 1)) - absI (ro (30 + (n - 1)) x.toNatClampNeg)) 0)) gv) _ := (hP)
    have hD9 : va_D A ([(bx, .inr (1, [.ref bd, .ref bo, .ref bs, .int st, .ref bk, .int sk, .ref (ca 36), .int tk, .int be, .int so, .int le, .int an])), (bd, eI G 10 fd), (bo, eI G 10 fo), (bs, eR G 30 (fun k => some (ca k))), (bk, eR G 6 (fun k => some (ca (30 + k))))] ++ pool G ca wa (va_up ro (30 + (n - 1)) (upd (ro (30 + (n - 1))) x.toNatClampNeg 0)) (va_up dg (30 + (n - 1)) (maxI (dg (30 + (n - 1)) - absI (ro (30 + (n - 1)) x.toNatClampNeg)) 0)) gv) := (hD)
    exact W.vret hx hb hr (fun t ht hW => ⟨rfl, by rw [ht]; exact hP9, hD9, hS.F ht⟩) hS.2.2 dX1_weaken_34
  · exact absurd c_8 (in_o0 h1)

abbrev rmX1_drop : Room := { frames := 1, cells := 0, slots := 0, locals := 20 }
set_option maxHeartbeats 4000000 in
set_option maxRecDepth 100000 in
theorem c_X1_drop (l : Launch) (G : Gt) (sz : Nat) (bx bd bo bs bk : Nat) (ca wa : Nat → Nat) (st sk tk be so le an : Int32) (fd fo : Nat → Int32) (ro : Nat → Nat → Int32) (dg gv : Nat → Int32) (n : Nat) (esk : sk = nI n) (hn6 : n ≤ 6) (hn1 : 1 ≤ n) : Met l yX1_drop wsX1_drop rmX1_drop (mu_P G sz [.ref bx] ([(bx, .inr (1, [.ref bd, .ref bo, .ref bs, .int st, .ref bk, .int sk, .ref (ca 36), .int tk, .int be, .int so, .int le, .int an])), (bd, eI G 10 fd), (bo, eI G 10 fo), (bs, eR G 30 (fun k => some (ca k))), (bk, eR G 6 (fun k => some (ca (30 + k))))] ++ pool G ca wa ro dg gv)) (mu_Q G none ([(bx, .inr (1, [.ref bd, .ref bo, .ref bs, .int st, .ref bk, .int (sk - 1), .ref (ca 36), .int tk, .int be, .int so, .int le, .int an])), (bd, eI G 10 fd), (bo, eI G 10 fo), (bs, eR G 30 (fun k => some (ca k))), (bk, eR G 6 (fun k => some (ca (30 + k))))] ++ pool G ca wa ro dg gv) (va_A ([(bx, .inr (1, [.ref bd, .ref bo, .ref bs, .int st, .ref bk, .int sk, .ref (ca 36), .int tk, .int be, .int so, .int le, .int an])), (bd, eI G 10 fd), (bo, eI G 10 fo), (bs, eR G 30 (fun k => some (ca k))), (bk, eR G 6 (fun k => some (ca (30 + k))))] ++ pool G ca wa ro dg gv) sz)) 0 0 (va_A ([(bx, .inr (1, [.ref bd, .ref bo, .ref bs, .int st, .ref bk, .int sk, .ref (ca 36), .int tk, .int be, .int so, .int le, .int an])), (bd, eI G 10 fd), (bo, eI G 10 fo), (bs, eR G 30 (fun k => some (ca k))), (bk, eR G 6 (fun k => some (ca (30 + k))))] ++ pool G ca wa ro dg gv) sz) := by
  refine Met.ofW (cc := cX1_drop) (maxL := 1) (ret := none) (by decide) rfl ?_
  intro p e s m args below meth c s₁ B hml hv
  obtain ⟨rfl, hsz, hP, hD0, hK⟩ := hv
  have hx := B.exec
  have hb := B.bytes
  have hr := B.returns
  have hts := atoms_spec (ws := wsX1_drop) B.pre
  have hown : s.vm.findClass RX1 = some m.cls := findClass_of_methodNamed B.named
  have hlocks := B.notSynchronized
  subst hsz
  have hD := hD0.self (sz := s.heap.size)
  generalize hAe : va_A ([(bx, .inr (1, [.ref bd, .ref bo, .ref bs, .int st, .ref bk, .int sk, .ref (ca 36), .int tk, .int be, .int so, .int le, .int an])), (bd, eI G 10 fd), (bo, eI G 10 fo), (bs, eR G 30 (fun k => some (ca k))), (bk, eR G 6 (fun k => some (ca (30 + k))))] ++ pool G ca wa ro dg gv) s.heap.size = A at hD ⊢
  have hA : ∀ q : Nat, s.heap.size ≤ q → A q := fun q h => by rw [← hAe]; exact Or.inr h
  have hS : va_S A s.heap s.heap [] := va_S.rf
  have hinX1 : ∀ w ∈ u_ws RX1 TX1 12, w ∈ wsX1_drop := fun w h => List.mem_cons_of_mem _ (List.mem_append_left _ (List.mem_append_right _ h))
  have hw1 := hts (.fieldLink RX1 29 "ChoiceBoard" "stacked" "I") (by decide +kernel)
  have hl := lv_entry ([.ref bx]) (n := 1) (Nat.le_of_ble_eq_true rfl)
  rw [lg_entry_eq]
  generalize (lg_sl ([.ref bx]) ++ List.replicate (1 - (lg_sl ([.ref bx])).length) Slot.unset).toArray = ls at hl ⊢
  have hl : lv_has ls 1 [(0, .ref bx)] := hl
  refine lv_aload_n hx hb dX1_drop_0 rfl (lv_at hl 0 rfl) ?_
  refine ro_callv (va_runV (As := []) (rest := []) ⟨hx, hb, hml, hown, hts⟩ (c_X1_refuseEmptyStack l G bx bd bo bs bk (ca 36) st sk tk be so le an (ge1 esk hn1 hn6)) (cwV 0 hts gX1_drop_X1_refuseEmptyStack rfl rfl rfl (by decide +kernel) ⟨Nat.le_of_ble_eq_true rfl, Nat.le_of_ble_eq_true rfl⟩) ⟨ro_blind, va_recv hK.1 hP (ci := 1) (q0 := 0) rfl rfl, ro_pre _ (hP.sub [0] rfl) hK⟩ rfl rfl hl.1 rfl (lv_room (Nat.le_of_ble_eq_true rfl)) dX1_drop_1 ⟨Nat.le_refl _, Nat.le_refl _⟩) ?_
  refine lv_aload_n hx hb dX1_drop_4 rfl (lv_at hl 0 rfl) ?_
  refine lv_dup hx hb dX1_drop_5 rfl ?_
  refine va_get (D := G.1) (ci := 1) (v := .int sk) (C := RX1) (T := TX1) (N := 12) hx hb hts hinX1 hown hK.1 hP 0 rfl rfl 5 (by decide) hw1 (fun _ h9 => h9) rfl dX1_drop_6 ?_
  refine lv_iconst (v := 1) hx hb dX1_drop_9 (by decide) ?_
  refine lv_isub hx hb dX1_drop_10 ?_
  refine va_put (D := G.1) (ci := 1) (v := .int (sk - 1)) (ty := .int) (C := RX1) (T := TX1) (N := 12) hx hb hts hinX1 tyX1 tyX1_ok nmX1 hown hK.1 hP hD hS 0 rfl rfl 5 (by decide) hw1 (fun _ h9 => h9) rfl (by decide +kernel) rfl rfl (Nat.le_of_ble_eq_true rfl) dX1_drop_11 (fun H locs hP hD hS => ?_)
  have hP : va_P G.1 vwCl ([(bx, .inr (1, [.ref bd, .ref bo, .ref bs, .int st, .ref bk, .int (sk - 1), .ref (ca 36), .int tk, .int be, .int so, .int le, .int an])), (bd, eI G 10 fd), (bo, eI G 10 fo), (bs, eR G 30 (fun k => some (ca k))), (bk, eR G 6 (fun k => some (ca (30 + k))))] ++ pool G ca wa ro dg gv) H := hP
  have hD : va_D A ([(bx, .inr (1, [.ref bd, .ref bo, .ref bs, .int st, .ref bk, .int (sk - 1), .ref (ca 36), .int tk, .int be, .int so, .int le, .int an])), (bd, eI G 10 fd), (bo, eI G 10 fo), (bs, eR G 30 (fun k => some (ca k))), (bk, eR G 6 (fun k => some (ca (30 + k))))] ++ pool G ca wa ro dg gv) := hD
  have hP9 : va_P G.1 vwCl ([(bx, .inr (1, [.ref bd, .ref bo, .ref bs, .int st, .ref bk, .int (sk - 1), .ref (ca 36), .int tk, .int be, .int so, .int le, .int an])), (bd, eI G 10 fd), (bo, eI G 10 fo), (bs, eR G 30 (fun k => some (ca k))), (bk, eR G 6 (fun k => some (ca (30 + k))))] ++ pool G ca wa ro dg gv) _ := (hP)
  have hD9 : va_D A ([(bx, .inr (1, [.ref bd, .ref bo, .ref bs, .int st, .ref bk, .int (sk - 1), .ref (ca 36), .int tk, .int be, .int so, .int le, .int an])), (bd, eI G 10 fd), (bo, eI G 10 fo), (bs, eR G 30 (fun k => some (ca k))), (bk, eR G 6 (fun k => some (ca (30 + k))))] ++ pool G ca wa ro dg gv) := (hD)
  exact W.vret hx hb hr (fun t ht hW => ⟨rfl, by rw [ht]; exact hP9, hD9, hS.F ht⟩) hS.2.2 dX1_drop_14

abbrev rmX1_top : Room := { frames := 2, cells := 0, slots := 0, locals := 42 }
set_option maxHeartbeats 4000000 in
set_option maxRecDepth 100000 in
theorem c_X1_top (l : Launch) (G : Gt) (bx bd bo bs bk : Nat) (ca wa : Nat → Nat) (st sk tk be so le an : Int32) (fd fo : Nat → Int32) (ro : Nat → Nat → Int32) (dg gv : Nat → Int32) (x : Int32) (n : Nat) (esk : sk = nI n) (hn6 : n ≤ 6) (h1 : outI x (-2) 9 = 0) (hn1 : ¬ x = -2 → 1 ≤ n) : Met l yX1_top wsX1_top rmX1_top (ro_P G [.ref bx, .int x] ([(bx, .inr (1, [.ref bd, .ref bo, .ref bs, .int st, .ref bk, .int sk, .ref (ca 36), .int tk, .int be, .int so, .int le, .int an])), (bd, eI G 10 fd), (bo, eI G 10 fo), (bs, eR G 30 (fun k => some (ca k))), (bk, eR G 6 (fun k => some (ca (30 + k))))] ++ pool G ca wa ro dg gv)) (QcRead (txR ro dg n sk x)) 0 0 (fun _ => False) := by
  refine Met.ofW (cc := cX1_top) (maxL := 2) (ret := (some .int)) (by decide) rfl ?_
  intro p e s m args below meth c s₁ B hml hv
  obtain ⟨rfl, hP, hK⟩ := hv
  have hx := B.exec
  have hb := B.bytes
  have hr := B.returns
  have hts := atoms_spec (ws := wsX1_top) B.pre
  have hown : s.vm.findClass RX1 = some m.cls := findClass_of_methodNamed B.named
  have hlocks := B.notSynchronized
  have hinX1 : ∀ w ∈ u_ws RX1 TX1 12, w ∈ wsX1_top := fun w h => List.mem_cons_of_mem _ (List.mem_append_left _ (List.mem_append_left _ (List.mem_append_left _ (List.mem_append_right _ h))))
  have hw1 := hts (.fieldLink RX1 26 "ChoiceBoard" "stack" "[LChoiceBoard$Constraint;") (by decide +kernel)
  have hw2 := hts (.fieldLink RX1 29 "ChoiceBoard" "stacked" "I") (by decide +kernel)
  have hl := lv_entry ([.ref bx, .int x]) (n := 2) (Nat.le_of_ble_eq_true rfl)
  rw [lg_entry_eq]
  generalize (lg_sl ([.ref bx, .int x]) ++ List.replicate (2 - (lg_sl ([.ref bx, .int x])).length) Slot.unset).toArray = ls at hl ⊢
  have hl : lv_has ls 2 [(0, .ref bx), (1, .int x)] := hl
  refine lv_iload_n hx hb dX1_top_0 rfl (lv_at hl 1 rfl) ?_
  refine ro_call (va_runS (As := [.int x]) (rest := []) ⟨hx, hb, hml, hown, hts⟩ (c_X1_isQuestion l G x) (va_cwS 1 hts gX1_top_X1_isQuestion rfl rfl rfl (by decide +kernel) ⟨Nat.le_of_ble_eq_true rfl, Nat.le_of_ble_eq_true rfl⟩) ⟨ro_blind, ro_pre _ (hP.sub [] rfl) hK⟩ rfl rfl hl.1 rfl (lv_room (Nat.le_of_ble_eq_true rfl)) dX1_top_1 ⟨Nat.le_refl _, Nat.le_refl _⟩) ?_
  refine lv_if_ne (tgt := 15) hx hb dX1_top_4 (by decide) (fun c_4 => ?_) (fun c_4 => ?_)
  · refine lv_iload_n hx hb dX1_top_15 rfl (lv_at hl 1 rfl) ?_
    refine lv_bipush (v := (-2)) hx hb dX1_top_16 (by decide) ?_
    refine lv_icmp_ne (tgt := 26) hx hb dX1_top_18 (by decide) (fun c_18 => ?_) (fun c_18 => ?_)
    · have hn1 := hn1 c_18
      refine lv_aload_n hx hb dX1_top_26 rfl (lv_at hl 0 rfl) ?_
      refine ro_callv (va_runV (As := []) (rest := []) ⟨hx, hb, hml, hown, hts⟩ (c_X1_refuseEmptyStack l G bx bd bo bs bk (ca 36) st sk tk be so le an (ge1 esk hn1 hn6)) (cwV 0 hts gX1_top_X1_refuseEmptyStack rfl rfl rfl (by decide +kernel) ⟨Nat.le_of_ble_eq_true rfl, Nat.le_of_ble_eq_true rfl⟩) ⟨ro_blind, va_recv hK.1 hP (ci := 1) (q0 := 0) rfl rfl, ro_pre _ (hP.sub [0] rfl) hK⟩ rfl rfl hl.1 rfl (lv_room (Nat.le_of_ble_eq_true rfl)) dX1_top_27 ⟨Nat.le_refl _, Nat.le_refl _⟩) ?_
      refine lv_aload_n hx hb dX1_top_30 rfl (lv_at hl 0 rfl) ?_
      refine va_get (D := G.1) (ci := 1) (v := .ref bk) (C := RX1) (T := TX1) (N := 12) hx hb hts hinX1 hown hK.1 hP 0 rfl rfl 4 (by decide) hw1 (fun _ h9 => h9) rfl dX1_top_31 ?_
      refine lv_aload_n hx hb dX1_top_34 rfl (lv_at hl 0 rfl) ?_
      refine va_get (D := G.1) (ci := 1) (v := .int sk) (C := RX1) (T := TX1) (N := 12) hx hb hts hinX1 hown hK.1 hP 0 rfl rfl 5 (by decide) hw2 (fun _ h9 => h9) rfl dX1_top_35 ?_
      refine lv_iconst (v := 1) hx hb dX1_top_38 (by decide) ?_
      refine lv_isub hx hb dX1_top_39 ?_
      refine ra_aald (v := (n - 1)) (b := ca (30 + (n - 1))) hx hb hK.1 hP 4 2 rfl rfl (na_pred esk (by omega)) (by omega) (by decide) rfl dX1_top_40 ?_
      refine lv_iload_n hx hb dX1_top_41 rfl (lv_at hl 1 rfl) ?_
      refine ro_call (va_runV (As := [.int x]) (rest := []) ⟨hx, hb, hml, hown, hts⟩ (c_X0_weightOrDegree l G (ca (30 + (n - 1))) (wa (30 + (n - 1))) (dg (30 + (n - 1))) (gv (30 + (n - 1))) (ro (30 + (n - 1))) x (wodV h1 c_18)) (cwV 1 hts gX1_top_X0_weightOrDegree rfl rfl rfl (by decide +kernel) ⟨Nat.le_of_ble_eq_true rfl, Nat.le_of_ble_eq_true rfl⟩) ⟨ro_blind, va_recv hK.1 hP (ci := 0) (q0 := 5 + (30 + (n - 1))) rfl (pool_c rfl (by omega)), ro_pre _ (lcP [5 + (30 + (n - 1)), 42 + (30 + (n - 1))] hP (lc (pool_c rfl (by omega)) (lc (pool_w rfl (by omega)) rfl))) hK⟩ rfl rfl hl.1 rfl (lv_room (Nat.le_of_ble_eq_true rfl)) dX1_top_42 ⟨Nat.le_refl _, Nat.le_refl _⟩) ?_
      exact W.iret (v := wod (ro (30 + (n - 1))) (dg (30 + (n - 1))) x) hx hb hr (fun t ht hW => ⟨congrArg (fun z => Outcome.returned (some (Value.int z))) (by unfold txR; rw [if_neg c_18]), ht⟩) (fun _ h => nomatch h) dX1_top_45
    · refine lv_aload_n hx hb dX1_top_21 rfl (lv_at hl 0 rfl) ?_
      refine va_get (D := G.1) (ci := 1) (v := .int sk) (C := RX1) (T := TX1) (N := 12) hx hb hts hinX1 hown hK.1 hP 0 rfl rfl 5 (by decide) hw2 (fun _ h9 => h9) rfl dX1_top_22 ?_
      exact W.iret (v := sk) hx hb hr (fun t ht hW => ⟨congrArg (fun z => Outcome.returned (some (Value.int z))) (by unfold txR; rw [if_pos c_18]), ht⟩) (fun _ h => nomatch h) dX1_top_25
  · exact absurd c_4 (in_o0 h1)

abbrev rmX1_learn : Room := { frames := 2, cells := 0, slots := 0, locals := 69 }
set_option maxHeartbeats 4000000 in
set_option maxRecDepth 100000 in
theorem c_X1_learn (l : Launch) (G : Gt) (sz : Nat) (bx bd bo bs bk : Nat) (ca wa : Nat → Nat) (st sk tk be so le an : Int32) (fd fo : Nat → Int32) (ro : Nat → Nat → Int32) (dg gv : Nat → Int32) (k : Nat) (est : st = nI k) (hk : k < 30) (n : Nat) (esk : sk = nI n) (hn6 : n ≤ 6) (hn1 : 1 ≤ n) : Met l yX1_learn wsX1_learn rmX1_learn (mu_P G sz [.ref bx] ([(bx, .inr (1, [.ref bd, .ref bo, .ref bs, .int st, .ref bk, .int sk, .ref (ca 36), .int tk, .int be, .int so, .int le, .int an])), (bd, eI G 10 fd), (bo, eI G 10 fo), (bs, eR G 30 (fun k => some (ca k))), (bk, eR G 6 (fun k => some (ca (30 + k))))] ++ pool G ca wa ro dg gv)) (mu_Q G (some (.int (st + 1 - 1))) ([(bx, .inr (1, [.ref bd, .ref bo, .ref bs, .int (st + 1), .ref bk, .int (sk - 1), .ref (ca 36), .int tk, .int be, .int so, .int le, .int an])), (bd, eI G 10 fd), (bo, eI G 10 fo), (bs, eR G 30 (fun k => some (ca k))), (bk, eR G 6 (fun k => some (ca (30 + k))))] ++ pool G ca wa (va_up ro k (mixf 10 (ro (30 + (n - 1))) (ro k))) (va_up dg k (dg (30 + (n - 1)))) (va_up gv k 0)) (va_A ([(bx, .inr (1, [.ref bd, .ref bo, .ref bs, .int st, .ref bk, .int sk, .ref (ca 36), .int tk, .int be, .int so, .int le, .int an])), (bd, eI G 10 fd), (bo, eI G 10 fo), (bs, eR G 30 (fun k => some (ca k))), (bk, eR G 6 (fun k => some (ca (30 + k))))] ++ pool G ca wa ro dg gv) sz)) 0 0 (va_A ([(bx, .inr (1, [.ref bd, .ref bo, .ref bs, .int st, .ref bk, .int sk, .ref (ca 36), .int tk, .int be, .int so, .int le, .int an])), (bd, eI G 10 fd), (bo, eI G 10 fo), (bs, eR G 30 (fun k => some (ca k))), (bk, eR G 6 (fun k => some (ca (30 + k))))] ++ pool G ca wa ro dg gv) sz) := by
  refine Met.ofW (cc := cX1_learn) (maxL := 1) (ret := (some .int)) (by decide) rfl ?_
  intro p e s m args below meth c s₁ B hml hv
  obtain ⟨rfl, hsz, hP, hD0, hK⟩ := hv
  have hx := B.exec
  have hb := B.bytes
  have hr := B.returns
  have hts := atoms_spec (ws := wsX1_learn) B.pre
  have hown : s.vm.findClass RX1 = some m.cls := findClass_of_methodNamed B.named
  have hlocks := B.notSynchronized
  subst hsz
  have hD := hD0.self (sz := s.heap.size)
  generalize hAe : va_A ([(bx, .inr (1, [.ref bd, .ref bo, .ref bs, .int st, .ref bk, .int sk, .ref (ca 36), .int tk, .int be, .int so, .int le, .int an])), (bd, eI G 10 fd), (bo, eI G 10 fo), (bs, eR G 30 (fun k => some (ca k))), (bk, eR G 6 (fun k => some (ca (30 + k))))] ++ pool G ca wa ro dg gv) s.heap.size = A at hD ⊢
  have hA : ∀ q : Nat, s.heap.size ≤ q → A q := fun q h => by rw [← hAe]; exact Or.inr h
  have hS : va_S A s.heap s.heap [] := va_S.rf
  have hinX1 : ∀ w ∈ u_ws RX1 TX1 12, w ∈ wsX1_learn := fun w h => List.mem_cons_of_mem _ (List.mem_append_left _ (List.mem_append_left _ (List.mem_append_right _ h)))
  have hw1 := hts (.fieldLink RX1 29 "ChoiceBoard" "stacked" "I") (by decide +kernel)
  have hw2 := hts (.fieldLink RX1 18 "ChoiceBoard" "store" "[LChoiceBoard$Constraint;") (by decide +kernel)
  have hw3 := hts (.fieldLink RX1 22 "ChoiceBoard" "stored" "I") (by decide +kernel)
  have hw4 := hts (.fieldLink RX1 26 "ChoiceBoard" "stack" "[LChoiceBoard$Constraint;") (by decide +kernel)
  have hl := lv_entry ([.ref bx]) (n := 1) (Nat.le_of_ble_eq_true rfl)
  rw [lg_entry_eq]
  generalize (lg_sl ([.ref bx]) ++ List.replicate (1 - (lg_sl ([.ref bx])).length) Slot.unset).toArray = ls at hl ⊢
  have hl : lv_has ls 1 [(0, .ref bx)] := hl
  refine lv_aload_n hx hb dX1_learn_0 rfl (lv_at hl 0 rfl) ?_
  refine ro_callv (va_runV (As := []) (rest := []) ⟨hx, hb, hml, hown, hts⟩ (c_X1_refuseEmptyStack l G bx bd bo bs bk (ca 36) st sk tk be so le an (ge1 esk hn1 hn6)) (cwV 0 hts gX1_learn_X1_refuseEmptyStack rfl rfl rfl (by decide +kernel) ⟨Nat.le_of_ble_eq_true rfl, Nat.le_of_ble_eq_true rfl⟩) ⟨ro_blind, va_recv hK.1 hP (ci := 1) (q0 := 0) rfl rfl, ro_pre _ (hP.sub [0] rfl) hK⟩ rfl rfl hl.1 rfl (lv_room (Nat.le_of_ble_eq_true rfl)) dX1_learn_1 ⟨Nat.le_refl _, Nat.le_refl _⟩) ?_
  refine lv_aload_n hx hb dX1_learn_4 rfl (lv_at hl 0 rfl) ?_
  refine ro_callv (va_runV (As := []) (rest := []) ⟨hx, hb, hml, hown, hts⟩ (c_X1_refuseFullStore l G bx bd bo bs bk (ca 36) st sk tk be so le an k est (by omega)) (cwV 0 hts gX1_learn_X1_refuseFullStore rfl rfl rfl (by decide +kernel) ⟨Nat.le_of_ble_eq_true rfl, Nat.le_of_ble_eq_true rfl⟩) ⟨ro_blind, va_recv hK.1 hP (ci := 1) (q0 := 0) rfl rfl, ro_pre _ (hP.sub [0] rfl) hK⟩ rfl rfl hl.1 rfl (lv_room (Nat.le_of_ble_eq_true rfl)) dX1_learn_5 ⟨Nat.le_refl _, Nat.le_refl _⟩) ?_
  refine lv_aload_n hx hb dX1_learn_8 rfl (lv_at hl 0 rfl) ?_
  refine lv_dup hx hb dX1_learn_9 rfl ?_
  refine va_get (D := G.1) (ci := 1) (v := .int sk) (C := RX1) (T := TX1) (N := 12) hx hb hts hinX1 hown hK.1 hP 0 rfl rfl 5 (by decide) hw1 (fun _ h9 => h9) rfl dX1_learn_10 ?_
  refine lv_iconst (v := 1) hx hb dX1_learn_13 (by decide) ?_
  refine lv_isub hx hb dX1_learn_14 ?_
  refine va_put (D := G.1) (ci := 1) (v := .int (sk - 1)) (ty := .int) (C := RX1) (T := TX1) (N := 12) hx hb hts hinX1 tyX1 tyX1_ok nmX1 hown hK.1 hP hD hS 0 rfl rfl 5 (by decide) hw1 (fun _ h9 => h9) rfl (by decide +kernel) rfl rfl (Nat.le_of_ble_eq_true rfl) dX1_learn_15 (fun H locs hP hD hS => ?_)
  have hP : va_P G.1 vwCl ([(bx, .inr (1, [.ref bd, .ref bo, .ref bs, .int st, .ref bk, .int (sk - 1), .ref (ca 36), .int tk, .int be, .int so, .int le, .int an])), (bd, eI G 10 fd), (bo, eI G 10 fo), (bs, eR G 30 (fun k => some (ca k))), (bk, eR G 6 (fun k => some (ca (30 + k))))] ++ pool G ca wa ro dg gv) H := hP
  have hD : va_D A ([(bx, .inr (1, [.ref bd, .ref bo, .ref bs, .int st, .ref bk, .int (sk - 1), .ref (ca 36), .int tk, .int be, .int so, .int le, .int an])), (bd, eI G 10 fd), (bo, eI G 10 fo), (bs, eR G 30 (fun k => some (ca k))), (bk, eR G 6 (fun k => some (ca (30 + k))))] ++ pool G ca wa ro dg gv) := hD
  refine lv_aload_n hx hb dX1_learn_18 rfl (lv_at hl 0 rfl) ?_
  refine va_get (D := G.1) (ci := 1) (v := .ref bs) (C := RX1) (T := TX1) (N := 12) hx hb hts hinX1 hown hK.1 hP 0 rfl rfl 2 (by decide) hw2 (fun _ h9 => h9) rfl dX1_learn_19 ?_
  refine lv_aload_n hx hb dX1_learn_22 rfl (lv_at hl 0 rfl) ?_
  refine va_get (D := G.1) (ci := 1) (v := .int st) (C := RX1) (T := TX1) (N := 12) hx hb hts hinX1 hown hK.1 hP 0 rfl rfl 3 (by decide) hw3 (fun _ h9 => h9) rfl dX1_learn_23 ?_
  refine ra_aald (v := k) (b := ca k) hx hb hK.1 hP 3 2 rfl rfl est (by omega) (by decide) rfl dX1_learn_26 ?_
  refine lv_aload_n hx hb dX1_learn_27 rfl (lv_at hl 0 rfl) ?_
  refine va_get (D := G.1) (ci := 1) (v := .ref bk) (C := RX1) (T := TX1) (N := 12) hx hb hts hinX1 hown hK.1 hP 0 rfl rfl 4 (by decide) hw4 (fun _ h9 => h9) rfl dX1_learn_28 ?_
  refine lv_aload_n hx hb dX1_learn_31 rfl (lv_at hl 0 rfl) ?_
  refine va_get (D := G.1) (ci := 1) (v := .int (sk - 1)) (C := RX1) (T := TX1) (N := 12) hx hb hts hinX1 hown hK.1 hP 0 rfl rfl 5 (by decide) hw1 (fun _ h9 => h9) rfl dX1_learn_32 ?_
  refine ra_aald (v := (n - 1)) (b := ca (30 + (n - 1))) hx hb hK.1 hP 4 2 rfl rfl (na_pred esk (by omega)) (by omega) (by decide) rfl dX1_learn_35 ?_
  refine mu_call (va_runV (As := [.ref (ca (30 + (n - 1)))]) (rest := []) ⟨hx, hb, hml, hown, hts⟩ (c_X0_become l G _ (ca k) (wa k) (dg k) (gv k) (ro k) (ca (30 + (n - 1))) (wa (30 + (n - 1))) (dg (30 + (n - 1))) (gv (30 + (n - 1))) (ro (30 + (n - 1)))) (cwV 1 hts gX1_learn_X0_become rfl rfl rfl (by decide +kernel) ⟨Nat.le_of_ble_eq_true rfl, Nat.le_of_ble_eq_true rfl⟩) ⟨mu_blind, va_recv hK.1 hP (ci := 0) (q0 := 5 + k) rfl (pool_c rfl (by omega)), mu_pre _ (lcP [5 + k, 42 + k, 5 + (30 + (n - 1)), 42 + (30 + (n - 1))] hP (lc (pool_c rfl (by omega)) (lc (pool_w rfl (by omega)) (lc (pool_c rfl (by omega)) (lc (pool_w rfl (by omega)) rfl))))) (hD.sub [5 + k, 42 + k, 5 + (30 + (n - 1)), 42 + (30 + (n - 1))] (nd4 (by omega) (by omega) (by omega)) (lc (pool_c rfl (by omega)) (lc (pool_w rfl (by omega)) (lc (pool_c rfl (by omega)) (lc (pool_w rfl (by omega)) rfl))))) hK⟩ rfl rfl hl.1 rfl (lv_room (Nat.le_of_ble_eq_true rfl)) dX1_learn_36 ⟨Nat.le_refl _, Nat.le_refl _⟩) hS (va_free hD hS hA [5 + k, 42 + k, 5 + (30 + (n - 1)), 42 + (30 + (n - 1))] (lc (pool_c rfl (by omega)) (lc (pool_w rfl (by omega)) (lc (pool_c rfl (by omega)) (lc (pool_w rfl (by omega)) rfl))))) (va_free hD hS hA [5 + k, 42 + k, 5 + (30 + (n - 1)), 42 + (30 + (n - 1))] (lc (pool_c rfl (by omega)) (lc (pool_w rfl (by omega)) (lc (pool_c rfl (by omega)) (lc (pool_w rfl (by omega)) rfl))))) (fun H1 locs hP1 hD1 hk1 hS => ?_)
  obtain ⟨hP, hD⟩ := pj (k := k) (is' := [5 + (30 + (n - 1)), 42 + (30 + (n - 1))]) (wc := [(ca k, .inr (0, [.ref (wa k), .int (dg k), .int (gv k)])), (wa k, eI G 10 (ro k)), (ca (30 + (n - 1)), .inr (0, [.ref (wa (30 + (n - 1))), .int (dg (30 + (n - 1))), .int (gv (30 + (n - 1)))])), (wa (30 + (n - 1)), eI G 10 (ro (30 + (n - 1))))]) rfl (by omega) hP hD (lc (pool_c rfl (by omega)) (lc (pool_w rfl (by omega)) (lc (pool_c rfl (by omega)) (lc (pool_w rfl (by omega)) rfl)))) hk1 hP1 rfl rfl (fun j q h => ⟨j + 2, h⟩)
  rw [upS gv k] at hP hD
  generalize H1 = H at hP hS ⊢
  have hP : va_P G.1 vwCl ([(bx, .inr (1, [.ref bd, .ref bo, .ref bs, .int st, .ref bk, .int (sk - 1), .ref (ca 36), .int tk, .int be, .int so, .int le, .int an])), (bd, eI G 10 fd), (bo, eI G 10 fo), (bs, eR G 30 (fun k => some (ca k))), (bk, eR G 6 (fun k => some (ca (30 + k))))] ++ pool G ca wa (va_up ro k (mixf 10 (ro (30 + (n - 1))) (ro k))) (va_up dg k (dg (30 + (n - 1)))) gv) H := hP
  have hD : va_D A ([(bx, .inr (1, [.ref bd, .ref bo, .ref bs, .int st, .ref bk, .int (sk - 1), .ref (ca 36), .int tk, .int be, .int so, .int le, .int an])), (bd, eI G 10 fd), (bo, eI G 10 fo), (bs, eR G 30 (fun k => some (ca k))), (bk, eR G 6 (fun k => some (ca (30 + k))))] ++ pool G ca wa (va_up ro k (mixf 10 (ro (30 + (n - 1))) (ro k))) (va_up dg k (dg (30 + (n - 1)))) gv) := hD
  refine lv_aload_n hx hb dX1_learn_39 rfl (lv_at hl 0 rfl) ?_
  refine lv_iconst (v := 0) hx hb dX1_learn_40 (by decide) ?_
  have hFw := va_freeW hD hS hA
  refine mu_call (va_runV (As := [.int 0]) (rest := []) ⟨hx, hb, hml, hown, hts⟩ (c_X1_keepNext l G _ bx bd bo bs bk ca wa st (sk - 1) tk be so le an fd fo (va_up ro k (mixf 10 (ro (30 + (n - 1))) (ro k))) (va_up dg k (dg (30 + (n - 1)))) gv 0 rfl rfl k est (by omega)) (cwV 1 hts gX1_learn_X1_keepNext rfl rfl rfl (by decide +kernel) ⟨Nat.le_of_ble_eq_true rfl, Nat.le_of_ble_eq_true rfl⟩) ⟨mu_blind, va_recv hK.1 hP (ci := 1) (q0 := 0) rfl rfl, mu_pre _ hP hD hK⟩ rfl rfl hl.1 rfl (lv_room (Nat.le_of_ble_eq_true rfl)) dX1_learn_41 ⟨Nat.le_refl _, Nat.le_refl _⟩) hS hFw hFw (fun H1 locs hP1 hD1 hk1 hS => ?_)
  have hD := hD1.weaken (fun _ q _ h9 => hFw q.1 h9)
  have hP := hP1
  generalize H1 = H at hP hS ⊢
  have hP : va_P G.1 vwCl ([(bx, .inr (1, [.ref bd, .ref bo, .ref bs, .int (st + 1), .ref bk, .int (sk - 1), .ref (ca 36), .int tk, .int be, .int so, .int le, .int an])), (bd, eI G 10 fd), (bo, eI G 10 fo), (bs, eR G 30 (fun k => some (ca k))), (bk, eR G 6 (fun k => some (ca (30 + k))))] ++ pool G ca wa (va_up ro k (mixf 10 (ro (30 + (n - 1))) (ro k))) (va_up dg k (dg (30 + (n - 1)))) (va_up gv k 0)) H := hP
  have hD : va_D A ([(bx, .inr (1, [.ref bd, .ref bo, .ref bs, .int (st + 1), .ref bk, .int (sk - 1), .ref (ca 36), .int tk, .int be, .int so, .int le, .int an])), (bd, eI G 10 fd), (bo, eI G 10 fo), (bs, eR G 30 (fun k => some (ca k))), (bk, eR G 6 (fun k => some (ca (30 + k))))] ++ pool G ca wa (va_up ro k (mixf 10 (ro (30 + (n - 1))) (ro k))) (va_up dg k (dg (30 + (n - 1)))) (va_up gv k 0)) := hD
  have hP9 : va_P G.1 vwCl ([(bx, .inr (1, [.ref bd, .ref bo, .ref bs, .int (st + 1), .ref bk, .int (sk - 1), .ref (ca 36), .int tk, .int be, .int so, .int le, .int an])), (bd, eI G 10 fd), (bo, eI G 10 fo), (bs, eR G 30 (fun k => some (ca k))), (bk, eR G 6 (fun k => some (ca (30 + k))))] ++ pool G ca wa (va_up ro k (mixf 10 (ro (30 + (n - 1))) (ro k))) (va_up dg k (dg (30 + (n - 1)))) (va_up gv k 0)) _ := (hP)
  have hD9 : va_D A ([(bx, .inr (1, [.ref bd, .ref bo, .ref bs, .int (st + 1), .ref bk, .int (sk - 1), .ref (ca 36), .int tk, .int be, .int so, .int le, .int an])), (bd, eI G 10 fd), (bo, eI G 10 fo), (bs, eR G 30 (fun k => some (ca k))), (bk, eR G 6 (fun k => some (ca (30 + k))))] ++ pool G ca wa (va_up ro k (mixf 10 (ro (30 + (n - 1))) (ro k))) (va_up dg k (dg (30 + (n - 1)))) (va_up gv k 0)) := (hD)
  exact W.iret (v := st + 1 - 1) hx hb hr (fun t ht hW => ⟨congrArg (fun z => Outcome.returned (some (Value.int z))) (rfl), by rw [ht]; exact hP9, hD9, hS.F ht⟩) hS.2.2 dX1_learn_44
