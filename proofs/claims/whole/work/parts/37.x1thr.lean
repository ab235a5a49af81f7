abbrev rmX1_refuseFullStore_t : Room := { frames := 6, cells := 1, slots := 6, locals := 81 }
set_option maxHeartbeats 4000000 in
set_option maxRecDepth 100000 in
theorem c_X1_refuseFullStore_t (l : Launch) (hlt : l.stackTraces = false) (G : Gt) (bx bd bo bs bk sc : Nat) (st sk tk be so le an : Int32) (hs : st = 30) : vx_Met l yX1_refuseFullStore wsX1_refuseFullStore rmX1_refuseFullStore_t (tn_P G [.ref bx] [(bx, .inr (1, [.ref bd, .ref bo, .ref bs, .int st, .ref bk, .int sk, .ref sc, .int tk, .int be, .int so, .int le, .int an]))]) tn_Qv (tn_X eIS) 1 6 (fun _ => False) := by
  refine vx_ofW (cc := cX1_refuseFullStore) (maxL := 1) (ret := none) (by decide) rfl ?_
  intro p e s m args below meth c s₁ B hml htab hv
  obtain ⟨⟨rfl, hP, hK⟩, hxw, hzz⟩ := hv
  have hx := B.exec
  have hb := B.bytes
  have hr := B.returns
  have hts := atoms_spec (ws := wsX1_refuseFullStore) B.pre
  have hown : s.vm.findClass RX1 = some m.cls := findClass_of_methodNamed B.named
  have hlocks := B.notSynchronized
  have hw0 := hts (.classLink RX1 74 "java/lang/IllegalStateException") (by decide +kernel)
  have hw1 := hts (.initialized "java/lang/IllegalStateException") (by decide +kernel)
  have hl := lv_entry ([.ref bx]) (n := 1) (Nat.le_of_ble_eq_true rfl)
  rw [lg_entry_eq]
  generalize (lg_sl ([.ref bx]) ++ List.replicate (1 - (lg_sl ([.ref bx])).length) Slot.unset).toArray = ls at hl ⊢
  have hl : lv_has ls 1 [(0, .ref bx)] := hl
  refine lv_aload_n hx hb dX1_refuseFullStore_0 rfl (lv_at hl 0 rfl) ?_
  refine ro_call (va_runV (As := []) (rest := []) ⟨hx, hb, hml, hown, hts⟩ (c_X1_isStoreFull l G bx bd bo bs bk sc st sk tk be so le an) (cwV 0 hts gX1_refuseFullStore_X1_isStoreFull rfl rfl rfl (by decide +kernel) ⟨Nat.le_of_ble_eq_true rfl, Nat.le_of_ble_eq_true rfl⟩) ⟨ro_blind, va_recv hK.1 hP (ci := 1) (q0 := 0) rfl rfl, ro_pre _ (hP.sub [0] rfl) hK⟩ rfl rfl hl.1 rfl (lv_room (Nat.le_of_ble_eq_true rfl)) dX1_refuseFullStore_1 ⟨Nat.le_of_ble_eq_true rfl, Nat.le_of_ble_eq_true rfl⟩) ?_
  refine lv_if_eq (tgt := 15) hx hb dX1_refuseFullStore_4 (by decide) (fun c_4 => ?_) (fun c_4 => ?_)
  · exact absurd c_4 (by rw [hs]; decide)
  · exact vx_throw0 hx hb hlt (own := RX1) (cls := eIS) (names := nmE) (ik := 74) (ic := 76) hown (by decide) (by decide) hw0 hw1 (xat (by decide +kernel) (fun w h => hts w (List.mem_cons_of_mem _ (List.mem_append_right _ h))) hxw.1.2.1 (xB_on _)) (by decide +kernel) hzz.1 hzz.2 va_S.rf (hl.1.trans hml.symm) dX1_refuseFullStore_7 dX1_refuseFullStore_10 dX1_refuseFullStore_11 dX1_refuseFullStore_14 (fun x h => (htab x h).elim) (Nat.le_of_ble_eq_true rfl) (Nat.le_of_ble_eq_true rfl) (Nat.le_of_ble_eq_true rfl) (Nat.le_of_ble_eq_true rfl) hlocks (tn_at) (fun z h => nomatch h) (Nat.le_of_ble_eq_true rfl) (Nat.le_of_ble_eq_true rfl)

abbrev rmX1_refuseFullStack_t : Room := { frames := 6, cells := 1, slots := 6, locals := 81 }
set_option maxHeartbeats 4000000 in
set_option maxRecDepth 100000 in
theorem c_X1_refuseFullStack_t (l : Launch) (hlt : l.stackTraces = false) (G : Gt) (bx bd bo bs bk sc : Nat) (st sk tk be so le an : Int32) (hs : sk = 6) : vx_Met l yX1_refuseFullStack wsX1_refuseFullStack rmX1_refuseFullStack_t (tn_P G [.ref bx] [(bx, .inr (1, [.ref bd, .ref bo, .ref bs, .int st, .ref bk, .int sk, .ref sc, .int tk, .int be, .int so, .int le, .int an]))]) tn_Qv (tn_X eIS) 1 6 (fun _ => False) := by
  refine vx_ofW (cc := cX1_refuseFullStack) (maxL := 1) (ret := none) (by decide) rfl ?_
  intro p e s m args below meth c s₁ B hml htab hv
  obtain ⟨⟨rfl, hP, hK⟩, hxw, hzz⟩ := hv
  have hx := B.exec
  have hb := B.bytes
  have hr := B.returns
  have hts := atoms_spec (ws := wsX1_refuseFullStack) B.pre
  have hown : s.vm.findClass RX1 = some m.cls := findClass_of_methodNamed B.named
  have hlocks := B.notSynchronized
  have hinX1 : ∀ w ∈ u_ws RX1 TX1 12, w ∈ wsX1_refuseFullStack := fun w h => List.mem_cons_of_mem _ (List.mem_append_left _ (List.mem_append_right _ h))
  have hw1 := hts (.fieldLink RX1 29 "ChoiceBoard" "stacked" "I") (by decide +kernel)
  have hw2 := hts (.classLink RX1 74 "java/lang/IllegalStateException") (by decide +kernel)
  have hw3 := hts (.initialized "java/lang/IllegalStateException") (by decide +kernel)
  have hl := lv_entry ([.ref bx]) (n := 1) (Nat.le_of_ble_eq_true rfl)
  rw [lg_entry_eq]
  generalize (lg_sl ([.ref bx]) ++ List.replicate (1 - (lg_sl ([.ref bx])).length) Slot.unset).toArray = ls at hl ⊢
  have hl : lv_has ls 1 [(0, .ref bx)] := hl
  refine lv_aload_n hx hb dX1_refuseFullStack_0 rfl (lv_at hl 0 rfl) ?_
  refine va_get (D := G.1) (ci := 1) (v := .int sk) (C := RX1) (T := TX1) (N := 12) hx hb hts hinX1 hown hK.1 hP 0 rfl rfl 5 (by decide) hw1 (fun _ h9 => h9) rfl dX1_refuseFullStack_1 ?_
  refine lv_bipush (v := 6) hx hb dX1_refuseFullStack_4 (by decide) ?_
  refine lv_icmp_lt (tgt := 17) hx hb dX1_refuseFullStack_6 (by decide) (fun c_6 => ?_) (fun c_6 => ?_)
  · exact absurd c_6 (by rw [hs]; decide)
  · exact vx_throw0 hx hb hlt (own := RX1) (cls := eIS) (names := nmE) (ik := 74) (ic := 76) hown (by decide) (by decide) hw2 hw3 (xat (by decide +kernel) (fun w h => hts w (List.mem_cons_of_mem _ (List.mem_append_right _ h))) hxw.1.2.1 (xB_on _)) (by decide +kernel) hzz.1 hzz.2 va_S.rf (hl.1.trans hml.symm) dX1_refuseFullStack_9 dX1_refuseFullStack_12 dX1_refuseFullStack_13 dX1_refuseFullStack_16 (fun x h => (htab x h).elim) (Nat.le_of_ble_eq_true rfl) (Nat.le_of_ble_eq_true rfl) (Nat.le_of_ble_eq_true rfl) (Nat.le_of_ble_eq_true rfl) hlocks (tn_at) (fun z h => nomatch h) (Nat.le_of_ble_eq_true rfl) (Nat.le_of_ble_eq_true rfl)

abbrev rmX1_refuseEmptyStack_t : Room := { frames := 6, cells := 1, slots := 6, locals := 81 }
set_option maxHeartbeats 4000000 in
set_option maxRecDepth 100000 in
theorem c_X1_refuseEmptyStack_t (l : Launch) (hlt : l.stackTraces = false) (G : Gt) (bx bd bo bs bk sc : Nat) (st sk tk be so le an : Int32) (hs : sk < 1) : vx_Met l yX1_refuseEmptyStack wsX1_refuseEmptyStack rmX1_refuseEmptyStack_t (tn_P G [.ref bx] [(bx, .inr (1, [.ref bd, .ref bo, .ref bs, .int st, .ref bk, .int sk, .ref sc, .int tk, .int be, .int so, .int le, .int an]))]) tn_Qv (tn_X eIS) 1 6 (fun _ => False) := by
  refine vx_ofW (cc := cX1_refuseEmptyStack) (maxL := 1) (ret := none) (by decide) rfl ?_
  intro p e s m args below meth c s₁ B hml htab hv
  obtain ⟨⟨rfl, hP, hK⟩, hxw, hzz⟩ := hv
  have hx := B.exec
  have hb := B.bytes
  have hr := B.returns
  have hts := atoms_spec (ws := wsX1_refuseEmptyStack) B.pre
  have hown : s.vm.findClass RX1 = some m.cls := findClass_of_methodNamed B.named
  have hlocks := B.notSynchronized
  have hinX1 : ∀ w ∈ u_ws RX1 TX1 12, w ∈ wsX1_refuseEmptyStack := fun w h => List.mem_cons_of_mem _ (List.mem_append_left _ (List.mem_append_right _ h))
  have hw1 := hts (.fieldLink RX1 29 "ChoiceBoard" "stacked" "I") (by decide +kernel)
  have hw2 := hts (.classLink RX1 74 "java/lang/IllegalStateException") (by decide +kernel)
  have hw3 := hts (.initialized "java/lang/IllegalStateException") (by decide +kernel)
  have hl := lv_entry ([.ref bx]) (n := 1) (Nat.le_of_ble_eq_true rfl)
  rw [lg_entry_eq]
  generalize (lg_sl ([.ref bx]) ++ List.replicate (1 - (lg_sl ([.ref bx])).length) Slot.unset).toArray = ls at hl ⊢
  have hl : lv_has ls 1 [(0, .ref bx)] := hl
  refine lv_aload_n hx hb dX1_refuseEmptyStack_0 rfl (lv_at hl 0 rfl) ?_
  refine va_get (D := G.1) (ci := 1) (v := .int sk) (C := RX1) (T := TX1) (N := 12) hx hb hts hinX1 hown hK.1 hP 0 rfl rfl 5 (by decide) hw1 (fun _ h9 => h9) rfl dX1_refuseEmptyStack_1 ?_
  refine lv_iconst (v := 1) hx hb dX1_refuseEmptyStack_4 (by decide) ?_
  refine lv_icmp_ge (tgt := 16) hx hb dX1_refuseEmptyStack_5 (by decide) (fun c_5 => ?_) (fun c_5 => ?_)
  · exact absurd hs (Int32.not_lt.mpr c_5)
  · exact vx_throw0 hx hb hlt (own := RX1) (cls := eIS) (names := nmE) (ik := 74) (ic := 76) hown (by decide) (by decide) hw2 hw3 (xat (by decide +kernel) (fun w h => hts w (List.mem_cons_of_mem _ (List.mem_append_right _ h))) hxw.1.2.1 (xB_on _)) (by decide +kernel) hzz.1 hzz.2 va_S.rf (hl.1.trans hml.symm) dX1_refuseEmptyStack_8 dX1_refuseEmptyStack_11 dX1_refuseEmptyStack_12 dX1_refuseEmptyStack_15 (fun x h => (htab x h).elim) (Nat.le_of_ble_eq_true rfl) (Nat.le_of_ble_eq_true rfl) (Nat.le_of_ble_eq_true rfl) (Nat.le_of_ble_eq_true rfl) hlocks (tn_at) (fun z h => nomatch h) (Nat.le_of_ble_eq_true rfl) (Nat.le_of_ble_eq_true rfl)

abbrev rmX1_refuseUnsolved_t : Room := { frames := 6, cells := 1, slots := 6, locals := 81 }
set_option maxHeartbeats 4000000 in
set_option maxRecDepth 100000 in
theorem c_X1_refuseUnsolved_t (l : Launch) (hlt : l.stackTraces = false) (G : Gt) (bx bd bo bs bk sc : Nat) (st sk tk be so le an : Int32) (hs : so = 0) : vx_Met l yX1_refuseUnsolved wsX1_refuseUnsolved rmX1_refuseUnsolved_t (tn_P G [.ref bx] [(bx, .inr (1, [.ref bd, .ref bo, .ref bs, .int st, .ref bk, .int sk, .ref sc, .int tk, .int be, .int so, .int le, .int an]))]) tn_Qv (tn_X eNS) 1 6 (fun _ => False) := by
  refine vx_ofW (cc := cX1_refuseUnsolved) (maxL := 1) (ret := none) (by decide) rfl ?_
  intro p e s m args below meth c s₁ B hml htab hv
  obtain ⟨⟨rfl, hP, hK⟩, hxw, hzz⟩ := hv
  have hx := B.exec
  have hb := B.bytes
  have hr := B.returns
  have hts := atoms_spec (ws := wsX1_refuseUnsolved) B.pre
  have hown : s.vm.findClass RX1 = some m.cls := findClass_of_methodNamed B.named
  have hlocks := B.notSynchronized
  have hinX1 : ∀ w ∈ u_ws RX1 TX1 12, w ∈ wsX1_refuseUnsolved := fun w h => List.mem_cons_of_mem _ (List.mem_append_left _ (List.mem_append_right _ h))
  have hw1 := hts (.fieldLink RX1 44 "ChoiceBoard" "solved" "Z") (by decide +kernel)
  have hw2 := hts (.classLink RX1 99 "java/util/NoSuchElementException") (by decide +kernel)
  have hw3 := hts (.initialized "java/util/NoSuchElementException") (by decide +kernel)
  have hl := lv_entry ([.ref bx]) (n := 1) (Nat.le_of_ble_eq_true rfl)
  rw [lg_entry_eq]
  generalize (lg_sl ([.ref bx]) ++ List.replicate (1 - (lg_sl ([.ref bx])).length) Slot.unset).toArray = ls at hl ⊢
  have hl : lv_has ls 1 [(0, .ref bx)] := hl
  refine lv_aload_n hx hb dX1_refuseUnsolved_0 rfl (lv_at hl 0 rfl) ?_
  refine va_get (D := G.1) (ci := 1) (v := .int so) (C := RX1) (T := TX1) (N := 12) hx hb hts hinX1 hown hK.1 hP 0 rfl rfl 9 (by decide) hw1 (fun _ h9 => h9) rfl dX1_refuseUnsolved_1 ?_
  refine lv_if_ne (tgt := 15) hx hb dX1_refuseUnsolved_4 (by decide) (fun c_4 => ?_) (fun c_4 => ?_)
  · exact absurd hs c_4
  · exact vx_throw0 hx hb hlt (own := RX1) (cls := eNS) (names := nmE) (ik := 99) (ic := 101) hown (by decide) (by decide) hw2 hw3 (xat (by decide +kernel) (fun w h => hts w (List.mem_cons_of_mem _ (List.mem_append_right _ h))) hxw.1.2.2.1 (xB_on _)) (by decide +kernel) hzz.1 hzz.2 va_S.rf (hl.1.trans hml.symm) dX1_refuseUnsolved_7 dX1_refuseUnsolved_10 dX1_refuseUnsolved_11 dX1_refuseUnsolved_14 (fun x h => (htab x h).elim) (Nat.le_of_ble_eq_true rfl) (Nat.le_of_ble_eq_true rfl) (Nat.le_of_ble_eq_true rfl) (Nat.le_of_ble_eq_true rfl) hlocks (tn_at) (fun z h => nomatch h) (Nat.le_of_ble_eq_true rfl) (Nat.le_of_ble_eq_true rfl)

abbrev rmX1_refuseTooLargeScratch_t : Room := { frames := 6, cells := 1, slots := 6, locals := 81 }
set_option maxHeartbeats 4000000 in
set_option maxRecDepth 100000 in
theorem c_X1_refuseTooLargeScratch_t (l : Launch) (hlt : l.stackTraces = false) (G : Gt) (bx bd bo bs bk : Nat) (ca wa : Nat → Nat) (st sk tk be so le an : Int32) (fd fo : Nat → Int32) (ro : Nat → Nat → Int32) (dg gv : Nat → Int32) (hs : tlI (ro 36) (dg 36) = true) : vx_Met l yX1_refuseTooLargeScratch wsX1_refuseTooLargeScratch rmX1_refuseTooLargeScratch_t (tn_P G [.ref bx] ([(bx, .inr (1, [.ref bd, .ref bo, .ref bs, .int st, .ref bk, .int sk, .ref (ca 36), .int tk, .int be, .int so, .int le, .int an])), (bd, eI G 10 fd), (bo, eI G 10 fo), (bs, eR G 30 (fun k => some (ca k))), (bk, eR G 6 (fun k => some (ca (30 + k))))] ++ pool G ca wa ro dg gv)) tn_Qv (tn_X eAR) 1 6 (fun _ => False) := by
  refine vx_ofW (cc := cX1_refuseTooLargeScratch) (maxL := 1) (ret := none) (by decide) rfl ?_
  intro p e s m args below meth c s₁ B hml htab hv
  obtain ⟨⟨rfl, hP, hK⟩, hxw, hzz⟩ := hv
  have hx := B.exec
  have hb := B.bytes
  have hr := B.returns
  have hts := atoms_spec (ws := wsX1_refuseTooLargeScratch) B.pre
  have hown : s.vm.findClass RX1 = some m.cls := findClass_of_methodNamed B.named
  have hlocks := B.notSynchronized
  have hinX1 : ∀ w ∈ u_ws RX1 TX1 12, w ∈ wsX1_refuseTooLargeScratch := fun w h => List.mem_cons_of_mem _ (List.mem_append_left _ (List.mem_append_left _ (List.mem_append_right _ h)))
  have hw1 := hts (.fieldLink RX1 33 "ChoiceBoard" "scratch" "LChoiceBoard$Constraint;") (by decide +kernel)
  have hw2 := hts (.classLink RX1 187 "java/lang/ArithmeticException") (by decide +kernel)
  have hw3 := hts (.initialized "java/lang/ArithmeticException") (by decide +kernel)
  have hl := lv_entry ([.ref bx]) (n := 1) (Nat.le_of_ble_eq_true rfl)
  rw [lg_entry_eq]
  generalize (lg_sl ([.ref bx]) ++ List.replicate (1 - (lg_sl ([.ref bx])).length) Slot.unset).toArray = ls at hl ⊢
  have hl : lv_has ls 1 [(0, .ref bx)] := hl
  refine lv_aload_n hx hb dX1_refuseTooLargeScratch_0 rfl (lv_at hl 0 rfl) ?_
  refine va_get (D := G.1) (ci := 1) (v := .ref (ca 36)) (C := RX1) (T := TX1) (N := 12) hx hb hts hinX1 hown hK.1 hP 0 rfl rfl 6 (by decide) hw1 (fun _ h9 => h9) rfl dX1_refuseTooLargeScratch_1 ?_
  refine ro_call (va_runV (As := []) (rest := []) ⟨hx, hb, hml, hown, hts⟩ (c_X0_isTooLarge l G (ca 36) (wa 36) (dg 36) (gv 36) (ro 36)) (cwV 0 hts gX1_refuseTooLargeScratch_X0_isTooLarge rfl rfl rfl (by decide +kernel) ⟨Nat.le_of_ble_eq_true rfl, Nat.le_of_ble_eq_true rfl⟩) ⟨ro_blind, va_recv hK.1 hP (ci := 0) (q0 := 5 + 36) rfl (pool_c rfl (by omega)), ro_pre _ (lcP [5 + 36, 42 + 36] hP (lc (pool_c rfl (by omega)) (lc (pool_w rfl (by omega)) rfl))) hK⟩ rfl rfl hl.1 rfl (lv_room (Nat.le_of_ble_eq_true rfl)) dX1_refuseTooLargeScratch_4 ⟨Nat.le_of_ble_eq_true rfl, Nat.le_of_ble_eq_true rfl⟩) ?_
  refine lv_if_eq (tgt := 18) hx hb dX1_refuseTooLargeScratch_7 (by decide) (fun c_7 => ?_) (fun c_7 => ?_)
  · exact absurd c_7 (by rw [hs]; decide)
  · exact vx_throw0 hx hb hlt (own := RX1) (cls := eAR) (names := nmE) (ik := 187) (ic := 189) hown (by decide) (by decide) hw2 hw3 (xat (by decide +kernel) (fun w h => hts w (List.mem_cons_of_mem _ (List.mem_append_right _ h))) hxw.1.2.2.2 (xB_on _)) (by decide +kernel) hzz.1 hzz.2 va_S.rf (hl.1.trans hml.symm) dX1_refuseTooLargeScratch_10 dX1_refuseTooLargeScratch_13 dX1_refuseTooLargeScratch_14 dX1_refuseTooLargeScratch_17 (fun x h => (htab x h).elim) (Nat.le_of_ble_eq_true rfl) (Nat.le_of_ble_eq_true rfl) (Nat.le_of_ble_eq_true rfl) (Nat.le_of_ble_eq_true rfl) hlocks (tn_at) (fun z h => nomatch h) (Nat.le_of_ble_eq_true rfl) (Nat.le_of_ble_eq_true rfl)

abbrev rmX1_term_1 : Room := { frames := 6, cells := 1, slots := 6, locals := 81 }
set_option maxHeartbeats 4000000 in
set_option maxRecDepth 100000 in
theorem c_X1_term_1 (l : Launch) (hlt : l.stackTraces = false) (G : Gt) (bx bd bo bs bk : Nat) (ca wa : Nat → Nat) (st sk tk be so le an : Int32) (fd fo : Nat → Int32) (ro : Nat → Nat → Int32) (dg gv : Nat → Int32) (x y : Int32) (h : ¬ outI x 0 9 = 0 ∨ ¬ outI y (-99) 99 = 0) : vx_Met l yX1_term wsX1_term rmX1_term_1 (tn_P G [.ref bx, .int x, .int y] ([(bx, .inr (1, [.ref bd, .ref bo, .ref bs, .int st, .ref bk, .int sk, .ref (ca 36), .int tk, .int be, .int so, .int le, .int an])), (bd, eI G 10 fd), (bo, eI G 10 fo), (bs, eR G 30 (fun k => some (ca k))), (bk, eR G 6 (fun k => some (ca (30 + k))))] ++ pool G ca wa ro dg gv)) tn_Qv (tn_X eIA) 1 6 (fun _ => False) := by
  refine vx_ofW (cc := cX1_term) (maxL := 3) (ret := none) (by decide) rfl ?_
  intro p e s m args below meth c s₁ B hml htab hv
  obtain ⟨⟨rfl, hP, hK⟩, hxw, hzz⟩ := hv
  have hx := B.exec
  have hb := B.bytes
  have hr := B.returns
  have hts := atoms_spec (ws := wsX1_term) B.pre
  have hown : s.vm.findClass RX1 = some m.cls := findClass_of_methodNamed B.named
  have hlocks := B.notSynchronized
  have hw0 := hts (.classLink RX1 61 "java/lang/IllegalArgumentException") (by decide +kernel)
  have hw1 := hts (.initialized "java/lang/IllegalArgumentException") (by decide +kernel)
  have hl := lv_entry ([.ref bx, .int x, .int y]) (n := 3) (Nat.le_of_ble_eq_true rfl)
  rw [lg_entry_eq]
  generalize (lg_sl ([.ref bx, .int x, .int y]) ++ List.replicate (3 - (lg_sl ([.ref bx, .int x, .int y])).length) Slot.unset).toArray = ls at hl ⊢
  have hl : lv_has ls 3 [(0, .ref bx), (1, .int x), (2, .int y)] := hl
  refine lv_iload_n hx hb dX1_term_0 rfl (lv_at hl 1 rfl) ?_
  refine ro_call (va_runS (As := [.int x]) (rest := []) ⟨hx, hb, hml, hown, hts⟩ (c_X1_isVariable l G x) (va_cwS 1 hts gX1_term_X1_isVariable rfl rfl rfl (by decide +kernel) ⟨Nat.le_of_ble_eq_true rfl, Nat.le_of_ble_eq_true rfl⟩) ⟨ro_blind, ro_pre _ (hP.sub [] rfl) hK⟩ rfl rfl hl.1 rfl (lv_room (Nat.le_of_ble_eq_true rfl)) dX1_term_1 ⟨Nat.le_of_ble_eq_true rfl, Nat.le_of_ble_eq_true rfl⟩) ?_
  refine lv_if_eq (tgt := 18) hx hb dX1_term_4 (by decide) (fun c_4 => ?_) (fun c_4 => ?_)
  · exact vx_throw0 hx hb hlt (own := RX1) (cls := eIA) (names := nmE) (ik := 61) (ic := 63) hown (by decide) (by decide) hw0 hw1 (xat (by decide +kernel) (fun w h => hts w (List.mem_cons_of_mem _ (List.mem_append_right _ h))) hxw.1.1 (xB_on _)) (by decide +kernel) hzz.1 hzz.2 va_S.rf (hl.1.trans hml.symm) dX1_term_18 dX1_term_21 dX1_term_22 dX1_term_25 (fun x h => (htab x h).elim) (Nat.le_of_ble_eq_true rfl) (Nat.le_of_ble_eq_true rfl) (Nat.le_of_ble_eq_true rfl) (Nat.le_of_ble_eq_true rfl) hlocks (tn_at) (fun z h => nomatch h) (Nat.le_of_ble_eq_true rfl) (Nat.le_of_ble_eq_true rfl)
  · refine lv_iload_n hx hb dX1_term_7 rfl (lv_at hl 2 rfl) ?_
    refine lv_bipush (v := (-99)) hx hb dX1_term_8 (by decide) ?_
    refine lv_bipush (v := 99) hx hb dX1_term_10 (by decide) ?_
    refine ro_call (va_runS (As := [.int y, .int (-99), .int 99]) (rest := []) ⟨hx, hb, hml, hown, hts⟩ (c_X1_isWithin l G y (-99) 99) (va_cwS 3 hts gX1_term_X1_isWithin rfl rfl rfl (by decide +kernel) ⟨Nat.le_of_ble_eq_true rfl, Nat.le_of_ble_eq_true rfl⟩) ⟨ro_blind, ro_pre _ (hP.sub [] rfl) hK⟩ rfl rfl hl.1 rfl (lv_room (Nat.le_of_ble_eq_true rfl)) dX1_term_12 ⟨Nat.le_of_ble_eq_true rfl, Nat.le_of_ble_eq_true rfl⟩) ?_
    refine lv_if_ne (tgt := 26) hx hb dX1_term_15 (by decide) (fun c_15 => ?_) (fun c_15 => ?_)
    · exact absurd h (fun h => h.elim (fun q => c_4 (in_o1 q)) (fun q => c_15 (in_o1 q)))
    · exact vx_throw0 hx hb hlt (own := RX1) (cls := eIA) (names := nmE) (ik := 61) (ic := 63) hown (by decide) (by decide) hw0 hw1 (xat (by decide +kernel) (fun w h => hts w (List.mem_cons_of_mem _ (List.mem_append_right _ h))) hxw.1.1 (xB_on _)) (by decide +kernel) hzz.1 hzz.2 va_S.rf (hl.1.trans hml.symm) dX1_term_18 dX1_term_21 dX1_term_22 dX1_term_25 (fun x h => (htab x h).elim) (Nat.le_of_ble_eq_true rfl) (Nat.le_of_ble_eq_true rfl) (Nat.le_of_ble_eq_true rfl) (Nat.le_of_ble_eq_true rfl) hlocks (tn_at) (fun z h => nomatch h) (Nat.le_of_ble_eq_true rfl) (Nat.le_of_ble_eq_true rfl)

abbrev rmX1_require_1 : Room := { frames := 6, cells := 1, slots := 6, locals := 81 }
set_option maxHeartbeats 4000000 in
set_option maxRecDepth 100000 in
theorem c_X1_require_1 (l : Launch) (hlt : l.stackTraces = false) (G : Gt) (bx bd bo bs bk : Nat) (ca wa : Nat → Nat) (st sk tk be so le an : Int32) (fd fo : Nat → Int32) (ro : Nat → Nat → Int32) (dg gv : Nat → Int32) (x y : Int32) (h : ¬ outI x 0 1 = 0 ∨ ¬ outI y (-9999) 9999 = 0) : vx_Met l yX1_require wsX1_require rmX1_require_1 (tn_P G [.ref bx, .int x, .int y] ([(bx, .inr (1, [.ref bd, .ref bo, .ref bs, .int st, .ref bk, .int sk, .ref (ca 36), .int tk, .int be, .int so, .int le, .int an])), (bd, eI G 10 fd), (bo, eI G 10 fo), (bs, eR G 30 (fun k => some (ca k))), (bk, eR G 6 (fun k => some (ca (30 + k))))] ++ pool G ca wa ro dg gv)) tn_Qv (tn_X eIA) 1 6 (fun _ => False) := by
  refine vx_ofW (cc := cX1_require) (maxL := 3) (ret := (some .int)) (by decide) rfl ?_
  intro p e s m args below meth c s₁ B hml htab hv
  obtain ⟨⟨rfl, hP, hK⟩, hxw, hzz⟩ := hv
  have hx := B.exec
  have hb := B.bytes
  have hr := B.returns
  have hts := atoms_spec (ws := wsX1_require) B.pre
  have hown : s.vm.findClass RX1 = some m.cls := findClass_of_methodNamed B.named
  have hlocks := B.notSynchronized
  have hw0 := hts (.classLink RX1 61 "java/lang/IllegalArgumentException") (by decide +kernel)
  have hw1 := hts (.initialized "java/lang/IllegalArgumentException") (by decide +kernel)
  have hl := lv_entry ([.ref bx, .int x, .int y]) (n := 3) (Nat.le_of_ble_eq_true rfl)
  rw [lg_entry_eq]
  generalize (lg_sl ([.ref bx, .int x, .int y]) ++ List.replicate (3 - (lg_sl ([.ref bx, .int x, .int y])).length) Slot.unset).toArray = ls at hl ⊢
  have hl : lv_has ls 3 [(0, .ref bx), (1, .int x), (2, .int y)] := hl
  refine lv_iload_n hx hb dX1_require_0 rfl (lv_at hl 1 rfl) ?_
  refine lv_iconst (v := 0) hx hb dX1_require_1 (by decide) ?_
  refine lv_iconst (v := 1) hx hb dX1_require_2 (by decide) ?_
  refine ro_call (va_runS (As := [.int x, .int 0, .int 1]) (rest := []) ⟨hx, hb, hml, hown, hts⟩ (c_X1_isWithin l G x 0 1) (va_cwS 3 hts gX1_require_X1_isWithin rfl rfl rfl (by decide +kernel) ⟨Nat.le_of_ble_eq_true rfl, Nat.le_of_ble_eq_true rfl⟩) ⟨ro_blind, ro_pre _ (hP.sub [] rfl) hK⟩ rfl rfl hl.1 rfl (lv_room (Nat.le_of_ble_eq_true rfl)) dX1_require_3 ⟨Nat.le_of_ble_eq_true rfl, Nat.le_of_ble_eq_true rfl⟩) ?_
  refine lv_if_eq (tgt := 22) hx hb dX1_require_6 (by decide) (fun c_6 => ?_) (fun c_6 => ?_)
  · exact vx_throw0 hx hb hlt (own := RX1) (cls := eIA) (names := nmE) (ik := 61) (ic := 63) hown (by decide) (by decide) hw0 hw1 (xat (by decide +kernel) (fun w h => hts w (List.mem_cons_of_mem _ (List.mem_append_left _ (List.mem_append_right _ h)))) hxw.1.1 (xB_on _)) (by decide +kernel) hzz.1 hzz.2 va_S.rf (hl.1.trans hml.symm) dX1_require_22 dX1_require_25 dX1_require_26 dX1_require_29 (fun x h => (htab x h).elim) (Nat.le_of_ble_eq_true rfl) (Nat.le_of_ble_eq_true rfl) (Nat.le_of_ble_eq_true rfl) (Nat.le_of_ble_eq_true rfl) hlocks (tn_at) (fun z h => nomatch h) (Nat.le_of_ble_eq_true rfl) (Nat.le_of_ble_eq_true rfl)
  · refine lv_iload_n hx hb dX1_require_9 rfl (lv_at hl 2 rfl) ?_
    refine lv_sipush (v := (-9999)) hx hb dX1_require_10 (by decide) ?_
    refine lv_sipush (v := 9999) hx hb dX1_require_13 (by decide) ?_
    refine ro_call (va_runS (As := [.int y, .int (-9999), .int 9999]) (rest := []) ⟨hx, hb, hml, hown, hts⟩ (c_X1_isWithin l G y (-9999) 9999) (va_cwS 3 hts gX1_require_X1_isWithin rfl rfl rfl (by decide +kernel) ⟨Nat.le_of_ble_eq_true rfl, Nat.le_of_ble_eq_true rfl⟩) ⟨ro_blind, ro_pre _ (hP.sub [] rfl) hK⟩ rfl rfl hl.1 rfl (lv_room (Nat.le_of_ble_eq_true rfl)) dX1_require_16 ⟨Nat.le_of_ble_eq_true rfl, Nat.le_of_ble_eq_true rfl⟩) ?_
    refine lv_if_ne (tgt := 30) hx hb dX1_require_19 (by decide) (fun c_19 => ?_) (fun c_19 => ?_)
    · exact absurd h (fun h => h.elim (fun q => c_6 (in_o1 q)) (fun q => c_19 (in_o1 q)))
    · exact vx_throw0 hx hb hlt (own := RX1) (cls := eIA) (names := nmE) (ik := 61) (ic := 63) hown (by decide) (by decide) hw0 hw1 (xat (by decide +kernel) (fun w h => hts w (List.mem_cons_of_mem _ (List.mem_append_left _ (List.mem_append_right _ h)))) hxw.1.1 (xB_on _)) (by decide +kernel) hzz.1 hzz.2 va_S.rf (hl.1.trans hml.symm) dX1_require_22 dX1_require_25 dX1_require_26 dX1_require_29 (fun x h => (htab x h).elim) (Nat.le_of_ble_eq_true rfl) (Nat.le_of_ble_eq_true rfl) (Nat.le_of_ble_eq_true rfl) (Nat.le_of_ble_eq_true rfl) hlocks (tn_at) (fun z h => nomatch h) (Nat.le_of_ble_eq_true rfl) (Nat.le_of_ble_eq_true rfl)

abbrev rmX1_close_1 : Room := { frames := 6, cells := 1, slots := 6, locals := 81 }
set_option maxHeartbeats 4000000 in
set_option maxRecDepth 100000 in
theorem c_X1_close_1 (l : Launch) (hlt : l.stackTraces = false) (G : Gt) (bx bd bo bs bk : Nat) (ca wa : Nat → Nat) (st sk tk be so le an : Int32) (fd fo : Nat → Int32) (ro : Nat → Nat → Int32) (dg gv : Nat → Int32) (x y : Int32) (h : ¬ outI x 0 1023 = 0 ∨ ¬ outI y 0 1023 = 0) : vx_Met l yX1_close wsX1_close rmX1_close_1 (tn_P G [.ref bx, .int x, .int y] ([(bx, .inr (1, [.ref bd, .ref bo, .ref bs, .int st, .ref bk, .int sk, .ref (ca 36), .int tk, .int be, .int so, .int le, .int an])), (bd, eI G 10 fd), (bo, eI G 10 fo), (bs, eR G 30 (fun k => some (ca k))), (bk, eR G 6 (fun k => some (ca (30 + k))))] ++ pool G ca wa ro dg gv)) tn_Qv (tn_X eIA) 1 6 (fun _ => False) := by
  refine vx_ofW (cc := cX1_close) (maxL := 3) (ret := (some .int)) (by decide) rfl ?_
  intro p e s m args below meth c s₁ B hml htab hv
  obtain ⟨⟨rfl, hP, hK⟩, hxw, hzz⟩ := hv
  have hx := B.exec
  have hb := B.bytes
  have hr := B.returns
  have hts := atoms_spec (ws := wsX1_close) B.pre
  have hown : s.vm.findClass RX1 = some m.cls := findClass_of_methodNamed B.named
  have hlocks := B.notSynchronized
  have hw0 := hts (.classLink RX1 61 "java/lang/IllegalArgumentException") (by decide +kernel)
  have hw1 := hts (.initialized "java/lang/IllegalArgumentException") (by decide +kernel)
  have hl := lv_entry ([.ref bx, .int x, .int y]) (n := 3) (Nat.le_of_ble_eq_true rfl)
  rw [lg_entry_eq]
  generalize (lg_sl ([.ref bx, .int x, .int y]) ++ List.replicate (3 - (lg_sl ([.ref bx, .int x, .int y])).length) Slot.unset).toArray = ls at hl ⊢
  have hl : lv_has ls 3 [(0, .ref bx), (1, .int x), (2, .int y)] := hl
  refine lv_iload_n hx hb dX1_close_0 rfl (lv_at hl 1 rfl) ?_
  refine ro_call (va_runS (As := [.int x]) (rest := []) ⟨hx, hb, hml, hown, hts⟩ (c_X1_isChoice l G x) (va_cwS 1 hts gX1_close_X1_isChoice rfl rfl rfl (by decide +kernel) ⟨Nat.le_of_ble_eq_true rfl, Nat.le_of_ble_eq_true rfl⟩) ⟨ro_blind, ro_pre _ (hP.sub [] rfl) hK⟩ rfl rfl hl.1 rfl (lv_room (Nat.le_of_ble_eq_true rfl)) dX1_close_1 ⟨Nat.le_of_ble_eq_true rfl, Nat.le_of_ble_eq_true rfl⟩) ?_
  refine lv_if_eq (tgt := 14) hx hb dX1_close_4 (by decide) (fun c_4 => ?_) (fun c_4 => ?_)
  · exact vx_throw0 hx hb hlt (own := RX1) (cls := eIA) (names := nmE) (ik := 61) (ic := 63) hown (by decide) (by decide) hw0 hw1 (xat (by decide +kernel) (fun w h => hts w (List.mem_cons_of_mem _ (List.mem_append_right _ h))) hxw.1.1 (xB_on _)) (by decide +kernel) hzz.1 hzz.2 va_S.rf (hl.1.trans hml.symm) dX1_close_14 dX1_close_17 dX1_close_18 dX1_close_21 (fun x h => (htab x h).elim) (Nat.le_of_ble_eq_true rfl) (Nat.le_of_ble_eq_true rfl) (Nat.le_of_ble_eq_true rfl) (Nat.le_of_ble_eq_true rfl) hlocks (tn_at) (fun z h => nomatch h) (Nat.le_of_ble_eq_true rfl) (Nat.le_of_ble_eq_true rfl)
  · refine lv_iload_n hx hb dX1_close_7 rfl (lv_at hl 2 rfl) ?_
    refine ro_call (va_runS (As := [.int y]) (rest := []) ⟨hx, hb, hml, hown, hts⟩ (c_X1_isChoice l G y) (va_cwS 1 hts gX1_close_X1_isChoice rfl rfl rfl (by decide +kernel) ⟨Nat.le_of_ble_eq_true rfl, Nat.le_of_ble_eq_true rfl⟩) ⟨ro_blind, ro_pre _ (hP.sub [] rfl) hK⟩ rfl rfl hl.1 rfl (lv_room (Nat.le_of_ble_eq_true rfl)) dX1_close_8 ⟨Nat.le_of_ble_eq_true rfl, Nat.le_of_ble_eq_true rfl⟩) ?_
    refine lv_if_ne (tgt := 22) hx hb dX1_close_11 (by decide) (fun c_11 => ?_) (fun c_11 => ?_)
    · exact absurd h (fun h => h.elim (fun q => c_4 (in_o1 q)) (fun q => c_11 (in_o1 q)))
    · exact vx_throw0 hx hb hlt (own := RX1) (cls := eIA) (names := nmE) (ik := 61) (ic := 63) hown (by decide) (by decide) hw0 hw1 (xat (by decide +kernel) (fun w h => hts w (List.mem_cons_of_mem _ (List.mem_append_right _ h))) hxw.1.1 (xB_on _)) (by decide +kernel) hzz.1 hzz.2 va_S.rf (hl.1.trans hml.symm) dX1_close_14 dX1_close_17 dX1_close_18 dX1_close_21 (fun x h => (htab x h).elim) (Nat.le_of_ble_eq_true rfl) (Nat.le_of_ble_eq_true rfl) (Nat.le_of_ble_eq_true rfl) (Nat.le_of_ble_eq_true rfl) hlocks (tn_at) (fun z h => nomatch h) (Nat.le_of_ble_eq_true rfl) (Nat.le_of_ble_eq_true rfl)

abbrev rmX1_require_2 : Room := { frames := 6, cells := 1, slots := 6, locals := 81 }
set_option maxHeartbeats 4000000 in
set_option maxRecDepth 100000 in
theorem c_X1_require_2 (l : Launch) (hlt : l.stackTraces = false) (G : Gt) (bx bd bo bs bk : Nat) (ca wa : Nat → Nat) (st sk tk be so le an : Int32) (fd fo : Nat → Int32) (ro : Nat → Nat → Int32) (dg gv : Nat → Int32) (x y : Int32) (h1 : outI x 0 1 = 0) (h2 : outI y (-9999) 9999 = 0) (h : st = 30 ∨ ¬ tk = 0) : vx_Met l yX1_require wsX1_require rmX1_require_2 (tn_P G [.ref bx, .int x, .int y] ([(bx, .inr (1, [.ref bd, .ref bo, .ref bs, .int st, .ref bk, .int sk, .ref (ca 36), .int tk, .int be, .int so, .int le, .int an])), (bd, eI G 10 fd), (bo, eI G 10 fo), (bs, eR G 30 (fun k => some (ca k))), (bk, eR G 6 (fun k => some (ca (30 + k))))] ++ pool G ca wa ro dg gv)) tn_Qv (tn_X eIS) 1 6 (fun _ => False) := by
  refine vx_ofW (cc := cX1_require) (maxL := 3) (ret := (some .int)) (by decide) rfl ?_
  intro p e s m args below meth c s₁ B hml htab hv
  obtain ⟨⟨rfl, hP, hK⟩, hxw, hzz⟩ := hv
  have hx := B.exec
  have hb := B.bytes
  have hr := B.returns
  have hts := atoms_spec (ws := wsX1_require) B.pre
  have hown : s.vm.findClass RX1 = some m.cls := findClass_of_methodNamed B.named
  have hlocks := B.notSynchronized
  have hinX1 : ∀ w ∈ u_ws RX1 TX1 12, w ∈ wsX1_require := fun w h => List.mem_cons_of_mem _ (List.mem_append_left _ (List.mem_append_left _ (List.mem_append_left _ (List.mem_append_right _ h))))
  have hw0 := hts (.classLink RX1 74 "java/lang/IllegalStateException") (by decide +kernel)
  have hw1 := hts (.initialized "java/lang/IllegalStateException") (by decide +kernel)
  have hw3 := hts (.fieldLink RX1 37 "ChoiceBoard" "taken" "Z") (by decide +kernel)
  have hl := lv_entry ([.ref bx, .int x, .int y]) (n := 3) (Nat.le_of_ble_eq_true rfl)
  rw [lg_entry_eq]
  generalize (lg_sl ([.ref bx, .int x, .int y]) ++ List.replicate (3 - (lg_sl ([.ref bx, .int x, .int y])).length) Slot.unset).toArray = ls at hl ⊢
  have hl : lv_has ls 3 [(0, .ref bx), (1, .int x), (2, .int y)] := hl
  refine lv_iload_n hx hb dX1_require_0 rfl (lv_at hl 1 rfl) ?_
  refine lv_iconst (v := 0) hx hb dX1_require_1 (by decide) ?_
  refine lv_iconst (v := 1) hx hb dX1_require_2 (by decide) ?_
  refine ro_call (va_runS (As := [.int x, .int 0, .int 1]) (rest := []) ⟨hx, hb, hml, hown, hts⟩ (c_X1_isWithin l G x 0 1) (va_cwS 3 hts gX1_require_X1_isWithin rfl rfl rfl (by decide +kernel) ⟨Nat.le_of_ble_eq_true rfl, Nat.le_of_ble_eq_true rfl⟩) ⟨ro_blind, ro_pre _ (hP.sub [] rfl) hK⟩ rfl rfl hl.1 rfl (lv_room (Nat.le_of_ble_eq_true rfl)) dX1_require_3 ⟨Nat.le_of_ble_eq_true rfl, Nat.le_of_ble_eq_true rfl⟩) ?_
  refine lv_if_eq (tgt := 22) hx hb dX1_require_6 (by decide) (fun c_6 => ?_) (fun c_6 => ?_)
  · exact absurd c_6 (in_o0 h1)
  · refine lv_iload_n hx hb dX1_require_9 rfl (lv_at hl 2 rfl) ?_
    refine lv_sipush (v := (-9999)) hx hb dX1_require_10 (by decide) ?_
    refine lv_sipush (v := 9999) hx hb dX1_require_13 (by decide) ?_
    refine ro_call (va_runS (As := [.int y, .int (-9999), .int 9999]) (rest := []) ⟨hx, hb, hml, hown, hts⟩ (c_X1_isWithin l G y (-9999) 9999) (va_cwS 3 hts gX1_require_X1_isWithin rfl rfl rfl (by decide +kernel) ⟨Nat.le_of_ble_eq_true rfl, Nat.le_of_ble_eq_true rfl⟩) ⟨ro_blind, ro_pre _ (hP.sub [] rfl) hK⟩ rfl rfl hl.1 rfl (lv_room (Nat.le_of_ble_eq_true rfl)) dX1_require_16 ⟨Nat.le_of_ble_eq_true rfl, Nat.le_of_ble_eq_true rfl⟩) ?_
    refine lv_if_ne (tgt := 30) hx hb dX1_require_19 (by decide) (fun c_19 => ?_) (fun c_19 => ?_)
    · refine lv_aload_n hx hb dX1_require_30 rfl (lv_at hl 0 rfl) ?_
      refine ro_call (va_runV (As := []) (rest := []) ⟨hx, hb, hml, hown, hts⟩ (c_X1_isStoreFull l G bx bd bo bs bk (ca 36) st sk tk be so le an) (cwV 0 hts gX1_require_X1_isStoreFull rfl rfl rfl (by decide +kernel) ⟨Nat.le_of_ble_eq_true rfl, Nat.le_of_ble_eq_true rfl⟩) ⟨ro_blind, va_recv hK.1 hP (ci := 1) (q0 := 0) rfl rfl, ro_pre _ (hP.sub [0] rfl) hK⟩ rfl rfl hl.1 rfl (lv_room (Nat.le_of_ble_eq_true rfl)) dX1_require_31 ⟨Nat.le_of_ble_eq_true rfl, Nat.le_of_ble_eq_true rfl⟩) ?_
      refine lv_if_ne (tgt := 44) hx hb dX1_require_34 (by decide) (fun c_34 => ?_) (fun c_34 => ?_)
      · exact vx_throw0 hx hb hlt (own := RX1) (cls := eIS) (names := nmE) (ik := 74) (ic := 76) hown (by decide) (by decide) hw0 hw1 (xat (by decide +kernel) (fun w h => hts w (List.mem_cons_of_mem _ (List.mem_append_right _ h))) hxw.1.2.1 (xB_on _)) (by decide +kernel) hzz.1 hzz.2 va_S.rf (hl.1.trans hml.symm) dX1_require_44 dX1_require_47 dX1_require_48 dX1_require_51 (fun x h => (htab x h).elim) (Nat.le_of_ble_eq_true rfl) (Nat.le_of_ble_eq_true rfl) (Nat.le_of_ble_eq_true rfl) (Nat.le_of_ble_eq_true rfl) hlocks (tn_at) (fun z h => nomatch h) (Nat.le_of_ble_eq_true rfl) (Nat.le_of_ble_eq_true rfl)
      · refine lv_aload_n hx hb dX1_require_37 rfl (lv_at hl 0 rfl) ?_
        refine va_get (D := G.1) (ci := 1) (v := .int tk) (C := RX1) (T := TX1) (N := 12) hx hb hts hinX1 hown hK.1 hP 0 rfl rfl 7 (by decide) hw3 (fun _ h9 => h9) rfl dX1_require_38 ?_
        refine lv_if_eq (tgt := 52) hx hb dX1_require_41 (by decide) (fun c_41 => ?_) (fun c_41 => ?_)
        · exact absurd h (fun h => h.elim (fun q => absurd c_34 (by rw [q]; decide)) (fun q => q c_41))
        · exact vx_throw0 hx hb hlt (own := RX1) (cls := eIS) (names := nmE) (ik := 74) (ic := 76) hown (by decide) (by decide) hw0 hw1 (xat (by decide +kernel) (fun w h => hts w (List.mem_cons_of_mem _ (List.mem_append_right _ h))) hxw.1.2.1 (xB_on _)) (by decide +kernel) hzz.1 hzz.2 va_S.rf (hl.1.trans hml.symm) dX1_require_44 dX1_require_47 dX1_require_48 dX1_require_51 (fun x h => (htab x h).elim) (Nat.le_of_ble_eq_true rfl) (Nat.le_of_ble_eq_true rfl) (Nat.le_of_ble_eq_true rfl) (Nat.le_of_ble_eq_true rfl) hlocks (tn_at) (fun z h => nomatch h) (Nat.le_of_ble_eq_true rfl) (Nat.le_of_ble_eq_true rfl)
    · exact absurd c_19 (in_o0 h2)

abbrev rmX1_objective_1 : Room := { frames := 6, cells := 1, slots := 6, locals := 81 }
set_option maxHeartbeats 4000000 in
set_option maxRecDepth 100000 in
theorem c_X1_objective_1 (l : Launch) (hlt : l.stackTraces = false) (G : Gt) (bx bd bo bs bk : Nat) (ca wa : Nat → Nat) (st sk tk be so le an : Int32) (fd fo : Nat → Int32) (ro : Nat → Nat → Int32) (dg gv : Nat → Int32) (h : ¬ tk = 0) : vx_Met l yX1_objective wsX1_objective rmX1_objective_1 (tn_P G [.ref bx] ([(bx, .inr (1, [.ref bd, .ref bo, .ref bs, .int st, .ref bk, .int sk, .ref (ca 36), .int tk, .int be, .int so, .int le, .int an])), (bd, eI G 10 fd), (bo, eI G 10 fo), (bs, eR G 30 (fun k => some (ca k))), (bk, eR G 6 (fun k => some (ca (30 + k))))] ++ pool G ca wa ro dg gv)) tn_Qv (tn_X eIS) 1 6 (fun _ => False) := by
  refine vx_ofW (cc := cX1_objective) (maxL := 1) (ret := none) (by decide) rfl ?_
  intro p e s m args below meth c s₁ B hml htab hv
  obtain ⟨⟨rfl, hP, hK⟩, hxw, hzz⟩ := hv
  have hx := B.exec
  have hb := B.bytes
  have hr := B.returns
  have hts := atoms_spec (ws := wsX1_objective) B.pre
  have hown : s.vm.findClass RX1 = some m.cls := findClass_of_methodNamed B.named
  have hlocks := B.notSynchronized
  have hinX1 : ∀ w ∈ u_ws RX1 TX1 12, w ∈ wsX1_objective := fun w h => List.mem_cons_of_mem _ (List.mem_append_left _ (List.mem_append_right _ h))
  have hw1 := hts (.fieldLink RX1 37 "ChoiceBoard" "taken" "Z") (by decide +kernel)
  have hw2 := hts (.classLink RX1 74 "java/lang/IllegalStateException") (by decide +kernel)
  have hw3 := hts (.initialized "java/lang/IllegalStateException") (by decide +kernel)
  have hl := lv_entry ([.ref bx]) (n := 1) (Nat.le_of_ble_eq_true rfl)
  rw [lg_entry_eq]
  generalize (lg_sl ([.ref bx]) ++ List.replicate (1 - (lg_sl ([.ref bx])).length) Slot.unset).toArray = ls at hl ⊢
  have hl : lv_has ls 1 [(0, .ref bx)] := hl
  refine lv_aload_n hx hb dX1_objective_0 rfl (lv_at hl 0 rfl) ?_
  refine va_get (D := G.1) (ci := 1) (v := .int tk) (C := RX1) (T := TX1) (N := 12) hx hb hts hinX1 hown hK.1 hP 0 rfl rfl 7 (by decide) hw1 (fun _ h9 => h9) rfl dX1_objective_1 ?_
  refine lv_if_eq (tgt := 15) hx hb dX1_objective_4 (by decide) (fun c_4 => ?_) (fun c_4 => ?_)
  · exact absurd c_4 h
  · exact vx_throw0 hx hb hlt (own := RX1) (cls := eIS) (names := nmE) (ik := 74) (ic := 76) hown (by decide) (by decide) hw2 hw3 (xat (by decide +kernel) (fun w h => hts w (List.mem_cons_of_mem _ (List.mem_append_right _ h))) hxw.1.2.1 (xB_on _)) (by decide +kernel) hzz.1 hzz.2 va_S.rf (hl.1.trans hml.symm) dX1_objective_7 dX1_objective_10 dX1_objective_11 dX1_objective_14 (fun x h => (htab x h).elim) (Nat.le_of_ble_eq_true rfl) (Nat.le_of_ble_eq_true rfl) (Nat.le_of_ble_eq_true rfl) (Nat.le_of_ble_eq_true rfl) hlocks (tn_at) (fun z h => nomatch h) (Nat.le_of_ble_eq_true rfl) (Nat.le_of_ble_eq_true rfl)

abbrev rmX1_constraint_1 : Room := { frames := 6, cells := 1, slots := 6, locals := 81 }
set_option maxHeartbeats 4000000 in
set_option maxRecDepth 100000 in
theorem c_X1_constraint_1 (l : Launch) (hlt : l.stackTraces = false) (G : Gt) (bx bd bo bs bk : Nat) (ca wa : Nat → Nat) (st sk tk be so le an : Int32) (fd fo : Nat → Int32) (ro : Nat → Nat → Int32) (dg gv : Nat → Int32) (x y : Int32) (h : ¬ outI x 0 (st - 1) = 0) : vx_Met l yX1_constraint wsX1_constraint rmX1_constraint_1 (tn_P G [.ref bx, .int x, .int y] ([(bx, .inr (1, [.ref bd, .ref bo, .ref bs, .int st, .ref bk, .int sk, .ref (ca 36), .int tk, .int be, .int so, .int le, .int an])), (bd, eI G 10 fd), (bo, eI G 10 fo), (bs, eR G 30 (fun k => some (ca k))), (bk, eR G 6 (fun k => some (ca (30 + k))))] ++ pool G ca wa ro dg gv)) tn_Qv (tn_X eNS) 1 6 (fun _ => False) := by
  refine vx_ofW (cc := cX1_constraint) (maxL := 3) (ret := (some .int)) (by decide) rfl ?_
  intro p e s m args below meth c s₁ B hml htab hv
  obtain ⟨⟨rfl, hP, hK⟩, hxw, hzz⟩ := hv
  have hx := B.exec
  have hb := B.bytes
  have hr := B.returns
  have hts := atoms_spec (ws := wsX1_constraint) B.pre
  have hown : s.vm.findClass RX1 = some m.cls := findClass_of_methodNamed B.named
  have hlocks := B.notSynchronized
  have hw0 := hts (.classLink RX1 99 "java/util/NoSuchElementException") (by decide +kernel)
  have hw1 := hts (.initialized "java/util/NoSuchElementException") (by decide +kernel)
  have hl := lv_entry ([.ref bx, .int x, .int y]) (n := 3) (Nat.le_of_ble_eq_true rfl)
  rw [lg_entry_eq]
  generalize (lg_sl ([.ref bx, .int x, .int y]) ++ List.replicate (3 - (lg_sl ([.ref bx, .int x, .int y])).length) Slot.unset).toArray = ls at hl ⊢
  have hl : lv_has ls 3 [(0, .ref bx), (1, .int x), (2, .int y)] := hl
  refine lv_aload_n hx hb dX1_constraint_0 rfl (lv_at hl 0 rfl) ?_
  refine lv_iload_n hx hb dX1_constraint_1 rfl (lv_at hl 1 rfl) ?_
  refine ro_call (va_runV (As := [.int x]) (rest := []) ⟨hx, hb, hml, hown, hts⟩ (c_X1_isStored l G bx bd bo bs bk (ca 36) st sk tk be so le an x) (cwV 1 hts gX1_constraint_X1_isStored rfl rfl rfl (by decide +kernel) ⟨Nat.le_of_ble_eq_true rfl, Nat.le_of_ble_eq_true rfl⟩) ⟨ro_blind, va_recv hK.1 hP (ci := 1) (q0 := 0) rfl rfl, ro_pre _ (hP.sub [0] rfl) hK⟩ rfl rfl hl.1 rfl (lv_room (Nat.le_of_ble_eq_true rfl)) dX1_constraint_2 ⟨Nat.le_of_ble_eq_true rfl, Nat.le_of_ble_eq_true rfl⟩) ?_
  refine lv_if_ne (tgt := 16) hx hb dX1_constraint_5 (by decide) (fun c_5 => ?_) (fun c_5 => ?_)
  · exact absurd (in_o1 h) c_5
  · exact vx_throw0 hx hb hlt (own := RX1) (cls := eNS) (names := nmE) (ik := 99) (ic := 101) hown (by decide) (by decide) hw0 hw1 (xat (by decide +kernel) (fun w h => hts w (List.mem_cons_of_mem _ (List.mem_append_left _ (List.mem_append_right _ h)))) hxw.1.2.2.1 (xB_on _)) (by decide +kernel) hzz.1 hzz.2 va_S.rf (hl.1.trans hml.symm) dX1_constraint_8 dX1_constraint_11 dX1_constraint_12 dX1_constraint_15 (fun x h => (htab x h).elim) (Nat.le_of_ble_eq_true rfl) (Nat.le_of_ble_eq_true rfl) (Nat.le_of_ble_eq_true rfl) (Nat.le_of_ble_eq_true rfl) hlocks (tn_at) (fun z h => nomatch h) (Nat.le_of_ble_eq_true rfl) (Nat.le_of_ble_eq_true rfl)

abbrev rmX1_constraint_2 : Room := { frames := 6, cells := 1, slots := 6, locals := 81 }
set_option maxHeartbeats 4000000 in
set_option maxRecDepth 100000 in
theorem c_X1_constraint_2 (l : Launch) (hlt : l.stackTraces = false) (G : Gt) (bx bd bo bs bk : Nat) (ca wa : Nat → Nat) (st sk tk be so le an : Int32) (fd fo : Nat → Int32) (ro : Nat → Nat → Int32) (dg gv : Nat → Int32) (x y : Int32) (h1 : outI x 0 (st - 1) = 0) (h : ¬ outI y (-2) 9 = 0) : vx_Met l yX1_constraint wsX1_constraint rmX1_constraint_2 (tn_P G [.ref bx, .int x, .int y] ([(bx, .inr (1, [.ref bd, .ref bo, .ref bs, .int st, .ref bk, .int sk, .ref (ca 36), .int tk, .int be, .int so, .int le, .int an])), (bd, eI G 10 fd), (bo, eI G 10 fo), (bs, eR G 30 (fun k => some (ca k))), (bk, eR G 6 (fun k => some (ca (30 + k))))] ++ pool G ca wa ro dg gv)) tn_Qv (tn_X eIA) 1 6 (fun _ => False) := by
  refine vx_ofW (cc := cX1_constraint) (maxL := 3) (ret := (some .int)) (by decide) rfl ?_
  intro p e s m args below meth c s₁ B hml htab hv
  obtain ⟨⟨rfl, hP, hK⟩, hxw, hzz⟩ := hv
  have hx := B.exec
  have hb := B.bytes
  have hr := B.returns
  have hts := atoms_spec (ws := wsX1_constraint) B.pre
  have hown : s.vm.findClass RX1 = some m.cls := findClass_of_methodNamed B.named
  have hlocks := B.notSynchronized
  have hw0 := hts (.classLink RX1 61 "java/lang/IllegalArgumentException") (by decide +kernel)
  have hw1 := hts (.initialized "java/lang/IllegalArgumentException") (by decide +kernel)
  have hl := lv_entry ([.ref bx, .int x, .int y]) (n := 3) (Nat.le_of_ble_eq_true rfl)
  rw [lg_entry_eq]
  generalize (lg_sl ([.ref bx, .int x, .int y]) ++ List.replicate (3 - (lg_sl ([.ref bx, .int x, .int y])).length) Slot.unset).toArray = ls at hl ⊢
  have hl : lv_has ls 3 [(0, .ref bx), (1, .int x), (2, .int y)] := hl
  refine lv_aload_n hx hb dX1_constraint_0 rfl (lv_at hl 0 rfl) ?_
  refine lv_iload_n hx hb dX1_constraint_1 rfl (lv_at hl 1 rfl) ?_
  refine ro_call (va_runV (As := [.int x]) (rest := []) ⟨hx, hb, hml, hown, hts⟩ (c_X1_isStored l G bx bd bo bs bk (ca 36) st sk tk be so le an x) (cwV 1 hts gX1_constraint_X1_isStored rfl rfl rfl (by decide +kernel) ⟨Nat.le_of_ble_eq_true rfl, Nat.le_of_ble_eq_true rfl⟩) ⟨ro_blind, va_recv hK.1 hP (ci := 1) (q0 := 0) rfl rfl, ro_pre _ (hP.sub [0] rfl) hK⟩ rfl rfl hl.1 rfl (lv_room (Nat.le_of_ble_eq_true rfl)) dX1_constraint_2 ⟨Nat.le_of_ble_eq_true rfl, Nat.le_of_ble_eq_true rfl⟩) ?_
  refine lv_if_ne (tgt := 16) hx hb dX1_constraint_5 (by decide) (fun c_5 => ?_) (fun c_5 => ?_)
  · refine lv_iload_n hx hb dX1_constraint_16 rfl (lv_at hl 2 rfl) ?_
    refine ro_call (va_runS (As := [.int y]) (rest := []) ⟨hx, hb, hml, hown, hts⟩ (c_X1_isQuestion l G y) (va_cwS 1 hts gX1_constraint_X1_isQuestion rfl rfl rfl (by decide +kernel) ⟨Nat.le_of_ble_eq_true rfl, Nat.le_of_ble_eq_true rfl⟩) ⟨ro_blind, ro_pre _ (hP.sub [] rfl) hK⟩ rfl rfl hl.1 rfl (lv_room (Nat.le_of_ble_eq_true rfl)) dX1_constraint_17 ⟨Nat.le_of_ble_eq_true rfl, Nat.le_of_ble_eq_true rfl⟩) ?_
    refine lv_if_ne (tgt := 31) hx hb dX1_constraint_20 (by decide) (fun c_20 => ?_) (fun c_20 => ?_)
    · exact absurd (in_o1 h) c_20
    · exact vx_throw0 hx hb hlt (own := RX1) (cls := eIA) (names := nmE) (ik := 61) (ic := 63) hown (by decide) (by decide) hw0 hw1 (xat (by decide +kernel) (fun w h => hts w (List.mem_cons_of_mem _ (List.mem_append_right _ h))) hxw.1.1 (xB_on _)) (by decide +kernel) hzz.1 hzz.2 va_S.rf (hl.1.trans hml.symm) dX1_constraint_23 dX1_constraint_26 dX1_constraint_27 dX1_constraint_30 (fun x h => (htab x h).elim) (Nat.le_of_ble_eq_true rfl) (Nat.le_of_ble_eq_true rfl) (Nat.le_of_ble_eq_true rfl) (Nat.le_of_ble_eq_true rfl) hlocks (tn_at) (fun z h => nomatch h) (Nat.le_of_ble_eq_true rfl) (Nat.le_of_ble_eq_true rfl)
  · exact absurd c_5 (in_o0 h1)

abbrev rmX1_load_1 : Room := { frames := 6, cells := 1, slots := 6, locals := 81 }
set_option maxHeartbeats 4000000 in
set_option maxRecDepth 100000 in
theorem c_X1_load_1 (l : Launch) (hlt : l.stackTraces = false) (G : Gt) (bx bd bo bs bk : Nat) (ca wa : Nat → Nat) (st sk tk be so le an : Int32) (fd fo : Nat → Int32) (ro : Nat → Nat → Int32) (dg gv : Nat → Int32) (x : Int32) (h : ¬ outI x 0 (st - 1) = 0) : vx_Met l yX1_load wsX1_load rmX1_load_1 (tn_P G [.ref bx, .int x] ([(bx, .inr (1, [.ref bd, .ref bo, .ref bs, .int st, .ref bk, .int sk, .ref (ca 36), .int tk, .int be, .int so, .int le, .int an])), (bd, eI G 10 fd), (bo, eI G 10 fo), (bs, eR G 30 (fun k => some (ca k))), (bk, eR G 6 (fun k => some (ca (30 + k))))] ++ pool G ca wa ro dg gv)) tn_Qv (tn_X eNS) 1 6 (fun _ => False) := by
  refine vx_ofW (cc := cX1_load) (maxL := 2) (ret := none) (by decide) rfl ?_
  intro p e s m args below meth c s₁ B hml htab hv
  obtain ⟨⟨rfl, hP, hK⟩, hxw, hzz⟩ := hv
  have hx := B.exec
  have hb := B.bytes
  have hr := B.returns
  have hts := atoms_spec (ws := wsX1_load) B.pre
  have hown : s.vm.findClass RX1 = some m.cls := findClass_of_methodNamed B.named
  have hlocks := B.notSynchronized
  have hw0 := hts (.classLink RX1 99 "java/util/NoSuchElementException") (by decide +kernel)
  have hw1 := hts (.initialized "java/util/NoSuchElementException") (by decide +kernel)
  have hl := lv_entry ([.ref bx, .int x]) (n := 2) (Nat.le_of_ble_eq_true rfl)
  rw [lg_entry_eq]
  generalize (lg_sl ([.ref bx, .int x]) ++ List.replicate (2 - (lg_sl ([.ref bx, .int x])).length) Slot.unset).toArray = ls at hl ⊢
  have hl : lv_has ls 2 [(0, .ref bx), (1, .int x)] := hl
  refine lv_aload_n hx hb dX1_load_0 rfl (lv_at hl 0 rfl) ?_
  refine lv_iload_n hx hb dX1_load_1 rfl (lv_at hl 1 rfl) ?_
  refine ro_call (va_runV (As := [.int x]) (rest := []) ⟨hx, hb, hml, hown, hts⟩ (c_X1_isStored l G bx bd bo bs bk (ca 36) st sk tk be so le an x) (cwV 1 hts gX1_load_X1_isStored rfl rfl rfl (by decide +kernel) ⟨Nat.le_of_ble_eq_true rfl, Nat.le_of_ble_eq_true rfl⟩) ⟨ro_blind, va_recv hK.1 hP (ci := 1) (q0 := 0) rfl rfl, ro_pre _ (hP.sub [0] rfl) hK⟩ rfl rfl hl.1 rfl (lv_room (Nat.le_of_ble_eq_true rfl)) dX1_load_2 ⟨Nat.le_of_ble_eq_true rfl, Nat.le_of_ble_eq_true rfl⟩) ?_
  refine lv_if_ne (tgt := 16) hx hb dX1_load_5 (by decide) (fun c_5 => ?_) (fun c_5 => ?_)
  · exact absurd (in_o1 h) c_5
  · exact vx_throw0 hx hb hlt (own := RX1) (cls := eNS) (names := nmE) (ik := 99) (ic := 101) hown (by decide) (by decide) hw0 hw1 (xat (by decide +kernel) (fun w h => hts w (List.mem_cons_of_mem _ (List.mem_append_left _ (List.mem_append_right _ h)))) hxw.1.2.2.1 (xB_on _)) (by decide +kernel) hzz.1 hzz.2 va_S.rf (hl.1.trans hml.symm) dX1_load_8 dX1_load_11 dX1_load_12 dX1_load_15 (fun x h => (htab x h).elim) (Nat.le_of_ble_eq_true rfl) (Nat.le_of_ble_eq_true rfl) (Nat.le_of_ble_eq_true rfl) (Nat.le_of_ble_eq_true rfl) hlocks (tn_at) (fun z h => nomatch h) (Nat.le_of_ble_eq_true rfl) (Nat.le_of_ble_eq_true rfl)

abbrev rmX1_load_2 : Room := { frames := 7, cells := 1, slots := 6, locals := 101 }
set_option maxHeartbeats 4000000 in
set_option maxRecDepth 100000 in
theorem c_X1_load_2 (l : Launch) (hlt : l.stackTraces = false) (G : Gt) (bx bd bo bs bk : Nat) (ca wa : Nat → Nat) (st sk tk be so le an : Int32) (fd fo : Nat → Int32) (ro : Nat → Nat → Int32) (dg gv : Nat → Int32) (x : Int32) (h1 : outI x 0 (st - 1) = 0) (h : sk = 6) : vx_Met l yX1_load wsX1_load rmX1_load_2 (tn_P G [.ref bx, .int x] ([(bx, .inr (1, [.ref bd, .ref bo, .ref bs, .int st, .ref bk, .int sk, .ref (ca 36), .int tk, .int be, .int so, .int le, .int an])), (bd, eI G 10 fd), (bo, eI G 10 fo), (bs, eR G 30 (fun k => some (ca k))), (bk, eR G 6 (fun k => some (ca (30 + k))))] ++ pool G ca wa ro dg gv)) tn_Qv (tn_X eIS) 1 6 (fun _ => False) := by
  refine vx_ofW (cc := cX1_load) (maxL := 2) (ret := none) (by decide) rfl ?_
  intro p e s m args below meth c s₁ B hml htab hv
  obtain ⟨⟨rfl, hP, hK⟩, hxw, hzz⟩ := hv
  have hx := B.exec
  have hb := B.bytes
  have hr := B.returns
  have hts := atoms_spec (ws := wsX1_load) B.pre
  have hown : s.vm.findClass RX1 = some m.cls := findClass_of_methodNamed B.named
  have hlocks := B.notSynchronized
  have hl := lv_entry ([.ref bx, .int x]) (n := 2) (Nat.le_of_ble_eq_true rfl)
  rw [lg_entry_eq]
  generalize (lg_sl ([.ref bx, .int x]) ++ List.replicate (2 - (lg_sl ([.ref bx, .int x])).length) Slot.unset).toArray = ls at hl ⊢
  have hl : lv_has ls 2 [(0, .ref bx), (1, .int x)] := hl
  refine lv_aload_n hx hb dX1_load_0 rfl (lv_at hl 0 rfl) ?_
  refine lv_iload_n hx hb dX1_load_1 rfl (lv_at hl 1 rfl) ?_
  refine ro_call (va_runV (As := [.int x]) (rest := []) ⟨hx, hb, hml, hown, hts⟩ (c_X1_isStored l G bx bd bo bs bk (ca 36) st sk tk be so le an x) (cwV 1 hts gX1_load_X1_isStored rfl rfl rfl (by decide +kernel) ⟨Nat.le_of_ble_eq_true rfl, Nat.le_of_ble_eq_true rfl⟩) ⟨ro_blind, va_recv hK.1 hP (ci := 1) (q0 := 0) rfl rfl, ro_pre _ (hP.sub [0] rfl) hK⟩ rfl rfl hl.1 rfl (lv_room (Nat.le_of_ble_eq_true rfl)) dX1_load_2 ⟨Nat.le_of_ble_eq_true rfl, Nat.le_of_ble_eq_true rfl⟩) ?_
  refine lv_if_ne (tgt := 16) hx hb dX1_load_5 (by decide) (fun c_5 => ?_) (fun c_5 => ?_)
  · refine lv_aload_n hx hb dX1_load_16 rfl (lv_at hl 0 rfl) ?_
    exact tn_callv (vx_runV (As := []) (rest := []) ⟨hx, hb, hml, hown, hts⟩ (c_X1_refuseFullStack_t l hlt G bx bd bo bs bk (ca 36) st sk tk be so le an h) (cwV 0 hts gX1_load_X1_refuseFullStack rfl rfl rfl (by decide +kernel) ⟨Nat.le_of_ble_eq_true rfl, Nat.le_of_ble_eq_true rfl⟩) ⟨tn_blind, va_recv hK.1 hP (ci := 1) (q0 := 0) rfl rfl, tn_pre _ (hP.sub [0] rfl) hK hxw hzz⟩ rfl rfl hl.1 rfl (lv_room (Nat.le_of_ble_eq_true rfl)) dX1_load_17 ⟨Nat.le_of_ble_eq_true rfl, Nat.le_of_ble_eq_true rfl⟩) (fun x h => (htab x h).elim) hlocks
  · exact absurd c_5 (in_o0 h1)

abbrev rmX1_axiom_1 : Room := { frames := 6, cells := 1, slots := 6, locals := 81 }
set_option maxHeartbeats 4000000 in
set_option maxRecDepth 100000 in
theorem c_X1_axiom_1 (l : Launch) (hlt : l.stackTraces = false) (G : Gt) (bx bd bo bs bk : Nat) (ca wa : Nat → Nat) (st sk tk be so le an : Int32) (fd fo : Nat → Int32) (ro : Nat → Nat → Int32) (dg gv : Nat → Int32) (x y : Int32) (h : ¬ outI x 0 9 = 0) : vx_Met l yX1_axiom wsX1_axiom rmX1_axiom_1 (tn_P G [.ref bx, .int x, .int y] ([(bx, .inr (1, [.ref bd, .ref bo, .ref bs, .int st, .ref bk, .int sk, .ref (ca 36), .int tk, .int be, .int so, .int le, .int an])), (bd, eI G 10 fd), (bo, eI G 10 fo), (bs, eR G 30 (fun k => some (ca k))), (bk, eR G 6 (fun k => some (ca (30 + k))))] ++ pool G ca wa ro dg gv)) tn_Qv (tn_X eNS) 1 6 (fun _ => False) := by
  refine vx_ofW (cc := cX1_axiom) (maxL := 3) (ret := none) (by decide) rfl ?_
  intro p e s m args below meth c s₁ B hml htab hv
  obtain ⟨⟨rfl, hP, hK⟩, hxw, hzz⟩ := hv
  have hx := B.exec
  have hb := B.bytes
  have hr := B.returns
  have hts := atoms_spec (ws := wsX1_axiom) B.pre
  have hown : s.vm.findClass RX1 = some m.cls := findClass_of_methodNamed B.named
  have hlocks := B.notSynchronized
  have hw0 := hts (.classLink RX1 99 "java/util/NoSuchElementException") (by decide +kernel)
  have hw1 := hts (.initialized "java/util/NoSuchElementException") (by decide +kernel)
  have hl := lv_entry ([.ref bx, .int x, .int y]) (n := 3) (Nat.le_of_ble_eq_true rfl)
  rw [lg_entry_eq]
  generalize (lg_sl ([.ref bx, .int x, .int y]) ++ List.replicate (3 - (lg_sl ([.ref bx, .int x, .int y])).length) Slot.unset).toArray = ls at hl ⊢
  have hl : lv_has ls 3 [(0, .ref bx), (1, .int x), (2, .int y)] := hl
  refine lv_iload_n hx hb dX1_axiom_0 rfl (lv_at hl 1 rfl) ?_
  refine ro_call (va_runS (As := [.int x]) (rest := []) ⟨hx, hb, hml, hown, hts⟩ (c_X1_isVariable l G x) (va_cwS 1 hts gX1_axiom_X1_isVariable rfl rfl rfl (by decide +kernel) ⟨Nat.le_of_ble_eq_true rfl, Nat.le_of_ble_eq_true rfl⟩) ⟨ro_blind, ro_pre _ (hP.sub [] rfl) hK⟩ rfl rfl hl.1 rfl (lv_room (Nat.le_of_ble_eq_true rfl)) dX1_axiom_1 ⟨Nat.le_of_ble_eq_true rfl, Nat.le_of_ble_eq_true rfl⟩) ?_
  refine lv_if_ne (tgt := 15) hx hb dX1_axiom_4 (by decide) (fun c_4 => ?_) (fun c_4 => ?_)
  · exact absurd (in_o1 h) c_4
  · exact vx_throw0 hx hb hlt (own := RX1) (cls := eNS) (names := nmE) (ik := 99) (ic := 101) hown (by decide) (by decide) hw0 hw1 (xat (by decide +kernel) (fun w h => hts w (List.mem_cons_of_mem _ (List.mem_append_left _ (List.mem_append_right _ h)))) hxw.1.2.2.1 (xB_on _)) (by decide +kernel) hzz.1 hzz.2 va_S.rf (hl.1.trans hml.symm) dX1_axiom_7 dX1_axiom_10 dX1_axiom_11 dX1_axiom_14 (fun x h => (htab x h).elim) (Nat.le_of_ble_eq_true rfl) (Nat.le_of_ble_eq_true rfl) (Nat.le_of_ble_eq_true rfl) (Nat.le_of_ble_eq_true rfl) hlocks (tn_at) (fun z h => nomatch h) (Nat.le_of_ble_eq_true rfl) (Nat.le_of_ble_eq_true rfl)

abbrev rmX1_axiom_2 : Room := { frames := 7, cells := 1, slots := 6, locals := 101 }
set_option maxHeartbeats 4000000 in
set_option maxRecDepth 100000 in
theorem c_X1_axiom_2 (l : Launch) (hlt : l.stackTraces = false) (G : Gt) (bx bd bo bs bk : Nat) (ca wa : Nat → Nat) (st sk tk be so le an : Int32) (fd fo : Nat → Int32) (ro : Nat → Nat → Int32) (dg gv : Nat → Int32) (x y : Int32) (h1 : outI x 0 9 = 0) (h : sk = 6) : vx_Met l yX1_axiom wsX1_axiom rmX1_axiom_2 (tn_P G [.ref bx, .int x, .int y] ([(bx, .inr (1, [.ref bd, .ref bo, .ref bs, .int st, .ref bk, .int sk, .ref (ca 36), .int tk, .int be, .int so, .int le, .int an])), (bd, eI G 10 fd), (bo, eI G 10 fo), (bs, eR G 30 (fun k => some (ca k))), (bk, eR G 6 (fun k => some (ca (30 + k))))] ++ pool G ca wa ro dg gv)) tn_Qv (tn_X eIS) 1 6 (fun _ => False) := by
  refine vx_ofW (cc := cX1_axiom) (maxL := 3) (ret := none) (by decide) rfl ?_
  intro p e s m args below meth c s₁ B hml htab hv
  obtain ⟨⟨rfl, hP, hK⟩, hxw, hzz⟩ := hv
  have hx := B.exec
  have hb := B.bytes
  have hr := B.returns
  have hts := atoms_spec (ws := wsX1_axiom) B.pre
  have hown : s.vm.findClass RX1 = some m.cls := findClass_of_methodNamed B.named
  have hlocks := B.notSynchronized
  have hl := lv_entry ([.ref bx, .int x, .int y]) (n := 3) (Nat.le_of_ble_eq_true rfl)
  rw [lg_entry_eq]
  generalize (lg_sl ([.ref bx, .int x, .int y]) ++ List.replicate (3 - (lg_sl ([.ref bx, .int x, .int y])).length) Slot.unset).toArray = ls at hl ⊢
  have hl : lv_has ls 3 [(0, .ref bx), (1, .int x), (2, .int y)] := hl
  refine lv_iload_n hx hb dX1_axiom_0 rfl (lv_at hl 1 rfl) ?_
  refine ro_call (va_runS (As := [.int x]) (rest := []) ⟨hx, hb, hml, hown, hts⟩ (c_X1_isVariable l G x) (va_cwS 1 hts gX1_axiom_X1_isVariable rfl rfl rfl (by decide +kernel) ⟨Nat.le_of_ble_eq_true rfl, Nat.le_of_ble_eq_true rfl⟩) ⟨ro_blind, ro_pre _ (hP.sub [] rfl) hK⟩ rfl rfl hl.1 rfl (lv_room (Nat.le_of_ble_eq_true rfl)) dX1_axiom_1 ⟨Nat.le_of_ble_eq_true rfl, Nat.le_of_ble_eq_true rfl⟩) ?_
  refine lv_if_ne (tgt := 15) hx hb dX1_axiom_4 (by decide) (fun c_4 => ?_) (fun c_4 => ?_)
  · refine lv_aload_n hx hb dX1_axiom_15 rfl (lv_at hl 0 rfl) ?_
    exact tn_callv (vx_runV (As := []) (rest := []) ⟨hx, hb, hml, hown, hts⟩ (c_X1_refuseFullStack_t l hlt G bx bd bo bs bk (ca 36) st sk tk be so le an h) (cwV 0 hts gX1_axiom_X1_refuseFullStack rfl rfl rfl (by decide +kernel) ⟨Nat.le_of_ble_eq_true rfl, Nat.le_of_ble_eq_true rfl⟩) ⟨tn_blind, va_recv hK.1 hP (ci := 1) (q0 := 0) rfl rfl, tn_pre _ (hP.sub [0] rfl) hK hxw hzz⟩ rfl rfl hl.1 rfl (lv_room (Nat.le_of_ble_eq_true rfl)) dX1_axiom_16 ⟨Nat.le_of_ble_eq_true rfl, Nat.le_of_ble_eq_true rfl⟩) (fun x h => (htab x h).elim) hlocks
  · exact absurd c_4 (in_o0 h1)

abbrev rmX1_add_1 : Room := { frames := 6, cells := 1, slots := 6, locals := 81 }
set_option maxHeartbeats 4000000 in
set_option maxRecDepth 100000 in
theorem c_X1_add_1 (l : Launch) (hlt : l.stackTraces = false) (G : Gt) (bx bd bo bs bk : Nat) (ca wa : Nat → Nat) (st sk tk be so le an : Int32) (fd fo : Nat → Int32) (ro : Nat → Nat → Int32) (dg gv : Nat → Int32) (h : sk < 2) : vx_Met l yX1_add wsX1_add rmX1_add_1 (tn_P G [.ref bx] ([(bx, .inr (1, [.ref bd, .ref bo, .ref bs, .int st, .ref bk, .int sk, .ref (ca 36), .int tk, .int be, .int so, .int le, .int an])), (bd, eI G 10 fd), (bo, eI G 10 fo), (bs, eR G 30 (fun k => some (ca k))), (bk, eR G 6 (fun k => some (ca (30 + k))))] ++ pool G ca wa ro dg gv)) tn_Qv (tn_X eIS) 1 6 (fun _ => False) := by
  refine vx_ofW (cc := cX1_add) (maxL := 1) (ret := none) (by decide) rfl ?_
  intro p e s m args below meth c s₁ B hml htab hv
  obtain ⟨⟨rfl, hP, hK⟩, hxw, hzz⟩ := hv
  have hx := B.exec
  have hb := B.bytes
  have hr := B.returns
  have hts := atoms_spec (ws := wsX1_add) B.pre
  have hown : s.vm.findClass RX1 = some m.cls := findClass_of_methodNamed B.named
  have hlocks := B.notSynchronized
  have hinX1 : ∀ w ∈ u_ws RX1 TX1 12, w ∈ wsX1_add := fun w h => List.mem_cons_of_mem _ (List.mem_append_left _ (List.mem_append_left _ (List.mem_append_left _ (List.mem_append_right _ h))))
  have hw1 := hts (.fieldLink RX1 29 "ChoiceBoard" "stacked" "I") (by decide +kernel)
  have hw2 := hts (.classLink RX1 74 "java/lang/IllegalStateException") (by decide +kernel)
  have hw3 := hts (.initialized "java/lang/IllegalStateException") (by decide +kernel)
  have hl := lv_entry ([.ref bx]) (n := 1) (Nat.le_of_ble_eq_true rfl)
  rw [lg_entry_eq]
  generalize (lg_sl ([.ref bx]) ++ List.replicate (1 - (lg_sl ([.ref bx])).length) Slot.unset).toArray = ls at hl ⊢
  have hl : lv_has ls 1 [(0, .ref bx)] := hl
  refine lv_aload_n hx hb dX1_add_0 rfl (lv_at hl 0 rfl) ?_
  refine va_get (D := G.1) (ci := 1) (v := .int sk) (C := RX1) (T := TX1) (N := 12) hx hb hts hinX1 hown hK.1 hP 0 rfl rfl 5 (by decide) hw1 (fun _ h9 => h9) rfl dX1_add_1 ?_
  refine lv_iconst (v := 2) hx hb dX1_add_4 (by decide) ?_
  refine lv_icmp_ge (tgt := 16) hx hb dX1_add_5 (by decide) (fun c_5 => ?_) (fun c_5 => ?_)
  · exact absurd h (Int32.not_lt.mpr c_5)
  · exact vx_throw0 hx hb hlt (own := RX1) (cls := eIS) (names := nmE) (ik := 74) (ic := 76) hown (by decide) (by decide) hw2 hw3 (xat (by decide +kernel) (fun w h => hts w (List.mem_cons_of_mem _ (List.mem_append_left _ (List.mem_append_right _ h)))) hxw.1.2.1 (xB_on _)) (by decide +kernel) hzz.1 hzz.2 va_S.rf (hl.1.trans hml.symm) dX1_add_8 dX1_add_11 dX1_add_12 dX1_add_15 (fun x h => (htab x h).elim) (Nat.le_of_ble_eq_true rfl) (Nat.le_of_ble_eq_true rfl) (Nat.le_of_ble_eq_true rfl) (Nat.le_of_ble_eq_true rfl) hlocks (tn_at) (fun z h => nomatch h) (Nat.le_of_ble_eq_true rfl) (Nat.le_of_ble_eq_true rfl)

abbrev rmX1_add_2 : Room := { frames := 7, cells := 1, slots := 6, locals := 101 }
set_option maxHeartbeats 4000000 in
set_option maxRecDepth 100000 in
theorem c_X1_add_2 (l : Launch) (hlt : l.stackTraces = false) (G : Gt) (sz : Nat) (bx bd bo bs bk : Nat) (ca wa : Nat → Nat) (st sk tk be so le an : Int32) (fd fo : Nat → Int32) (ro : Nat → Nat → Int32) (dg gv : Nat → Int32) (n : Nat) (esk : sk = nI n) (hn6 : n ≤ 6) (hn2 : 2 ≤ n) (hbig : tlI (mixf 10 (fun v => (ro (30 + (n - 2)) v) + (ro (30 + (n - 1)) v)) (ro 36)) (smD (ro (30 + (n - 2))) (ro (30 + (n - 1))) (dg (30 + (n - 2))) (dg (30 + (n - 1)))) = true) : vx_Met l yX1_add wsX1_add rmX1_add_2 (tw_P G sz [.ref bx] ([(bx, .inr (1, [.ref bd, .ref bo, .ref bs, .int st, .ref bk, .int sk, .ref (ca 36), .int tk, .int be, .int so, .int le, .int an])), (bd, eI G 10 fd), (bo, eI G 10 fo), (bs, eR G 30 (fun k => some (ca k))), (bk, eR G 6 (fun k => some (ca (30 + k))))] ++ pool G ca wa ro dg gv)) tn_Qv (tw_X G eAR ([(bx, .inr (1, [.ref bd, .ref bo, .ref bs, .int st, .ref bk, .int sk, .ref (ca 36), .int tk, .int be, .int so, .int le, .int an])), (bd, eI G 10 fd), (bo, eI G 10 fo), (bs, eR G 30 (fun k => some (ca k))), (bk, eR G 6 (fun k => some (ca (30 + k))))] ++ pool G ca wa (va_up ro 36 (mixf 10 (fun v => (ro (30 + (n - 2)) v) + (ro (30 + (n - 1)) v)) (ro 36))) (va_up dg 36 (smD (ro (30 + (n - 2))) (ro (30 + (n - 1))) (dg (30 + (n - 2))) (dg (30 + (n - 1))))) gv) (va_A ([(bx, .inr (1, [.ref bd, .ref bo, .ref bs, .int st, .ref bk, .int sk, .ref (ca 36), .int tk, .int be, .int so, .int le, .int an])), (bd, eI G 10 fd), (bo, eI G 10 fo), (bs, eR G 30 (fun k => some (ca k))), (bk, eR G 6 (fun k => some (ca (30 + k))))] ++ pool G ca wa ro dg gv) sz)) 1 6 (va_A ([(bx, .inr (1, [.ref bd, .ref bo, .ref bs, .int st, .ref bk, .int sk, .ref (ca 36), .int tk, .int be, .int so, .int le, .int an])), (bd, eI G 10 fd), (bo, eI G 10 fo), (bs, eR G 30 (fun k => some (ca k))), (bk, eR G 6 (fun k => some (ca (30 + k))))] ++ pool G ca wa ro dg gv) sz) := by
  refine vx_ofW (cc := cX1_add) (maxL := 1) (ret := none) (by decide) rfl ?_
  intro p e s m args below meth c s₁ B hml htab hv
  obtain ⟨⟨rfl, hsz, hP, hD0, hK⟩, hxw, hzz⟩ := hv
  have hx := B.exec
  have hb := B.bytes
  have hr := B.returns
  have hts := atoms_spec (ws := wsX1_add) B.pre
  have hown : s.vm.findClass RX1 = some m.cls := findClass_of_methodNamed B.named
  have hlocks := B.notSynchronized
  subst hsz
  have hD := hD0.self (sz := s.heap.size)
  generalize hAe : va_A ([(bx, .inr (1, [.ref bd, .ref bo, .ref bs, .int st, .ref bk, .int sk, .ref (ca 36), .int tk, .int be, .int so, .int le, .int an])), (bd, eI G 10 fd), (bo, eI G 10 fo), (bs, eR G 30 (fun k => some (ca k))), (bk, eR G 6 (fun k => some (ca (30 + k))))] ++ pool G ca wa ro dg gv) s.heap.size = A at hD hzz ⊢
  have hA : ∀ q : Nat, s.heap.size ≤ q → A q := fun q h => by rw [← hAe]; exact Or.inr h
  have hS : va_S A s.heap s.heap [] := va_S.rf
  have hinX1 : ∀ w ∈ u_ws RX1 TX1 12, w ∈ wsX1_add := fun w h => List.mem_cons_of_mem _ (List.mem_append_left _ (List.mem_append_left _ (List.mem_append_left _ (List.mem_append_right _ h))))
  have hw1 := hts (.fieldLink RX1 29 "ChoiceBoard" "stacked" "I") (by decide +kernel)
  have hw2 := hts (.fieldLink RX1 33 "ChoiceBoard" "scratch" "LChoiceBoard$Constraint;") (by decide +kernel)
  have hw3 := hts (.fieldLink RX1 26 "ChoiceBoard" "stack" "[LChoiceBoard$Constraint;") (by decide +kernel)
  have hl := lv_entry ([.ref bx]) (n := 1) (Nat.le_of_ble_eq_true rfl)
  rw [lg_entry_eq]
  generalize (lg_sl ([.ref bx]) ++ List.replicate (1 - (lg_sl ([.ref bx])).length) Slot.unset).toArray = ls at hl ⊢
  have hl : lv_has ls 1 [(0, .ref bx)] := hl
  refine lv_aload_n hx hb dX1_add_0 rfl (lv_at hl 0 rfl) ?_
  refine va_get (D := G.1) (ci := 1) (v := .int sk) (C := RX1) (T := TX1) (N := 12) hx hb hts hinX1 hown hK.1 hP 0 rfl rfl 5 (by decide) hw1 (fun _ h9 => h9) rfl dX1_add_1 ?_
  refine lv_iconst (v := 2) hx hb dX1_add_4 (by decide) ?_
  refine lv_icmp_ge (tgt := 16) hx hb dX1_add_5 (by decide) (fun c_5 => ?_) (fun c_5 => ?_)
  · refine lv_aload_n hx hb dX1_add_16 rfl (lv_at hl 0 rfl) ?_
    refine va_get (D := G.1) (ci := 1) (v := .ref (ca 36)) (C := RX1) (T := TX1) (N := 12) hx hb hts hinX1 hown hK.1 hP 0 rfl rfl 6 (by decide) hw2 (fun _ h9 => h9) rfl dX1_add_17 ?_
    refine lv_aload_n hx hb dX1_add_20 rfl (lv_at hl 0 rfl) ?_
    refine va_get (D := G.1) (ci := 1) (v := .ref bk) (C := RX1) (T := TX1) (N := 12) hx hb hts hinX1 hown hK.1 hP 0 rfl rfl 4 (by decide) hw3 (fun _ h9 => h9) rfl dX1_add_21 ?_
    refine lv_aload_n hx hb dX1_add_24 rfl (lv_at hl 0 rfl) ?_
    refine va_get (D := G.1) (ci := 1) (v := .int sk) (C := RX1) (T := TX1) (N := 12) hx hb hts hinX1 hown hK.1 hP 0 rfl rfl 5 (by decide) hw1 (fun _ h9 => h9) rfl dX1_add_25 ?_
    refine lv_iconst (v := 2) hx hb dX1_add_28 (by decide) ?_
    refine lv_isub hx hb dX1_add_29 ?_
    refine ra_aald (v := (n - 2)) (b := ca (30 + (n - 2))) hx hb hK.1 hP 4 2 rfl rfl (na_sub esk (show (2 : Int32) = nI 2 from rfl) (by omega)) (by omega) (by decide) rfl dX1_add_30 ?_
    refine lv_aload_n hx hb dX1_add_31 rfl (lv_at hl 0 rfl) ?_
    refine va_get (D := G.1) (ci := 1) (v := .ref bk) (C := RX1) (T := TX1) (N := 12) hx hb hts hinX1 hown hK.1 hP 0 rfl rfl 4 (by decide) hw3 (fun _ h9 => h9) rfl dX1_add_32 ?_
    refine lv_aload_n hx hb dX1_add_35 rfl (lv_at hl 0 rfl) ?_
    refine va_get (D := G.1) (ci := 1) (v := .int sk) (C := RX1) (T := TX1) (N := 12) hx hb hts hinX1 hown hK.1 hP 0 rfl rfl 5 (by decide) hw1 (fun _ h9 => h9) rfl dX1_add_36 ?_
    refine lv_iconst (v := 1) hx hb dX1_add_39 (by decide) ?_
    refine lv_isub hx hb dX1_add_40 ?_
    refine ra_aald (v := (n - 1)) (b := ca (30 + (n - 1))) hx hb hK.1 hP 4 2 rfl rfl (na_pred esk (by omega)) (by omega) (by decide) rfl dX1_add_41 ?_
    refine mu_call (va_runV (As := [.ref (ca (30 + (n - 2))), .ref (ca (30 + (n - 1)))]) (rest := []) ⟨hx, hb, hml, hown, hts⟩ (c_X0_becomeSum l G _ (ca 36) (wa 36) (dg 36) (gv 36) (ro 36) (ca (30 + (n - 2))) (wa (30 + (n - 2))) (dg (30 + (n - 2))) (gv (30 + (n - 2))) (ro (30 + (n - 2))) (ca (30 + (n - 1))) (wa (30 + (n - 1))) (dg (30 + (n - 1))) (gv (30 + (n - 1))) (ro (30 + (n - 1)))) (cwV 2 hts gX1_add_X0_becomeSum rfl rfl rfl (by decide +kernel) ⟨Nat.le_of_ble_eq_true rfl, Nat.le_of_ble_eq_true rfl⟩) ⟨mu_blind, va_recv hK.1 hP (ci := 0) (q0 := 5 + 36) rfl (pool_c rfl (by omega)), mu_pre _ (lcP [5 + 36, 42 + 36, 5 + (30 + (n - 2)), 42 + (30 + (n - 2)), 5 + (30 + (n - 1)), 42 + (30 + (n - 1))] hP (lc (pool_c rfl (by omega)) (lc (pool_w rfl (by omega)) (lc (pool_c rfl (by omega)) (lc (pool_w rfl (by omega)) (lc (pool_c rfl (by omega)) (lc (pool_w rfl (by omega)) rfl))))))) (hD.sub [5 + 36, 42 + 36, 5 + (30 + (n - 2)), 42 + (30 + (n - 2)), 5 + (30 + (n - 1)), 42 + (30 + (n - 1))] (nd6 (by omega) (by omega) (by omega) (by omega) (by omega) (by omega)) (lc (pool_c rfl (by omega)) (lc (pool_w rfl (by omega)) (lc (pool_c rfl (by omega)) (lc (pool_w rfl (by omega)) (lc (pool_c rfl (by omega)) (lc (pool_w rfl (by omega)) rfl))))))) hK⟩ rfl rfl hl.1 rfl (lv_room (Nat.le_of_ble_eq_true rfl)) dX1_add_42 ⟨Nat.le_of_ble_eq_true rfl, Nat.le_of_ble_eq_true rfl⟩) hS (va_free hD hS hA [5 + 36, 42 + 36, 5 + (30 + (n - 2)), 42 + (30 + (n - 2)), 5 + (30 + (n - 1)), 42 + (30 + (n - 1))] (lc (pool_c rfl (by omega)) (lc (pool_w rfl (by omega)) (lc (pool_c rfl (by omega)) (lc (pool_w rfl (by omega)) (lc (pool_c rfl (by omega)) (lc (pool_w rfl (by omega)) rfl))))))) (va_free hD hS hA [5 + 36, 42 + 36, 5 + (30 + (n - 2)), 42 + (30 + (n - 2)), 5 + (30 + (n - 1)), 42 + (30 + (n - 1))] (lc (pool_c rfl (by omega)) (lc (pool_w rfl (by omega)) (lc (pool_c rfl (by omega)) (lc (pool_w rfl (by omega)) (lc (pool_c rfl (by omega)) (lc (pool_w rfl (by omega)) rfl))))))) (fun H1 locs hP1 hD1 hk1 hS => ?_)
    obtain ⟨hP, hD⟩ := pj (k := 36) (is' := [5 + (30 + (n - 2)), 42 + (30 + (n - 2)), 5 + (30 + (n - 1)), 42 + (30 + (n - 1))]) (wc := [(ca 36, .inr (0, [.ref (wa 36), .int (dg 36), .int (gv 36)])), (wa 36, eI G 10 (ro 36)), (ca (30 + (n - 2)), .inr (0, [.ref (wa (30 + (n - 2))), .int (dg (30 + (n - 2))), .int (gv (30 + (n - 2)))])), (wa (30 + (n - 2)), eI G 10 (ro (30 + (n - 2)))), (ca (30 + (n - 1)), .inr (0, [.ref (wa (30 + (n - 1))), .int (dg (30 + (n - 1))), .int (gv (30 + (n - 1)))])), (wa (30 + (n - 1)), eI G 10 (ro (30 + (n - 1))))]) rfl (by omega) hP hD (lc (pool_c rfl (by omega)) (lc (pool_w rfl (by omega)) (lc (pool_c rfl (by omega)) (lc (pool_w rfl (by omega)) (lc (pool_c rfl (by omega)) (lc (pool_w rfl (by omega)) rfl)))))) hk1 hP1 rfl rfl (fun j q h => ⟨j + 2, h⟩)
    rw [upS gv 36] at hP hD
    generalize H1 = H at hP hS ⊢
    have hP : va_P G.1 vwCl ([(bx, .inr (1, [.ref bd, .ref bo, .ref bs, .int st, .ref bk, .int sk, .ref (ca 36), .int tk, .int be, .int so, .int le, .int an])), (bd, eI G 10 fd), (bo, eI G 10 fo), (bs, eR G 30 (fun k => some (ca k))), (bk, eR G 6 (fun k => some (ca (30 + k))))] ++ pool G ca wa (va_up ro 36 (mixf 10 (fun v => ((ro (30 + (n - 2))) v) + ((ro (30 + (n - 1))) v)) (ro 36))) (va_up dg 36 (smD (ro (30 + (n - 2))) (ro (30 + (n - 1))) (dg (30 + (n - 2))) (dg (30 + (n - 1))))) gv) H := hP
    have hD : va_D A ([(bx, .inr (1, [.ref bd, .ref bo, .ref bs, .int st, .ref bk, .int sk, .ref (ca 36), .int tk, .int be, .int so, .int le, .int an])), (bd, eI G 10 fd), (bo, eI G 10 fo), (bs, eR G 30 (fun k => some (ca k))), (bk, eR G 6 (fun k => some (ca (30 + k))))] ++ pool G ca wa (va_up ro 36 (mixf 10 (fun v => ((ro (30 + (n - 2))) v) + ((ro (30 + (n - 1))) v)) (ro 36))) (va_up dg 36 (smD (ro (30 + (n - 2))) (ro (30 + (n - 1))) (dg (30 + (n - 2))) (dg (30 + (n - 1))))) gv) := hD
    refine lv_aload_n hx hb dX1_add_45 rfl (lv_at hl 0 rfl) ?_
    exact tw_callv (vx_runV (As := []) (rest := []) ⟨hx, hb, hml, hown, hts⟩ (c_X1_refuseTooLargeScratch_t l hlt G bx bd bo bs bk ca wa st sk tk be so le an fd fo (va_up ro 36 (mixf 10 (fun v => ((ro (30 + (n - 2))) v) + ((ro (30 + (n - 1))) v)) (ro 36))) (va_up dg 36 (smD (ro (30 + (n - 2))) (ro (30 + (n - 1))) (dg (30 + (n - 2))) (dg (30 + (n - 1))))) gv (by rw [va_up_self, va_up_self]; exact hbig)) (cwV 0 hts gX1_add_X1_refuseTooLargeScratch rfl rfl rfl (by decide +kernel) ⟨Nat.le_of_ble_eq_true rfl, Nat.le_of_ble_eq_true rfl⟩) ⟨tn_blind, va_recv hK.1 hP (ci := 1) (q0 := 0) rfl rfl, tn_pre _ hP hK hxw ((hzz.kept hS.2.1).narrow (fun _ h => h.elim))⟩ rfl rfl hl.1 rfl (lv_room (Nat.le_of_ble_eq_true rfl)) dX1_add_46 ⟨Nat.le_of_ble_eq_true rfl, Nat.le_of_ble_eq_true rfl⟩) (fun x h => (htab x h).elim) hlocks hS hP hD
  · exact absurd (ge2 esk hn2 hn6) c_5

abbrev rmX1_times_1 : Room := { frames := 7, cells := 1, slots := 6, locals := 101 }
set_option maxHeartbeats 4000000 in
set_option maxRecDepth 100000 in
theorem c_X1_times_1 (l : Launch) (hlt : l.stackTraces = false) (G : Gt) (bx bd bo bs bk : Nat) (ca wa : Nat → Nat) (st sk tk be so le an : Int32) (fd fo : Nat → Int32) (ro : Nat → Nat → Int32) (dg gv : Nat → Int32) (x : Int32) (h : sk < 1) : vx_Met l yX1_times wsX1_times rmX1_times_1 (tn_P G [.ref bx, .int x] ([(bx, .inr (1, [.ref bd, .ref bo, .ref bs, .int st, .ref bk, .int sk, .ref (ca 36), .int tk, .int be, .int so, .int le, .int an])), (bd, eI G 10 fd), (bo, eI G 10 fo), (bs, eR G 30 (fun k => some (ca k))), (bk, eR G 6 (fun k => some (ca (30 + k))))] ++ pool G ca wa ro dg gv)) tn_Qv (tn_X eIS) 1 6 (fun _ => False) := by
  refine vx_ofW (cc := cX1_times) (maxL := 2) (ret := none) (by decide) rfl ?_
  intro p e s m args below meth c s₁ B hml htab hv
  obtain ⟨⟨rfl, hP, hK⟩, hxw, hzz⟩ := hv
  have hx := B.exec
  have hb := B.bytes
  have hr := B.returns
  have hts := atoms_spec (ws := wsX1_times) B.pre
  have hown : s.vm.findClass RX1 = some m.cls := findClass_of_methodNamed B.named
  have hlocks := B.notSynchronized
  have hl := lv_entry ([.ref bx, .int x]) (n := 2) (Nat.le_of_ble_eq_true rfl)
  rw [lg_entry_eq]
  generalize (lg_sl ([.ref bx, .int x]) ++ List.replicate (2 - (lg_sl ([.ref bx, .int x])).length) Slot.unset).toArray = ls at hl ⊢
  have hl : lv_has ls 2 [(0, .ref bx), (1, .int x)] := hl
  refine lv_aload_n hx hb dX1_times_0 rfl (lv_at hl 0 rfl) ?_
  exact tn_callv (vx_runV (As := []) (rest := []) ⟨hx, hb, hml, hown, hts⟩ (c_X1_refuseEmptyStack_t l hlt G bx bd bo bs bk (ca 36) st sk tk be so le an h) (cwV 0 hts gX1_times_X1_refuseEmptyStack rfl rfl rfl (by decide +kernel) ⟨Nat.le_of_ble_eq_true rfl, Nat.le_of_ble_eq_true rfl⟩) ⟨tn_blind, va_recv hK.1 hP (ci := 1) (q0 := 0) rfl rfl, tn_pre _ (hP.sub [0] rfl) hK hxw hzz⟩ rfl rfl hl.1 rfl (lv_room (Nat.le_of_ble_eq_true rfl)) dX1_times_1 ⟨Nat.le_of_ble_eq_true rfl, Nat.le_of_ble_eq_true rfl⟩) (fun x h => (htab x h).elim) hlocks

abbrev rmX1_divide_1 : Room := { frames := 7, cells := 1, slots := 6, locals := 101 }
set_option maxHeartbeats 4000000 in
set_option maxRecDepth 100000 in
theorem c_X1_divide_1 (l : Launch) (hlt : l.stackTraces = false) (G : Gt) (bx bd bo bs bk : Nat) (ca wa : Nat → Nat) (st sk tk be so le an : Int32) (fd fo : Nat → Int32) (ro : Nat → Nat → Int32) (dg gv : Nat → Int32) (x : Int32) (h : sk < 1) : vx_Met l yX1_divide wsX1_divide rmX1_divide_1 (tn_P G [.ref bx, .int x] ([(bx, .inr (1, [.ref bd, .ref bo, .ref bs, .int st, .ref bk, .int sk, .ref (ca 36), .int tk, .int be, .int so, .int le, .int an])), (bd, eI G 10 fd), (bo, eI G 10 fo), (bs, eR G 30 (fun k => some (ca k))), (bk, eR G 6 (fun k => some (ca (30 + k))))] ++ pool G ca wa ro dg gv)) tn_Qv (tn_X eIS) 1 6 (fun _ => False) := by
  refine vx_ofW (cc := cX1_divide) (maxL := 2) (ret := none) (by decide) rfl ?_
  intro p e s m args below meth c s₁ B hml htab hv
  obtain ⟨⟨rfl, hP, hK⟩, hxw, hzz⟩ := hv
  have hx := B.exec
  have hb := B.bytes
  have hr := B.returns
  have hts := atoms_spec (ws := wsX1_divide) B.pre
  have hown : s.vm.findClass RX1 = some m.cls := findClass_of_methodNamed B.named
  have hlocks := B.notSynchronized
  have hl := lv_entry ([.ref bx, .int x]) (n := 2) (Nat.le_of_ble_eq_true rfl)
  rw [lg_entry_eq]
  generalize (lg_sl ([.ref bx, .int x]) ++ List.replicate (2 - (lg_sl ([.ref bx, .int x])).length) Slot.unset).toArray = ls at hl ⊢
  have hl : lv_has ls 2 [(0, .ref bx), (1, .int x)] := hl
  refine lv_aload_n hx hb dX1_divide_0 rfl (lv_at hl 0 rfl) ?_
  exact tn_callv (vx_runV (As := []) (rest := []) ⟨hx, hb, hml, hown, hts⟩ (c_X1_refuseEmptyStack_t l hlt G bx bd bo bs bk (ca 36) st sk tk be so le an h) (cwV 0 hts gX1_divide_X1_refuseEmptyStack rfl rfl rfl (by decide +kernel) ⟨Nat.le_of_ble_eq_true rfl, Nat.le_of_ble_eq_true rfl⟩) ⟨tn_blind, va_recv hK.1 hP (ci := 1) (q0 := 0) rfl rfl, tn_pre _ (hP.sub [0] rfl) hK hxw hzz⟩ rfl rfl hl.1 rfl (lv_room (Nat.le_of_ble_eq_true rfl)) dX1_divide_1 ⟨Nat.le_of_ble_eq_true rfl, Nat.le_of_ble_eq_true rfl⟩) (fun x h => (htab x h).elim) hlocks

abbrev rmX1_saturate_1 : Room := { frames := 7, cells := 1, slots := 6, locals := 101 }
set_option maxHeartbeats 4000000 in
set_option maxRecDepth 100000 in
theorem c_X1_saturate_1 (l : Launch) (hlt : l.stackTraces = false) (G : Gt) (bx bd bo bs bk : Nat) (ca wa : Nat → Nat) (st sk tk be so le an : Int32) (fd fo : Nat → Int32) (ro : Nat → Nat → Int32) (dg gv : Nat → Int32) (h : sk < 1) : vx_Met l yX1_saturate wsX1_saturate rmX1_saturate_1 (tn_P G [.ref bx] ([(bx, .inr (1, [.ref bd, .ref bo, .ref bs, .int st, .ref bk, .int sk, .ref (ca 36), .int tk, .int be, .int so, .int le, .int an])), (bd, eI G 10 fd), (bo, eI G 10 fo), (bs, eR G 30 (fun k => some (ca k))), (bk, eR G 6 (fun k => some (ca (30 + k))))] ++ pool G ca wa ro dg gv)) tn_Qv (tn_X eIS) 1 6 (fun _ => False) := by
  refine vx_ofW (cc := cX1_saturate) (maxL := 1) (ret := none) (by decide) rfl ?_
  intro p e s m args below meth c s₁ B hml htab hv
  obtain ⟨⟨rfl, hP, hK⟩, hxw, hzz⟩ := hv
  have hx := B.exec
  have hb := B.bytes
  have hr := B.returns
  have hts := atoms_spec (ws := wsX1_saturate) B.pre
  have hown : s.vm.findClass RX1 = some m.cls := findClass_of_methodNamed B.named
  have hlocks := B.notSynchronized
  have hl := lv_entry ([.ref bx]) (n := 1) (Nat.le_of_ble_eq_true rfl)
  rw [lg_entry_eq]
  generalize (lg_sl ([.ref bx]) ++ List.replicate (1 - (lg_sl ([.ref bx])).length) Slot.unset).toArray = ls at hl ⊢
  have hl : lv_has ls 1 [(0, .ref bx)] := hl
  refine lv_aload_n hx hb dX1_saturate_0 rfl (lv_at hl 0 rfl) ?_
  exact tn_callv (vx_runV (As := []) (rest := []) ⟨hx, hb, hml, hown, hts⟩ (c_X1_refuseEmptyStack_t l hlt G bx bd bo bs bk (ca 36) st sk tk be so le an h) (cwV 0 hts gX1_saturate_X1_refuseEmptyStack rfl rfl rfl (by decide +kernel) ⟨Nat.le_of_ble_eq_true rfl, Nat.le_of_ble_eq_true rfl⟩) ⟨tn_blind, va_recv hK.1 hP (ci := 1) (q0 := 0) rfl rfl, tn_pre _ (hP.sub [0] rfl) hK hxw hzz⟩ rfl rfl hl.1 rfl (lv_room (Nat.le_of_ble_eq_true rfl)) dX1_saturate_1 ⟨Nat.le_of_ble_eq_true rfl, Nat.le_of_ble_eq_true rfl⟩) (fun x h => (htab x h).elim) hlocks

abbrev rmX1_weaken_1 : Room := { frames := 7, cells := 1, slots := 6, locals := 101 }
set_option maxHeartbeats 4000000 in
set_option maxRecDepth 100000 in
theorem c_X1_weaken_1 (l : Launch) (hlt : l.stackTraces = false) (G : Gt) (bx bd bo bs bk : Nat) (ca wa : Nat → Nat) (st sk tk be so le an : Int32) (fd fo : Nat → Int32) (ro : Nat → Nat → Int32) (dg gv : Nat → Int32) (x : Int32) (h : sk < 1) : vx_Met l yX1_weaken wsX1_weaken rmX1_weaken_1 (tn_P G [.ref bx, .int x] ([(bx, .inr (1, [.ref bd, .ref bo, .ref bs, .int st, .ref bk, .int sk, .ref (ca 36), .int tk, .int be, .int so, .int le, .int an])), (bd, eI G 10 fd), (bo, eI G 10 fo), (bs, eR G 30 (fun k => some (ca k))), (bk, eR G 6 (fun k => some (ca (30 + k))))] ++ pool G ca wa ro dg gv)) tn_Qv (tn_X eIS) 1 6 (fun _ => False) := by
  refine vx_ofW (cc := cX1_weaken) (maxL := 2) (ret := none) (by decide) rfl ?_
  intro p e s m args below meth c s₁ B hml htab hv
  obtain ⟨⟨rfl, hP, hK⟩, hxw, hzz⟩ := hv
  have hx := B.exec
  have hb := B.bytes
  have hr := B.returns
  have hts := atoms_spec (ws := wsX1_weaken) B.pre
  have hown : s.vm.findClass RX1 = some m.cls := findClass_of_methodNamed B.named
  have hlocks := B.notSynchronized
  have hl := lv_entry ([.ref bx, .int x]) (n := 2) (Nat.le_of_ble_eq_true rfl)
  rw [lg_entry_eq]
  generalize (lg_sl ([.ref bx, .int x]) ++ List.replicate (2 - (lg_sl ([.ref bx, .int x])).length) Slot.unset).toArray = ls at hl ⊢
  have hl : lv_has ls 2 [(0, .ref bx), (1, .int x)] := hl
  refine lv_aload_n hx hb dX1_weaken_0 rfl (lv_at hl 0 rfl) ?_
  exact tn_callv (vx_runV (As := []) (rest := []) ⟨hx, hb, hml, hown, hts⟩ (c_X1_refuseEmptyStack_t l hlt G bx bd bo bs bk (ca 36) st sk tk be so le an h) (cwV 0 hts gX1_weaken_X1_refuseEmptyStack rfl rfl rfl (by decide +kernel) ⟨Nat.le_of_ble_eq_true rfl, Nat.le_of_ble_eq_true rfl⟩) ⟨tn_blind, va_recv hK.1 hP (ci := 1) (q0 := 0) rfl rfl, tn_pre _ (hP.sub [0] rfl) hK hxw hzz⟩ rfl rfl hl.1 rfl (lv_room (Nat.le_of_ble_eq_true rfl)) dX1_weaken_1 ⟨Nat.le_of_ble_eq_true rfl, Nat.le_of_ble_eq_true rfl⟩) (fun x h => (htab x h).elim) hlocks

abbrev rmX1_drop_1 : Room := { frames := 7, cells := 1, slots := 6, locals := 101 }
set_option maxHeartbeats 4000000 in
set_option maxRecDepth 100000 in
theorem c_X1_drop_1 (l : Launch) (hlt : l.stackTraces = false) (G : Gt) (bx bd bo bs bk : Nat) (ca wa : Nat → Nat) (st sk tk be so le an : Int32) (fd fo : Nat → Int32) (ro : Nat → Nat → Int32) (dg gv : Nat → Int32) (h : sk < 1) : vx_Met l yX1_drop wsX1_drop rmX1_drop_1 (tn_P G [.ref bx] ([(bx, .inr (1, [.ref bd, .ref bo, .ref bs, .int st, .ref bk, .int sk, .ref (ca 36), .int tk, .int be, .int so, .int le, .int an])), (bd, eI G 10 fd), (bo, eI G 10 fo), (bs, eR G 30 (fun k => some (ca k))), (bk, eR G 6 (fun k => some (ca (30 + k))))] ++ pool G ca wa ro dg gv)) tn_Qv (tn_X eIS) 1 6 (fun _ => False) := by
  refine vx_ofW (cc := cX1_drop) (maxL := 1) (ret := none) (by decide) rfl ?_
  intro p e s m args below meth c s₁ B hml htab hv
  obtain ⟨⟨rfl, hP, hK⟩, hxw, hzz⟩ := hv
  have hx := B.exec
  have hb := B.bytes
  have hr := B.returns
  have hts := atoms_spec (ws := wsX1_drop) B.pre
  have hown : s.vm.findClass RX1 = some m.cls := findClass_of_methodNamed B.named
  have hlocks := B.notSynchronized
  have hl := lv_entry ([.ref bx]) (n := 1) (Nat.le_of_ble_eq_true rfl)
  rw [lg_entry_eq]
  generalize (lg_sl ([.ref bx]) ++ List.replicate (1 - (lg_sl ([.ref bx])).length) Slot.unset).toArray = ls at hl ⊢
  have hl : lv_has ls 1 [(0, .ref bx)] := hl
  refine lv_aload_n hx hb dX1_drop_0 rfl (lv_at hl 0 rfl) ?_
  exact tn_callv (vx_runV (As := []) (rest := []) ⟨hx, hb, hml, hown, hts⟩ (c_X1_refuseEmptyStack_t l hlt G bx bd bo bs bk (ca 36) st sk tk be so le an h) (cwV 0 hts gX1_drop_X1_refuseEmptyStack rfl rfl rfl (by decide +kernel) ⟨Nat.le_of_ble_eq_true rfl, Nat.le_of_ble_eq_true rfl⟩) ⟨tn_blind, va_recv hK.1 hP (ci := 1) (q0 := 0) rfl rfl, tn_pre _ (hP.sub [0] rfl) hK hxw hzz⟩ rfl rfl hl.1 rfl (lv_room (Nat.le_of_ble_eq_true rfl)) dX1_drop_1 ⟨Nat.le_of_ble_eq_true rfl, Nat.le_of_ble_eq_true rfl⟩) (fun x h => (htab x h).elim) hlocks

abbrev rmX1_learn_1 : Room := { frames := 7, cells := 1, slots := 6, locals := 101 }
set_option maxHeartbeats 4000000 in
set_option maxRecDepth 100000 in
theorem c_X1_learn_1 (l : Launch) (hlt : l.stackTraces = false) (G : Gt) (bx bd bo bs bk : Nat) (ca wa : Nat → Nat) (st sk tk be so le an : Int32) (fd fo : Nat → Int32) (ro : Nat → Nat → Int32) (dg gv : Nat → Int32) (h : sk < 1) : vx_Met l yX1_learn wsX1_learn rmX1_learn_1 (tn_P G [.ref bx] ([(bx, .inr (1, [.ref bd, .ref bo, .ref bs, .int st, .ref bk, .int sk, .ref (ca 36), .int tk, .int be, .int so, .int le, .int an])), (bd, eI G 10 fd), (bo, eI G 10 fo), (bs, eR G 30 (fun k => some (ca k))), (bk, eR G 6 (fun k => some (ca (30 + k))))] ++ pool G ca wa ro dg gv)) tn_Qv (tn_X eIS) 1 6 (fun _ => False) := by
  refine vx_ofW (cc := cX1_learn) (maxL := 1) (ret := (some .int)) (by decide) rfl ?_
  intro p e s m args below meth c s₁ B hml htab hv
  obtain ⟨⟨rfl, hP, hK⟩, hxw, hzz⟩ := hv
  have hx := B.exec
  have hb := B.bytes
  have hr := B.returns
  have hts := atoms_spec (ws := wsX1_learn) B.pre
  have hown : s.vm.findClass RX1 = some m.cls := findClass_of_methodNamed B.named
  have hlocks := B.notSynchronized
  have hl := lv_entry ([.ref bx]) (n := 1) (Nat.le_of_ble_eq_true rfl)
  rw [lg_entry_eq]
  generalize (lg_sl ([.ref bx]) ++ List.replicate (1 - (lg_sl ([.ref bx])).length) Slot.unset).toArray = ls at hl ⊢
  have hl : lv_has ls 1 [(0, .ref bx)] := hl
  refine lv_aload_n hx hb dX1_learn_0 rfl (lv_at hl 0 rfl) ?_
  exact tn_callv (vx_runV (As := []) (rest := []) ⟨hx, hb, hml, hown, hts⟩ (c_X1_refuseEmptyStack_t l hlt G bx bd bo bs bk (ca 36) st sk tk be so le an h) (cwV 0 hts gX1_learn_X1_refuseEmptyStack rfl rfl rfl (by decide +kernel) ⟨Nat.le_of_ble_eq_true rfl, Nat.le_of_ble_eq_true rfl⟩) ⟨tn_blind, va_recv hK.1 hP (ci := 1) (q0 := 0) rfl rfl, tn_pre _ (hP.sub [0] rfl) hK hxw hzz⟩ rfl rfl hl.1 rfl (lv_room (Nat.le_of_ble_eq_true rfl)) dX1_learn_1 ⟨Nat.le_of_ble_eq_true rfl, Nat.le_of_ble_eq_true rfl⟩) (fun x h => (htab x h).elim) hlocks

abbrev rmX1_times_2 : Room := { frames := 6, cells := 1, slots := 6, locals := 81 }
set_option maxHeartbeats 4000000 in
set_option maxRecDepth 100000 in
theorem c_X1_times_2 (l : Launch) (hlt : l.stackTraces = false) (G : Gt) (bx bd bo bs bk : Nat) (ca wa : Nat → Nat) (st sk tk be so le an : Int32) (fd fo : Nat → Int32) (ro : Nat → Nat → Int32) (dg gv : Nat → Int32) (x : Int32) (n : Nat) (esk : sk = nI n) (hn6 : n ≤ 6) (hn1 : 1 ≤ n) (h : ¬ outI x 1 1000 = 0) : vx_Met l yX1_times wsX1_times rmX1_times_2 (tn_P G [.ref bx, .int x] ([(bx, .inr (1, [.ref bd, .ref bo, .ref bs, .int st, .ref bk, .int sk, .ref (ca 36), .int tk, .int be, .int so, .int le, .int an])), (bd, eI G 10 fd), (bo, eI G 10 fo), (bs, eR G 30 (fun k => some (ca k))), (bk, eR G 6 (fun k => some (ca (30 + k))))] ++ pool G ca wa ro dg gv)) tn_Qv (tn_X eIA) 1 6 (fun _ => False) := by
  refine vx_ofW (cc := cX1_times) (maxL := 2) (ret := none) (by decide) rfl ?_
  intro p e s m args below meth c s₁ B hml htab hv
  obtain ⟨⟨rfl, hP, hK⟩, hxw, hzz⟩ := hv
  have hx := B.exec
  have hb := B.bytes
  have hr := B.returns
  have hts := atoms_spec (ws := wsX1_times) B.pre
  have hown : s.vm.findClass RX1 = some m.cls := findClass_of_methodNamed B.named
  have hlocks := B.notSynchronized
  have hw0 := hts (.classLink RX1 61 "java/lang/IllegalArgumentException") (by decide +kernel)
  have hw1 := hts (.initialized "java/lang/IllegalArgumentException") (by decide +kernel)
  have hl := lv_entry ([.ref bx, .int x]) (n := 2) (Nat.le_of_ble_eq_true rfl)
  rw [lg_entry_eq]
  generalize (lg_sl ([.ref bx, .int x]) ++ List.replicate (2 - (lg_sl ([.ref bx, .int x])).length) Slot.unset).toArray = ls at hl ⊢
  have hl : lv_has ls 2 [(0, .ref bx), (1, .int x)] := hl
  refine lv_aload_n hx hb dX1_times_0 rfl (lv_at hl 0 rfl) ?_
  refine ro_callv (va_runV (As := []) (rest := []) ⟨hx, hb, hml, hown, hts⟩ (c_X1_refuseEmptyStack l G bx bd bo bs bk (ca 36) st sk tk be so le an (ge1 esk hn1 hn6)) (cwV 0 hts gX1_times_X1_refuseEmptyStack rfl rfl rfl (by decide +kernel) ⟨Nat.le_of_ble_eq_true rfl, Nat.le_of_ble_eq_true rfl⟩) ⟨ro_blind, va_recv hK.1 hP (ci := 1) (q0 := 0) rfl rfl, ro_pre _ (hP.sub [0] rfl) hK⟩ rfl rfl hl.1 rfl (lv_room (Nat.le_of_ble_eq_true rfl)) dX1_times_1 ⟨Nat.le_of_ble_eq_true rfl, Nat.le_of_ble_eq_true rfl⟩) ?_
  refine lv_iload_n hx hb dX1_times_4 rfl (lv_at hl 1 rfl) ?_
  refine lv_iconst (v := 1) hx hb dX1_times_5 (by decide) ?_
  refine lv_sipush (v := 1000) hx hb dX1_times_6 (by decide) ?_
  refine ro_call (va_runS (As := [.int x, .int 1, .int 1000]) (rest := []) ⟨hx, hb, hml, hown, hts⟩ (c_X1_isWithin l G x 1 1000) (va_cwS 3 hts gX1_times_X1_isWithin rfl rfl rfl (by decide +kernel) ⟨Nat.le_of_ble_eq_true rfl, Nat.le_of_ble_eq_true rfl⟩) ⟨ro_blind, ro_pre _ (hP.sub [] rfl) hK⟩ rfl rfl hl.1 rfl (lv_room (Nat.le_of_ble_eq_true rfl)) dX1_times_9 ⟨Nat.le_of_ble_eq_true rfl, Nat.le_of_ble_eq_true rfl⟩) ?_
  refine lv_if_ne (tgt := 23) hx hb dX1_times_12 (by decide) (fun c_12 => ?_) (fun c_12 => ?_)
  · exact absurd (in_o1 h) c_12
  · exact vx_throw0 hx hb hlt (own := RX1) (cls := eIA) (names := nmE) (ik := 61) (ic := 63) hown (by decide) (by decide) hw0 hw1 (xat (by decide +kernel) (fun w h => hts w (List.mem_cons_of_mem _ (List.mem_append_left _ (List.mem_append_left _ (List.mem_append_right _ h))))) hxw.1.1 (xB_on _)) (by decide +kernel) hzz.1 hzz.2 va_S.rf (hl.1.trans hml.symm) dX1_times_15 dX1_times_18 dX1_times_19 dX1_times_22 (fun x h => (htab x h).elim) (Nat.le_of_ble_eq_true rfl) (Nat.le_of_ble_eq_true rfl) (Nat.le_of_ble_eq_true rfl) (Nat.le_of_ble_eq_true rfl) hlocks (tn_at) (fun z h => nomatch h) (Nat.le_of_ble_eq_true rfl) (Nat.le_of_ble_eq_true rfl)

abbrev rmX1_divide_2 : Room := { frames := 6, cells := 1, slots := 6, locals := 81 }
set_option maxHeartbeats 4000000 in
set_option maxRecDepth 100000 in
theorem c_X1_divide_2 (l : Launch) (hlt : l.stackTraces = false) (G : Gt) (bx bd bo bs bk : Nat) (ca wa : Nat → Nat) (st sk tk be so le an : Int32) (fd fo : Nat → Int32) (ro : Nat → Nat → Int32) (dg gv : Nat → Int32) (x : Int32) (n : Nat) (esk : sk = nI n) (hn6 : n ≤ 6) (hn1 : 1 ≤ n) (h : ¬ outI x 1 1000000 = 0) : vx_Met l yX1_divide wsX1_divide rmX1_divide_2 (tn_P G [.ref bx, .int x] ([(bx, .inr (1, [.ref bd, .ref bo, .ref bs, .int st, .ref bk, .int sk, .ref (ca 36), .int tk, .int be, .int so, .int le, .int an])), (bd, eI G 10 fd), (bo, eI G 10 fo), (bs, eR G 30 (fun k => some (ca k))), (bk, eR G 6 (fun k => some (ca (30 + k))))] ++ pool G ca wa ro dg gv)) tn_Qv (tn_X eIA) 1 6 (fun _ => False) := by
  refine vx_ofW (cc := cX1_divide) (maxL := 2) (ret := none) (by decide) rfl ?_
  intro p e s m args below meth c s₁ B hml htab hv
  obtain ⟨⟨rfl, hP, hK⟩, hxw, hzz⟩ := hv
  have hx := B.exec
  have hb := B.bytes
  have hr := B.returns
  have hts := atoms_spec (ws := wsX1_divide) B.pre
  have hown : s.vm.findClass RX1 = some m.cls := findClass_of_methodNamed B.named
  have hlocks := B.notSynchronized
  have hw0 := hts (.constant RX1 144 (1000000)) (by decide +kernel)
  have hw1 := hts (.classLink RX1 61 "java/lang/IllegalArgumentException") (by decide +kernel)
  have hw2 := hts (.initialized "java/lang/IllegalArgumentException") (by decide +kernel)
  have hl := lv_entry ([.ref bx, .int x]) (n := 2) (Nat.le_of_ble_eq_true rfl)
  rw [lg_entry_eq]
  generalize (lg_sl ([.ref bx, .int x]) ++ List.replicate (2 - (lg_sl ([.ref bx, .int x])).length) Slot.unset).toArray = ls at hl ⊢
  have hl : lv_has ls 2 [(0, .ref bx), (1, .int x)] := hl
  refine lv_aload_n hx hb dX1_divide_0 rfl (lv_at hl 0 rfl) ?_
  refine ro_callv (va_runV (As := []) (rest := []) ⟨hx, hb, hml, hown, hts⟩ (c_X1_refuseEmptyStack l G bx bd bo bs bk (ca 36) st sk tk be so le an (ge1 esk hn1 hn6)) (cwV 0 hts gX1_divide_X1_refuseEmptyStack rfl rfl rfl (by decide +kernel) ⟨Nat.le_of_ble_eq_true rfl, Nat.le_of_ble_eq_true rfl⟩) ⟨ro_blind, va_recv hK.1 hP (ci := 1) (q0 := 0) rfl rfl, ro_pre _ (hP.sub [0] rfl) hK⟩ rfl rfl hl.1 rfl (lv_room (Nat.le_of_ble_eq_true rfl)) dX1_divide_1 ⟨Nat.le_of_ble_eq_true rfl, Nat.le_of_ble_eq_true rfl⟩) ?_
  refine lv_iload_n hx hb dX1_divide_4 rfl (lv_at hl 1 rfl) ?_
  refine lv_iconst (v := 1) hx hb dX1_divide_5 (by decide) ?_
  refine lv_ldc (v := 1000000) hx hb hown hw0 dX1_divide_6 ?_
  refine ro_call (va_runS (As := [.int x, .int 1, .int 1000000]) (rest := []) ⟨hx, hb, hml, hown, hts⟩ (c_X1_isWithin l G x 1 1000000) (va_cwS 3 hts gX1_divide_X1_isWithin rfl rfl rfl (by decide +kernel) ⟨Nat.le_of_ble_eq_true rfl, Nat.le_of_ble_eq_true rfl⟩) ⟨ro_blind, ro_pre _ (hP.sub [] rfl) hK⟩ rfl rfl hl.1 rfl (lv_room (Nat.le_of_ble_eq_true rfl)) dX1_divide_8 ⟨Nat.le_of_ble_eq_true rfl, Nat.le_of_ble_eq_true rfl⟩) ?_
  refine lv_if_ne (tgt := 22) hx hb dX1_divide_11 (by decide) (fun c_11 => ?_) (fun c_11 => ?_)
  · exact absurd (in_o1 h) c_11
  · exact vx_throw0 hx hb hlt (own := RX1) (cls := eIA) (names := nmE) (ik := 61) (ic := 63) hown (by decide) (by decide) hw1 hw2 (xat (by decide +kernel) (fun w h => hts w (List.mem_cons_of_mem _ (List.mem_append_left _ (List.mem_append_right _ h)))) hxw.1.1 (xB_on _)) (by decide +kernel) hzz.1 hzz.2 va_S.rf (hl.1.trans hml.symm) dX1_divide_14 dX1_divide_17 dX1_divide_18 dX1_divide_21 (fun x h => (htab x h).elim) (Nat.le_of_ble_eq_true rfl) (Nat.le_of_ble_eq_true rfl) (Nat.le_of_ble_eq_true rfl) (Nat.le_of_ble_eq_true rfl) hlocks (tn_at) (fun z h => nomatch h) (Nat.le_of_ble_eq_true rfl) (Nat.le_of_ble_eq_true rfl)

abbrev rmX1_weaken_2 : Room := { frames := 6, cells := 1, slots := 6, locals := 81 }
set_option maxHeartbeats 4000000 in
set_option maxRecDepth 100000 in
theorem c_X1_weaken_2 (l : Launch) (hlt : l.stackTraces = false) (G : Gt) (bx bd bo bs bk : Nat) (ca wa : Nat → Nat) (st sk tk be so le an : Int32) (fd fo : Nat → Int32) (ro : Nat → Nat → Int32) (dg gv : Nat → Int32) (x : Int32) (n : Nat) (esk : sk = nI n) (hn6 : n ≤ 6) (hn1 : 1 ≤ n) (h : ¬ outI x 0 9 = 0) : vx_Met l yX1_weaken wsX1_weaken rmX1_weaken_2 (tn_P G [.ref bx, .int x] ([(bx, .inr (1, [.ref bd, .ref bo, .ref bs, .int st, .ref bk, .int sk, .ref (ca 36), .int tk, .int be, .int so, .int le, .int an])), (bd, eI G 10 fd), (bo, eI G 10 fo), (bs, eR G 30 (fun k => some (ca k))), (bk, eR G 6 (fun k => some (ca (30 + k))))] ++ pool G ca wa ro dg gv)) tn_Qv (tn_X eNS) 1 6 (fun _ => False) := by
  refine vx_ofW (cc := cX1_weaken) (maxL := 2) (ret := none) (by decide) rfl ?_
  intro p e s m args below meth c s₁ B hml htab hv
  obtain ⟨⟨rfl, hP, hK⟩, hxw, hzz⟩ := hv
  have hx := B.exec
  have hb := B.bytes
  have hr := B.returns
  have hts := atoms_spec (ws := wsX1_weaken) B.pre
  have hown : s.vm.findClass RX1 = some m.cls := findClass_of_methodNamed B.named
  have hlocks := B.notSynchronized
  have hw0 := hts (.classLink RX1 99 "java/util/NoSuchElementException") (by decide +kernel)
  have hw1 := hts (.initialized "java/util/NoSuchElementException") (by decide +kernel)
  have hl := lv_entry ([.ref bx, .int x]) (n := 2) (Nat.le_of_ble_eq_true rfl)
  rw [lg_entry_eq]
  generalize (lg_sl ([.ref bx, .int x]) ++ List.replicate (2 - (lg_sl ([.ref bx, .int x])).length) Slot.unset).toArray = ls at hl ⊢
  have hl : lv_has ls 2 [(0, .ref bx), (1, .int x)] := hl
  refine lv_aload_n hx hb dX1_weaken_0 rfl (lv_at hl 0 rfl) ?_
  refine ro_callv (va_runV (As := []) (rest := []) ⟨hx, hb, hml, hown, hts⟩ (c_X1_refuseEmptyStack l G bx bd bo bs bk (ca 36) st sk tk be so le an (ge1 esk hn1 hn6)) (cwV 0 hts gX1_weaken_X1_refuseEmptyStack rfl rfl rfl (by decide +kernel) ⟨Nat.le_of_ble_eq_true rfl, Nat.le_of_ble_eq_true rfl⟩) ⟨ro_blind, va_recv hK.1 hP (ci := 1) (q0 := 0) rfl rfl, ro_pre _ (hP.sub [0] rfl) hK⟩ rfl rfl hl.1 rfl (lv_room (Nat.le_of_ble_eq_true rfl)) dX1_weaken_1 ⟨Nat.le_of_ble_eq_true rfl, Nat.le_of_ble_eq_true rfl⟩) ?_
  refine lv_iload_n hx hb dX1_weaken_4 rfl (lv_at hl 1 rfl) ?_
  refine ro_call (va_runS (As := [.int x]) (rest := []) ⟨hx, hb, hml, hown, hts⟩ (c_X1_isVariable l G x) (va_cwS 1 hts gX1_weaken_X1_isVariable rfl rfl rfl (by decide +kernel) ⟨Nat.le_of_ble_eq_true rfl, Nat.le_of_ble_eq_true rfl⟩) ⟨ro_blind, ro_pre _ (hP.sub [] rfl) hK⟩ rfl rfl hl.1 rfl (lv_room (Nat.le_of_ble_eq_true rfl)) dX1_weaken_5 ⟨Nat.le_of_ble_eq_true rfl, Nat.le_of_ble_eq_true rfl⟩) ?_
  refine lv_if_ne (tgt := 19) hx hb dX1_weaken_8 (by decide) (fun c_8 => ?_) (fun c_8 => ?_)
  · exact absurd (in_o1 h) c_8
  · exact vx_throw0 hx hb hlt (own := RX1) (cls := eNS) (names := nmE) (ik := 99) (ic := 101) hown (by decide) (by decide) hw0 hw1 (xat (by decide +kernel) (fun w h => hts w (List.mem_cons_of_mem _ (List.mem_append_left _ (List.mem_append_right _ h)))) hxw.1.2.2.1 (xB_on _)) (by decide +kernel) hzz.1 hzz.2 va_S.rf (hl.1.trans hml.symm) dX1_weaken_11 dX1_weaken_14 dX1_weaken_15 dX1_weaken_18 (fun x h => (htab x h).elim) (Nat.le_of_ble_eq_true rfl) (Nat.le_of_ble_eq_true rfl) (Nat.le_of_ble_eq_true rfl) (Nat.le_of_ble_eq_true rfl) hlocks (tn_at) (fun z h => nomatch h) (Nat.le_of_ble_eq_true rfl) (Nat.le_of_ble_eq_true rfl)

abbrev rmX1_times_3 : Room := { frames := 7, cells := 1, slots := 6, locals := 101 }
set_option maxHeartbeats 4000000 in
set_option maxRecDepth 100000 in
theorem c_X1_times_3 (l : Launch) (hlt : l.stackTraces = false) (G : Gt) (sz : Nat) (bx bd bo bs bk : Nat) (ca wa : Nat → Nat) (st sk tk be so le an : Int32) (fd fo : Nat → Int32) (ro : Nat → Nat → Int32) (dg gv : Nat → Int32) (x : Int32) (n : Nat) (esk : sk = nI n) (hn6 : n ≤ 6) (hn1 : 1 ≤ n) (h1 : outI x 1 1000 = 0) (hbig : tlI (mixf 10 (fun v => x * (ro (30 + (n - 1)) v)) (ro 36)) (x * (dg (30 + (n - 1)))) = true) : vx_Met l yX1_times wsX1_times rmX1_times_3 (tw_P G sz [.ref bx, .int x] ([(bx, .inr (1, [.ref bd, .ref bo, .ref bs, .int st, .ref bk, .int sk, .ref (ca 36), .int tk, .int be, .int so, .int le, .int an])), (bd, eI G 10 fd), (bo, eI G 10 fo), (bs, eR G 30 (fun k => some (ca k))), (bk, eR G 6 (fun k => some (ca (30 + k))))] ++ pool G ca wa ro dg gv)) tn_Qv (tw_X G eAR ([(bx, .inr (1, [.ref bd, .ref bo, .ref bs, .int st, .ref bk, .int sk, .ref (ca 36), .int tk, .int be, .int so, .int le, .int an])), (bd, eI G 10 fd), (bo, eI G 10 fo), (bs, eR G 30 (fun k => some (ca k))), (bk, eR G 6 (fun k => some (ca (30 + k))))] ++ pool G ca wa (va_up ro 36 (mixf 10 (fun v => x * (ro (30 + (n - 1)) v)) (ro 36))) (va_up dg 36 (x * (dg (30 + (n - 1))))) gv) (va_A ([(bx, .inr (1, [.ref bd, .ref bo, .ref bs, .int st, .ref bk, .int sk, .ref (ca 36), .int tk, .int be, .int so, .int le, .int an])), (bd, eI G 10 fd), (bo, eI G 10 fo), (bs, eR G 30 (fun k => some (ca k))), (bk, eR G 6 (fun k => some (ca (30 + k))))] ++ pool G ca wa ro dg gv) sz)) 1 6 (va_A ([(bx, .inr (1, [.ref bd, .ref bo, .ref bs, .int st, .ref bk, .int sk, .ref (ca 36), .int tk, .int be, .int so, .int le, .int an])), (bd, eI G 10 fd), (bo, eI G 10 fo), (bs, eR G 30 (fun k => some (ca k))), (bk, eR G 6 (fun k => some (ca (30 + k))))] ++ pool G ca wa ro dg gv) sz) := by
  refine vx_ofW (cc := cX1_times) (maxL := 2) (ret := none) (by decide) rfl ?_
  intro p e s m args below meth c s₁ B hml htab hv
  obtain ⟨⟨rfl, hsz, hP, hD0, hK⟩, hxw, hzz⟩ := hv
  have hx := B.exec
  have hb := B.bytes
  have hr := B.returns
  have hts := atoms_spec (ws := wsX1_times) B.pre
  have hown : s.vm.findClass RX1 = some m.cls := findClass_of_methodNamed B.named
  have hlocks := B.notSynchronized
  subst hsz
  have hD := hD0.self (sz := s.heap.size)
  generalize hAe : va_A ([(bx, .inr (1, [.ref bd, .ref bo, .ref bs, .int st, .ref bk, .int sk, .ref (ca 36), .int tk, .int be, .int so, .int le, .int an])), (bd, eI G 10 fd), (bo, eI G 10 fo), (bs, eR G 30 (fun k => some (ca k))), (bk, eR G 6 (fun k => some (ca (30 + k))))] ++ pool G ca wa ro dg gv) s.heap.size = A at hD hzz ⊢
  have hA : ∀ q : Nat, s.heap.size ≤ q → A q := fun q h => by rw [← hAe]; exact Or.inr h
  have hS : va_S A s.heap s.heap [] := va_S.rf
  have hinX1 : ∀ w ∈ u_ws RX1 TX1 12, w ∈ wsX1_times := fun w h => List.mem_cons_of_mem _ (List.mem_append_left _ (List.mem_append_left _ (List.mem_append_left _ (List.mem_append_left _ (List.mem_append_right _ h)))))
  have hw1 := hts (.fieldLink RX1 33 "ChoiceBoard" "scratch" "LChoiceBoard$Constraint;") (by decide +kernel)
  have hw2 := hts (.fieldLink RX1 26 "ChoiceBoard" "stack" "[LChoiceBoard$Constraint;") (by decide +kernel)
  have hw3 := hts (.fieldLink RX1 29 "ChoiceBoard" "stacked" "I") (by decide +kernel)
  have hl := lv_entry ([.ref bx, .int x]) (n := 2) (Nat.le_of_ble_eq_true rfl)
  rw [lg_entry_eq]
  generalize (lg_sl ([.ref bx, .int x]) ++ List.replicate (2 - (lg_sl ([.ref bx, .int x])).length) Slot.unset).toArray = ls at hl ⊢
  have hl : lv_has ls 2 [(0, .ref bx), (1, .int x)] := hl
  refine lv_aload_n hx hb dX1_times_0 rfl (lv_at hl 0 rfl) ?_
  refine ro_callv (va_runV (As := []) (rest := []) ⟨hx, hb, hml, hown, hts⟩ (c_X1_refuseEmptyStack l G bx bd bo bs bk (ca 36) st sk tk be so le an (ge1 esk hn1 hn6)) (cwV 0 hts gX1_times_X1_refuseEmptyStack rfl rfl rfl (by decide +kernel) ⟨Nat.le_of_ble_eq_true rfl, Nat.le_of_ble_eq_true rfl⟩) ⟨ro_blind, va_recv hK.1 hP (ci := 1) (q0 := 0) rfl rfl, ro_pre _ (hP.sub [0] rfl) hK⟩ rfl rfl hl.1 rfl (lv_room (Nat.le_of_ble_eq_true rfl)) dX1_times_1 ⟨Nat.le_of_ble_eq_true rfl, Nat.le_of_ble_eq_true rfl⟩) ?_
  refine lv_iload_n hx hb dX1_times_4 rfl (lv_at hl 1 rfl) ?_
  refine lv_iconst (v := 1) hx hb dX1_times_5 (by decide) ?_
  refine lv_sipush (v := 1000) hx hb dX1_times_6 (by decide) ?_
  refine ro_call (va_runS (As := [.int x, .int 1, .int 1000]) (rest := []) ⟨hx, hb, hml, hown, hts⟩ (c_X1_isWithin l G x 1 1000) (va_cwS 3 hts gX1_times_X1_isWithin rfl rfl rfl (by decide +kernel) ⟨Nat.le_of_ble_eq_true rfl, Nat.le_of_ble_eq_true rfl⟩) ⟨ro_blind, ro_pre _ (hP.sub [] rfl) hK⟩ rfl rfl hl.1 rfl (lv_room (Nat.le_of_ble_eq_true rfl)) dX1_times_9 ⟨Nat.le_of_ble_eq_true rfl, Nat.le_of_ble_eq_true rfl⟩) ?_
  refine lv_if_ne (tgt := 23) hx hb dX1_times_12 (by decide) (fun c_12 => ?_) (fun c_12 => ?_)
  · refine lv_aload_n hx hb dX1_times_23 rfl (lv_at hl 0 rfl) ?_
    refine va_get (D := G.1) (ci := 1) (v := .ref (ca 36)) (C := RX1) (T := TX1) (N := 12) hx hb hts hinX1 hown hK.1 hP 0 rfl rfl 6 (by decide) hw1 (fun _ h9 => h9) rfl dX1_times_24 ?_
    refine lv_aload_n hx hb dX1_times_27 rfl (lv_at hl 0 rfl) ?_
    refine va_get (D := G.1) (ci := 1) (v := .ref bk) (C := RX1) (T := TX1) (N := 12) hx hb hts hinX1 hown hK.1 hP 0 rfl rfl 4 (by decide) hw2 (fun _ h9 => h9) rfl dX1_times_28 ?_
    refine lv_aload_n hx hb dX1_times_31 rfl (lv_at hl 0 rfl) ?_
    refine va_get (D := G.1) (ci := 1) (v := .int sk) (C := RX1) (T := TX1) (N := 12) hx hb hts hinX1 hown hK.1 hP 0 rfl rfl 5 (by decide) hw3 (fun _ h9 => h9) rfl dX1_times_32 ?_
    refine lv_iconst (v := 1) hx hb dX1_times_35 (by decide) ?_
    refine lv_isub hx hb dX1_times_36 ?_
    refine ra_aald (v := (n - 1)) (b := ca (30 + (n - 1))) hx hb hK.1 hP 4 2 rfl rfl (na_pred esk (by omega)) (by omega) (by decide) rfl dX1_times_37 ?_
    refine lv_iload_n hx hb dX1_times_38 rfl (lv_at hl 1 rfl) ?_
    refine mu_call (va_runV (As := [.ref (ca (30 + (n - 1))), .int x]) (rest := []) ⟨hx, hb, hml, hown, hts⟩ (c_X0_becomeMultiple l G _ (ca 36) (wa 36) (dg 36) (gv 36) (ro 36) (ca (30 + (n - 1))) (wa (30 + (n - 1))) (dg (30 + (n - 1))) (gv (30 + (n - 1))) (ro (30 + (n - 1))) x) (cwV 2 hts gX1_times_X0_becomeMultiple rfl rfl rfl (by decide +kernel) ⟨Nat.le_of_ble_eq_true rfl, Nat.le_of_ble_eq_true rfl⟩) ⟨mu_blind, va_recv hK.1 hP (ci := 0) (q0 := 5 + 36) rfl (pool_c rfl (by omega)), mu_pre _ (lcP [5 + 36, 42 + 36, 5 + (30 + (n - 1)), 42 + (30 + (n - 1))] hP (lc (pool_c rfl (by omega)) (lc (pool_w rfl (by omega)) (lc (pool_c rfl (by omega)) (lc (pool_w rfl (by omega)) rfl))))) (hD.sub [5 + 36, 42 + 36, 5 + (30 + (n - 1)), 42 + (30 + (n - 1))] (nd4 (by omega) (by omega) (by omega)) (lc (pool_c rfl (by omega)) (lc (pool_w rfl (by omega)) (lc (pool_c rfl (by omega)) (lc (pool_w rfl (by omega)) rfl))))) hK⟩ rfl rfl hl.1 rfl (lv_room (Nat.le_of_ble_eq_true rfl)) dX1_times_39 ⟨Nat.le_of_ble_eq_true rfl, Nat.le_of_ble_eq_true rfl⟩) hS (va_free hD hS hA [5 + 36, 42 + 36, 5 + (30 + (n - 1)), 42 + (30 + (n - 1))] (lc (pool_c rfl (by omega)) (lc (pool_w rfl (by omega)) (lc (pool_c rfl (by omega)) (lc (pool_w rfl (by omega)) rfl))))) (va_free hD hS hA [5 + 36, 42 + 36, 5 + (30 + (n - 1)), 42 + (30 + (n - 1))] (lc (pool_c rfl (by omega)) (lc (pool_w rfl (by omega)) (lc (pool_c rfl (by omega)) (lc (pool_w rfl (by omega)) rfl))))) (fun H1 locs hP1 hD1 hk1 hS => ?_)
    obtain ⟨hP, hD⟩ := pj (k := 36) (is' := [5 + (30 + (n - 1)), 42 + (30 + (n - 1))]) (wc := [(ca 36, .inr (0, [.ref (wa 36), .int (dg 36), .int (gv 36)])), (wa 36, eI G 10 (ro 36)), (ca (30 + (n - 1)), .inr (0, [.ref (wa (30 + (n - 1))), .int (dg (30 + (n - 1))), .int (gv (30 + (n - 1)))])), (wa (30 + (n - 1)), eI G 10 (ro (30 + (n - 1))))]) rfl (by omega) hP hD (lc (pool_c rfl (by omega)) (lc (pool_w rfl (by omega)) (lc (pool_c rfl (by omega)) (lc (pool_w rfl (by omega)) rfl)))) hk1 hP1 rfl rfl (fun j q h => ⟨j + 2, h⟩)
    rw [upS gv 36] at hP hD
    generalize H1 = H at hP hS ⊢
    have hP : va_P G.1 vwCl ([(bx, .inr (1, [.ref bd, .ref bo, .ref bs, .int st, .ref bk, .int sk, .ref (ca 36), .int tk, .int be, .int so, .int le, .int an])), (bd, eI G 10 fd), (bo, eI G 10 fo), (bs, eR G 30 (fun k => some (ca k))), (bk, eR G 6 (fun k => some (ca (30 + k))))] ++ pool G ca wa (va_up ro 36 (mixf 10 (fun v => x * ((ro (30 + (n - 1))) v)) (ro 36))) (va_up dg 36 (x * (dg (30 + (n - 1))))) gv) H := hP
    have hD : va_D A ([(bx, .inr (1, [.ref bd, .ref bo, .ref bs, .int st, .ref bk, .int sk, .ref (ca 36), .int tk, .int be, .int so, .int le, .int an])), (bd, eI G 10 fd), (bo, eI G 10 fo), (bs, eR G 30 (fun k => some (ca k))), (bk, eR G 6 (fun k => some (ca (30 + k))))] ++ pool G ca wa (va_up ro 36 (mixf 10 (fun v => x * ((ro (30 + (n - 1))) v)) (ro 36))) (va_up dg 36 (x * (dg (30 + (n - 1))))) gv) := hD
    refine lv_aload_n hx hb dX1_times_42 rfl (lv_at hl 0 rfl) ?_
    exact tw_callv (vx_runV (As := []) (rest := []) ⟨hx, hb, hml, hown, hts⟩ (c_X1_refuseTooLargeScratch_t l hlt G bx bd bo bs bk ca wa st sk tk be so le an fd fo (va_up ro 36 (mixf 10 (fun v => x * ((ro (30 + (n - 1))) v)) (ro 36))) (va_up dg 36 (x * (dg (30 + (n - 1))))) gv (by rw [va_up_self, va_up_self]; exact hbig)) (cwV 0 hts gX1_times_X1_refuseTooLargeScratch rfl rfl rfl (by decide +kernel) ⟨Nat.le_of_ble_eq_true rfl, Nat.le_of_ble_eq_true rfl⟩) ⟨tn_blind, va_recv hK.1 hP (ci := 1) (q0 := 0) rfl rfl, tn_pre _ hP hK hxw ((hzz.kept hS.2.1).narrow (fun _ h => h.elim))⟩ rfl rfl hl.1 rfl (lv_room (Nat.le_of_ble_eq_true rfl)) dX1_times_43 ⟨Nat.le_of_ble_eq_true rfl, Nat.le_of_ble_eq_true rfl⟩) (fun x h => (htab x h).elim) hlocks hS hP hD
  · exact absurd c_12 (in_o0 h1)

abbrev rmX1_top_1 : Room := { frames := 6, cells := 1, slots := 6, locals := 81 }
set_option maxHeartbeats 4000000 in
set_option maxRecDepth 100000 in
theorem c_X1_top_1 (l : Launch) (hlt : l.stackTraces = false) (G : Gt) (bx bd bo bs bk : Nat) (ca wa : Nat → Nat) (st sk tk be so le an : Int32) (fd fo : Nat → Int32) (ro : Nat → Nat → Int32) (dg gv : Nat → Int32) (x : Int32) (h : ¬ outI x (-2) 9 = 0) : vx_Met l yX1_top wsX1_top rmX1_top_1 (tn_P G [.ref bx, .int x] ([(bx, .inr (1, [.ref bd, .ref bo, .ref bs, .int st, .ref bk, .int sk, .ref (ca 36), .int tk, .int be, .int so, .int le, .int an])), (bd, eI G 10 fd), (bo, eI G 10 fo), (bs, eR G 30 (fun k => some (ca k))), (bk, eR G 6 (fun k => some (ca (30 + k))))] ++ pool G ca wa ro dg gv)) tn_Qv (tn_X eIA) 1 6 (fun _ => False) := by
  refine vx_ofW (cc := cX1_top) (maxL := 2) (ret := (some .int)) (by decide) rfl ?_
  intro p e s m args below meth c s₁ B hml htab hv
  obtain ⟨⟨rfl, hP, hK⟩, hxw, hzz⟩ := hv
  have hx := B.exec
  have hb := B.bytes
  have hr := B.returns
  have hts := atoms_spec (ws := wsX1_top) B.pre
  have hown : s.vm.findClass RX1 = some m.cls := findClass_of_methodNamed B.named
  have hlocks := B.notSynchronized
  have hw0 := hts (.classLink RX1 61 "java/lang/IllegalArgumentException") (by decide +kernel)
  have hw1 := hts (.initialized "java/lang/IllegalArgumentException") (by decide +kernel)
  have hl := lv_entry ([.ref bx, .int x]) (n := 2) (Nat.le_of_ble_eq_true rfl)
  rw [lg_entry_eq]
  generalize (lg_sl ([.ref bx, .int x]) ++ List.replicate (2 - (lg_sl ([.ref bx, .int x])).length) Slot.unset).toArray = ls at hl ⊢
  have hl : lv_has ls 2 [(0, .ref bx), (1, .int x)] := hl
  refine lv_iload_n hx hb dX1_top_0 rfl (lv_at hl 1 rfl) ?_
  refine ro_call (va_runS (As := [.int x]) (rest := []) ⟨hx, hb, hml, hown, hts⟩ (c_X1_isQuestion l G x) (va_cwS 1 hts gX1_top_X1_isQuestion rfl rfl rfl (by decide +kernel) ⟨Nat.le_of_ble_eq_true rfl, Nat.le_of_ble_eq_true rfl⟩) ⟨ro_blind, ro_pre _ (hP.sub [] rfl) hK⟩ rfl rfl hl.1 rfl (lv_room (Nat.le_of_ble_eq_true rfl)) dX1_top_1 ⟨Nat.le_of_ble_eq_true rfl, Nat.le_of_ble_eq_true rfl⟩) ?_
  refine lv_if_ne (tgt := 15) hx hb dX1_top_4 (by decide) (fun c_4 => ?_) (fun c_4 => ?_)
  · exact absurd (in_o1 h) c_4
  · exact vx_throw0 hx hb hlt (own := RX1) (cls := eIA) (names := nmE) (ik := 61) (ic := 63) hown (by decide) (by decide) hw0 hw1 (xat (by decide +kernel) (fun w h => hts w (List.mem_cons_of_mem _ (List.mem_append_left _ (List.mem_append_right _ h)))) hxw.1.1 (xB_on _)) (by decide +kernel) hzz.1 hzz.2 va_S.rf (hl.1.trans hml.symm) dX1_top_7 dX1_top_10 dX1_top_11 dX1_top_14 (fun x h => (htab x h).elim) (Nat.le_of_ble_eq_true rfl) (Nat.le_of_ble_eq_true rfl) (Nat.le_of_ble_eq_true rfl) (Nat.le_of_ble_eq_true rfl) hlocks (tn_at) (fun z h => nomatch h) (Nat.le_of_ble_eq_true rfl) (Nat.le_of_ble_eq_true rfl)

abbrev rmX1_top_2 : Room := { frames := 7, cells := 1, slots := 6, locals := 101 }
set_option maxHeartbeats 4000000 in
set_option maxRecDepth 100000 in
theorem c_X1_top_2 (l : Launch) (hlt : l.stackTraces = false) (G : Gt) (bx bd bo bs bk : Nat) (ca wa : Nat → Nat) (st sk tk be so le an : Int32) (fd fo : Nat → Int32) (ro : Nat → Nat → Int32) (dg gv : Nat → Int32) (x : Int32) (h1 : outI x (-2) 9 = 0) (hx2 : ¬ x = -2) (h : sk < 1) : vx_Met l yX1_top wsX1_top rmX1_top_2 (tn_P G [.ref bx, .int x] ([(bx, .inr (1, [.ref bd, .ref bo, .ref bs, .int st, .ref bk, .int sk, .ref (ca 36), .int tk, .int be, .int so, .int le, .int an])), (bd, eI G 10 fd), (bo, eI G 10 fo), (bs, eR G 30 (fun k => some (ca k))), (bk, eR G 6 (fun k => some (ca (30 + k))))] ++ pool G ca wa ro dg gv)) tn_Qv (tn_X eIS) 1 6 (fun _ => False) := by
  refine vx_ofW (cc := cX1_top) (maxL := 2) (ret := (some .int)) (by decide) rfl ?_
  intro p e s m args below meth c s₁ B hml htab hv
  obtain ⟨⟨rfl, hP, hK⟩, hxw, hzz⟩ := hv
  have hx := B.exec
  have hb := B.bytes
  have hr := B.returns
  have hts := atoms_spec (ws := wsX1_top) B.pre
  have hown : s.vm.findClass RX1 = some m.cls := findClass_of_methodNamed B.named
  have hlocks := B.notSynchronized
  have hl := lv_entry ([.ref bx, .int x]) (n := 2) (Nat.le_of_ble_eq_true rfl)
  rw [lg_entry_eq]
  generalize (lg_sl ([.ref bx, .int x]) ++ List.replicate (2 - (lg_sl ([.ref bx, .int x])).length) Slot.unset).toArray = ls at hl ⊢
  have hl : lv_has ls 2 [(0, .ref bx), (1, .int x)] := hl
  refine lv_iload_n hx hb dX1_top_0 rfl (lv_at hl 1 rfl) ?_
  refine ro_call (va_runS (As := [.int x]) (rest := []) ⟨hx, hb, hml, hown, hts⟩ (c_X1_isQuestion l G x) (va_cwS 1 hts gX1_top_X1_isQuestion rfl rfl rfl (by decide +kernel) ⟨Nat.le_of_ble_eq_true rfl, Nat.le_of_ble_eq_true rfl⟩) ⟨ro_blind, ro_pre _ (hP.sub [] rfl) hK⟩ rfl rfl hl.1 rfl (lv_room (Nat.le_of_ble_eq_true rfl)) dX1_top_1 ⟨Nat.le_of_ble_eq_true rfl, Nat.le_of_ble_eq_true rfl⟩) ?_
  refine lv_if_ne (tgt := 15) hx hb dX1_top_4 (by decide) (fun c_4 => ?_) (fun c_4 => ?_)
  · refine lv_iload_n hx hb dX1_top_15 rfl (lv_at hl 1 rfl) ?_
    refine lv_bipush (v := (-2)) hx hb dX1_top_16 (by decide) ?_
    refine lv_icmp_ne (tgt := 26) hx hb dX1_top_18 (by decide) (fun c_18 => ?_) (fun c_18 => ?_)
    · refine lv_aload_n hx hb dX1_top_26 rfl (lv_at hl 0 rfl) ?_
      exact tn_callv (vx_runV (As := []) (rest := []) ⟨hx, hb, hml, hown, hts⟩ (c_X1_refuseEmptyStack_t l hlt G bx bd bo bs bk (ca 36) st sk tk be so le an h) (cwV 0 hts gX1_top_X1_refuseEmptyStack rfl rfl rfl (by decide +kernel) ⟨Nat.le_of_ble_eq_true rfl, Nat.le_of_ble_eq_true rfl⟩) ⟨tn_blind, va_recv hK.1 hP (ci := 1) (q0 := 0) rfl rfl, tn_pre _ (hP.sub [0] rfl) hK hxw hzz⟩ rfl rfl hl.1 rfl (lv_room (Nat.le_of_ble_eq_true rfl)) dX1_top_27 ⟨Nat.le_of_ble_eq_true rfl, Nat.le_of_ble_eq_true rfl⟩) (fun x h => (htab x h).elim) hlocks
    · exact absurd c_18 hx2
  · exact absurd c_4 (in_o0 h1)

abbrev rmX1_learn_1b : Room := { frames := 7, cells := 1, slots := 6, locals := 101 }
set_option maxHeartbeats 4000000 in
set_option maxRecDepth 100000 in
theorem c_X1_learn_1b (l : Launch) (hlt : l.stackTraces = false) (G : Gt) (bx bd bo bs bk : Nat) (ca wa : Nat → Nat) (st sk tk be so le an : Int32) (fd fo : Nat → Int32) (ro : Nat → Nat → Int32) (dg gv : Nat → Int32) (n : Nat) (esk : sk = nI n) (hn6 : n ≤ 6) (hn1 : 1 ≤ n) (h : st = 30) : vx_Met l yX1_learn wsX1_learn rmX1_learn_1b (tn_P G [.ref bx] ([(bx, .inr (1, [.ref bd, .ref bo, .ref bs, .int st, .ref bk, .int sk, .ref (ca 36), .int tk, .int be, .int so, .int le, .int an])), (bd, eI G 10 fd), (bo, eI G 10 fo), (bs, eR G 30 (fun k => some (ca k))), (bk, eR G 6 (fun k => some (ca (30 + k))))] ++ pool G ca wa ro dg gv)) tn_Qv (tn_X eIS) 1 6 (fun _ => False) := by
  refine vx_ofW (cc := cX1_learn) (maxL := 1) (ret := (some .int)) (by decide) rfl ?_
  intro p e s m args below meth c s₁ B hml htab hv
  obtain ⟨⟨rfl, hP, hK⟩, hxw, hzz⟩ := hv
  have hx := B.exec
  have hb := B.bytes
  have hr := B.returns
  have hts := atoms_spec (ws := wsX1_learn) B.pre
  have hown : s.vm.findClass RX1 = some m.cls := findClass_of_methodNamed B.named
  have hlocks := B.notSynchronized
  have hl := lv_entry ([.ref bx]) (n := 1) (Nat.le_of_ble_eq_true rfl)
  rw [lg_entry_eq]
  generalize (lg_sl ([.ref bx]) ++ List.replicate (1 - (lg_sl ([.ref bx])).length) Slot.unset).toArray = ls at hl ⊢
  have hl : lv_has ls 1 [(0, .ref bx)] := hl
  refine lv_aload_n hx hb dX1_learn_0 rfl (lv_at hl 0 rfl) ?_
  refine ro_callv (va_runV (As := []) (rest := []) ⟨hx, hb, hml, hown, hts⟩ (c_X1_refuseEmptyStack l G bx bd bo bs bk (ca 36) st sk tk be so le an (ge1 esk hn1 hn6)) (cwV 0 hts gX1_learn_X1_refuseEmptyStack rfl rfl rfl (by decide +kernel) ⟨Nat.le_of_ble_eq_true rfl, Nat.le_of_ble_eq_true rfl⟩) ⟨ro_blind, va_recv hK.1 hP (ci := 1) (q0 := 0) rfl rfl, ro_pre _ (hP.sub [0] rfl) hK⟩ rfl rfl hl.1 rfl (lv_room (Nat.le_of_ble_eq_true rfl)) dX1_learn_1 ⟨Nat.le_of_ble_eq_true rfl, Nat.le_of_ble_eq_true rfl⟩) ?_
  refine lv_aload_n hx hb dX1_learn_4 rfl (lv_at hl 0 rfl) ?_
  exact tn_callv (vx_runV (As := []) (rest := []) ⟨hx, hb, hml, hown, hts⟩ (c_X1_refuseFullStore_t l hlt G bx bd bo bs bk (ca 36) st sk tk be so le an h) (cwV 0 hts gX1_learn_X1_refuseFullStore rfl rfl rfl (by decide +kernel) ⟨Nat.le_of_ble_eq_true rfl, Nat.le_of_ble_eq_true rfl⟩) ⟨tn_blind, va_recv hK.1 hP (ci := 1) (q0 := 0) rfl rfl, tn_pre _ (hP.sub [0] rfl) hK hxw hzz⟩ rfl rfl hl.1 rfl (lv_room (Nat.le_of_ble_eq_true rfl)) dX1_learn_5 ⟨Nat.le_of_ble_eq_true rfl, Nat.le_of_ble_eq_true rfl⟩) (fun x h => (htab x h).elim) hlocks

abbrev rmX1_contradict_1 : Room := { frames := 6, cells := 1, slots := 6, locals := 81 }
set_option maxHeartbeats 4000000 in
set_option maxRecDepth 100000 in
theorem c_X1_contradict_1 (l : Launch) (hlt : l.stackTraces = false) (G : Gt) (bx bd bo bs bk : Nat) (ca wa : Nat → Nat) (st sk tk be so le an : Int32) (fd fo : Nat → Int32) (ro : Nat → Nat → Int32) (dg gv : Nat → Int32) (x : Int32) (h : ¬ outI x (-9999) 9999 = 0) : vx_Met l yX1_contradict wsX1_contradict rmX1_contradict_1 (tn_P G [.ref bx, .int x] ([(bx, .inr (1, [.ref bd, .ref bo, .ref bs, .int st, .ref bk, .int sk, .ref (ca 36), .int tk, .int be, .int so, .int le, .int an])), (bd, eI G 10 fd), (bo, eI G 10 fo), (bs, eR G 30 (fun k => some (ca k))), (bk, eR G 6 (fun k => some (ca (30 + k))))] ++ pool G ca wa ro dg gv)) tn_Qv (tn_X eIA) 1 6 (fun _ => False) := by
  refine vx_ofW (cc := cX1_contradict) (maxL := 2) (ret := (some .int)) (by decide) rfl ?_
  intro p e s m args below meth c s₁ B hml htab hv
  obtain ⟨⟨rfl, hP, hK⟩, hxw, hzz⟩ := hv
  have hx := B.exec
  have hb := B.bytes
  have hr := B.returns
  have hts := atoms_spec (ws := wsX1_contradict) B.pre
  have hown : s.vm.findClass RX1 = some m.cls := findClass_of_methodNamed B.named
  have hlocks := B.notSynchronized
  have hw0 := hts (.classLink RX1 61 "java/lang/IllegalArgumentException") (by decide +kernel)
  have hw1 := hts (.initialized "java/lang/IllegalArgumentException") (by decide +kernel)
  have hl := lv_entry ([.ref bx, .int x]) (n := 2) (Nat.le_of_ble_eq_true rfl)
  rw [lg_entry_eq]
  generalize (lg_sl ([.ref bx, .int x]) ++ List.replicate (2 - (lg_sl ([.ref bx, .int x])).length) Slot.unset).toArray = ls at hl ⊢
  have hl : lv_has ls 2 [(0, .ref bx), (1, .int x)] := hl
  refine lv_iload_n hx hb dX1_contradict_0 rfl (lv_at hl 1 rfl) ?_
  refine lv_sipush (v := (-9999)) hx hb dX1_contradict_1 (by decide) ?_
  refine lv_sipush (v := 9999) hx hb dX1_contradict_4 (by decide) ?_
  refine ro_call (va_runS (As := [.int x, .int (-9999), .int 9999]) (rest := []) ⟨hx, hb, hml, hown, hts⟩ (c_X1_isWithin l G x (-9999) 9999) (va_cwS 3 hts gX1_contradict_X1_isWithin rfl rfl rfl (by decide +kernel) ⟨Nat.le_of_ble_eq_true rfl, Nat.le_of_ble_eq_true rfl⟩) ⟨ro_blind, ro_pre _ (hP.sub [] rfl) hK⟩ rfl rfl hl.1 rfl (lv_room (Nat.le_of_ble_eq_true rfl)) dX1_contradict_7 ⟨Nat.le_of_ble_eq_true rfl, Nat.le_of_ble_eq_true rfl⟩) ?_
  refine lv_if_ne (tgt := 21) hx hb dX1_contradict_10 (by decide) (fun c_10 => ?_) (fun c_10 => ?_)
  · exact absurd (in_o1 h) c_10
  · exact vx_throw0 hx hb hlt (own := RX1) (cls := eIA) (names := nmE) (ik := 61) (ic := 63) hown (by decide) (by decide) hw0 hw1 (xat (by decide +kernel) (fun w h => hts w (List.mem_cons_of_mem _ (List.mem_append_left _ (List.mem_append_right _ h)))) hxw.1.1 (xB_on _)) (by decide +kernel) hzz.1 hzz.2 va_S.rf (hl.1.trans hml.symm) dX1_contradict_13 dX1_contradict_16 dX1_contradict_17 dX1_contradict_20 (fun x h => (htab x h).elim) (Nat.le_of_ble_eq_true rfl) (Nat.le_of_ble_eq_true rfl) (Nat.le_of_ble_eq_true rfl) (Nat.le_of_ble_eq_true rfl) hlocks (tn_at) (fun z h => nomatch h) (Nat.le_of_ble_eq_true rfl) (Nat.le_of_ble_eq_true rfl)

abbrev rmX1_contradict_2 : Room := { frames := 7, cells := 1, slots := 6, locals := 101 }
set_option maxHeartbeats 4000000 in
set_option maxRecDepth 100000 in
theorem c_X1_contradict_2 (l : Launch) (hlt : l.stackTraces = false) (G : Gt) (bx bd bo bs bk : Nat) (ca wa : Nat → Nat) (st sk tk be so le an : Int32) (fd fo : Nat → Int32) (ro : Nat → Nat → Int32) (dg gv : Nat → Int32) (x : Int32) (h1 : outI x (-9999) 9999 = 0) (h : st = 30) : vx_Met l yX1_contradict wsX1_contradict rmX1_contradict_2 (tn_P G [.ref bx, .int x] ([(bx, .inr (1, [.ref bd, .ref bo, .ref bs, .int st, .ref bk, .int sk, .ref (ca 36), .int tk, .int be, .int so, .int le, .int an])), (bd, eI G 10 fd), (bo, eI G 10 fo), (bs, eR G 30 (fun k => some (ca k))), (bk, eR G 6 (fun k => some (ca (30 + k))))] ++ pool G ca wa ro dg gv)) tn_Qv (tn_X eIS) 1 6 (fun _ => False) := by
  refine vx_ofW (cc := cX1_contradict) (maxL := 2) (ret := (some .int)) (by decide) rfl ?_
  intro p e s m args below meth c s₁ B hml htab hv
  obtain ⟨⟨rfl, hP, hK⟩, hxw, hzz⟩ := hv
  have hx := B.exec
  have hb := B.bytes
  have hr := B.returns
  have hts := atoms_spec (ws := wsX1_contradict) B.pre
  have hown : s.vm.findClass RX1 = some m.cls := findClass_of_methodNamed B.named
  have hlocks := B.notSynchronized
  have hl := lv_entry ([.ref bx, .int x]) (n := 2) (Nat.le_of_ble_eq_true rfl)
  rw [lg_entry_eq]
  generalize (lg_sl ([.ref bx, .int x]) ++ List.replicate (2 - (lg_sl ([.ref bx, .int x])).length) Slot.unset).toArray = ls at hl ⊢
  have hl : lv_has ls 2 [(0, .ref bx), (1, .int x)] := hl
  refine lv_iload_n hx hb dX1_contradict_0 rfl (lv_at hl 1 rfl) ?_
  refine lv_sipush (v := (-9999)) hx hb dX1_contradict_1 (by decide) ?_
  refine lv_sipush (v := 9999) hx hb dX1_contradict_4 (by decide) ?_
  refine ro_call (va_runS (As := [.int x, .int (-9999), .int 9999]) (rest := []) ⟨hx, hb, hml, hown, hts⟩ (c_X1_isWithin l G x (-9999) 9999) (va_cwS 3 hts gX1_contradict_X1_isWithin rfl rfl rfl (by decide +kernel) ⟨Nat.le_of_ble_eq_true rfl, Nat.le_of_ble_eq_true rfl⟩) ⟨ro_blind, ro_pre _ (hP.sub [] rfl) hK⟩ rfl rfl hl.1 rfl (lv_room (Nat.le_of_ble_eq_true rfl)) dX1_contradict_7 ⟨Nat.le_of_ble_eq_true rfl, Nat.le_of_ble_eq_true rfl⟩) ?_
  refine lv_if_ne (tgt := 21) hx hb dX1_contradict_10 (by decide) (fun c_10 => ?_) (fun c_10 => ?_)
  · refine lv_aload_n hx hb dX1_contradict_21 rfl (lv_at hl 0 rfl) ?_
    exact tn_callv (vx_runV (As := []) (rest := []) ⟨hx, hb, hml, hown, hts⟩ (c_X1_refuseFullStore_t l hlt G bx bd bo bs bk (ca 36) st sk tk be so le an h) (cwV 0 hts gX1_contradict_X1_refuseFullStore rfl rfl rfl (by decide +kernel) ⟨Nat.le_of_ble_eq_true rfl, Nat.le_of_ble_eq_true rfl⟩) ⟨tn_blind, va_recv hK.1 hP (ci := 1) (q0 := 0) rfl rfl, tn_pre _ (hP.sub [0] rfl) hK hxw hzz⟩ rfl rfl hl.1 rfl (lv_room (Nat.le_of_ble_eq_true rfl)) dX1_contradict_22 ⟨Nat.le_of_ble_eq_true rfl, Nat.le_of_ble_eq_true rfl⟩) (fun x h => (htab x h).elim) hlocks
  · exact absurd c_10 (in_o0 h1)

abbrev rmX1_found_1 : Room := { frames := 6, cells := 1, slots := 6, locals := 81 }
set_option maxHeartbeats 4000000 in
set_option maxRecDepth 100000 in
theorem c_X1_found_1 (l : Launch) (hlt : l.stackTraces = false) (G : Gt) (bx bd bo bs bk : Nat) (ca wa : Nat → Nat) (st sk tk be so le an : Int32) (fd fo : Nat → Int32) (ro : Nat → Nat → Int32) (dg gv : Nat → Int32) (x : Int32) (h : ¬ outI x 0 1023 = 0) : vx_Met l yX1_found wsX1_found rmX1_found_1 (tn_P G [.ref bx, .int x] ([(bx, .inr (1, [.ref bd, .ref bo, .ref bs, .int st, .ref bk, .int sk, .ref (ca 36), .int tk, .int be, .int so, .int le, .int an])), (bd, eI G 10 fd), (bo, eI G 10 fo), (bs, eR G 30 (fun k => some (ca k))), (bk, eR G 6 (fun k => some (ca (30 + k))))] ++ pool G ca wa ro dg gv)) tn_Qv (tn_X eIA) 1 6 (fun _ => False) := by
  refine vx_ofW (cc := cX1_found) (maxL := 2) (ret := (some .boolean)) (by decide) rfl ?_
  intro p e s m args below meth c s₁ B hml htab hv
  obtain ⟨⟨rfl, hP, hK⟩, hxw, hzz⟩ := hv
  have hx := B.exec
  have hb := B.bytes
  have hr := B.returns
  have hts := atoms_spec (ws := wsX1_found) B.pre
  have hown : s.vm.findClass RX1 = some m.cls := findClass_of_methodNamed B.named
  have hlocks := B.notSynchronized
  have hw0 := hts (.classLink RX1 61 "java/lang/IllegalArgumentException") (by decide +kernel)
  have hw1 := hts (.initialized "java/lang/IllegalArgumentException") (by decide +kernel)
  have hl := lv_entry ([.ref bx, .int x]) (n := 2) (Nat.le_of_ble_eq_true rfl)
  rw [lg_entry_eq]
  generalize (lg_sl ([.ref bx, .int x]) ++ List.replicate (2 - (lg_sl ([.ref bx, .int x])).length) Slot.unset).toArray = ls at hl ⊢
  have hl : lv_has ls 2 [(0, .ref bx), (1, .int x)] := hl
  refine lv_iload_n hx hb dX1_found_0 rfl (lv_at hl 1 rfl) ?_
  refine ro_call (va_runS (As := [.int x]) (rest := []) ⟨hx, hb, hml, hown, hts⟩ (c_X1_isChoice l G x) (va_cwS 1 hts gX1_found_X1_isChoice rfl rfl rfl (by decide +kernel) ⟨Nat.le_of_ble_eq_true rfl, Nat.le_of_ble_eq_true rfl⟩) ⟨ro_blind, ro_pre _ (hP.sub [] rfl) hK⟩ rfl rfl hl.1 rfl (lv_room (Nat.le_of_ble_eq_true rfl)) dX1_found_1 ⟨Nat.le_of_ble_eq_true rfl, Nat.le_of_ble_eq_true rfl⟩) ?_
  refine lv_if_ne (tgt := 15) hx hb dX1_found_4 (by decide) (fun c_4 => ?_) (fun c_4 => ?_)
  · exact absurd (in_o1 h) c_4
  · exact vx_throw0 hx hb hlt (own := RX1) (cls := eIA) (names := nmE) (ik := 61) (ic := 63) hown (by decide) (by decide) hw0 hw1 (xat (by decide +kernel) (fun w h => hts w (List.mem_cons_of_mem _ (List.mem_append_left _ (List.mem_append_right _ h)))) hxw.1.1 (xB_on _)) (by decide +kernel) hzz.1 hzz.2 va_S.rf (hl.1.trans hml.symm) dX1_found_7 dX1_found_10 dX1_found_11 dX1_found_14 (fun x h => (htab x h).elim) (Nat.le_of_ble_eq_true rfl) (Nat.le_of_ble_eq_true rfl) (Nat.le_of_ble_eq_true rfl) (Nat.le_of_ble_eq_true rfl) hlocks (tn_at) (fun z h => nomatch h) (Nat.le_of_ble_eq_true rfl) (Nat.le_of_ble_eq_true rfl)

abbrev rmX1_found_2 : Room := { frames := 7, cells := 1, slots := 6, locals := 101 }
set_option maxHeartbeats 4000000 in
set_option maxRecDepth 100000 in
theorem c_X1_found_2 (l : Launch) (hlt : l.stackTraces = false) (G : Gt) (bx bd bo bs bk : Nat) (ca wa : Nat → Nat) (st sk tk be so le an : Int32) (fd fo : Nat → Int32) (ro : Nat → Nat → Int32) (dg gv : Nat → Int32) (x : Int32) (h1 : outI x 0 1023 = 0) (h : st = 30) : vx_Met l yX1_found wsX1_found rmX1_found_2 (tn_P G [.ref bx, .int x] ([(bx, .inr (1, [.ref bd, .ref bo, .ref bs, .int st, .ref bk, .int sk, .ref (ca 36), .int tk, .int be, .int so, .int le, .int an])), (bd, eI G 10 fd), (bo, eI G 10 fo), (bs, eR G 30 (fun k => some (ca k))), (bk, eR G 6 (fun k => some (ca (30 + k))))] ++ pool G ca wa ro dg gv)) tn_Qv (tn_X eIS) 1 6 (fun _ => False) := by
  refine vx_ofW (cc := cX1_found) (maxL := 2) (ret := (some .boolean)) (by decide) rfl ?_
  intro p e s m args below meth c s₁ B hml htab hv
  obtain ⟨⟨rfl, hP, hK⟩, hxw, hzz⟩ := hv
  have hx := B.exec
  have hb := B.bytes
  have hr := B.returns
  have hts := atoms_spec (ws := wsX1_found) B.pre
  have hown : s.vm.findClass RX1 = some m.cls := findClass_of_methodNamed B.named
  have hlocks := B.notSynchronized
  have hl := lv_entry ([.ref bx, .int x]) (n := 2) (Nat.le_of_ble_eq_true rfl)
  rw [lg_entry_eq]
  generalize (lg_sl ([.ref bx, .int x]) ++ List.replicate (2 - (lg_sl ([.ref bx, .int x])).length) Slot.unset).toArray = ls at hl ⊢
  have hl : lv_has ls 2 [(0, .ref bx), (1, .int x)] := hl
  refine lv_iload_n hx hb dX1_found_0 rfl (lv_at hl 1 rfl) ?_
  refine ro_call (va_runS (As := [.int x]) (rest := []) ⟨hx, hb, hml, hown, hts⟩ (c_X1_isChoice l G x) (va_cwS 1 hts gX1_found_X1_isChoice rfl rfl rfl (by decide +kernel) ⟨Nat.le_of_ble_eq_true rfl, Nat.le_of_ble_eq_true rfl⟩) ⟨ro_blind, ro_pre _ (hP.sub [] rfl) hK⟩ rfl rfl hl.1 rfl (lv_room (Nat.le_of_ble_eq_true rfl)) dX1_found_1 ⟨Nat.le_of_ble_eq_true rfl, Nat.le_of_ble_eq_true rfl⟩) ?_
  refine lv_if_ne (tgt := 15) hx hb dX1_found_4 (by decide) (fun c_4 => ?_) (fun c_4 => ?_)
  · refine lv_aload_n hx hb dX1_found_15 rfl (lv_at hl 0 rfl) ?_
    exact tn_callv (vx_runV (As := []) (rest := []) ⟨hx, hb, hml, hown, hts⟩ (c_X1_refuseFullStore_t l hlt G bx bd bo bs bk (ca 36) st sk tk be so le an h) (cwV 0 hts gX1_found_X1_refuseFullStore rfl rfl rfl (by decide +kernel) ⟨Nat.le_of_ble_eq_true rfl, Nat.le_of_ble_eq_true rfl⟩) ⟨tn_blind, va_recv hK.1 hP (ci := 1) (q0 := 0) rfl rfl, tn_pre _ (hP.sub [0] rfl) hK hxw hzz⟩ rfl rfl hl.1 rfl (lv_room (Nat.le_of_ble_eq_true rfl)) dX1_found_16 ⟨Nat.le_of_ble_eq_true rfl, Nat.le_of_ble_eq_true rfl⟩) (fun x h => (htab x h).elim) hlocks
  · exact absurd c_4 (in_o0 h1)

abbrev rmX1_best_1 : Room := { frames := 6, cells := 1, slots := 6, locals := 81 }
set_option maxHeartbeats 4000000 in
set_option maxRecDepth 100000 in
theorem c_X1_best_1 (l : Launch) (hlt : l.stackTraces = false) (G : Gt) (bx bd bo bs bk : Nat) (ca wa : Nat → Nat) (st sk tk be so le an : Int32) (fd fo : Nat → Int32) (ro : Nat → Nat → Int32) (dg gv : Nat → Int32) (h : tk = 0) : vx_Met l yX1_best wsX1_best rmX1_best_1 (tn_P G [.ref bx] ([(bx, .inr (1, [.ref bd, .ref bo, .ref bs, .int st, .ref bk, .int sk, .ref (ca 36), .int tk, .int be, .int so, .int le, .int an])), (bd, eI G 10 fd), (bo, eI G 10 fo), (bs, eR G 30 (fun k => some (ca k))), (bk, eR G 6 (fun k => some (ca (30 + k))))] ++ pool G ca wa ro dg gv)) tn_Qv (tn_X eNS) 1 6 (fun _ => False) := by
  refine vx_ofW (cc := cX1_best) (maxL := 1) (ret := (some .int)) (by decide) rfl ?_
  intro p e s m args below meth c s₁ B hml htab hv
  obtain ⟨⟨rfl, hP, hK⟩, hxw, hzz⟩ := hv
  have hx := B.exec
  have hb := B.bytes
  have hr := B.returns
  have hts := atoms_spec (ws := wsX1_best) B.pre
  have hown : s.vm.findClass RX1 = some m.cls := findClass_of_methodNamed B.named
  have hlocks := B.notSynchronized
  have hinX1 : ∀ w ∈ u_ws RX1 TX1 12, w ∈ wsX1_best := fun w h => List.mem_cons_of_mem _ (List.mem_append_left _ (List.mem_append_right _ h))
  have hw1 := hts (.fieldLink RX1 37 "ChoiceBoard" "taken" "Z") (by decide +kernel)
  have hw2 := hts (.classLink RX1 99 "java/util/NoSuchElementException") (by decide +kernel)
  have hw3 := hts (.initialized "java/util/NoSuchElementException") (by decide +kernel)
  have hl := lv_entry ([.ref bx]) (n := 1) (Nat.le_of_ble_eq_true rfl)
  rw [lg_entry_eq]
  generalize (lg_sl ([.ref bx]) ++ List.replicate (1 - (lg_sl ([.ref bx])).length) Slot.unset).toArray = ls at hl ⊢
  have hl : lv_has ls 1 [(0, .ref bx)] := hl
  refine lv_aload_n hx hb dX1_best_0 rfl (lv_at hl 0 rfl) ?_
  refine va_get (D := G.1) (ci := 1) (v := .int tk) (C := RX1) (T := TX1) (N := 12) hx hb hts hinX1 hown hK.1 hP 0 rfl rfl 7 (by decide) hw1 (fun _ h9 => h9) rfl dX1_best_1 ?_
  refine lv_if_ne (tgt := 15) hx hb dX1_best_4 (by decide) (fun c_4 => ?_) (fun c_4 => ?_)
  · exact absurd h c_4
  · exact vx_throw0 hx hb hlt (own := RX1) (cls := eNS) (names := nmE) (ik := 99) (ic := 101) hown (by decide) (by decide) hw2 hw3 (xat (by decide +kernel) (fun w h => hts w (List.mem_cons_of_mem _ (List.mem_append_right _ h))) hxw.1.2.2.1 (xB_on _)) (by decide +kernel) hzz.1 hzz.2 va_S.rf (hl.1.trans hml.symm) dX1_best_7 dX1_best_10 dX1_best_11 dX1_best_14 (fun x h => (htab x h).elim) (Nat.le_of_ble_eq_true rfl) (Nat.le_of_ble_eq_true rfl) (Nat.le_of_ble_eq_true rfl) (Nat.le_of_ble_eq_true rfl) hlocks (tn_at) (fun z h => nomatch h) (Nat.le_of_ble_eq_true rfl) (Nat.le_of_ble_eq_true rfl)

abbrev rmX1_least_1 : Room := { frames := 7, cells := 1, slots := 6, locals := 101 }
set_option maxHeartbeats 4000000 in
set_option maxRecDepth 100000 in
theorem c_X1_least_1 (l : Launch) (hlt : l.stackTraces = false) (G : Gt) (bx bd bo bs bk : Nat) (ca wa : Nat → Nat) (st sk tk be so le an : Int32) (fd fo : Nat → Int32) (ro : Nat → Nat → Int32) (dg gv : Nat → Int32) (h : so = 0) : vx_Met l yX1_least wsX1_least rmX1_least_1 (tn_P G [.ref bx] ([(bx, .inr (1, [.ref bd, .ref bo, .ref bs, .int st, .ref bk, .int sk, .ref (ca 36), .int tk, .int be, .int so, .int le, .int an])), (bd, eI G 10 fd), (bo, eI G 10 fo), (bs, eR G 30 (fun k => some (ca k))), (bk, eR G 6 (fun k => some (ca (30 + k))))] ++ pool G ca wa ro dg gv)) tn_Qv (tn_X eNS) 1 6 (fun _ => False) := by
  refine vx_ofW (cc := cX1_least) (maxL := 1) (ret := (some .int)) (by decide) rfl ?_
  intro p e s m args below meth c s₁ B hml htab hv
  obtain ⟨⟨rfl, hP, hK⟩, hxw, hzz⟩ := hv
  have hx := B.exec
  have hb := B.bytes
  have hr := B.returns
  have hts := atoms_spec (ws := wsX1_least) B.pre
  have hown : s.vm.findClass RX1 = some m.cls := findClass_of_methodNamed B.named
  have hlocks := B.notSynchronized
  have hl := lv_entry ([.ref bx]) (n := 1) (Nat.le_of_ble_eq_true rfl)
  rw [lg_entry_eq]
  generalize (lg_sl ([.ref bx]) ++ List.replicate (1 - (lg_sl ([.ref bx])).length) Slot.unset).toArray = ls at hl ⊢
  have hl : lv_has ls 1 [(0, .ref bx)] := hl
  refine lv_aload_n hx hb dX1_least_0 rfl (lv_at hl 0 rfl) ?_
  exact tn_callv (vx_runV (As := []) (rest := []) ⟨hx, hb, hml, hown, hts⟩ (c_X1_refuseUnsolved_t l hlt G bx bd bo bs bk (ca 36) st sk tk be so le an h) (cwV 0 hts gX1_least_X1_refuseUnsolved rfl rfl rfl (by decide +kernel) ⟨Nat.le_of_ble_eq_true rfl, Nat.le_of_ble_eq_true rfl⟩) ⟨tn_blind, va_recv hK.1 hP (ci := 1) (q0 := 0) rfl rfl, tn_pre _ (hP.sub [0] rfl) hK hxw hzz⟩ rfl rfl hl.1 rfl (lv_room (Nat.le_of_ble_eq_true rfl)) dX1_least_1 ⟨Nat.le_of_ble_eq_true rfl, Nat.le_of_ble_eq_true rfl⟩) (fun x h => (htab x h).elim) hlocks

abbrev rmX1_value_1 : Room := { frames := 7, cells := 1, slots := 6, locals := 101 }
set_option maxHeartbeats 4000000 in
set_option maxRecDepth 100000 in
theorem c_X1_value_1 (l : Launch) (hlt : l.stackTraces = false) (G : Gt) (bx bd bo bs bk : Nat) (ca wa : Nat → Nat) (st sk tk be so le an : Int32) (fd fo : Nat → Int32) (ro : Nat → Nat → Int32) (dg gv : Nat → Int32) (x : Int32) (h : so = 0) : vx_Met l yX1_value wsX1_value rmX1_value_1 (tn_P G [.ref bx, .int x] ([(bx, .inr (1, [.ref bd, .ref bo, .ref bs, .int st, .ref bk, .int sk, .ref (ca 36), .int tk, .int be, .int so, .int le, .int an])), (bd, eI G 10 fd), (bo, eI G 10 fo), (bs, eR G 30 (fun k => some (ca k))), (bk, eR G 6 (fun k => some (ca (30 + k))))] ++ pool G ca wa ro dg gv)) tn_Qv (tn_X eNS) 1 6 (fun _ => False) := by
  refine vx_ofW (cc := cX1_value) (maxL := 2) (ret := (some .int)) (by decide) rfl ?_
  intro p e s m args below meth c s₁ B hml htab hv
  obtain ⟨⟨rfl, hP, hK⟩, hxw, hzz⟩ := hv
  have hx := B.exec
  have hb := B.bytes
  have hr := B.returns
  have hts := atoms_spec (ws := wsX1_value) B.pre
  have hown : s.vm.findClass RX1 = some m.cls := findClass_of_methodNamed B.named
  have hlocks := B.notSynchronized
  have hl := lv_entry ([.ref bx, .int x]) (n := 2) (Nat.le_of_ble_eq_true rfl)
  rw [lg_entry_eq]
  generalize (lg_sl ([.ref bx, .int x]) ++ List.replicate (2 - (lg_sl ([.ref bx, .int x])).length) Slot.unset).toArray = ls at hl ⊢
  have hl : lv_has ls 2 [(0, .ref bx), (1, .int x)] := hl
  refine lv_aload_n hx hb dX1_value_0 rfl (lv_at hl 0 rfl) ?_
  exact tn_callv (vx_runV (As := []) (rest := []) ⟨hx, hb, hml, hown, hts⟩ (c_X1_refuseUnsolved_t l hlt G bx bd bo bs bk (ca 36) st sk tk be so le an h) (cwV 0 hts gX1_value_X1_refuseUnsolved rfl rfl rfl (by decide +kernel) ⟨Nat.le_of_ble_eq_true rfl, Nat.le_of_ble_eq_true rfl⟩) ⟨tn_blind, va_recv hK.1 hP (ci := 1) (q0 := 0) rfl rfl, tn_pre _ (hP.sub [0] rfl) hK hxw hzz⟩ rfl rfl hl.1 rfl (lv_room (Nat.le_of_ble_eq_true rfl)) dX1_value_1 ⟨Nat.le_of_ble_eq_true rfl, Nat.le_of_ble_eq_true rfl⟩) (fun x h => (htab x h).elim) hlocks

abbrev rmX1_value_2 : Room := { frames := 6, cells := 1, slots := 6, locals := 81 }
set_option maxHeartbeats 4000000 in
set_option maxRecDepth 100000 in
theorem c_X1_value_2 (l : Launch) (hlt : l.stackTraces = false) (G : Gt) (bx bd bo bs bk : Nat) (ca wa : Nat → Nat) (st sk tk be so le an : Int32) (fd fo : Nat → Int32) (ro : Nat → Nat → Int32) (dg gv : Nat → Int32) (x : Int32) (hso : ¬ so = 0) (h : ¬ outI x 0 9 = 0) : vx_Met l yX1_value wsX1_value rmX1_value_2 (tn_P G [.ref bx, .int x] ([(bx, .inr (1, [.ref bd, .ref bo, .ref bs, .int st, .ref bk, .int sk, .ref (ca 36), .int tk, .int be, .int so, .int le, .int an])), (bd, eI G 10 fd), (bo, eI G 10 fo), (bs, eR G 30 (fun k => some (ca k))), (bk, eR G 6 (fun k => some (ca (30 + k))))] ++ pool G ca wa ro dg gv)) tn_Qv (tn_X eIA) 1 6 (fun _ => False) := by
  refine vx_ofW (cc := cX1_value) (maxL := 2) (ret := (some .int)) (by decide) rfl ?_
  intro p e s m args below meth c s₁ B hml htab hv
  obtain ⟨⟨rfl, hP, hK⟩, hxw, hzz⟩ := hv
  have hx := B.exec
  have hb := B.bytes
  have hr := B.returns
  have hts := atoms_spec (ws := wsX1_value) B.pre
  have hown : s.vm.findClass RX1 = some m.cls := findClass_of_methodNamed B.named
  have hlocks := B.notSynchronized
  have hw0 := hts (.classLink RX1 61 "java/lang/IllegalArgumentException") (by decide +kernel)
  have hw1 := hts (.initialized "java/lang/IllegalArgumentException") (by decide +kernel)
  have hl := lv_entry ([.ref bx, .int x]) (n := 2) (Nat.le_of_ble_eq_true rfl)
  rw [lg_entry_eq]
  generalize (lg_sl ([.ref bx, .int x]) ++ List.replicate (2 - (lg_sl ([.ref bx, .int x])).length) Slot.unset).toArray = ls at hl ⊢
  have hl : lv_has ls 2 [(0, .ref bx), (1, .int x)] := hl
  refine lv_aload_n hx hb dX1_value_0 rfl (lv_at hl 0 rfl) ?_
  refine ro_callv (va_runV (As := []) (rest := []) ⟨hx, hb, hml, hown, hts⟩ (c_X1_refuseUnsolved l G bx bd bo bs bk (ca 36) st sk tk be so le an hso) (cwV 0 hts gX1_value_X1_refuseUnsolved rfl rfl rfl (by decide +kernel) ⟨Nat.le_of_ble_eq_true rfl, Nat.le_of_ble_eq_true rfl⟩) ⟨ro_blind, va_recv hK.1 hP (ci := 1) (q0 := 0) rfl rfl, ro_pre _ (hP.sub [0] rfl) hK⟩ rfl rfl hl.1 rfl (lv_room (Nat.le_of_ble_eq_true rfl)) dX1_value_1 ⟨Nat.le_of_ble_eq_true rfl, Nat.le_of_ble_eq_true rfl⟩) ?_
  refine lv_iload_n hx hb dX1_value_4 rfl (lv_at hl 1 rfl) ?_
  refine ro_call (va_runS (As := [.int x]) (rest := []) ⟨hx, hb, hml, hown, hts⟩ (c_X1_isVariable l G x) (va_cwS 1 hts gX1_value_X1_isVariable rfl rfl rfl (by decide +kernel) ⟨Nat.le_of_ble_eq_true rfl, Nat.le_of_ble_eq_true rfl⟩) ⟨ro_blind, ro_pre _ (hP.sub [] rfl) hK⟩ rfl rfl hl.1 rfl (lv_room (Nat.le_of_ble_eq_true rfl)) dX1_value_5 ⟨Nat.le_of_ble_eq_true rfl, Nat.le_of_ble_eq_true rfl⟩) ?_
  refine lv_if_ne (tgt := 19) hx hb dX1_value_8 (by decide) (fun c_8 => ?_) (fun c_8 => ?_)
  · exact absurd (in_o1 h) c_8
  · exact vx_throw0 hx hb hlt (own := RX1) (cls := eIA) (names := nmE) (ik := 61) (ic := 63) hown (by decide) (by decide) hw0 hw1 (xat (by decide +kernel) (fun w h => hts w (List.mem_cons_of_mem _ (List.mem_append_left _ (List.mem_append_right _ h)))) hxw.1.1 (xB_on _)) (by decide +kernel) hzz.1 hzz.2 va_S.rf (hl.1.trans hml.symm) dX1_value_11 dX1_value_14 dX1_value_15 dX1_value_18 (fun x h => (htab x h).elim) (Nat.le_of_ble_eq_true rfl) (Nat.le_of_ble_eq_true rfl) (Nat.le_of_ble_eq_true rfl) (Nat.le_of_ble_eq_true rfl) hlocks (tn_at) (fun z h => nomatch h) (Nat.le_of_ble_eq_true rfl) (Nat.le_of_ble_eq_true rfl)
