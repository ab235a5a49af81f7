abbrev rmX1_isWithin : Room := { frames := 0, cells := 0, slots := 0, locals := 0 }
set_option maxHeartbeats 4000000 in
set_option maxRecDepth 100000 in
theorem c_X1_isWithin (l : Launch) (G : Gt) (x lo hi : Int32) : Met l yX1_isWithin wsX1_isWithin rmX1_isWithin (ro_P G [.int x, .int lo, .int hi] []) (QcRead (inI x lo hi)) 0 0 (fun _ => False) := by
  refine Met.ofW (cc := cX1_isWithin) (maxL := 3) (ret := (some .boolean)) (by decide) rfl ?_
  intro p e s m args below meth c s₁ B hml hv
  obtain ⟨rfl, hP, hK⟩ := hv
  have hx := B.exec
  have hb := B.bytes
  have hr := B.returns
  have hts := atoms_spec (ws := wsX1_isWithin) B.pre
  have hown : s.vm.findClass RX1 = some m.cls := findClass_of_methodNamed B.named
  have hlocks := B.notSynchronized
  have hl := lv_entry ([.int x, .int lo, .int hi]) (n := 3) (Nat.le_of_ble_eq_true rfl)
  rw [lg_entry_eq]
  generalize (lg_sl ([.int x, .int lo, .int hi]) ++ List.replicate (3 - (lg_sl ([.int x, .int lo, .int hi])).length) Slot.unset).toArray = ls at hl ⊢
  have hl : lv_has ls 3 [(0, .int x), (1, .int lo), (2, .int hi)] := hl
  refine lv_iload_n hx hb dX1_isWithin_0 rfl (lv_at hl 0 rfl) ?_
  refine lv_iload_n hx hb dX1_isWithin_1 rfl (lv_at hl 1 rfl) ?_
  refine lv_icmp_lt (tgt := 14) hx hb dX1_isWithin_2 (by decide) (fun c_2 => ?_) (fun c_2 => ?_)
  · refine lv_iconst (v := 0) hx hb dX1_isWithin_14 (by decide) ?_
    exact W.zret (v := 0) (ty := .boolean) hx hb hr rfl (fun t ht hW => ⟨congrArg (fun z => Outcome.returned (some (Value.int z))) (by unfold inI; rw [if_pos c_2]), ht⟩) (fun _ h => nomatch h) dX1_isWithin_15
  · refine lv_iload_n hx hb dX1_isWithin_5 rfl (lv_at hl 0 rfl) ?_
    refine lv_iload_n hx hb dX1_isWithin_6 rfl (lv_at hl 2 rfl) ?_
    refine lv_icmp_gt (tgt := 14) hx hb dX1_isWithin_7 (by decide) (fun c_7 => ?_) (fun c_7 => ?_)
    · refine lv_iconst (v := 0) hx hb dX1_isWithin_14 (by decide) ?_
      exact W.zret (v := 0) (ty := .boolean) hx hb hr rfl (fun t ht hW => ⟨congrArg (fun z => Outcome.returned (some (Value.int z))) (by unfold inI; rw [if_neg c_2, if_pos c_7]), ht⟩) (fun _ h => nomatch h) dX1_isWithin_15
    · refine lv_iconst (v := 1) hx hb dX1_isWithin_10 (by decide) ?_
      refine lv_goto (tgt := 15) hx hb dX1_isWithin_11 (by decide) ?_
      exact W.zret (v := 1) (ty := .boolean) hx hb hr rfl (fun t ht hW => ⟨congrArg (fun z => Outcome.returned (some (Value.int z))) (by unfold inI; rw [if_neg c_2, if_neg c_7]), ht⟩) (fun _ h => nomatch h) dX1_isWithin_15

abbrev rmX1_isVariable : Room := { frames := 1, cells := 0, slots := 0, locals := 22 }
set_option maxHeartbeats 4000000 in
set_option maxRecDepth 100000 in
theorem c_X1_isVariable (l : Launch) (G : Gt) (x : Int32) : Met l yX1_isVariable wsX1_isVariable rmX1_isVariable (ro_P G [.int x] []) (QcRead (inI x 0 9)) 0 0 (fun _ => False) := by
  refine Met.ofW (cc := cX1_isVariable) (maxL := 1) (ret := (some .boolean)) (by decide) rfl ?_
  intro p e s m args below meth c s₁ B hml hv
  obtain ⟨rfl, hP, hK⟩ := hv
  have hx := B.exec
  have hb := B.bytes
  have hr := B.returns
  have hts := atoms_spec (ws := wsX1_isVariable) B.pre
  have hown : s.vm.findClass RX1 = some m.cls := findClass_of_methodNamed B.named
  have hlocks := B.notSynchronized
  have hl := lv_entry ([.int x]) (n := 1) (Nat.le_of_ble_eq_true rfl)
  rw [lg_entry_eq]
  generalize (lg_sl ([.int x]) ++ List.replicate (1 - (lg_sl ([.int x])).length) Slot.unset).toArray = ls at hl ⊢
  have hl : lv_has ls 1 [(0, .int x)] := hl
  refine lv_iload_n hx hb dX1_isVariable_0 rfl (lv_at hl 0 rfl) ?_
  refine lv_iconst (v := 0) hx hb dX1_isVariable_1 (by decide) ?_
  refine lv_bipush (v := 9) hx hb dX1_isVariable_2 (by decide) ?_
  refine ro_call (va_runS (As := [.int x, .int 0, .int 9]) (rest := []) ⟨hx, hb, hml, hown, hts⟩ (c_X1_isWithin l G x 0 9) (va_cwS 3 hts gX1_isVariable_X1_isWithin rfl rfl rfl (by decide +kernel) ⟨Nat.le_of_ble_eq_true rfl, Nat.le_of_ble_eq_true rfl⟩) ⟨ro_blind, ro_pre _ (hP.sub [] rfl) hK⟩ rfl rfl hl.1 rfl (lv_room (Nat.le_of_ble_eq_true rfl)) dX1_isVariable_4 ⟨Nat.le_refl _, Nat.le_refl _⟩) ?_
  exact W.zret (v := inI x 0 9) (ty := .boolean) hx hb hr (nar_in _ _ _) (fun t ht hW => ⟨congrArg (fun z => Outcome.returned (some (Value.int z))) (rfl), ht⟩) (fun _ h => nomatch h) dX1_isVariable_7

abbrev rmX1_isQuestion : Room := { frames := 1, cells := 0, slots := 0, locals := 22 }
set_option maxHeartbeats 4000000 in
set_option maxRecDepth 100000 in
theorem c_X1_isQuestion (l : Launch) (G : Gt) (x : Int32) : Met l yX1_isQuestion wsX1_isQuestion rmX1_isQuestion (ro_P G [.int x] []) (QcRead (inI x (-2) 9)) 0 0 (fun _ => False) := by
  refine Met.ofW (cc := cX1_isQuestion) (maxL := 1) (ret := (some .boolean)) (by decide) rfl ?_
  intro p e s m args below meth c s₁ B hml hv
  obtain ⟨rfl, hP, hK⟩ := hv
  have hx := B.exec
  have hb := B.bytes
  have hr := B.returns
  have hts := atoms_spec (ws := wsX1_isQuestion) B.pre
  have hown : s.vm.findClass RX1 = some m.cls := findClass_of_methodNamed B.named
  have hlocks := B.notSynchronized
  have hl := lv_entry ([.int x]) (n := 1) (Nat.le_of_ble_eq_true rfl)
  rw [lg_entry_eq]
  generalize (lg_sl ([.int x]) ++ List.replicate (1 - (lg_sl ([.int x])).length) Slot.unset).toArray = ls at hl ⊢
  have hl : lv_has ls 1 [(0, .int x)] := hl
  refine lv_iload_n hx hb dX1_isQuestion_0 rfl (lv_at hl 0 rfl) ?_
  refine lv_bipush (v := (-2)) hx hb dX1_isQuestion_1 (by decide) ?_
  refine lv_bipush (v := 9) hx hb dX1_isQuestion_3 (by decide) ?_
  refine ro_call (va_runS (As := [.int x, .int (-2), .int 9]) (rest := []) ⟨hx, hb, hml, hown, hts⟩ (c_X1_isWithin l G x (-2) 9) (va_cwS 3 hts gX1_isQuestion_X1_isWithin rfl rfl rfl (by decide +kernel) ⟨Nat.le_of_ble_eq_true rfl, Nat.le_of_ble_eq_true rfl⟩) ⟨ro_blind, ro_pre _ (hP.sub [] rfl) hK⟩ rfl rfl hl.1 rfl (lv_room (Nat.le_of_ble_eq_true rfl)) dX1_isQuestion_5 ⟨Nat.le_refl _, Nat.le_refl _⟩) ?_
  exact W.zret (v := inI x (-2) 9) (ty := .boolean) hx hb hr (nar_in _ _ _) (fun t ht hW => ⟨congrArg (fun z => Outcome.returned (some (Value.int z))) (rfl), ht⟩) (fun _ h => nomatch h) dX1_isQuestion_8

abbrev rmX1_isChoice : Room := { frames := 1, cells := 0, slots := 0, locals := 22 }
set_option maxHeartbeats 4000000 in
set_option maxRecDepth 100000 in
theorem c_X1_isChoice (l : Launch) (G : Gt) (x : Int32) : Met l yX1_isChoice wsX1_isChoice rmX1_isChoice (ro_P G [.int x] []) (QcRead (inI x 0 1023)) 0 0 (fun _ => False) := by
  refine Met.ofW (cc := cX1_isChoice) (maxL := 1) (ret := (some .boolean)) (by decide) rfl ?_
  intro p e s m args below meth c s₁ B hml hv
  obtain ⟨rfl, hP, hK⟩ := hv
  have hx := B.exec
  have hb := B.bytes
  have hr := B.returns
  have hts := atoms_spec (ws := wsX1_isChoice) B.pre
  have hown : s.vm.findClass RX1 = some m.cls := findClass_of_methodNamed B.named
  have hlocks := B.notSynchronized
  have hl := lv_entry ([.int x]) (n := 1) (Nat.le_of_ble_eq_true rfl)
  rw [lg_entry_eq]
  generalize (lg_sl ([.int x]) ++ List.replicate (1 - (lg_sl ([.int x])).length) Slot.unset).toArray = ls at hl ⊢
  have hl : lv_has ls 1 [(0, .int x)] := hl
  refine lv_iload_n hx hb dX1_isChoice_0 rfl (lv_at hl 0 rfl) ?_
  refine lv_iconst (v := 0) hx hb dX1_isChoice_1 (by decide) ?_
  refine lv_sipush (v := 1023) hx hb dX1_isChoice_2 (by decide) ?_
  refine ro_call (va_runS (As := [.int x, .int 0, .int 1023]) (rest := []) ⟨hx, hb, hml, hown, hts⟩ (c_X1_isWithin l G x 0 1023) (va_cwS 3 hts gX1_isChoice_X1_isWithin rfl rfl rfl (by decide +kernel) ⟨Nat.le_of_ble_eq_true rfl, Nat.le_of_ble_eq_true rfl⟩) ⟨ro_blind, ro_pre _ (hP.sub [] rfl) hK⟩ rfl rfl hl.1 rfl (lv_room (Nat.le_of_ble_eq_true rfl)) dX1_isChoice_5 ⟨Nat.le_refl _, Nat.le_refl _⟩) ?_
  exact W.zret (v := inI x 0 1023) (ty := .boolean) hx hb hr (nar_in _ _ _) (fun t ht hW => ⟨congrArg (fun z => Outcome.returned (some (Value.int z))) (rfl), ht⟩) (fun _ h => nomatch h) dX1_isChoice_8

abbrev rmX1_isStored : Room := { frames := 1, cells := 0, slots := 0, locals := 22 }
set_option maxHeartbeats 4000000 in
set_option maxRecDepth 100000 in
theorem c_X1_isStored (l : Launch) (G : Gt) (bx bd bo bs bk sc : Nat) (st sk tk be so le an : Int32) (x : Int32) : Met l yX1_isStored wsX1_isStored rmX1_isStored (ro_P G [.ref bx, .int x] [(bx, .inr (1, [.ref bd, .ref bo, .ref bs, .int st, .ref bk, .int sk, .ref sc, .int tk, .int be, .int so, .int le, .int an]))]) (QcRead (inI x 0 (st - 1))) 0 0 (fun _ => False) := by
  refine Met.ofW (cc := cX1_isStored) (maxL := 2) (ret := (some .boolean)) (by decide) rfl ?_
  intro p e s m args below meth c s₁ B hml hv
  obtain ⟨rfl, hP, hK⟩ := hv
  have hx := B.exec
  have hb := B.bytes
  have hr := B.returns
  have hts := atoms_spec (ws := wsX1_isStored) B.pre
  have hown : s.vm.findClass RX1 = some m.cls := findClass_of_methodNamed B.named
  have hlocks := B.notSynchronized
  have hinX1 : ∀ w ∈ u_ws RX1 TX1 12, w ∈ wsX1_isStored := fun w h => List.mem_cons_of_mem _ (List.mem_append_right _ h)
  have hw1 := hts (.fieldLink RX1 22 "ChoiceBoard" "stored" "I") (by decide +kernel)
  have hl := lv_entry ([.ref bx, .int x]) (n := 2) (Nat.le_of_ble_eq_true rfl)
  rw [lg_entry_eq]
  generalize (lg_sl ([.ref bx, .int x]) ++ List.replicate (2 - (lg_sl ([.ref bx, .int x])).length) Slot.unset).toArray = ls at hl ⊢
  have hl : lv_has ls 2 [(0, .ref bx), (1, .int x)] := hl
  refine lv_iload_n hx hb dX1_isStored_0 rfl (lv_at hl 1 rfl) ?_
  refine lv_iconst (v := 0) hx hb dX1_isStored_1 (by decide) ?_
  refine lv_aload_n hx hb dX1_isStored_2 rfl (lv_at hl 0 rfl) ?_
  refine va_get (D := G.1) (ci := 1) (v := .int st) (C := RX1) (T := TX1) (N := 12) hx hb hts hinX1 hown hK.1 hP 0 rfl rfl 3 (by decide) hw1 (fun _ h9 => h9) rfl dX1_isStored_3 ?_
  refine lv_iconst (v := 1) hx hb dX1_isStored_6 (by decide) ?_
  refine lv_isub hx hb dX1_isStored_7 ?_
  refine ro_call (va_runS (As := [.int x, .int 0, .int (st - 1)]) (rest := []) ⟨hx, hb, hml, hown, hts⟩ (c_X1_isWithin l G x 0 (st - 1)) (va_cwS 3 hts gX1_isStored_X1_isWithin rfl rfl rfl (by decide +kernel) ⟨Nat.le_of_ble_eq_true rfl, Nat.le_of_ble_eq_true rfl⟩) ⟨ro_blind, ro_pre _ (hP.sub [] rfl) hK⟩ rfl rfl hl.1 rfl (lv_room (Nat.le_of_ble_eq_true rfl)) dX1_isStored_8 ⟨Nat.le_refl _, Nat.le_refl _⟩) ?_
  exact W.zret (v := inI x 0 (st - 1)) (ty := .boolean) hx hb hr (nar_in _ _ _) (fun t ht hW => ⟨congrArg (fun z => Outcome.returned (some (Value.int z))) (rfl), ht⟩) (fun _ h => nomatch h) dX1_isStored_11

abbrev rmX1_isStoreFull : Room := { frames := 0, cells := 0, slots := 0, locals := 0 }
set_option maxHeartbeats 4000000 in
set_option maxRecDepth 100000 in
theorem c_X1_isStoreFull (l : Launch) (G : Gt) (bx bd bo bs bk sc : Nat) (st sk tk be so le an : Int32) : Met l yX1_isStoreFull wsX1_isStoreFull rmX1_isStoreFull (ro_P G [.ref bx] [(bx, .inr (1, [.ref bd, .ref bo, .ref bs, .int st, .ref bk, .int sk, .ref sc, .int tk, .int be, .int so, .int le, .int an]))]) (QcRead (fuI st)) 0 0 (fun _ => False) := by
  refine Met.ofW (cc := cX1_isStoreFull) (maxL := 1) (ret := (some .boolean)) (by decide) rfl ?_
  intro p e s m args below meth c s₁ B hml hv
  obtain ⟨rfl, hP, hK⟩ := hv
  have hx := B.exec
  have hb := B.bytes
  have hr := B.returns
  have hts := atoms_spec (ws := wsX1_isStoreFull) B.pre
  have hown : s.vm.findClass RX1 = some m.cls := findClass_of_methodNamed B.named
  have hlocks := B.notSynchronized
  have hinX1 : ∀ w ∈ u_ws RX1 TX1 12, w ∈ wsX1_isStoreFull := fun w h => List.mem_cons_of_mem _ (List.mem_append_right _ h)
  have hw1 := hts (.fieldLink RX1 22 "ChoiceBoard" "stored" "I") (by decide +kernel)
  have hl := lv_entry ([.ref bx]) (n := 1) (Nat.le_of_ble_eq_true rfl)
  rw [lg_entry_eq]
  generalize (lg_sl ([.ref bx]) ++ List.replicate (1 - (lg_sl ([.ref bx])).length) Slot.unset).toArray = ls at hl ⊢
  have hl : lv_has ls 1 [(0, .ref bx)] := hl
  refine lv_aload_n hx hb dX1_isStoreFull_0 rfl (lv_at hl 0 rfl) ?_
  refine va_get (D := G.1) (ci := 1) (v := .int st) (C := RX1) (T := TX1) (N := 12) hx hb hts hinX1 hown hK.1 hP 0 rfl rfl 3 (by decide) hw1 (fun _ h9 => h9) rfl dX1_isStoreFull_1 ?_
  refine lv_bipush (v := 30) hx hb dX1_isStoreFull_4 (by decide) ?_
  refine lv_icmp_lt (tgt := 13) hx hb dX1_isStoreFull_6 (by decide) (fun c_6 => ?_) (fun c_6 => ?_)
  · refine lv_iconst (v := 0) hx hb dX1_isStoreFull_13 (by decide) ?_
    exact W.zret (v := 0) (ty := .boolean) hx hb hr rfl (fun t ht hW => ⟨congrArg (fun z => Outcome.returned (some (Value.int z))) (by unfold fuI; rw [if_pos c_6]), ht⟩) (fun _ h => nomatch h) dX1_isStoreFull_14
  · refine lv_iconst (v := 1) hx hb dX1_isStoreFull_9 (by decide) ?_
    refine lv_goto (tgt := 14) hx hb dX1_isStoreFull_10 (by decide) ?_
    exact W.zret (v := 1) (ty := .boolean) hx hb hr rfl (fun t ht hW => ⟨congrArg (fun z => Outcome.returned (some (Value.int z))) (by unfold fuI; rw [if_neg c_6]), ht⟩) (fun _ h => nomatch h) dX1_isStoreFull_14

abbrev rmX1_hasObjective : Room := { frames := 0, cells := 0, slots := 0, locals := 0 }
set_option maxHeartbeats 4000000 in
set_option maxRecDepth 100000 in
theorem c_X1_hasObjective (l : Launch) (G : Gt) (bx bd bo bs bk sc : Nat) (st sk tk be so le an : Int32) (fo : Nat → Int32) : Met l yX1_hasObjective wsX1_hasObjective rmX1_hasObjective (ro_P G [.ref bx] [(bx, .inr (1, [.ref bd, .ref bo, .ref bs, .int st, .ref bk, .int sk, .ref sc, .int tk, .int be, .int so, .int le, .int an])), (bo, eI G 10 fo)]) (QcRead (bI (hoB fo))) 0 0 (fun _ => False) := by
  refine Met.ofW (cc := cX1_hasObjective) (maxL := 2) (ret := (some .boolean)) (by decide) rfl ?_
  intro p e s m args below meth c s₁ B hml hv
  obtain ⟨rfl, hP, hK⟩ := hv
  have hx := B.exec
  have hb := B.bytes
  have hr := B.returns
  have hts := atoms_spec (ws := wsX1_hasObjective) B.pre
  have hown : s.vm.findClass RX1 = some m.cls := findClass_of_methodNamed B.named
  have hlocks := B.notSynchronized
  have hinX1 : ∀ w ∈ u_ws RX1 TX1 12, w ∈ wsX1_hasObjective := fun w h => List.mem_cons_of_mem _ (List.mem_append_right _ h)
  have hw1 := hts (.fieldLink RX1 13 "ChoiceBoard" "objectiveFactors" "[I") (by decide +kernel)
  have hl := lv_entry ([.ref bx]) (n := 2) (Nat.le_of_ble_eq_true rfl)
  rw [lg_entry_eq]
  generalize (lg_sl ([.ref bx]) ++ List.replicate (2 - (lg_sl ([.ref bx])).length) Slot.unset).toArray = ls at hl ⊢
  have hl : lv_has ls 2 [(0, .ref bx)] := hl
  refine lv_iconst (v := 0) hx hb dX1_hasObjective_0 (by decide) ?_
  refine lv_istore_n (lv' := [(1, .int 0), (0, .ref bx)]) hx hb dX1_hasObjective_1 rfl hl (by decide) rfl (fun ls hl => ?_)
  have loop_2 : ∀ (n_2 i : Nat) (xi : Int32), i ≤ 10 → 10 + 1 ≤ i + n_2 → (xi = nI i) → (anyB (fun v => decide (¬ fo v = 0)) i = false) → ∀ ls : Array Slot, lv_has ls 2 [(0, .ref bx), (1, .int xi)] → W p l e rmX1_hasObjective s m [.ref bx].toArray below meth c s.heap [] 0 0 (MQ below (QcRead (bI (hoB fo))) [.ref bx].toArray s 0 0 (fun _ => False)) (F0 m 2 ls []) := by
    intro n_2
    induction n_2 with
    | zero => intro i xi h1 h2; exact absurd h2 (by omega)
    | succ n_2 ih_2 =>
      intro i xi hi_2 hn_2 ei ea ls hl
      refine lv_iload_n hx hb dX1_hasObjective_2 rfl (lv_at hl 1 rfl) ?_
      refine lv_bipush (v := 10) hx hb dX1_hasObjective_3 (by decide) ?_
      refine lv_icmp_ge (tgt := 25) hx hb dX1_hasObjective_5 (by decide) (fun c_5 => ?_) (fun c_5 => ?_)
      · have hN : i = 10 := ge_ix ei (by decide) (by decide) c_5 hi_2
        refine lv_iconst (v := 0) hx hb dX1_hasObjective_25 (by decide) ?_
        exact W.zret (v := 0) (ty := .boolean) hx hb hr rfl (fun t ht hW => ⟨congrArg (fun z => Outcome.returned (some (Value.int z))) (by unfold hoB; rw [← hN, ea]; rfl), ht⟩) (fun _ h => nomatch h) dX1_hasObjective_26
      · have hlt : i < 10 := lt_ix ei (by decide) (by decide) c_5 hi_2
        refine lv_aload_n hx hb dX1_hasObjective_8 rfl (lv_at hl 0 rfl) ?_
        refine va_get (D := G.1) (ci := 1) (v := .ref bo) (C := RX1) (T := TX1) (N := 12) hx hb hts hinX1 hown hK.1 hP 0 rfl rfl 1 (by decide) hw1 (fun _ h9 => h9) rfl dX1_hasObjective_9 ?_
        refine lv_iload_n hx hb dX1_hasObjective_12 rfl (lv_at hl 1 rfl) ?_
        refine ra_iald (f := fo) (v := i) hx hb hK.1 hP 1 0 rfl rfl ei (by omega) (by decide) dX1_hasObjective_13 ?_
        refine lv_if_eq (tgt := 19) hx hb dX1_hasObjective_14 (by decide) (fun c_14 => ?_) (fun c_14 => ?_)
        · refine lv_iinc (v := xi + 1) (lv' := [(1, .int (xi + 1)), (0, .ref bx)]) hx hb dX1_hasObjective_19 hl (k := 1) rfl rfl (by decide) rfl (fun ls hl => ?_)
          refine lv_goto (tgt := 2) hx hb dX1_hasObjective_22 (by decide) ?_
          exact ih_2 (i + 1) _ (by omega) (by omega) (by rw [ei]; exact nI_1 i) (by rw [anyB_f (decide_eq_false (fun q => q c_14))]; exact ea) ls (lv_sub hl [1, 0] rfl)
        · refine lv_iconst (v := 1) hx hb dX1_hasObjective_17 (by decide) ?_
          exact W.zret (v := 1) (ty := .boolean) hx hb hr rfl (fun t ht hW => ⟨congrArg (fun z => Outcome.returned (some (Value.int z))) (by unfold hoB; rw [anyB_true (i := i) (decide_eq_true c_14) 10 hlt]; rfl), ht⟩) (fun _ h => nomatch h) dX1_hasObjective_18
  exact loop_2 (10 + 1) 0 _ (Nat.zero_le _) (by omega) (by exact nI_0.symm) (by rfl) ls (lv_sub hl [1, 0] rfl)

abbrev rmX1_objectiveValue : Room := { frames := 1, cells := 0, slots := 0, locals := 21 }
set_option maxHeartbeats 4000000 in
set_option maxRecDepth 100000 in
theorem c_X1_objectiveValue (l : Launch) (G : Gt) (bx bd bo bs bk sc : Nat) (st sk tk be so le an : Int32) (fo : Nat → Int32) (x : Int32) : Met l yX1_objectiveValue wsX1_objectiveValue rmX1_objectiveValue (ro_P G [.ref bx, .int x] [(bx, .inr (1, [.ref bd, .ref bo, .ref bs, .int st, .ref bk, .int sk, .ref sc, .int tk, .int be, .int so, .int le, .int an])), (bo, eI G 10 fo)]) (QcRead (ovI fo x)) 0 0 (fun _ => False) := by
  refine Met.ofW (cc := cX1_objectiveValue) (maxL := 4) (ret := (some .int)) (by decide) rfl ?_
  intro p e s m args below meth c s₁ B hml hv
  obtain ⟨rfl, hP, hK⟩ := hv
  have hx := B.exec
  have hb := B.bytes
  have hr := B.returns
  have hts := atoms_spec (ws := wsX1_objectiveValue) B.pre
  have hown : s.vm.findClass RX1 = some m.cls := findClass_of_methodNamed B.named
  have hlocks := B.notSynchronized
  have hinX1 : ∀ w ∈ u_ws RX1 TX1 12, w ∈ wsX1_objectiveValue := fun w h => List.mem_cons_of_mem _ (List.mem_append_right _ h)
  have hw1 := hts (.fieldLink RX1 13 "ChoiceBoard" "objectiveFactors" "[I") (by decide +kernel)
  have hl := lv_entry ([.ref bx, .int x]) (n := 4) (Nat.le_of_ble_eq_true rfl)
  rw [lg_entry_eq]
  generalize (lg_sl ([.ref bx, .int x]) ++ List.replicate (4 - (lg_sl ([.ref bx, .int x])).length) Slot.unset).toArray = ls at hl ⊢
  have hl : lv_has ls 4 [(0, .ref bx), (1, .int x)] := hl
  refine lv_iconst (v := 0) hx hb dX1_objectiveValue_0 (by decide) ?_
  refine lv_istore_n (lv' := [(2, .int 0), (0, .ref bx), (1, .int x)]) hx hb dX1_objectiveValue_1 rfl hl (by decide) rfl (fun ls hl => ?_)
  refine lv_iconst (v := 0) hx hb dX1_objectiveValue_2 (by decide) ?_
  refine lv_istore_n (lv' := [(3, .int 0), (2, .int 0), (0, .ref bx), (1, .int x)]) hx hb dX1_objectiveValue_3 rfl hl (by decide) rfl (fun ls hl => ?_)
  have loop_4 : ∀ (n_4 i : Nat) (ys xi : Int32), i ≤ 10 → 10 + 1 ≤ i + n_4 → (ys = sg 0 (fun v => fo v * bitI x (nI v)) i) → (xi = nI i) → ∀ ls : Array Slot, lv_has ls 4 [(0, .ref bx), (1, .int x), (2, .int ys), (3, .int xi)] → W p l e rmX1_objectiveValue s m [.ref bx, .int x].toArray below meth c s.heap [] 0 0 (MQ below (QcRead (ovI fo x)) [.ref bx, .int x].toArray s 0 0 (fun _ => False)) (F0 m 4 ls []) := by
    intro n_4
    induction n_4 with
    | zero => intro i ys xi h1 h2; exact absurd h2 (by omega)
    | succ n_4 ih_4 =>
      intro i ys xi hi_4 hn_4 es ei ls hl
      refine lv_iload_n hx hb dX1_objectiveValue_4 rfl (lv_at hl 3 rfl) ?_
      refine lv_bipush (v := 10) hx hb dX1_objectiveValue_5 (by decide) ?_
      refine lv_icmp_ge (tgt := 31) hx hb dX1_objectiveValue_7 (by decide) (fun c_7 => ?_) (fun c_7 => ?_)
      · have hN : i = 10 := ge_ix ei (by decide) (by decide) c_7 hi_4
        refine lv_iload_n hx hb dX1_objectiveValue_31 rfl (lv_at hl 2 rfl) ?_
        exact W.iret (v := ys) hx hb hr (fun t ht hW => ⟨congrArg (fun z => Outcome.returned (some (Value.int z))) (by rw [es, hN]; rfl), ht⟩) (fun _ h => nomatch h) dX1_objectiveValue_32
      · have hlt : i < 10 := lt_ix ei (by decide) (by decide) c_7 hi_4
        refine lv_iload_n hx hb dX1_objectiveValue_10 rfl (lv_at hl 2 rfl) ?_
        refine lv_aload_n hx hb dX1_objectiveValue_11 rfl (lv_at hl 0 rfl) ?_
        refine va_get (D := G.1) (ci := 1) (v := .ref bo) (C := RX1) (T := TX1) (N := 12) hx hb hts hinX1 hown hK.1 hP 0 rfl rfl 1 (by decide) hw1 (fun _ h9 => h9) rfl dX1_objectiveValue_12 ?_
        refine lv_iload_n hx hb dX1_objectiveValue_15 rfl (lv_at hl 3 rfl) ?_
        refine ra_iald (f := fo) (v := i) hx hb hK.1 hP 1 0 rfl rfl ei (by omega) (by decide) dX1_objectiveValue_16 ?_
        refine lv_iload_n hx hb dX1_objectiveValue_17 rfl (lv_at hl 1 rfl) ?_
        refine lv_iload_n hx hb dX1_objectiveValue_18 rfl (lv_at hl 3 rfl) ?_
        refine ro_call (va_runS (As := [.int x, .int xi]) (rest := [.int (fo i), .int ys]) ⟨hx, hb, hml, hown, hts⟩ (c_X1_bit l G x xi) (va_cwS 2 hts gX1_objectiveValue_X1_bit rfl rfl rfl (by decide +kernel) ⟨Nat.le_of_ble_eq_true rfl, Nat.le_of_ble_eq_true rfl⟩) ⟨ro_blind, ro_pre _ (hP.sub [] rfl) hK⟩ rfl rfl hl.1 rfl (lv_room (Nat.le_of_ble_eq_true rfl)) dX1_objectiveValue_19 ⟨Nat.le_refl _, Nat.le_refl _⟩) ?_
        refine lv_imul hx hb dX1_objectiveValue_22 ?_
        refine lv_iadd hx hb dX1_objectiveValue_23 ?_
        refine lv_istore_n (lv' := [(2, .int (ys + ((fo i) * (bitI x xi)))), (0, .ref bx), (1, .int x), (3, .int xi)]) hx hb dX1_objectiveValue_24 rfl hl (by decide) rfl (fun ls hl => ?_)
        refine lv_iinc (v := xi + 1) (lv' := [(3, .int (xi + 1)), (2, .int (ys + ((fo i) * (bitI x xi)))), (0, .ref bx), (1, .int x)]) hx hb dX1_objectiveValue_25 hl (k := 3) rfl rfl (by decide) rfl (fun ls hl => ?_)
        refine lv_goto (tgt := 4) hx hb dX1_objectiveValue_28 (by decide) ?_
        exact ih_4 (i + 1) _ _ (by omega) (by omega) (by rw [es]; show _ = sg 0 (fun v => fo v * bitI x (nI v)) i + fo i * bitI x (nI i); rw [← ei]) (by rw [ei]; exact nI_1 i) ls (lv_sub hl [2, 3, 1, 0] rfl)
  exact loop_4 (10 + 1) 0 _ _ (Nat.zero_le _) (by omega) (by rfl) (by exact nI_0.symm) ls (lv_sub hl [2, 3, 1, 0] rfl)

abbrev rmX1_comesBefore : Room := { frames := 0, cells := 0, slots := 0, locals := 0 }
set_option maxHeartbeats 4000000 in
set_option maxRecDepth 100000 in
theorem c_X1_comesBefore (l : Launch) (G : Gt) (x y : Int32) : Met l yX1_comesBefore wsX1_comesBefore rmX1_comesBefore (ro_P G [.int x, .int y] []) (QcRead (cbI x y)) 0 0 (fun _ => False) := by
  refine Met.ofW (cc := cX1_comesBefore) (maxL := 4) (ret := (some .boolean)) (by decide) rfl ?_
  intro p e s m args below meth c s₁ B hml hv
  obtain ⟨rfl, hP, hK⟩ := hv
  have hx := B.exec
  have hb := B.bytes
  have hr := B.returns
  have hts := atoms_spec (ws := wsX1_comesBefore) B.pre
  have hown : s.vm.findClass RX1 = some m.cls := findClass_of_methodNamed B.named
  have hlocks := B.notSynchronized
  have hl := lv_entry ([.int x, .int y]) (n := 4) (Nat.le_of_ble_eq_true rfl)
  rw [lg_entry_eq]
  generalize (lg_sl ([.int x, .int y]) ++ List.replicate (4 - (lg_sl ([.int x, .int y])).length) Slot.unset).toArray = ls at hl ⊢
  have hl : lv_has ls 4 [(0, .int x), (1, .int y)] := hl
  refine lv_iload_n hx hb dX1_comesBefore_0 rfl (lv_at hl 0 rfl) ?_
  refine lv_iload_n hx hb dX1_comesBefore_1 rfl (lv_at hl 1 rfl) ?_
  refine lv_ixor hx hb dX1_comesBefore_2 ?_
  refine lv_istore_n (lv' := [(2, .int (x ^^^ y)), (0, .int x), (1, .int y)]) hx hb dX1_comesBefore_3 rfl hl (by decide) rfl (fun ls hl => ?_)
  refine lv_iload_n hx hb dX1_comesBefore_4 rfl (lv_at hl 0 rfl) ?_
  refine lv_iload_n hx hb dX1_comesBefore_5 rfl (lv_at hl 0 rfl) ?_
  refine lv_ineg hx hb dX1_comesBefore_6 ?_
  refine lv_iand hx hb dX1_comesBefore_7 ?_
  refine lv_istore_n (lv' := [(3, .int ((x ^^^ y) &&& (-(x ^^^ y)))), (2, .int (x ^^^ y)), (0, .int x), (1, .int y)]) hx hb dX1_comesBefore_8 rfl hl (by decide) rfl (fun ls hl => ?_)
  refine lv_iload_n hx hb dX1_comesBefore_9 rfl (lv_at hl 3 rfl) ?_
  refine lv_iload_n hx hb dX1_comesBefore_10 rfl (lv_at hl 0 rfl) ?_
  refine lv_iand hx hb dX1_comesBefore_11 ?_
  refine lv_if_eq (tgt := 19) hx hb dX1_comesBefore_12 (by decide) (fun c_12 => ?_) (fun c_12 => ?_)
  · refine lv_iconst (v := 0) hx hb dX1_comesBefore_19 (by decide) ?_
    exact W.zret (v := 0) (ty := .boolean) hx hb hr rfl (fun t ht hW => ⟨congrArg (fun z => Outcome.returned (some (Value.int z))) (by unfold cbI; rw [if_pos c_12]), ht⟩) (fun _ h => nomatch h) dX1_comesBefore_20
  · refine lv_iconst (v := 1) hx hb dX1_comesBefore_15 (by decide) ?_
    refine lv_goto (tgt := 20) hx hb dX1_comesBefore_16 (by decide) ?_
    exact W.zret (v := 1) (ty := .boolean) hx hb hr rfl (fun t ht hW => ⟨congrArg (fun z => Outcome.returned (some (Value.int z))) (by unfold cbI; rw [if_neg c_12]), ht⟩) (fun _ h => nomatch h) dX1_comesBefore_20

abbrev rmX1_isPreferred : Room := { frames := 1, cells := 0, slots := 0, locals := 23 }
set_option maxHeartbeats 4000000 in
set_option maxRecDepth 100000 in
theorem c_X1_isPreferred (l : Launch) (G : Gt) (bx bd bo bs bk sc : Nat) (st sk tk be so le an : Int32) (x y : Int32) : Met l yX1_isPreferred wsX1_isPreferred rmX1_isPreferred (ro_P G [.ref bx, .int x, .int y] [(bx, .inr (1, [.ref bd, .ref bo, .ref bs, .int st, .ref bk, .int sk, .ref sc, .int tk, .int be, .int so, .int le, .int an]))]) (QcRead (prI so le an x y)) 0 0 (fun _ => False) := by
  refine Met.ofW (cc := cX1_isPreferred) (maxL := 3) (ret := (some .boolean)) (by decide) rfl ?_
  intro p e s m args below meth c s₁ B hml hv
  obtain ⟨rfl, hP, hK⟩ := hv
  have hx := B.exec
  have hb := B.bytes
  have hr := B.returns
  have hts := atoms_spec (ws := wsX1_isPreferred) B.pre
  have hown : s.vm.findClass RX1 = some m.cls := findClass_of_methodNamed B.named
  have hlocks := B.notSynchronized
  have hinX1 : ∀ w ∈ u_ws RX1 TX1 12, w ∈ wsX1_isPreferred := fun w h => List.mem_cons_of_mem _ (List.mem_append_right _ h)
  have hw1 := hts (.fieldLink RX1 44 "ChoiceBoard" "solved" "Z") (by decide +kernel)
  have hw2 := hts (.fieldLink RX1 47 "ChoiceBoard" "leastValue" "I") (by decide +kernel)
  have hw3 := hts (.fieldLink RX1 50 "ChoiceBoard" "leastChoice" "I") (by decide +kernel)
  have hl := lv_entry ([.ref bx, .int x, .int y]) (n := 3) (Nat.le_of_ble_eq_true rfl)
  rw [lg_entry_eq]
  generalize (lg_sl ([.ref bx, .int x, .int y]) ++ List.replicate (3 - (lg_sl ([.ref bx, .int x, .int y])).length) Slot.unset).toArray = ls at hl ⊢
  have hl : lv_has ls 3 [(0, .ref bx), (1, .int x), (2, .int y)] := hl
  refine lv_aload_n hx hb dX1_isPreferred_0 rfl (lv_at hl 0 rfl) ?_
  refine va_get (D := G.1) (ci := 1) (v := .int so) (C := RX1) (T := TX1) (N := 12) hx hb hts hinX1 hown hK.1 hP 0 rfl rfl 9 (by decide) hw1 (fun _ h9 => h9) rfl dX1_isPreferred_1 ?_
  refine lv_if_eq (tgt := 15) hx hb dX1_isPreferred_4 (by decide) (fun c_4 => ?_) (fun c_4 => ?_)
  · refine lv_iconst (v := 1) hx hb dX1_isPreferred_15 (by decide) ?_
    exact W.zret (v := 1) (ty := .boolean) hx hb hr rfl (fun t ht hW => ⟨congrArg (fun z => Outcome.returned (some (Value.int z))) (by unfold prI; rw [if_pos c_4]), ht⟩) (fun _ h => nomatch h) dX1_isPreferred_16
  · refine lv_iload_n hx hb dX1_isPreferred_7 rfl (lv_at hl 2 rfl) ?_
    refine lv_aload_n hx hb dX1_isPreferred_8 rfl (lv_at hl 0 rfl) ?_
    refine va_get (D := G.1) (ci := 1) (v := .int le) (C := RX1) (T := TX1) (N := 12) hx hb hts hinX1 hown hK.1 hP 0 rfl rfl 10 (by decide) hw2 (fun _ h9 => h9) rfl dX1_isPreferred_9 ?_
    refine lv_icmp_ge (tgt := 17) hx hb dX1_isPreferred_12 (by decide) (fun c_12 => ?_) (fun c_12 => ?_)
    · refine lv_iload_n hx hb dX1_isPreferred_17 rfl (lv_at hl 2 rfl) ?_
      refine lv_aload_n hx hb dX1_isPreferred_18 rfl (lv_at hl 0 rfl) ?_
      refine va_get (D := G.1) (ci := 1) (v := .int le) (C := RX1) (T := TX1) (N := 12) hx hb hts hinX1 hown hK.1 hP 0 rfl rfl 10 (by decide) hw2 (fun _ h9 => h9) rfl dX1_isPreferred_19 ?_
      refine lv_icmp_ne (tgt := 40) hx hb dX1_isPreferred_22 (by decide) (fun c_22 => ?_) (fun c_22 => ?_)
      · refine lv_iconst (v := 0) hx hb dX1_isPreferred_40 (by decide) ?_
        exact W.zret (v := 0) (ty := .boolean) hx hb hr rfl (fun t ht hW => ⟨congrArg (fun z => Outcome.returned (some (Value.int z))) (by unfold prI; rw [if_neg c_4, if_neg (Int32.not_lt.mpr c_12), if_neg c_22]), ht⟩) (fun _ h => nomatch h) dX1_isPreferred_41
      · refine lv_iload_n hx hb dX1_isPreferred_25 rfl (lv_at hl 1 rfl) ?_
        refine lv_aload_n hx hb dX1_isPreferred_26 rfl (lv_at hl 0 rfl) ?_
        refine va_get (D := G.1) (ci := 1) (v := .int an) (C := RX1) (T := TX1) (N := 12) hx hb hts hinX1 hown hK.1 hP 0 rfl rfl 11 (by decide) hw3 (fun _ h9 => h9) rfl dX1_isPreferred_27 ?_
        refine ro_call (va_runS (As := [.int x, .int an]) (rest := []) ⟨hx, hb, hml, hown, hts⟩ (c_X1_comesBefore l G x an) (va_cwS 2 hts gX1_isPreferred_X1_comesBefore rfl rfl rfl (by decide +kernel) ⟨Nat.le_of_ble_eq_true rfl, Nat.le_of_ble_eq_true rfl⟩) ⟨ro_blind, ro_pre _ (hP.sub [] rfl) hK⟩ rfl rfl hl.1 rfl (lv_room (Nat.le_of_ble_eq_true rfl)) dX1_isPreferred_30 ⟨Nat.le_refl _, Nat.le_refl _⟩) ?_
        refine lv_if_eq (tgt := 40) hx hb dX1_isPreferred_33 (by decide) (fun c_33 => ?_) (fun c_33 => ?_)
        · refine lv_iconst (v := 0) hx hb dX1_isPreferred_40 (by decide) ?_
          exact W.zret (v := 0) (ty := .boolean) hx hb hr rfl (fun t ht hW => ⟨congrArg (fun z => Outcome.returned (some (Value.int z))) (by unfold prI; rw [if_neg c_4, if_neg (Int32.not_lt.mpr c_12), if_pos c_22, if_pos c_33]), ht⟩) (fun _ h => nomatch h) dX1_isPreferred_41
        · refine lv_iconst (v := 1) hx hb dX1_isPreferred_36 (by decide) ?_
          refine lv_goto (tgt := 41) hx hb dX1_isPreferred_37 (by decide) ?_
          exact W.zret (v := 1) (ty := .boolean) hx hb hr rfl (fun t ht hW => ⟨congrArg (fun z => Outcome.returned (some (Value.int z))) (by unfold prI; rw [if_neg c_4, if_neg (Int32.not_lt.mpr c_12), if_pos c_22, if_neg c_33]), ht⟩) (fun _ h => nomatch h) dX1_isPreferred_41
    · refine lv_iconst (v := 1) hx hb dX1_isPreferred_15 (by decide) ?_
      exact W.zret (v := 1) (ty := .boolean) hx hb hr rfl (fun t ht hW => ⟨congrArg (fun z => Outcome.returned (some (Value.int z))) (by unfold prI; rw [if_neg c_4, if_pos (Int32.not_le.mp c_12)]), ht⟩) (fun _ h => nomatch h) dX1_isPreferred_16

abbrev rmX1_meetsStore : Room := { frames := 4, cells := 0, slots := 0, locals := 87 }
set_option maxHeartbeats 4000000 in
set_option maxRecDepth 100000 in
theorem c_X1_meetsStore (l : Launch) (G : Gt) (bx bd bo bs bk : Nat) (ca wa : Nat → Nat) (st sk tk be so le an : Int32) (fd fo : Nat → Int32) (ro : Nat → Nat → Int32) (dg gv : Nat → Int32) (x y : Int32) (k : Nat) (est : st = nI k) (hk30 : k ≤ 30) : Met l yX1_meetsStore wsX1_meetsStore rmX1_meetsStore (ro_P G [.ref bx, .int x, .int y] ([(bx, .inr (1, [.ref bd, .ref bo, .ref bs, .int st, .ref bk, .int sk, .ref (ca 36), .int tk, .int be, .int so, .int le, .int an])), (bd, eI G 10 fd), (bo, eI G 10 fo), (bs, eR G 30 (fun k => some (ca k))), (bk, eR G 6 (fun k => some (ca (30 + k))))] ++ pool G ca wa ro dg gv)) (QcRead (bI (allB (msB ro dg gv x y) k))) 0 0 (fun _ => False) := by
  refine Met.ofW (cc := cX1_meetsStore) (maxL := 5) (ret := (some .boolean)) (by decide) rfl ?_
  intro p e s m args below meth c s₁ B hml hv
  obtain ⟨rfl, hP, hK⟩ := hv
  have hx := B.exec
  have hb := B.bytes
  have hr := B.returns
  have hts := atoms_spec (ws := wsX1_meetsStore) B.pre
  have hown : s.vm.findClass RX1 = some m.cls := findClass_of_methodNamed B.named
  have hlocks := B.notSynchronized
  have hinX0 : ∀ w ∈ u_ws RX0 TX0 3, w ∈ wsX1_meetsStore := fun w h => List.mem_cons_of_mem _ (List.mem_append_right _ h)
  have hinX1 : ∀ w ∈ u_ws RX1 TX1 12, w ∈ wsX1_meetsStore := fun w h => List.mem_cons_of_mem _ (List.mem_append_left _ (List.mem_append_right _ h))
  have hw1 := hts (.fieldLink RX1 22 "ChoiceBoard" "stored" "I") (by decide +kernel)
  have hw2 := hts (.fieldLink RX1 18 "ChoiceBoard" "store" "[LChoiceBoard$Constraint;") (by decide +kernel)
  have hl := lv_entry ([.ref bx, .int x, .int y]) (n := 5) (Nat.le_of_ble_eq_true rfl)
  rw [lg_entry_eq]
  generalize (lg_sl ([.ref bx, .int x, .int y]) ++ List.replicate (5 - (lg_sl ([.ref bx, .int x, .int y])).length) Slot.unset).toArray = ls at hl ⊢
  have hl : lv_has ls 5 [(0, .ref bx), (1, .int x), (2, .int y)] := hl
  refine lv_iconst (v := 0) hx hb dX1_meetsStore_0 (by decide) ?_
  refine lv_istore_n (lv' := [(3, .int 0), (0, .ref bx), (1, .int x), (2, .int y)]) hx hb dX1_meetsStore_1 rfl hl (by decide) rfl (fun ls hl => ?_)
  have loop_2 : ∀ (n_2 i : Nat) (xi : Int32), i ≤ k → k + 1 ≤ i + n_2 → (xi = nI i) → (allB (msB ro dg gv x y) i = true) → ∀ ls : Array Slot, lv_has ls 5 [(0, .ref bx), (1, .int x), (2, .int y), (3, .int xi)] → W p l e rmX1_meetsStore s m [.ref bx, .int x, .int y].toArray below meth c s.heap [] 0 0 (MQ below (QcRead (bI (allB (msB ro dg gv x y) k))) [.ref bx, .int x, .int y].toArray s 0 0 (fun _ => False)) (F0 m 2 ls []) := by
    intro n_2
    induction n_2 with
    | zero => intro i xi h1 h2; exact absurd h2 (by omega)
    | succ n_2 ih_2 =>
      intro i xi hi_2 hn_2 ei ea ls hl
      refine lv_iload_n hx hb dX1_meetsStore_2 rfl (lv_at hl 3 rfl) ?_
      refine lv_aload_n hx hb dX1_meetsStore_3 rfl (lv_at hl 0 rfl) ?_
      refine va_get (D := G.1) (ci := 1) (v := .int st) (C := RX1) (T := TX1) (N := 12) hx hb hts hinX1 hown hK.1 hP 0 rfl rfl 3 (by decide) hw1 (fun _ h9 => h9) rfl dX1_meetsStore_4 ?_
      refine lv_icmp_ge (tgt := 59) hx hb dX1_meetsStore_7 (by decide) (fun c_7 => ?_) (fun c_7 => ?_)
      · have hN : i = k := ge_ix ei est (by omega) c_7 hi_2
        refine lv_iconst (v := 1) hx hb dX1_meetsStore_59 (by decide) ?_
        exact W.zret (v := 1) (ty := .boolean) hx hb hr rfl (fun t ht hW => ⟨congrArg (fun z => Outcome.returned (some (Value.int z))) (by rw [← hN, ea]; rfl), ht⟩) (fun _ h => nomatch h) dX1_meetsStore_60
      · have hlt : i < k := lt_ix ei est (by omega) c_7 hi_2
        have join_31 : ∀ (x4 : Int32), (x4 = asI (gv i) y) → ∀ ls : Array Slot, lv_has ls 5 [(0, .ref bx), (1, .int x), (2, .int y), (3, .int xi)] → W p l e rmX1_meetsStore s m [.ref bx, .int x, .int y].toArray below meth c s.heap [] 0 0 (MQ below (QcRead (bI (allB (msB ro dg gv x y) k))) [.ref bx, .int x, .int y].toArray s 0 0 (fun _ => False)) (F0 m 31 ls [.int x4]) := by
          intro x4 e4 ls hl
          refine lv_istore (lv' := [(4, .int x4), (0, .ref bx), (1, .int x), (2, .int y), (3, .int xi)]) hx hb dX1_meetsStore_31 hl (by decide) rfl (fun ls hl => ?_)
          refine lv_iload hx hb dX1_meetsStore_33 (lv_at hl 0 rfl) ?_
          refine lv_if_eq (tgt := 53) hx hb dX1_meetsStore_35 (by decide) (fun c_35 => ?_) (fun c_35 => ?_)
          · refine lv_iinc (v := xi + 1) (lv' := [(3, .int (xi + 1)), (4, .int x4), (0, .ref bx), (1, .int x), (2, .int y)]) hx hb dX1_meetsStore_53 hl (k := 4) rfl rfl (by decide) rfl (fun ls hl => ?_)
            refine lv_goto (tgt := 2) hx hb dX1_meetsStore_56 (by decide) ?_
            exact ih_2 (i + 1) _ (by omega) (by omega) (by rw [ei]; exact nI_1 i) (by rw [allB_t (by unfold msB; rw [← e4, decide_eq_true c_35, Bool.true_or])]; exact ea) ls (lv_sub hl [2, 3, 4, 0] rfl)
          · refine lv_aload_n hx hb dX1_meetsStore_38 rfl (lv_at hl 1 rfl) ?_
            refine va_get (D := G.1) (ci := 1) (v := .ref bs) (C := RX1) (T := TX1) (N := 12) hx hb hts hinX1 hown hK.1 hP 0 rfl rfl 2 (by decide) hw2 (fun _ h9 => h9) rfl dX1_meetsStore_39 ?_
            refine lv_iload_n hx hb dX1_meetsStore_42 rfl (lv_at hl 4 rfl) ?_
            refine ra_aald (v := i) (b := ca i) hx hb hK.1 hP 3 2 rfl rfl ei (by omega) (by decide) rfl dX1_meetsStore_43 ?_
            refine lv_iload_n hx hb dX1_meetsStore_44 rfl (lv_at hl 2 rfl) ?_
            refine ro_call (va_runV (As := [.int x]) (rest := []) ⟨hx, hb, hml, hown, hts⟩ (c_X0_isMetBy l G (ca i) (wa i) (dg i) (gv i) (ro i) x) (cwV 1 hts gX1_meetsStore_X0_isMetBy rfl rfl rfl (by decide +kernel) ⟨Nat.le_of_ble_eq_true rfl, Nat.le_of_ble_eq_true rfl⟩) ⟨ro_blind, va_recv hK.1 hP (ci := 0) (q0 := 5 + i) rfl (pool_c rfl (by omega)), ro_pre _ (lcP [5 + i, 42 + i] hP (lc (pool_c rfl (by omega)) (lc (pool_w rfl (by omega)) rfl))) hK⟩ rfl rfl hl.1 rfl (lv_room (Nat.le_of_ble_eq_true rfl)) dX1_meetsStore_45 ⟨Nat.le_refl _, Nat.le_refl _⟩) ?_
            refine lv_if_ne (tgt := 53) hx hb dX1_meetsStore_48 (by decide) (fun c_48 => ?_) (fun c_48 => ?_)
            · refine lv_iinc (v := xi + 1) (lv' := [(3, .int (xi + 1)), (4, .int x4), (0, .ref bx), (1, .int x), (2, .int y)]) hx hb dX1_meetsStore_53 hl (k := 4) rfl rfl (by decide) rfl (fun ls hl => ?_)
              refine lv_goto (tgt := 2) hx hb dX1_meetsStore_56 (by decide) ?_
              exact ih_2 (i + 1) _ (by omega) (by omega) (by rw [ei]; exact nI_1 i) (by rw [allB_t (by unfold msB; rw [decide_eq_true c_48, Bool.or_true])]; exact ea) ls (lv_sub hl [2, 3, 4, 0] rfl)
            · refine lv_iconst (v := 0) hx hb dX1_meetsStore_51 (by decide) ?_
              exact W.zret (v := 0) (ty := .boolean) hx hb hr rfl (fun t ht hW => ⟨congrArg (fun z => Outcome.returned (some (Value.int z))) (by rw [allB_false (i := i) (by unfold msB; rw [← e4, decide_eq_false c_35, decide_eq_false (fun q => q c_48)]; rfl) k hlt]; rfl), ht⟩) (fun _ h => nomatch h) dX1_meetsStore_52
        refine lv_aload_n hx hb dX1_meetsStore_10 rfl (lv_at hl 0 rfl) ?_
        refine va_get (D := G.1) (ci := 1) (v := .ref bs) (C := RX1) (T := TX1) (N := 12) hx hb hts hinX1 hown hK.1 hP 0 rfl rfl 2 (by decide) hw2 (fun _ h9 => h9) rfl dX1_meetsStore_11 ?_
        refine lv_iload_n hx hb dX1_meetsStore_14 rfl (lv_at hl 3 rfl) ?_
        refine ra_aald (v := i) (b := ca i) hx hb hK.1 hP 3 2 rfl rfl ei (by omega) (by decide) rfl dX1_meetsStore_15 ?_
        refine va_getN (D := G.1) (ci := 0) (v := .int (gv i)) (C := RX0) (T := TX0) (N := 3) hx hb hts hinX0 hown hK.1 hP (5 + i) (pool_c rfl (by omega)) rfl 2 (by decide) (va_Nw.use rfl hK.2.2.1) (fun _ h9 => h9) rfl dX1_meetsStore_16 ?_
        refine lv_if_ne (tgt := 26) hx hb dX1_meetsStore_19 (by decide) (fun c_19 => ?_) (fun c_19 => ?_)
        · refine lv_iconst (v := 1) hx hb dX1_meetsStore_26 (by decide) ?_
          refine lv_goto (tgt := 31) hx hb dX1_meetsStore_27 (by decide) ?_
          exact join_31 _ (by unfold asI; rw [if_neg c_19]) ls (lv_sub hl [0, 1, 2, 3] rfl)
        · refine lv_iload_n hx hb dX1_meetsStore_22 rfl (lv_at hl 2 rfl) ?_
          refine lv_if_ne (tgt := 30) hx hb dX1_meetsStore_23 (by decide) (fun c_23 => ?_) (fun c_23 => ?_)
          · refine lv_iconst (v := 0) hx hb dX1_meetsStore_30 (by decide) ?_
            exact join_31 _ (by unfold asI; rw [if_pos c_19, if_neg c_23]) ls (lv_sub hl [0, 1, 2, 3] rfl)
          · refine lv_iconst (v := 1) hx hb dX1_meetsStore_26 (by decide) ?_
            refine lv_goto (tgt := 31) hx hb dX1_meetsStore_27 (by decide) ?_
            exact join_31 _ (by unfold asI; rw [if_pos c_19, if_pos c_23]) ls (lv_sub hl [0, 1, 2, 3] rfl)
  exact loop_2 (k + 1) 0 _ (Nat.zero_le _) (by omega) (by exact nI_0.symm) (by rfl) ls (lv_sub hl [1, 2, 3, 0] rfl)

abbrev rmX1_hasVoid : Room := { frames := 4, cells := 0, slots := 0, locals := 84 }
set_option maxHeartbeats 4000000 in
set_option maxRecDepth 100000 in
theorem c_X1_hasVoid (l : Launch) (G : Gt) (bx bd bo bs bk : Nat) (ca wa : Nat → Nat) (st sk tk be so le an : Int32) (fd fo : Nat → Int32) (ro : Nat → Nat → Int32) (dg gv : Nat → Int32) (k : Nat) (est : st = nI k) (hk30 : k ≤ 30) : Met l yX1_hasVoid wsX1_hasVoid rmX1_hasVoid (ro_P G [.ref bx] ([(bx, .inr (1, [.ref bd, .ref bo, .ref bs, .int st, .ref bk, .int sk, .ref (ca 36), .int tk, .int be, .int so, .int le, .int an])), (bd, eI G 10 fd), (bo, eI G 10 fo), (bs, eR G 30 (fun k => some (ca k))), (bk, eR G 6 (fun k => some (ca (30 + k))))] ++ pool G ca wa ro dg gv)) (QcRead (bI (voB ro dg k))) 0 0 (fun _ => False) := by
  refine Met.ofW (cc := cX1_hasVoid) (maxL := 2) (ret := (some .boolean)) (by decide) rfl ?_
  intro p e s m args below meth c s₁ B hml hv
  obtain ⟨rfl, hP, hK⟩ := hv
  have hx := B.exec
  have hb := B.bytes
  have hr := B.returns
  have hts := atoms_spec (ws := wsX1_hasVoid) B.pre
  have hown : s.vm.findClass RX1 = some m.cls := findClass_of_methodNamed B.named
  have hlocks := B.notSynchronized
  have hinX1 : ∀ w ∈ u_ws RX1 TX1 12, w ∈ wsX1_hasVoid := fun w h => List.mem_cons_of_mem _ (List.mem_append_left _ (List.mem_append_right _ h))
  have hw1 := hts (.fieldLink RX1 22 "ChoiceBoard" "stored" "I") (by decide +kernel)
  have hw2 := hts (.fieldLink RX1 18 "ChoiceBoard" "store" "[LChoiceBoard$Constraint;") (by decide +kernel)
  have hl := lv_entry ([.ref bx]) (n := 2) (Nat.le_of_ble_eq_true rfl)
  rw [lg_entry_eq]
  generalize (lg_sl ([.ref bx]) ++ List.replicate (2 - (lg_sl ([.ref bx])).length) Slot.unset).toArray = ls at hl ⊢
  have hl : lv_has ls 2 [(0, .ref bx)] := hl
  refine lv_iconst (v := 0) hx hb dX1_hasVoid_0 (by decide) ?_
  refine lv_istore_n (lv' := [(1, .int 0), (0, .ref bx)]) hx hb dX1_hasVoid_1 rfl hl (by decide) rfl (fun ls hl => ?_)
  have loop_2 : ∀ (n_2 i : Nat) (xi : Int32), i ≤ k → k + 1 ≤ i + n_2 → (xi = nI i) → (anyB (fun r => decide (¬ voidI (ro r) (dg r) = 0)) i = false) → ∀ ls : Array Slot, lv_has ls 2 [(0, .ref bx), (1, .int xi)] → W p l e rmX1_hasVoid s m [.ref bx].toArray below meth c s.heap [] 0 0 (MQ below (QcRead (bI (voB ro dg k))) [.ref bx].toArray s 0 0 (fun _ => False)) (F0 m 2 ls []) := by
    intro n_2
    induction n_2 with
    | zero => intro i xi h1 h2; exact absurd h2 (by omega)
    | succ n_2 ih_2 =>
      intro i xi hi_2 hn_2 ei ea ls hl
      refine lv_iload_n hx hb dX1_hasVoid_2 rfl (lv_at hl 1 rfl) ?_
      refine lv_aload_n hx hb dX1_hasVoid_3 rfl (lv_at hl 0 rfl) ?_
      refine va_get (D := G.1) (ci := 1) (v := .int st) (C := RX1) (T := TX1) (N := 12) hx hb hts hinX1 hown hK.1 hP 0 rfl rfl 3 (by decide) hw1 (fun _ h9 => h9) rfl dX1_hasVoid_4 ?_
      refine lv_icmp_ge (tgt := 30) hx hb dX1_hasVoid_7 (by decide) (fun c_7 => ?_) (fun c_7 => ?_)
      · have hN : i = k := ge_ix ei est (by omega) c_7 hi_2
        refine lv_iconst (v := 0) hx hb dX1_hasVoid_30 (by decide) ?_
        exact W.zret (v := 0) (ty := .boolean) hx hb hr rfl (fun t ht hW => ⟨congrArg (fun z => Outcome.returned (some (Value.int z))) (by unfold voB; rw [← hN, ea]; rfl), ht⟩) (fun _ h => nomatch h) dX1_hasVoid_31
      · have hlt : i < k := lt_ix ei est (by omega) c_7 hi_2
        refine lv_aload_n hx hb dX1_hasVoid_10 rfl (lv_at hl 0 rfl) ?_
        refine va_get (D := G.1) (ci := 1) (v := .ref bs) (C := RX1) (T := TX1) (N := 12) hx hb hts hinX1 hown hK.1 hP 0 rfl rfl 2 (by decide) hw2 (fun _ h9 => h9) rfl dX1_hasVoid_11 ?_
        refine lv_iload_n hx hb dX1_hasVoid_14 rfl (lv_at hl 1 rfl) ?_
        refine ra_aald (v := i) (b := ca i) hx hb hK.1 hP 3 2 rfl rfl ei (by omega) (by decide) rfl dX1_hasVoid_15 ?_
        refine ro_call (va_runV (As := []) (rest := []) ⟨hx, hb, hml, hown, hts⟩ (c_X0_isVoid l G (ca i) (wa i) (dg i) (gv i) (ro i)) (cwV 0 hts gX1_hasVoid_X0_isVoid rfl rfl rfl (by decide +kernel) ⟨Nat.le_of_ble_eq_true rfl, Nat.le_of_ble_eq_true rfl⟩) ⟨ro_blind, va_recv hK.1 hP (ci := 0) (q0 := 5 + i) rfl (pool_c rfl (by omega)), ro_pre _ (lcP [5 + i, 42 + i] hP (lc (pool_c rfl (by omega)) (lc (pool_w rfl (by omega)) rfl))) hK⟩ rfl rfl hl.1 rfl (lv_room (Nat.le_of_ble_eq_true rfl)) dX1_hasVoid_16 ⟨Nat.le_refl _, Nat.le_refl _⟩) ?_
        refine lv_if_eq (tgt := 24) hx hb dX1_hasVoid_19 (by decide) (fun c_19 => ?_) (fun c_19 => ?_)
        · refine lv_iinc (v := xi + 1) (lv' := [(1, .int (xi + 1)), (0, .ref bx)]) hx hb dX1_hasVoid_24 hl (k := 1) rfl rfl (by decide) rfl (fun ls hl => ?_)
          refine lv_goto (tgt := 2) hx hb dX1_hasVoid_27 (by decide) ?_
          exact ih_2 (i + 1) _ (by omega) (by omega) (by rw [ei]; exact nI_1 i) (by rw [anyB_f (decide_eq_false (fun q => q c_19))]; exact ea) ls (lv_sub hl [1, 0] rfl)
        · refine lv_iconst (v := 1) hx hb dX1_hasVoid_22 (by decide) ?_
          exact W.zret (v := 1) (ty := .boolean) hx hb hr rfl (fun t ht hW => ⟨congrArg (fun z => Outcome.returned (some (Value.int z))) (by unfold voB; rw [anyB_true (i := i) (decide_eq_true c_19) k hlt]; rfl), ht⟩) (fun _ h => nomatch h) dX1_hasVoid_23
  exact loop_2 (k + 1) 0 _ (Nat.zero_le _) (by omega) (by exact nI_0.symm) (by rfl) ls (lv_sub hl [1, 0] rfl)

abbrev rmX1_closed : Room := { frames := 4, cells := 0, slots := 0, locals := 91 }
set_option maxHeartbeats 4000000 in
set_option maxRecDepth 100000 in
theorem c_X1_closed (l : Launch) (G : Gt) (bx bd bo bs bk : Nat) (ca wa : Nat → Nat) (st sk tk be so le an : Int32) (fd fo : Nat → Int32) (ro : Nat → Nat → Int32) (dg gv : Nat → Int32) (x : Int32) (hx1 : ¬ x = -1) (y : Int32) (k : Nat) (ey : y = nI k) (hk30 : k ≤ 30) : Met l yX1_closed wsX1_closed rmX1_closed (ro_P G [.ref bx, .int x, .int y] ([(bx, .inr (1, [.ref bd, .ref bo, .ref bs, .int st, .ref bk, .int sk, .ref (ca 36), .int tk, .int be, .int so, .int le, .int an])), (bd, eI G 10 fd), (bo, eI G 10 fo), (bs, eR G 30 (fun k => some (ca k))), (bk, eR G 6 (fun k => some (ca (30 + k))))] ++ pool G ca wa ro dg gv)) (QcRead (cxO ro dg k x 11)) 0 0 (fun _ => False) := by
  refine Met.ofW (cc := cX1_closed) (maxL := 7) (ret := (some .int)) (by decide) rfl ?_
  intro p e s m args below meth c s₁ B hml hv
  obtain ⟨rfl, hP, hK⟩ := hv
  have hx := B.exec
  have hb := B.bytes
  have hr := B.returns
  have hts := atoms_spec (ws := wsX1_closed) B.pre
  have hown : s.vm.findClass RX1 = some m.cls := findClass_of_methodNamed B.named
  have hlocks := B.notSynchronized
  have hinX1 : ∀ w ∈ u_ws RX1 TX1 12, w ∈ wsX1_closed := fun w h => List.mem_cons_of_mem _ (List.mem_append_left _ (List.mem_append_right _ h))
  have hw1 := hts (.fieldLink RX1 18 "ChoiceBoard" "store" "[LChoiceBoard$Constraint;") (by decide +kernel)
  have hl := lv_entry ([.ref bx, .int x, .int y]) (n := 7) (Nat.le_of_ble_eq_true rfl)
  rw [lg_entry_eq]
  generalize (lg_sl ([.ref bx, .int x, .int y]) ++ List.replicate (7 - (lg_sl ([.ref bx, .int x, .int y])).length) Slot.unset).toArray = ls at hl ⊢
  have hl : lv_has ls 7 [(0, .ref bx), (1, .int x), (2, .int y)] := hl
  refine lv_iload_n hx hb dX1_closed_0 rfl (lv_at hl 1 rfl) ?_
  refine lv_istore_n (lv' := [(3, .int x), (0, .ref bx), (1, .int x), (2, .int y)]) hx hb dX1_closed_1 rfl hl (by decide) rfl (fun ls hl => ?_)
  refine lv_iconst (v := 0) hx hb dX1_closed_2 (by decide) ?_
  refine lv_istore (lv' := [(4, .int 0), (3, .int x), (0, .ref bx), (1, .int x), (2, .int y)]) hx hb dX1_closed_3 hl (by decide) rfl (fun ls hl => ?_)
  have loop_5 : ∀ (n_5 j : Nat) (x3 xj : Int32), j ≤ 11 → 11 + 1 ≤ j + n_5 → (x3 = cxO ro dg k x j) → (xj = nI j) → (¬ x3 = -1) → ∀ ls : Array Slot, lv_has ls 7 [(0, .ref bx), (2, .int y), (3, .int x3), (4, .int xj)] → W p l e rmX1_closed s m [.ref bx, .int x, .int y].toArray below meth c s.heap [] 0 0 (MQ below (QcRead (cxO ro dg k x 11)) [.ref bx, .int x, .int y].toArray s 0 0 (fun _ => False)) (F0 m 5 ls []) := by
    intro n_5
    induction n_5 with
    | zero => intro j x3 xj h1 h2; exact absurd h2 (by omega)
    | succ n_5 ih_5 =>
      intro j x3 xj hi_5 hn_5 e3 ej h3 ls hl
      refine lv_iload hx hb dX1_closed_5 (lv_at hl 3 rfl) ?_
      refine lv_bipush (v := 10) hx hb dX1_closed_7 (by decide) ?_
      refine lv_icmp_gt (tgt := 64) hx hb dX1_closed_9 (by decide) (fun c_9 => ?_) (fun c_9 => ?_)
      · have hN : j = 11 := gt_ix ej (show (10 : Int32) = nI 10 from rfl) (by omega) (by decide) c_9
        refine lv_iload_n hx hb dX1_closed_64 rfl (lv_at hl 2 rfl) ?_
        exact W.iret (v := x3) hx hb hr (fun t ht hW => ⟨congrArg (fun z => Outcome.returned (some (Value.int z))) (by rw [e3, hN]), ht⟩) (fun _ h => nomatch h) dX1_closed_65
      · have hltj : j < 11 := ngt_ix ej (show (10 : Int32) = nI 10 from rfl) (by omega) (by decide) c_9
        refine lv_iload_n hx hb dX1_closed_12 rfl (lv_at hl 2 rfl) ?_
        refine lv_istore (lv' := [(5, .int x3), (0, .ref bx), (2, .int y), (3, .int x3), (4, .int xj)]) hx hb dX1_closed_13 hl (by decide) rfl (fun ls hl => ?_)
        refine lv_iconst (v := 0) hx hb dX1_closed_15 (by decide) ?_
        refine lv_istore (lv' := [(6, .int 0), (5, .int x3), (0, .ref bx), (2, .int y), (3, .int x3), (4, .int xj)]) hx hb dX1_closed_16 hl (by decide) rfl (fun ls hl => ?_)
        have loop_18 : ∀ (n_18 i : Nat) (y3 xi : Int32), i ≤ k → k + 1 ≤ i + n_18 → (y3 = cxR ro dg x3 i) → (xi = nI i) → (¬ y3 = -1) → ∀ ls : Array Slot, lv_has ls 7 [(0, .ref bx), (2, .int y), (3, .int y3), (4, .int xj), (5, .int x3), (6, .int xi)] → W p l e rmX1_closed s m [.ref bx, .int x, .int y].toArray below meth c s.heap [] 0 0 (MQ below (QcRead (cxO ro dg k x 11)) [.ref bx, .int x, .int y].toArray s 0 0 (fun _ => False)) (F0 m 18 ls []) := by
          intro n_18
          induction n_18 with
          | zero => intro i y3 xi h1 h2; exact absurd h2 (by omega)
          | succ n_18 ih_18 =>
            intro i y3 xi hi_18 hn_18 e4 ei h4 ls hl
            refine lv_iload hx hb dX1_closed_18 (lv_at hl 5 rfl) ?_
            refine lv_iload_n hx hb dX1_closed_20 rfl (lv_at hl 1 rfl) ?_
            refine lv_icmp_ge (tgt := 49) hx hb dX1_closed_21 (by decide) (fun c_21 => ?_) (fun c_21 => ?_)
            · have hNi : i = k := ge_ix ei ey (by omega) c_21 hi_18
              have hst : cxO ro dg k x (j + 1) = cxR ro dg x3 k := by show (if _ then _ else _) = _; rw [← e3, if_neg h3]
              refine lv_iload_n hx hb dX1_closed_49 rfl (lv_at hl 2 rfl) ?_
              refine lv_iload hx hb dX1_closed_50 (lv_at hl 4 rfl) ?_
              refine lv_icmp_ne (tgt := 58) hx hb dX1_closed_52 (by decide) (fun c_52 => ?_) (fun c_52 => ?_)
              · refine lv_iinc (v := xj + 1) (lv' := [(4, .int (xj + 1)), (0, .ref bx), (2, .int y), (3, .int y3), (5, .int x3), (6, .int xi)]) hx hb dX1_closed_58 hl (k := 3) rfl rfl (by decide) rfl (fun ls hl => ?_)
                refine lv_goto (tgt := 5) hx hb dX1_closed_61 (by decide) ?_
                exact ih_5 (j + 1) _ _ (by omega) (by omega) (by rw [hst, ← hNi]; exact e4) (by rw [ej]; exact nI_1 j) (by exact h4) ls (lv_sub hl [1, 2, 3, 0] rfl)
              · have h11 : cxO ro dg k x 11 = y3 := by have h9 := cxO_fix (ro := ro) (dg := dg) (k := k) (x := x) (n := j) (by rw [hst, ← e3, ← hNi, ← e4]; exact c_52) (11 - j); rw [show j + (11 - j) = 11 by omega, ← e3] at h9; rw [h9]; exact c_52.symm
                refine lv_goto (tgt := 64) hx hb dX1_closed_55 (by decide) ?_
                refine lv_iload_n hx hb dX1_closed_64 rfl (lv_at hl 2 rfl) ?_
                exact W.iret (v := y3) hx hb hr (fun t ht hW => ⟨congrArg (fun z => Outcome.returned (some (Value.int z))) (by rw [h11]), ht⟩) (fun _ h => nomatch h) dX1_closed_65
            · have hlt : i < k := lt_ix ei ey (by omega) c_21 hi_18
              have hrow : cxR ro dg x3 (i + 1) = fcd (ro i) (dg i) y3 := by show (if _ then _ else _) = _; rw [← e4, if_neg h4]
              refine lv_aload_n hx hb dX1_closed_24 rfl (lv_at hl 0 rfl) ?_
              refine va_get (D := G.1) (ci := 1) (v := .ref bs) (C := RX1) (T := TX1) (N := 12) hx hb hts hinX1 hown hK.1 hP 0 rfl rfl 2 (by decide) hw1 (fun _ h9 => h9) rfl dX1_closed_25 ?_
              refine lv_iload hx hb dX1_closed_28 (lv_at hl 5 rfl) ?_
              refine ra_aald (v := i) (b := ca i) hx hb hK.1 hP 3 2 rfl rfl ei (by omega) (by decide) rfl dX1_closed_30 ?_
              refine lv_iload_n hx hb dX1_closed_31 rfl (lv_at hl 2 rfl) ?_
              refine ro_call (va_runV (As := [.int y3]) (rest := []) ⟨hx, hb, hml, hown, hts⟩ (c_X0_forcedFrom l G (ca i) (wa i) (dg i) (gv i) (ro i) y3) (cwV 1 hts gX1_closed_X0_forcedFrom rfl rfl rfl (by decide +kernel) ⟨Nat.le_of_ble_eq_true rfl, Nat.le_of_ble_eq_true rfl⟩) ⟨ro_blind, va_recv hK.1 hP (ci := 0) (q0 := 5 + i) rfl (pool_c rfl (by omega)), ro_pre _ (lcP [5 + i, 42 + i] hP (lc (pool_c rfl (by omega)) (lc (pool_w rfl (by omega)) rfl))) hK⟩ rfl rfl hl.1 rfl (lv_room (Nat.le_of_ble_eq_true rfl)) dX1_closed_32 ⟨Nat.le_refl _, Nat.le_refl _⟩) ?_
              refine lv_istore_n (lv' := [(3, .int (fcd (ro i) (dg i) y3)), (0, .ref bx), (2, .int y), (4, .int xj), (5, .int x3), (6, .int xi)]) hx hb dX1_closed_35 rfl hl (by decide) rfl (fun ls hl => ?_)
              refine lv_iload_n hx hb dX1_closed_36 rfl (lv_at hl 0 rfl) ?_
              refine lv_iconst (v := (-1)) hx hb dX1_closed_37 (by decide) ?_
              refine lv_icmp_ne (tgt := 43) hx hb dX1_closed_38 (by decide) (fun c_38 => ?_) (fun c_38 => ?_)
              · refine lv_iinc (v := xi + 1) (lv' := [(6, .int (xi + 1)), (3, .int (fcd (ro i) (dg i) y3)), (0, .ref bx), (2, .int y), (4, .int xj), (5, .int x3)]) hx hb dX1_closed_43 hl (k := 5) rfl rfl (by decide) rfl (fun ls hl => ?_)
                refine lv_goto (tgt := 18) hx hb dX1_closed_46 (by decide) ?_
                exact ih_18 (i + 1) _ _ (by omega) (by omega) (by rw [hrow]) (by rw [ei]; exact nI_1 i) (by exact c_38) ls (lv_sub hl [2, 3, 1, 4, 5, 0] rfl)
              · have hq : cxR ro dg x3 k = -1 := by have h9 := cxR_bad (ro := ro) (dg := dg) (x := x3) (n := i + 1) (by rw [hrow]; exact c_38) (k - (i + 1)); rw [show i + 1 + (k - (i + 1)) = k by omega] at h9; exact h9
                have hst : cxO ro dg k x (j + 1) = -1 := by show (if _ then _ else _) = _; rw [← e3, if_neg h3]; exact hq
                have h11 : cxO ro dg k x 11 = -1 := by have h9 := cxO_bad hst (11 - (j + 1)); rw [show j + 1 + (11 - (j + 1)) = 11 by omega] at h9; exact h9
                refine lv_iconst (v := (-1)) hx hb dX1_closed_41 (by decide) ?_
                exact W.iret (v := (-1)) hx hb hr (fun t ht hW => ⟨congrArg (fun z => Outcome.returned (some (Value.int z))) (by rw [h11]), ht⟩) (fun _ h => nomatch h) dX1_closed_42
        exact loop_18 (k + 1) 0 _ _ (Nat.zero_le _) (by omega) (by rfl) (by exact nI_0.symm) (by exact h3) ls (lv_sub hl [2, 3, 4, 5, 1, 0] rfl)
  exact loop_5 (11 + 1) 0 _ _ (Nat.zero_le _) (by omega) (by rfl) (by exact nI_0.symm) (by exact hx1) ls (lv_sub hl [2, 4, 1, 0] rfl)

abbrev rmX1_refuseFullStore : Room := { frames := 1, cells := 0, slots := 0, locals := 20 }
set_option maxHeartbeats 4000000 in
set_option maxRecDepth 100000 in
theorem c_X1_refuseFullStore (l : Launch) (G : Gt) (bx bd bo bs bk sc : Nat) (st sk tk be so le an : Int32) (k : Nat) (est : st = nI k) (hk : k < 30) : Met l yX1_refuseFullStore wsX1_refuseFullStore rmX1_refuseFullStore (ro_P G [.ref bx] [(bx, .inr (1, [.ref bd, .ref bo, .ref bs, .int st, .ref bk, .int sk, .ref sc, .int tk, .int be, .int so, .int le, .int an]))]) ro_V 0 0 (fun _ => False) := by
  refine Met.ofW (cc := cX1_refuseFullStore) (maxL := 1) (ret := none) (by decide) rfl ?_
  intro p e s m args below meth c s₁ B hml hv
  obtain ⟨rfl, hP, hK⟩ := hv
  have hx := B.exec
  have hb := B.bytes
  have hr := B.returns
  have hts := atoms_spec (ws := wsX1_refuseFullStore) B.pre
  have hown : s.vm.findClass RX1 = some m.cls := findClass_of_methodNamed B.named
  have hlocks := B.notSynchronized
  have hl := lv_entry ([.ref bx]) (n := 1) (Nat.le_of_ble_eq_true rfl)
  rw [lg_entry_eq]
  generalize (lg_sl ([.ref bx]) ++ List.replicate (1 - (lg_sl ([.ref bx])).length) Slot.unset).toArray = ls at hl ⊢
  have hl : lv_has ls 1 [(0, .ref bx)] := hl
  refine lv_aload_n hx hb dX1_refuseFullStore_0 rfl (lv_at hl 0 rfl) ?_
  refine ro_call (va_runV (As := []) (rest := []) ⟨hx, hb, hml, hown, hts⟩ (c_X1_isStoreFull l G bx bd bo bs bk sc st sk tk be so le an) (cwV 0 hts gX1_refuseFullStore_X1_isStoreFull rfl rfl rfl (by decide +kernel) ⟨Nat.le_of_ble_eq_true rfl, Nat.le_of_ble_eq_true rfl⟩) ⟨ro_blind, va_recv hK.1 hP (ci := 1) (q0 := 0) rfl rfl, ro_pre _ (hP.sub [0] rfl) hK⟩ rfl rfl hl.1 rfl (lv_room (Nat.le_of_ble_eq_true rfl)) dX1_refuseFullStore_1 ⟨Nat.le_refl _, Nat.le_refl _⟩) ?_
  refine lv_if_eq (tgt := 15) hx hb dX1_refuseFullStore_4 (by decide) (fun c_4 => ?_) (fun c_4 => ?_)
  · exact W.vret hx hb hr (fun t ht hW => ⟨rfl, ht⟩) (fun _ h => nomatch h) dX1_refuseFullStore_15
  · exact absurd (fu0 est hk) c_4

abbrev rmX1_refuseFullStack : Room := { frames := 0, cells := 0, slots := 0, locals := 0 }
set_option maxHeartbeats 4000000 in
set_option maxRecDepth 100000 in
theorem c_X1_refuseFullStack (l : Launch) (G : Gt) (bx bd bo bs bk sc : Nat) (st sk tk be so le an : Int32) (hs : sk < 6) : Met l yX1_refuseFullStack wsX1_refuseFullStack rmX1_refuseFullStack (ro_P G [.ref bx] [(bx, .inr (1, [.ref bd, .ref bo, .ref bs, .int st, .ref bk, .int sk, .ref sc, .int tk, .int be, .int so, .int le, .int an]))]) ro_V 0 0 (fun _ => False) := by
  refine Met.ofW (cc := cX1_refuseFullStack) (maxL := 1) (ret := none) (by decide) rfl ?_
  intro p e s m args below meth c s₁ B hml hv
  obtain ⟨rfl, hP, hK⟩ := hv
  have hx := B.exec
  have hb := B.bytes
  have hr := B.returns
  have hts := atoms_spec (ws := wsX1_refuseFullStack) B.pre
  have hown : s.vm.findClass RX1 = some m.cls := findClass_of_methodNamed B.named
  have hlocks := B.notSynchronized
  have hinX1 : ∀ w ∈ u_ws RX1 TX1 12, w ∈ wsX1_refuseFullStack := fun w h => List.mem_cons_of_mem _ (List.mem_append_left _ (List.mem_append_right _ h))
  have hw1 := hts (.fieldLink RX1 29 "ChoiceBoard" "stacked" "I") (by decide +kernel)
  have hl := lv_entry ([.ref bx]) (n := 1) (Nat.le_of_ble_eq_true rfl)
  rw [lg_entry_eq]
  generalize (lg_sl ([.ref bx]) ++ List.replicate (1 - (lg_sl ([.ref bx])).length) Slot.unset).toArray = ls at hl ⊢
  have hl : lv_has ls 1 [(0, .ref bx)] := hl
  refine lv_aload_n hx hb dX1_refuseFullStack_0 rfl (lv_at hl 0 rfl) ?_
  refine va_get (D := G.1) (ci := 1) (v := .int sk) (C := RX1) (T := TX1) (N := 12) hx hb hts hinX1 hown hK.1 hP 0 rfl rfl 5 (by decide) hw1 (fun _ h9 => h9) rfl dX1_refuseFullStack_1 ?_
  refine lv_bipush (v := 6) hx hb dX1_refuseFullStack_4 (by decide) ?_
  refine lv_icmp_lt (tgt := 17) hx hb dX1_refuseFullStack_6 (by decide) (fun c_6 => ?_) (fun c_6 => ?_)
  · exact W.vret hx hb hr (fun t ht hW => ⟨rfl, ht⟩) (fun _ h => nomatch h) dX1_refuseFullStack_17
  · exact absurd hs c_6

abbrev rmX1_refuseEmptyStack : Room := { frames := 0, cells := 0, slots := 0, locals := 0 }
set_option maxHeartbeats 4000000 in
set_option maxRecDepth 100000 in
theorem c_X1_refuseEmptyStack (l : Launch) (G : Gt) (bx bd bo bs bk sc : Nat) (st sk tk be so le an : Int32) (hs : 1 ≤ sk) : Met l yX1_refuseEmptyStack wsX1_refuseEmptyStack rmX1_refuseEmptyStack (ro_P G [.ref bx] [(bx, .inr (1, [.ref bd, .ref bo, .ref bs, .int st, .ref bk, .int sk, .ref sc, .int tk, .int be, .int so, .int le, .int an]))]) ro_V 0 0 (fun _ => False) := by
  refine Met.ofW (cc := cX1_refuseEmptyStack) (maxL := 1) (ret := none) (by decide) rfl ?_
  intro p e s m args below meth c s₁ B hml hv
  obtain ⟨rfl, hP, hK⟩ := hv
  have hx := B.exec
  have hb := B.bytes
  have hr := B.returns
  have hts := atoms_spec (ws := wsX1_refuseEmptyStack) B.pre
  have hown : s.vm.findClass RX1 = some m.cls := findClass_of_methodNamed B.named
  have hlocks := B.notSynchronized
  have hinX1 : ∀ w ∈ u_ws RX1 TX1 12, w ∈ wsX1_refuseEmptyStack := fun w h => List.mem_cons_of_mem _ (List.mem_append_left _ (List.mem_append_right _ h))
  have hw1 := hts (.fieldLink RX1 29 "ChoiceBoard" "stacked" "I") (by decide +kernel)
  have hl := lv_entry ([.ref bx]) (n := 1) (Nat.le_of_ble_eq_true rfl)
  rw [lg_entry_eq]
  generalize (lg_sl ([.ref bx]) ++ List.replicate (1 - (lg_sl ([.ref bx])).length) Slot.unset).toArray = ls at hl ⊢
  have hl : lv_has ls 1 [(0, .ref bx)] := hl
  refine lv_aload_n hx hb dX1_refuseEmptyStack_0 rfl (lv_at hl 0 rfl) ?_
  refine va_get (D := G.1) (ci := 1) (v := .int sk) (C := RX1) (T := TX1) (N := 12) hx hb hts hinX1 hown hK.1 hP 0 rfl rfl 5 (by decide) hw1 (fun _ h9 => h9) rfl dX1_refuseEmptyStack_1 ?_
  refine lv_iconst (v := 1) hx hb dX1_refuseEmptyStack_4 (by decide) ?_
  refine lv_icmp_ge (tgt := 16) hx hb dX1_refuseEmptyStack_5 (by decide) (fun c_5 => ?_) (fun c_5 => ?_)
  · exact W.vret hx hb hr (fun t ht hW => ⟨rfl, ht⟩) (fun _ h => nomatch h) dX1_refuseEmptyStack_16
  · exact absurd hs c_5

abbrev rmX1_refuseUnsolved : Room := { frames := 0, cells := 0, slots := 0, locals := 0 }
set_option maxHeartbeats 4000000 in
set_option maxRecDepth 100000 in
theorem c_X1_refuseUnsolved (l : Launch) (G : Gt) (bx bd bo bs bk sc : Nat) (st sk tk be so le an : Int32) (hs : ¬ so = 0) : Met l yX1_refuseUnsolved wsX1_refuseUnsolved rmX1_refuseUnsolved (ro_P G [.ref bx] [(bx, .inr (1, [.ref bd, .ref bo, .ref bs, .int st, .ref bk, .int sk, .ref sc, .int tk, .int be, .int so, .int le, .int an]))]) ro_V 0 0 (fun _ => False) := by
  refine Met.ofW (cc := cX1_refuseUnsolved) (maxL := 1) (ret := none) (by decide) rfl ?_
  intro p e s m args below meth c s₁ B hml hv
  obtain ⟨rfl, hP, hK⟩ := hv
  have hx := B.exec
  have hb := B.bytes
  have hr := B.returns
  have hts := atoms_spec (ws := wsX1_refuseUnsolved) B.pre
  have hown : s.vm.findClass RX1 = some m.cls := findClass_of_methodNamed B.named
  have hlocks := B.notSynchronized
  have hinX1 : ∀ w ∈ u_ws RX1 TX1 12, w ∈ wsX1_refuseUnsolved := fun w h => List.mem_cons_of_mem _ (List.mem_append_left _ (List.mem_append_right _ h))
  have hw1 := hts (.fieldLink RX1 44 "ChoiceBoard" "solved" "Z") (by decide +kernel)
  have hl := lv_entry ([.ref bx]) (n := 1) (Nat.le_of_ble_eq_true rfl)
  rw [lg_entry_eq]
  generalize (lg_sl ([.ref bx]) ++ List.replicate (1 - (lg_sl ([.ref bx])).length) Slot.unset).toArray = ls at hl ⊢
  have hl : lv_has ls 1 [(0, .ref bx)] := hl
  refine lv_aload_n hx hb dX1_refuseUnsolved_0 rfl (lv_at hl 0 rfl) ?_
  refine va_get (D := G.1) (ci := 1) (v := .int so) (C := RX1) (T := TX1) (N := 12) hx hb hts hinX1 hown hK.1 hP 0 rfl rfl 9 (by decide) hw1 (fun _ h9 => h9) rfl dX1_refuseUnsolved_1 ?_
  refine lv_if_ne (tgt := 15) hx hb dX1_refuseUnsolved_4 (by decide) (fun c_4 => ?_) (fun c_4 => ?_)
  · exact W.vret hx hb hr (fun t ht hW => ⟨rfl, ht⟩) (fun _ h => nomatch h) dX1_refuseUnsolved_15
  · exact absurd c_4 hs

abbrev rmX1_refuseTooLargeScratch : Room := { frames := 3, cells := 0, slots := 0, locals := 63 }
set_option maxHeartbeats 4000000 in
set_option maxRecDepth 100000 in
theorem c_X1_refuseTooLargeScratch (l : Launch) (G : Gt) (bx bd bo bs bk : Nat) (ca wa : Nat → Nat) (st sk tk be so le an : Int32) (fd fo : Nat → Int32) (ro : Nat → Nat → Int32) (dg gv : Nat → Int32) (hs : tlI (ro 36) (dg 36) = false) : Met l yX1_refuseTooLargeScratch wsX1_refuseTooLargeScratch rmX1_refuseTooLargeScratch (ro_P G [.ref bx] ([(bx, .inr (1, [.ref bd, .ref bo, .ref bs, .int st, .ref bk, .int sk, .ref (ca 36), .int tk, .int be, .int so, .int le, .int an])), (bd, eI G 10 fd), (bo, eI G 10 fo), (bs, eR G 30 (fun k => some (ca k))), (bk, eR G 6 (fun k => some (ca (30 + k))))] ++ pool G ca wa ro dg gv)) ro_V 0 0 (fun _ => False) := by
  refine Met.ofW (cc := cX1_refuseTooLargeScratch) (maxL := 1) (ret := none) (by decide) rfl ?_
  intro p e s m args below meth c s₁ B hml hv
  obtain ⟨rfl, hP, hK⟩ := hv
  have hx := B.exec
  have hb := B.bytes
  have hr := B.returns
  have hts := atoms_spec (ws := wsX1_refuseTooLargeScratch) B.pre
  have hown : s.vm.findClass RX1 = some m.cls := findClass_of_methodNamed B.named
  have hlocks := B.notSynchronized
  have hinX1 : ∀ w ∈ u_ws RX1 TX1 12, w ∈ wsX1_refuseTooLargeScratch := fun w h => List.mem_cons_of_mem _ (List.mem_append_left _ (List.mem_append_left _ (List.mem_append_right _ h)))
  have hw1 := hts (.fieldLink RX1 33 "ChoiceBoard" "scratch" "LChoiceBoard$Constraint;") (by decide +kernel)
  have hl := lv_entry ([.ref bx]) (n := 1) (Nat.le_of_ble_eq_true rfl)
  rw [lg_entry_eq]
  generalize (lg_sl ([.ref bx]) ++ List.replicate (1 - (lg_sl ([.ref bx])).length) Slot.unset).toArray = ls at hl ⊢
  have hl : lv_has ls 1 [(0, .ref bx)] := hl
  refine lv_aload_n hx hb dX1_refuseTooLargeScratch_0 rfl (lv_at hl 0 rfl) ?_
  refine va_get (D := G.1) (ci := 1) (v := .ref (ca 36)) (C := RX1) (T := TX1) (N := 12) hx hb hts hinX1 hown hK.1 hP 0 rfl rfl 6 (by decide) hw1 (fun _ h9 => h9) rfl dX1_refuseTooLargeScratch_1 ?_
  refine ro_call (va_runV (As := []) (rest := []) ⟨hx, hb, hml, hown, hts⟩ (c_X0_isTooLarge l G (ca 36) (wa 36) (dg 36) (gv 36) (ro 36)) (cwV 0 hts gX1_refuseTooLargeScratch_X0_isTooLarge rfl rfl rfl (by decide +kernel) ⟨Nat.le_of_ble_eq_true rfl, Nat.le_of_ble_eq_true rfl⟩) ⟨ro_blind, va_recv hK.1 hP (ci := 0) (q0 := 5 + 36) rfl (pool_c rfl (by omega)), ro_pre _ (lcP [5 + 36, 42 + 36] hP (lc (pool_c rfl (by omega)) (lc (pool_w rfl (by omega)) rfl))) hK⟩ rfl rfl hl.1 rfl (lv_room (Nat.le_of_ble_eq_true rfl)) dX1_refuseTooLargeScratch_4 ⟨Nat.le_refl _, Nat.le_refl _⟩) ?_
  refine lv_if_eq (tgt := 18) hx hb dX1_refuseTooLargeScratch_7 (by decide) (fun c_7 => ?_) (fun c_7 => ?_)
  · exact W.vret hx hb hr (fun t ht hW => ⟨rfl, ht⟩) (fun _ h => nomatch h) dX1_refuseTooLargeScratch_18
  · exact absurd (by rw [hs]; rfl) c_7
