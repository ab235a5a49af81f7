abbrev rmX1_bit : Room := { frames := 0, cells := 0, slots := 0, locals := 0 }
set_option maxHeartbeats 4000000 in
set_option maxRecDepth 100000 in
theorem c_X1_bit (l : Launch) (G : Gt) (x y : Int32) : Met l yX1_bit wsX1_bit rmX1_bit (ro_P G [.int x, .int y] []) (QcRead (bitI x y)) 0 0 (fun _ => False) := by
  refine Met.ofW (cc := cX1_bit) (maxL := 2) (ret := (some .int)) (by decide) rfl ?_
  intro p e s m args below meth c s₁ B hml hv
  obtain ⟨rfl, hP, hK⟩ := hv
  have hx := B.exec
  have hb := B.bytes
  have hr := B.returns
  have hts := atoms_spec (ws := wsX1_bit) B.pre
  have hown : s.vm.findClass RX1 = some m.cls := findClass_of_methodNamed B.named
  have hlocks := B.notSynchronized
  have hl := lv_entry ([.int x, .int y]) (n := 2) (Nat.le_of_ble_eq_true rfl)
  rw [lg_entry_eq]
  generalize (lg_sl ([.int x, .int y]) ++ List.replicate (2 - (lg_sl ([.int x, .int y])).length) Slot.unset).toArray = ls at hl ⊢
  have hl : lv_has ls 2 [(0, .int x), (1, .int y)] := hl
  refine lv_iload_n hx hb dX1_bit_0 rfl (lv_at hl 0 rfl) ?_
  refine lv_iload_n hx hb dX1_bit_1 rfl (lv_at hl 1 rfl) ?_
  refine lv_ishr hx hb dX1_bit_2 ?_
  refine lv_iconst (v := 1) hx hb dX1_bit_3 (by decide) ?_
  refine lv_iand hx hb dX1_bit_4 ?_
  exact W.iret (v := (x >>> (y &&& 31)) &&& 1) hx hb hr (fun t ht hW => ⟨congrArg (fun z => Outcome.returned (some (Value.int z))) (rfl), ht⟩) (fun _ h => nomatch h) dX1_bit_5

abbrev rmX0_size : Room := { frames := 1, cells := 0, slots := 0, locals := 21 }
set_option maxHeartbeats 4000000 in
set_option maxRecDepth 100000 in
theorem c_X0_size (l : Launch) (G : Gt) (o w : Nat) (d g : Int32) (f : Nat → Int32) (x : Int32) (v : Nat) (ex : x = nI v) (hv : v < 10) : Met l yX0_size wsX0_size rmX0_size (ro_P G [.ref o, .int x] [(o, .inr (0, [.ref w, .int d, .int g])), (w, eI G 10 f)]) (QcRead (absI (f v))) 0 0 (fun _ => False) := by
  refine Met.ofW (cc := cX0_size) (maxL := 2) (ret := (some .int)) (by decide) rfl ?_
  intro p e s m args below meth c s₁ B hml hv
  obtain ⟨rfl, hP, hK⟩ := hv
  have hx := B.exec
  have hb := B.bytes
  have hr := B.returns
  have hts := atoms_spec (ws := wsX0_size) B.pre
  have hown : s.vm.findClass RX0 = some m.cls := findClass_of_methodNamed B.named
  have hlocks := B.notSynchronized
  have hinX0 : ∀ w ∈ u_ws RX0 TX0 3, w ∈ wsX0_size := fun w h => List.mem_cons_of_mem _ (List.mem_append_right _ h)
  have hw1 := hts (.fieldLink RX0 9 "ChoiceBoard$Constraint" "weights" "[I") (by decide +kernel)
  have hw2 := hts (.methodLink RX0 67 Lib.Math.abs.name) (by decide +kernel)
  have hw3 := hts (.static Lib.Math.abs.name) (by decide +kernel)
  have hw4 := hts (.initialized "java/lang/Math") (by decide +kernel)
  have hw5 := hts (.code Lib.Math.abs.name Lib.Math.abs.code 1 (some .int)) (by decide +kernel)
  have hl := lv_entry ([.ref o, .int x]) (n := 2) (Nat.le_of_ble_eq_true rfl)
  rw [lg_entry_eq]
  generalize (lg_sl ([.ref o, .int x]) ++ List.replicate (2 - (lg_sl ([.ref o, .int x])).length) Slot.unset).toArray = ls at hl ⊢
  have hl : lv_has ls 2 [(0, .ref o), (1, .int x)] := hl
  refine lv_aload_n hx hb dX0_size_0 rfl (lv_at hl 0 rfl) ?_
  refine va_get (D := G.1) (ci := 0) (v := .ref w) (C := RX0) (T := TX0) (N := 3) hx hb hts hinX0 hown hK.1 hP 0 rfl rfl 0 (by decide) hw1 (fun _ h9 => h9) rfl dX0_size_1 ?_
  refine lv_iload_n hx hb dX0_size_4 rfl (lv_at hl 1 rfl) ?_
  refine ra_iald (f := f) (v := v) hx hb hK.1 hP 1 0 rfl rfl ex (by omega) (by decide) dX0_size_5 ?_
  refine va_mabs hx hb (hml.trans hl.1.symm) hown hw2 hw3 hw4 hw5 (Nat.le_of_ble_eq_true rfl) (Nat.le_of_ble_eq_true rfl) (Nat.le_refl _) (Nat.le_refl _) dX0_size_6 ?_
  exact W.iret (v := absI (f v)) hx hb hr (fun t ht hW => ⟨congrArg (fun z => Outcome.returned (some (Value.int z))) (rfl), ht⟩) (fun _ h => nomatch h) dX0_size_9

abbrev rmX0_countedTruth : Room := { frames := 0, cells := 0, slots := 0, locals := 0 }
set_option maxHeartbeats 4000000 in
set_option maxRecDepth 100000 in
theorem c_X0_countedTruth (l : Launch) (G : Gt) (o w : Nat) (d g : Int32) (f : Nat → Int32) (x : Int32) (v : Nat) (ex : x = nI v) (hv : v < 10) : Met l yX0_countedTruth wsX0_countedTruth rmX0_countedTruth (ro_P G [.ref o, .int x] [(o, .inr (0, [.ref w, .int d, .int g])), (w, eI G 10 f)]) (QcRead (cntI (f v))) 0 0 (fun _ => False) := by
  refine Met.ofW (cc := cX0_countedTruth) (maxL := 2) (ret := (some .int)) (by decide) rfl ?_
  intro p e s m args below meth c s₁ B hml hv
  obtain ⟨rfl, hP, hK⟩ := hv
  have hx := B.exec
  have hb := B.bytes
  have hr := B.returns
  have hts := atoms_spec (ws := wsX0_countedTruth) B.pre
  have hown : s.vm.findClass RX0 = some m.cls := findClass_of_methodNamed B.named
  have hlocks := B.notSynchronized
  have hinX0 : ∀ w ∈ u_ws RX0 TX0 3, w ∈ wsX0_countedTruth := fun w h => List.mem_cons_of_mem _ (List.mem_append_right _ h)
  have hw1 := hts (.fieldLink RX0 9 "ChoiceBoard$Constraint" "weights" "[I") (by decide +kernel)
  have hl := lv_entry ([.ref o, .int x]) (n := 2) (Nat.le_of_ble_eq_true rfl)
  rw [lg_entry_eq]
  generalize (lg_sl ([.ref o, .int x]) ++ List.replicate (2 - (lg_sl ([.ref o, .int x])).length) Slot.unset).toArray = ls at hl ⊢
  have hl : lv_has ls 2 [(0, .ref o), (1, .int x)] := hl
  refine lv_aload_n hx hb dX0_countedTruth_0 rfl (lv_at hl 0 rfl) ?_
  refine va_get (D := G.1) (ci := 0) (v := .ref w) (C := RX0) (T := TX0) (N := 3) hx hb hts hinX0 hown hK.1 hP 0 rfl rfl 0 (by decide) hw1 (fun _ h9 => h9) rfl dX0_countedTruth_1 ?_
  refine lv_iload_n hx hb dX0_countedTruth_4 rfl (lv_at hl 1 rfl) ?_
  refine ra_iald (f := f) (v := v) hx hb hK.1 hP 1 0 rfl rfl ex (by omega) (by decide) dX0_countedTruth_5 ?_
  refine lv_if_le (tgt := 13) hx hb dX0_countedTruth_6 (by decide) (fun c_6 => ?_) (fun c_6 => ?_)
  · refine lv_iconst (v := 0) hx hb dX0_countedTruth_13 (by decide) ?_
    exact W.iret (v := 0) hx hb hr (fun t ht hW => ⟨congrArg (fun z => Outcome.returned (some (Value.int z))) (by first | simp [cntI, Int32.not_le.mp c_6] | simp [cntI, Int32.not_lt.mpr c_6]), ht⟩) (fun _ h => nomatch h) dX0_countedTruth_14
  · refine lv_iconst (v := 1) hx hb dX0_countedTruth_9 (by decide) ?_
    refine lv_goto (tgt := 14) hx hb dX0_countedTruth_10 (by decide) ?_
    exact W.iret (v := 1) hx hb hr (fun t ht hW => ⟨congrArg (fun z => Outcome.returned (some (Value.int z))) (by first | simp [cntI, Int32.not_le.mp c_6] | simp [cntI, Int32.not_lt.mpr c_6]), ht⟩) (fun _ h => nomatch h) dX0_countedTruth_14

abbrev rmX0_sizeOfAll : Room := { frames := 2, cells := 0, slots := 0, locals := 42 }
set_option maxHeartbeats 4000000 in
set_option maxRecDepth 100000 in
theorem c_X0_sizeOfAll (l : Launch) (G : Gt) (o w : Nat) (d g : Int32) (f : Nat → Int32) : Met l yX0_sizeOfAll wsX0_sizeOfAll rmX0_sizeOfAll (ro_P G [.ref o] [(o, .inr (0, [.ref w, .int d, .int g])), (w, eI G 10 f)]) (QcRead (szs f)) 0 0 (fun _ => False) := by
  refine Met.ofW (cc := cX0_sizeOfAll) (maxL := 3) (ret := (some .int)) (by decide) rfl ?_
  intro p e s m args below meth c s₁ B hml hv
  obtain ⟨rfl, hP, hK⟩ := hv
  have hx := B.exec
  have hb := B.bytes
  have hr := B.returns
  have hts := atoms_spec (ws := wsX0_sizeOfAll) B.pre
  have hown : s.vm.findClass RX0 = some m.cls := findClass_of_methodNamed B.named
  have hlocks := B.notSynchronized
  have hl := lv_entry ([.ref o]) (n := 3) (Nat.le_of_ble_eq_true rfl)
  rw [lg_entry_eq]
  generalize (lg_sl ([.ref o]) ++ List.replicate (3 - (lg_sl ([.ref o])).length) Slot.unset).toArray = ls at hl ⊢
  have hl : lv_has ls 3 [(0, .ref o)] := hl
  refine lv_iconst (v := 0) hx hb dX0_sizeOfAll_0 (by decide) ?_
  refine lv_istore_n (lv' := [(1, .int 0), (0, .ref o)]) hx hb dX0_sizeOfAll_1 rfl hl (by decide) rfl (fun ls hl => ?_)
  refine lv_iconst (v := 0) hx hb dX0_sizeOfAll_2 (by decide) ?_
  refine lv_istore_n (lv' := [(2, .int 0), (1, .int 0), (0, .ref o)]) hx hb dX0_sizeOfAll_3 rfl hl (by decide) rfl (fun ls hl => ?_)
  have loop_4 : ∀ (n_4 i : Nat) (x1 x2 : Int32), i ≤ 10 → 10 + 1 ≤ i + n_4 → (x1 = sg 0 (fun v => absI (f v)) i) → (x2 = nI i) → ∀ ls : Array Slot, lv_has ls 3 [(0, .ref o), (1, .int x1), (2, .int x2)] → W p l e rmX0_sizeOfAll s m [.ref o].toArray below meth c s.heap [] 0 0 (MQ below (QcRead (szs f)) [.ref o].toArray s 0 0 (fun _ => False)) (F0 m 4 ls []) := by
    intro n_4
    induction n_4 with
    | zero => intro i x1 x2 h1 h2; exact absurd h2 (by omega)
    | succ n_4 ih_4 =>
      intro i x1 x2 hi_4 hn_4 e1 e2 ls hl
      refine lv_iload_n hx hb dX0_sizeOfAll_4 rfl (lv_at hl 2 rfl) ?_
      refine lv_bipush (v := 10) hx hb dX0_sizeOfAll_5 (by decide) ?_
      refine lv_icmp_ge (tgt := 24) hx hb dX0_sizeOfAll_7 (by decide) (fun c_7 => ?_) (fun c_7 => ?_)
      · have hN : i = 10 := ge_ix e2 (by decide) (by decide) c_7 hi_4
        refine lv_iload_n hx hb dX0_sizeOfAll_24 rfl (lv_at hl 1 rfl) ?_
        exact W.iret (v := x1) hx hb hr (fun t ht hW => ⟨congrArg (fun z => Outcome.returned (some (Value.int z))) (by rw [e1, hN]; rfl), ht⟩) (fun _ h => nomatch h) dX0_sizeOfAll_25
      · have hlt : i < 10 := lt_ix e2 (by decide) (by decide) c_7 hi_4
        refine lv_iload_n hx hb dX0_sizeOfAll_10 rfl (lv_at hl 1 rfl) ?_
        refine lv_aload_n hx hb dX0_sizeOfAll_11 rfl (lv_at hl 0 rfl) ?_
        refine lv_iload_n hx hb dX0_sizeOfAll_12 rfl (lv_at hl 2 rfl) ?_
        refine ro_call (va_runV (As := [.int x2]) (rest := [.int x1]) ⟨hx, hb, hml, hown, hts⟩ (c_X0_size l G o w d g f x2 i e2 (by omega)) (cwV 1 hts gX0_sizeOfAll_X0_size rfl rfl rfl (by decide +kernel) ⟨Nat.le_of_ble_eq_true rfl, Nat.le_of_ble_eq_true rfl⟩) ⟨ro_blind, va_recv hK.1 hP (ci := 0) (q0 := 0) rfl rfl, ro_pre _ (hP.sub [0, 1] rfl) hK⟩ rfl rfl hl.1 rfl (lv_room (Nat.le_of_ble_eq_true rfl)) dX0_sizeOfAll_13 ⟨Nat.le_refl _, Nat.le_refl _⟩) ?_
        refine lv_iadd hx hb dX0_sizeOfAll_16 ?_
        refine lv_istore_n (lv' := [(1, .int (x1 + (absI (f i)))), (0, .ref o), (2, .int x2)]) hx hb dX0_sizeOfAll_17 rfl hl (by decide) rfl (fun ls hl => ?_)
        refine lv_iinc (v := x2 + 1) (lv' := [(2, .int (x2 + 1)), (1, .int (x1 + (absI (f i)))), (0, .ref o)]) hx hb dX0_sizeOfAll_18 hl (k := 2) rfl rfl (by decide) rfl (fun ls hl => ?_)
        refine lv_goto (tgt := 4) hx hb dX0_sizeOfAll_21 (by decide) ?_
        exact ih_4 (i + 1) _ _ (by omega) (by omega) (by rw [e1]; rfl) (by rw [e2]; exact nI_1 i) ls (lv_sub hl [2, 1, 0] rfl)
  exact loop_4 (10 + 1) 0 _ _ (Nat.zero_le _) (by omega) (by rfl) (by exact nI_0.symm) ls (lv_sub hl [2, 1, 0] rfl)

abbrev rmX0_weightOrDegree : Room := { frames := 0, cells := 0, slots := 0, locals := 0 }
set_option maxHeartbeats 4000000 in
set_option maxRecDepth 100000 in
theorem c_X0_weightOrDegree (l : Launch) (G : Gt) (o w : Nat) (d g : Int32) (f : Nat → Int32) (x : Int32) (hxx : x = -1 ∨ ∃ v, v < 10 ∧ x = nI v) : Met l yX0_weightOrDegree wsX0_weightOrDegree rmX0_weightOrDegree (ro_P G [.ref o, .int x] [(o, .inr (0, [.ref w, .int d, .int g])), (w, eI G 10 f)]) (QcRead (wod f d x)) 0 0 (fun _ => False) := by
  refine Met.ofW (cc := cX0_weightOrDegree) (maxL := 2) (ret := (some .int)) (by decide) rfl ?_
  intro p e s m args below meth c s₁ B hml hv
  obtain ⟨rfl, hP, hK⟩ := hv
  have hx := B.exec
  have hb := B.bytes
  have hr := B.returns
  have hts := atoms_spec (ws := wsX0_weightOrDegree) B.pre
  have hown : s.vm.findClass RX0 = some m.cls := findClass_of_methodNamed B.named
  have hlocks := B.notSynchronized
  have hinX0 : ∀ w ∈ u_ws RX0 TX0 3, w ∈ wsX0_weightOrDegree := fun w h => List.mem_cons_of_mem _ (List.mem_append_right _ h)
  have hw1 := hts (.fieldLink RX0 9 "ChoiceBoard$Constraint" "weights" "[I") (by decide +kernel)
  have hw2 := hts (.fieldLink RX0 15 "ChoiceBoard$Constraint" "degree" "I") (by decide +kernel)
  have hl := lv_entry ([.ref o, .int x]) (n := 2) (Nat.le_of_ble_eq_true rfl)
  rw [lg_entry_eq]
  generalize (lg_sl ([.ref o, .int x]) ++ List.replicate (2 - (lg_sl ([.ref o, .int x])).length) Slot.unset).toArray = ls at hl ⊢
  have hl : lv_has ls 2 [(0, .ref o), (1, .int x)] := hl
  refine lv_iload_n hx hb dX0_weightOrDegree_0 rfl (lv_at hl 1 rfl) ?_
  refine lv_iconst (v := (-1)) hx hb dX0_weightOrDegree_1 (by decide) ?_
  refine lv_icmp_ne (tgt := 12) hx hb dX0_weightOrDegree_2 (by decide) (fun c_2 => ?_) (fun c_2 => ?_)
  · obtain ⟨v, hv, ev⟩ := hxx.resolve_left c_2
    have ec : x.toNatClampNeg = v := by rw [ev]; exact nI_clamp (by omega)
    refine lv_aload_n hx hb dX0_weightOrDegree_12 rfl (lv_at hl 0 rfl) ?_
    refine va_get (D := G.1) (ci := 0) (v := .ref w) (C := RX0) (T := TX0) (N := 3) hx hb hts hinX0 hown hK.1 hP 0 rfl rfl 0 (by decide) hw1 (fun _ h9 => h9) rfl dX0_weightOrDegree_13 ?_
    refine lv_iload_n hx hb dX0_weightOrDegree_16 rfl (lv_at hl 1 rfl) ?_
    refine ra_iald (f := f) (v := x.toNatClampNeg) hx hb hK.1 hP 1 0 rfl rfl (by rw [ec]; exact ev) (by rw [ec]; exact hv) (by decide) dX0_weightOrDegree_17 ?_
    exact W.iret (v := f x.toNatClampNeg) hx hb hr (fun t ht hW => ⟨congrArg (fun z => Outcome.returned (some (Value.int z))) (by unfold wod; first | exact (if_pos c_2).symm | exact (if_neg c_2).symm), ht⟩) (fun _ h => nomatch h) dX0_weightOrDegree_18
  · refine lv_aload_n hx hb dX0_weightOrDegree_5 rfl (lv_at hl 0 rfl) ?_
    refine va_get (D := G.1) (ci := 0) (v := .int d) (C := RX0) (T := TX0) (N := 3) hx hb hts hinX0 hown hK.1 hP 0 rfl rfl 1 (by decide) hw2 (fun _ h9 => h9) rfl dX0_weightOrDegree_6 ?_
    refine lv_goto (tgt := 18) hx hb dX0_weightOrDegree_9 (by decide) ?_
    exact W.iret (v := d) hx hb hr (fun t ht hW => ⟨congrArg (fun z => Outcome.returned (some (Value.int z))) (by unfold wod; first | exact (if_pos c_2).symm | exact (if_neg c_2).symm), ht⟩) (fun _ h => nomatch h) dX0_weightOrDegree_18

abbrev rmX0_isTooLarge : Room := { frames := 2, cells := 0, slots := 0, locals := 42 }
set_option maxHeartbeats 4000000 in
set_option maxRecDepth 100000 in
theorem c_X0_isTooLarge (l : Launch) (G : Gt) (o w : Nat) (d g : Int32) (f : Nat → Int32) : Met l yX0_isTooLarge wsX0_isTooLarge rmX0_isTooLarge (ro_P G [.ref o] [(o, .inr (0, [.ref w, .int d, .int g])), (w, eI G 10 f)]) (QcRead (bI (tlI f d))) 0 0 (fun _ => False) := by
  refine Met.ofW (cc := cX0_isTooLarge) (maxL := 2) (ret := (some .boolean)) (by decide) rfl ?_
  intro p e s m args below meth c s₁ B hml hv
  obtain ⟨rfl, hP, hK⟩ := hv
  have hx := B.exec
  have hb := B.bytes
  have hr := B.returns
  have hts := atoms_spec (ws := wsX0_isTooLarge) B.pre
  have hown : s.vm.findClass RX0 = some m.cls := findClass_of_methodNamed B.named
  have hlocks := B.notSynchronized
  have hinX0 : ∀ w ∈ u_ws RX0 TX0 3, w ∈ wsX0_isTooLarge := fun w h => List.mem_cons_of_mem _ (List.mem_append_right _ h)
  have hw1 := hts (.fieldLink RX0 15 "ChoiceBoard$Constraint" "degree" "I") (by decide +kernel)
  have hw2 := hts (.constant RX0 70 (1000000)) (by decide +kernel)
  have hl := lv_entry ([.ref o]) (n := 2) (Nat.le_of_ble_eq_true rfl)
  rw [lg_entry_eq]
  generalize (lg_sl ([.ref o]) ++ List.replicate (2 - (lg_sl ([.ref o])).length) Slot.unset).toArray = ls at hl ⊢
  have hl : lv_has ls 2 [(0, .ref o)] := hl
  refine lv_iconst (v := 0) hx hb dX0_isTooLarge_0 (by decide) ?_
  refine lv_istore_n (lv' := [(1, .int 0), (0, .ref o)]) hx hb dX0_isTooLarge_1 rfl hl (by decide) rfl (fun ls hl => ?_)
  have loop_2 : ∀ (n_2 i : Nat) (x1 : Int32), i ≤ 10 → 10 + 1 ≤ i + n_2 → (x1 = nI i) → (anyB (fun v => decide (1000000 < absI (f v))) i = false) → ∀ ls : Array Slot, lv_has ls 2 [(0, .ref o), (1, .int x1)] → W p l e rmX0_isTooLarge s m [.ref o].toArray below meth c s.heap [] 0 0 (MQ below (QcRead (bI (tlI f d))) [.ref o].toArray s 0 0 (fun _ => False)) (F0 m 2 ls []) := by
    intro n_2
    induction n_2 with
    | zero => intro i x1 h1 h2; exact absurd h2 (by omega)
    | succ n_2 ih_2 =>
      intro i x1 hi_2 hn_2 e1 ea ls hl
      refine lv_iload_n hx hb dX0_isTooLarge_2 rfl (lv_at hl 1 rfl) ?_
      refine lv_bipush (v := 10) hx hb dX0_isTooLarge_3 (by decide) ?_
      refine lv_icmp_ge (tgt := 26) hx hb dX0_isTooLarge_5 (by decide) (fun c_5 => ?_) (fun c_5 => ?_)
      · have hN : i = 10 := ge_ix e1 (by decide) (by decide) c_5 hi_2
        refine lv_aload_n hx hb dX0_isTooLarge_26 rfl (lv_at hl 0 rfl) ?_
        refine va_get (D := G.1) (ci := 0) (v := .int d) (C := RX0) (T := TX0) (N := 3) hx hb hts hinX0 hown hK.1 hP 0 rfl rfl 1 (by decide) hw1 (fun _ h9 => h9) rfl dX0_isTooLarge_27 ?_
        refine lv_ldc (v := 1000000) hx hb hown hw2 dX0_isTooLarge_30 ?_
        refine lv_icmp_le (tgt := 39) hx hb dX0_isTooLarge_32 (by decide) (fun c_32 => ?_) (fun c_32 => ?_)
        · refine lv_iconst (v := 0) hx hb dX0_isTooLarge_39 (by decide) ?_
          exact W.zret (v := 0) (ty := .boolean) hx hb hr rfl (fun t ht hW => ⟨congrArg (fun z => Outcome.returned (some (Value.int z))) (by rw [hN] at ea; unfold tlI; rw [ea]; first | (rw [decide_eq_true (Int32.not_le.mp c_32)]; rfl) | (rw [decide_eq_false (Int32.not_lt.mpr c_32)]; rfl)), ht⟩) (fun _ h => nomatch h) dX0_isTooLarge_40
        · refine lv_iconst (v := 1) hx hb dX0_isTooLarge_35 (by decide) ?_
          refine lv_goto (tgt := 40) hx hb dX0_isTooLarge_36 (by decide) ?_
          exact W.zret (v := 1) (ty := .boolean) hx hb hr rfl (fun t ht hW => ⟨congrArg (fun z => Outcome.returned (some (Value.int z))) (by rw [hN] at ea; unfold tlI; rw [ea]; first | (rw [decide_eq_true (Int32.not_le.mp c_32)]; rfl) | (rw [decide_eq_false (Int32.not_lt.mpr c_32)]; rfl)), ht⟩) (fun _ h => nomatch h) dX0_isTooLarge_40
      · have hlt : i < 10 := lt_ix e1 (by decide) (by decide) c_5 hi_2
        refine lv_aload_n hx hb dX0_isTooLarge_8 rfl (lv_at hl 0 rfl) ?_
        refine lv_iload_n hx hb dX0_isTooLarge_9 rfl (lv_at hl 1 rfl) ?_
        refine ro_call (va_runV (As := [.int x1]) (rest := []) ⟨hx, hb, hml, hown, hts⟩ (c_X0_size l G o w d g f x1 i e1 (by omega)) (cwV 1 hts gX0_isTooLarge_X0_size rfl rfl rfl (by decide +kernel) ⟨Nat.le_of_ble_eq_true rfl, Nat.le_of_ble_eq_true rfl⟩) ⟨ro_blind, va_recv hK.1 hP (ci := 0) (q0 := 0) rfl rfl, ro_pre _ (hP.sub [0, 1] rfl) hK⟩ rfl rfl hl.1 rfl (lv_room (Nat.le_of_ble_eq_true rfl)) dX0_isTooLarge_10 ⟨Nat.le_refl _, Nat.le_refl _⟩) ?_
        refine lv_ldc (v := 1000000) hx hb hown hw2 dX0_isTooLarge_13 ?_
        refine lv_icmp_le (tgt := 20) hx hb dX0_isTooLarge_15 (by decide) (fun c_15 => ?_) (fun c_15 => ?_)
        · refine lv_iinc (v := x1 + 1) (lv' := [(1, .int (x1 + 1)), (0, .ref o)]) hx hb dX0_isTooLarge_20 hl (k := 1) rfl rfl (by decide) rfl (fun ls hl => ?_)
          refine lv_goto (tgt := 2) hx hb dX0_isTooLarge_23 (by decide) ?_
          exact ih_2 (i + 1) _ (by omega) (by omega) (by rw [e1]; exact nI_1 i) (by simp only [anyB, ea, Bool.false_or]; exact decide_eq_false (Int32.not_lt.mpr c_15)) ls (lv_sub hl [1, 0] rfl)
        · refine lv_iconst (v := 1) hx hb dX0_isTooLarge_18 (by decide) ?_
          exact W.zret (v := 1) (ty := .boolean) hx hb hr rfl (fun t ht hW => ⟨congrArg (fun z => Outcome.returned (some (Value.int z))) (by rw [show tlI f d = true from by unfold tlI; rw [anyB_true (i := i) (decide_eq_true (Int32.not_le.mp c_15)) 10 hlt]; rfl]; rfl), ht⟩) (fun _ h => nomatch h) dX0_isTooLarge_19
  exact loop_2 (10 + 1) 0 _ (Nat.zero_le _) (by omega) (by exact nI_0.symm) rfl ls (lv_sub hl [1, 0] rfl)

abbrev rmX0_isVoid : Room := { frames := 3, cells := 0, slots := 0, locals := 64 }
set_option maxHeartbeats 4000000 in
set_option maxRecDepth 100000 in
theorem c_X0_isVoid (l : Launch) (G : Gt) (o w : Nat) (d g : Int32) (f : Nat → Int32) : Met l yX0_isVoid wsX0_isVoid rmX0_isVoid (ro_P G [.ref o] [(o, .inr (0, [.ref w, .int d, .int g])), (w, eI G 10 f)]) (QcRead (voidI f d)) 0 0 (fun _ => False) := by
  refine Met.ofW (cc := cX0_isVoid) (maxL := 1) (ret := (some .boolean)) (by decide) rfl ?_
  intro p e s m args below meth c s₁ B hml hv
  obtain ⟨rfl, hP, hK⟩ := hv
  have hx := B.exec
  have hb := B.bytes
  have hr := B.returns
  have hts := atoms_spec (ws := wsX0_isVoid) B.pre
  have hown : s.vm.findClass RX0 = some m.cls := findClass_of_methodNamed B.named
  have hlocks := B.notSynchronized
  have hinX0 : ∀ w ∈ u_ws RX0 TX0 3, w ∈ wsX0_isVoid := fun w h => List.mem_cons_of_mem _ (List.mem_append_right _ h)
  have hw1 := hts (.fieldLink RX0 15 "ChoiceBoard$Constraint" "degree" "I") (by decide +kernel)
  have hl := lv_entry ([.ref o]) (n := 1) (Nat.le_of_ble_eq_true rfl)
  rw [lg_entry_eq]
  generalize (lg_sl ([.ref o]) ++ List.replicate (1 - (lg_sl ([.ref o])).length) Slot.unset).toArray = ls at hl ⊢
  have hl : lv_has ls 1 [(0, .ref o)] := hl
  refine lv_aload_n hx hb dX0_isVoid_0 rfl (lv_at hl 0 rfl) ?_
  refine ro_call (va_runV (As := []) (rest := []) ⟨hx, hb, hml, hown, hts⟩ (c_X0_sizeOfAll l G o w d g f) (cwV 0 hts gX0_isVoid_X0_sizeOfAll rfl rfl rfl (by decide +kernel) ⟨Nat.le_of_ble_eq_true rfl, Nat.le_of_ble_eq_true rfl⟩) ⟨ro_blind, va_recv hK.1 hP (ci := 0) (q0 := 0) rfl rfl, ro_pre _ (hP.sub [0, 1] rfl) hK⟩ rfl rfl hl.1 rfl (lv_room (Nat.le_of_ble_eq_true rfl)) dX0_isVoid_1 ⟨Nat.le_refl _, Nat.le_refl _⟩) ?_
  refine lv_aload_n hx hb dX0_isVoid_4 rfl (lv_at hl 0 rfl) ?_
  refine va_get (D := G.1) (ci := 0) (v := .int d) (C := RX0) (T := TX0) (N := 3) hx hb hts hinX0 hown hK.1 hP 0 rfl rfl 1 (by decide) hw1 (fun _ h9 => h9) rfl dX0_isVoid_5 ?_
  refine lv_icmp_ge (tgt := 15) hx hb dX0_isVoid_8 (by decide) (fun c_8 => ?_) (fun c_8 => ?_)
  · refine lv_iconst (v := 0) hx hb dX0_isVoid_15 (by decide) ?_
    exact W.zret (v := 0) (ty := .boolean) hx hb hr rfl (fun t ht hW => ⟨congrArg (fun z => Outcome.returned (some (Value.int z))) (by unfold voidI; first | exact (if_pos (Int32.not_le.mp c_8)).symm | exact (if_neg (Int32.not_lt.mpr c_8)).symm), ht⟩) (fun _ h => nomatch h) dX0_isVoid_16
  · refine lv_iconst (v := 1) hx hb dX0_isVoid_11 (by decide) ?_
    refine lv_goto (tgt := 16) hx hb dX0_isVoid_12 (by decide) ?_
    exact W.zret (v := 1) (ty := .boolean) hx hb hr rfl (fun t ht hW => ⟨congrArg (fun z => Outcome.returned (some (Value.int z))) (by unfold voidI; first | exact (if_pos (Int32.not_le.mp c_8)).symm | exact (if_neg (Int32.not_lt.mpr c_8)).symm), ht⟩) (fun _ h => nomatch h) dX0_isVoid_16

abbrev rmX0_isOpposed : Room := { frames := 0, cells := 0, slots := 0, locals := 0 }
set_option maxHeartbeats 4000000 in
set_option maxRecDepth 100000 in
theorem c_X0_isOpposed (l : Launch) (G : Gt) (o w : Nat) (d g : Int32) (f : Nat → Int32) (o2 w2 : Nat) (d2 g2 : Int32) (f2 : Nat → Int32) (x : Int32) (v : Nat) (ex : x = nI v) (hv : v < 10) : Met l yX0_isOpposed wsX0_isOpposed rmX0_isOpposed (ro_P G [.ref o, .ref o2, .int x] [(o, .inr (0, [.ref w, .int d, .int g])), (w, eI G 10 f), (o2, .inr (0, [.ref w2, .int d2, .int g2])), (w2, eI G 10 f2)]) (QcRead (oppI (f v) (f2 v))) 0 0 (fun _ => False) := by
  refine Met.ofW (cc := cX0_isOpposed) (maxL := 3) (ret := (some .boolean)) (by decide) rfl ?_
  intro p e s m args below meth c s₁ B hml hv
  obtain ⟨rfl, hP, hK⟩ := hv
  have hx := B.exec
  have hb := B.bytes
  have hr := B.returns
  have hts := atoms_spec (ws := wsX0_isOpposed) B.pre
  have hown : s.vm.findClass RX0 = some m.cls := findClass_of_methodNamed B.named
  have hlocks := B.notSynchronized
  have hinX0 : ∀ w ∈ u_ws RX0 TX0 3, w ∈ wsX0_isOpposed := fun w h => List.mem_cons_of_mem _ (List.mem_append_right _ h)
  have hw1 := hts (.fieldLink RX0 9 "ChoiceBoard$Constraint" "weights" "[I") (by decide +kernel)
  have hl := lv_entry ([.ref o, .ref o2, .int x]) (n := 3) (Nat.le_of_ble_eq_true rfl)
  rw [lg_entry_eq]
  generalize (lg_sl ([.ref o, .ref o2, .int x]) ++ List.replicate (3 - (lg_sl ([.ref o, .ref o2, .int x])).length) Slot.unset).toArray = ls at hl ⊢
  have hl : lv_has ls 3 [(0, .ref o), (1, .ref o2), (2, .int x)] := hl
  refine lv_aload_n hx hb dX0_isOpposed_0 rfl (lv_at hl 0 rfl) ?_
  refine va_get (D := G.1) (ci := 0) (v := .ref w) (C := RX0) (T := TX0) (N := 3) hx hb hts hinX0 hown hK.1 hP 0 rfl rfl 0 (by decide) hw1 (fun _ h9 => h9) rfl dX0_isOpposed_1 ?_
  refine lv_iload_n hx hb dX0_isOpposed_4 rfl (lv_at hl 2 rfl) ?_
  refine ra_iald (f := f) (v := v) hx hb hK.1 hP 1 0 rfl rfl ex (by omega) (by decide) dX0_isOpposed_5 ?_
  refine lv_if_le (tgt := 18) hx hb dX0_isOpposed_6 (by decide) (fun c_6 => ?_) (fun c_6 => ?_)
  · refine lv_aload_n hx hb dX0_isOpposed_18 rfl (lv_at hl 0 rfl) ?_
    refine va_get (D := G.1) (ci := 0) (v := .ref w) (C := RX0) (T := TX0) (N := 3) hx hb hts hinX0 hown hK.1 hP 0 rfl rfl 0 (by decide) hw1 (fun _ h9 => h9) rfl dX0_isOpposed_19 ?_
    refine lv_iload_n hx hb dX0_isOpposed_22 rfl (lv_at hl 2 rfl) ?_
    refine ra_iald (f := f) (v := v) hx hb hK.1 hP 1 0 rfl rfl ex (by omega) (by decide) dX0_isOpposed_23 ?_
    refine lv_if_ge (tgt := 40) hx hb dX0_isOpposed_24 (by decide) (fun c_24 => ?_) (fun c_24 => ?_)
    · refine lv_iconst (v := 0) hx hb dX0_isOpposed_40 (by decide) ?_
      exact W.zret (v := 0) (ty := .boolean) hx hb hr rfl (fun t ht hW => ⟨congrArg (fun z => Outcome.returned (some (Value.int z))) (by unfold oppI; simp only [Int32.lt_iff_toInt_lt, Int32.le_iff_toInt_le] at *; split <;> first | rfl | (exfalso; omega)), ht⟩) (fun _ h => nomatch h) dX0_isOpposed_41
    · refine lv_aload_n hx hb dX0_isOpposed_27 rfl (lv_at hl 1 rfl) ?_
      refine va_get (D := G.1) (ci := 0) (v := .ref w2) (C := RX0) (T := TX0) (N := 3) hx hb hts hinX0 hown hK.1 hP 2 rfl rfl 0 (by decide) hw1 (fun _ h9 => h9) rfl dX0_isOpposed_28 ?_
      refine lv_iload_n hx hb dX0_isOpposed_31 rfl (lv_at hl 2 rfl) ?_
      refine ra_iald (f := f2) (v := v) hx hb hK.1 hP 3 0 rfl rfl ex (by omega) (by decide) dX0_isOpposed_32 ?_
      refine lv_if_le (tgt := 40) hx hb dX0_isOpposed_33 (by decide) (fun c_33 => ?_) (fun c_33 => ?_)
      · refine lv_iconst (v := 0) hx hb dX0_isOpposed_40 (by decide) ?_
        exact W.zret (v := 0) (ty := .boolean) hx hb hr rfl (fun t ht hW => ⟨congrArg (fun z => Outcome.returned (some (Value.int z))) (by unfold oppI; simp only [Int32.lt_iff_toInt_lt, Int32.le_iff_toInt_le] at *; split <;> first | rfl | (exfalso; omega)), ht⟩) (fun _ h => nomatch h) dX0_isOpposed_41
      · refine lv_iconst (v := 1) hx hb dX0_isOpposed_36 (by decide) ?_
        refine lv_goto (tgt := 41) hx hb dX0_isOpposed_37 (by decide) ?_
        exact W.zret (v := 1) (ty := .boolean) hx hb hr rfl (fun t ht hW => ⟨congrArg (fun z => Outcome.returned (some (Value.int z))) (by unfold oppI; simp only [Int32.lt_iff_toInt_lt, Int32.le_iff_toInt_le] at *; split <;> first | rfl | (exfalso; omega)), ht⟩) (fun _ h => nomatch h) dX0_isOpposed_41
  · refine lv_aload_n hx hb dX0_isOpposed_9 rfl (lv_at hl 1 rfl) ?_
    refine va_get (D := G.1) (ci := 0) (v := .ref w2) (C := RX0) (T := TX0) (N := 3) hx hb hts hinX0 hown hK.1 hP 2 rfl rfl 0 (by decide) hw1 (fun _ h9 => h9) rfl dX0_isOpposed_10 ?_
    refine lv_iload_n hx hb dX0_isOpposed_13 rfl (lv_at hl 2 rfl) ?_
    refine ra_iald (f := f2) (v := v) hx hb hK.1 hP 3 0 rfl rfl ex (by omega) (by decide) dX0_isOpposed_14 ?_
    refine lv_if_lt (tgt := 36) hx hb dX0_isOpposed_15 (by decide) (fun c_15 => ?_) (fun c_15 => ?_)
    · refine lv_iconst (v := 1) hx hb dX0_isOpposed_36 (by decide) ?_
      refine lv_goto (tgt := 41) hx hb dX0_isOpposed_37 (by decide) ?_
      exact W.zret (v := 1) (ty := .boolean) hx hb hr rfl (fun t ht hW => ⟨congrArg (fun z => Outcome.returned (some (Value.int z))) (by unfold oppI; simp only [Int32.lt_iff_toInt_lt, Int32.le_iff_toInt_le] at *; split <;> first | rfl | (exfalso; omega)), ht⟩) (fun _ h => nomatch h) dX0_isOpposed_41
    · refine lv_aload_n hx hb dX0_isOpposed_18 rfl (lv_at hl 0 rfl) ?_
      refine va_get (D := G.1) (ci := 0) (v := .ref w) (C := RX0) (T := TX0) (N := 3) hx hb hts hinX0 hown hK.1 hP 0 rfl rfl 0 (by decide) hw1 (fun _ h9 => h9) rfl dX0_isOpposed_19 ?_
      refine lv_iload_n hx hb dX0_isOpposed_22 rfl (lv_at hl 2 rfl) ?_
      refine ra_iald (f := f) (v := v) hx hb hK.1 hP 1 0 rfl rfl ex (by omega) (by decide) dX0_isOpposed_23 ?_
      refine lv_if_ge (tgt := 40) hx hb dX0_isOpposed_24 (by decide) (fun c_24 => ?_) (fun c_24 => ?_)
      · refine lv_iconst (v := 0) hx hb dX0_isOpposed_40 (by decide) ?_
        exact W.zret (v := 0) (ty := .boolean) hx hb hr rfl (fun t ht hW => ⟨congrArg (fun z => Outcome.returned (some (Value.int z))) (by unfold oppI; simp only [Int32.lt_iff_toInt_lt, Int32.le_iff_toInt_le] at *; split <;> first | rfl | (exfalso; omega)), ht⟩) (fun _ h => nomatch h) dX0_isOpposed_41
      · refine lv_aload_n hx hb dX0_isOpposed_27 rfl (lv_at hl 1 rfl) ?_
        refine va_get (D := G.1) (ci := 0) (v := .ref w2) (C := RX0) (T := TX0) (N := 3) hx hb hts hinX0 hown hK.1 hP 2 rfl rfl 0 (by decide) hw1 (fun _ h9 => h9) rfl dX0_isOpposed_28 ?_
        refine lv_iload_n hx hb dX0_isOpposed_31 rfl (lv_at hl 2 rfl) ?_
        refine ra_iald (f := f2) (v := v) hx hb hK.1 hP 3 0 rfl rfl ex (by omega) (by decide) dX0_isOpposed_32 ?_
        refine lv_if_le (tgt := 40) hx hb dX0_isOpposed_33 (by decide) (fun c_33 => ?_) (fun c_33 => ?_)
        · refine lv_iconst (v := 0) hx hb dX0_isOpposed_40 (by decide) ?_
          exact W.zret (v := 0) (ty := .boolean) hx hb hr rfl (fun t ht hW => ⟨congrArg (fun z => Outcome.returned (some (Value.int z))) (by unfold oppI; simp only [Int32.lt_iff_toInt_lt, Int32.le_iff_toInt_le] at *; split <;> first | rfl | (exfalso; omega)), ht⟩) (fun _ h => nomatch h) dX0_isOpposed_41
        · refine lv_iconst (v := 1) hx hb dX0_isOpposed_36 (by decide) ?_
          refine lv_goto (tgt := 41) hx hb dX0_isOpposed_37 (by decide) ?_
          exact W.zret (v := 1) (ty := .boolean) hx hb hr rfl (fun t ht hW => ⟨congrArg (fun z => Outcome.returned (some (Value.int z))) (by unfold oppI; simp only [Int32.lt_iff_toInt_lt, Int32.le_iff_toInt_le] at *; split <;> first | rfl | (exfalso; omega)), ht⟩) (fun _ h => nomatch h) dX0_isOpposed_41

abbrev rmX0_slack : Room := { frames := 2, cells := 0, slots := 0, locals := 42 }
set_option maxHeartbeats 4000000 in
set_option maxRecDepth 100000 in
theorem c_X0_slack (l : Launch) (G : Gt) (o w : Nat) (d g : Int32) (f : Nat → Int32) (kn tr : Int32) : Met l yX0_slack wsX0_slack rmX0_slack (ro_P G [.ref o, .int kn, .int tr] [(o, .inr (0, [.ref w, .int d, .int g])), (w, eI G 10 f)]) (QcRead (slk f d kn tr)) 0 0 (fun _ => False) := by
  refine Met.ofW (cc := cX0_slack) (maxL := 5) (ret := (some .int)) (by decide) rfl ?_
  intro p e s m args below meth c s₁ B hml hv
  obtain ⟨rfl, hP, hK⟩ := hv
  have hx := B.exec
  have hb := B.bytes
  have hr := B.returns
  have hts := atoms_spec (ws := wsX0_slack) B.pre
  have hown : s.vm.findClass RX0 = some m.cls := findClass_of_methodNamed B.named
  have hlocks := B.notSynchronized
  have hinX0 : ∀ w ∈ u_ws RX0 TX0 3, w ∈ wsX0_slack := fun w h => List.mem_cons_of_mem _ (List.mem_append_right _ h)
  have hw1 := hts (.fieldLink RX0 15 "ChoiceBoard$Constraint" "degree" "I") (by decide +kernel)
  have hw2 := hts (.initialized RX1) (by decide +kernel)
  have hw3 := hts (.static yX1_bit) (by decide +kernel)
  have hl := lv_entry ([.ref o, .int kn, .int tr]) (n := 5) (Nat.le_of_ble_eq_true rfl)
  rw [lg_entry_eq]
  generalize (lg_sl ([.ref o, .int kn, .int tr]) ++ List.replicate (5 - (lg_sl ([.ref o, .int kn, .int tr])).length) Slot.unset).toArray = ls at hl ⊢
  have hl : lv_has ls 5 [(0, .ref o), (1, .int kn), (2, .int tr)] := hl
  refine lv_aload_n hx hb dX0_slack_0 rfl (lv_at hl 0 rfl) ?_
  refine va_get (D := G.1) (ci := 0) (v := .int d) (C := RX0) (T := TX0) (N := 3) hx hb hts hinX0 hown hK.1 hP 0 rfl rfl 1 (by decide) hw1 (fun _ h9 => h9) rfl dX0_slack_1 ?_
  refine lv_ineg hx hb dX0_slack_4 ?_
  refine lv_istore_n (lv' := [(3, .int (-d)), (0, .ref o), (1, .int kn), (2, .int tr)]) hx hb dX0_slack_5 rfl hl (by decide) rfl (fun ls hl => ?_)
  refine lv_iconst (v := 0) hx hb dX0_slack_6 (by decide) ?_
  refine lv_istore (lv' := [(4, .int 0), (3, .int (-d)), (0, .ref o), (1, .int kn), (2, .int tr)]) hx hb dX0_slack_7 hl (by decide) rfl (fun ls hl => ?_)
  have loop_9 : ∀ (n_9 i : Nat) (x3 x4 : Int32), i ≤ 10 → 10 + 1 ≤ i + n_9 → (x3 = sg (-d) (slT f kn tr) i) → (x4 = nI i) → ∀ ls : Array Slot, lv_has ls 5 [(0, .ref o), (1, .int kn), (2, .int tr), (3, .int x3), (4, .int x4)] → W p l e rmX0_slack s m [.ref o, .int kn, .int tr].toArray below meth c s.heap [] 0 0 (MQ below (QcRead (slk f d kn tr)) [.ref o, .int kn, .int tr].toArray s 0 0 (fun _ => False)) (F0 m 9 ls []) := by
    intro n_9
    induction n_9 with
    | zero => intro i x3 x4 h1 h2; exact absurd h2 (by omega)
    | succ n_9 ih_9 =>
      intro i x3 x4 hi_9 hn_9 e3 e4 ls hl
      refine lv_iload hx hb dX0_slack_9 (lv_at hl 4 rfl) ?_
      refine lv_bipush (v := 10) hx hb dX0_slack_11 (by decide) ?_
      refine lv_icmp_ge (tgt := 55) hx hb dX0_slack_13 (by decide) (fun c_13 => ?_) (fun c_13 => ?_)
      · have hN : i = 10 := ge_ix e4 (by decide) (by decide) c_13 hi_9
        refine lv_iload_n hx hb dX0_slack_55 rfl (lv_at hl 3 rfl) ?_
        exact W.iret (v := x3) hx hb hr (fun t ht hW => ⟨congrArg (fun z => Outcome.returned (some (Value.int z))) (by rw [e3, hN]; rfl), ht⟩) (fun _ h => nomatch h) dX0_slack_56
      · have hlt : i < 10 := lt_ix e4 (by decide) (by decide) c_13 hi_9
        refine lv_iload_n hx hb dX0_slack_16 rfl (lv_at hl 1 rfl) ?_
        refine lv_iload hx hb dX0_slack_17 (lv_at hl 4 rfl) ?_
        refine ro_call (va_runSN (host := RX1) (As := [.int kn, .int x4]) (rest := []) ⟨hx, hb, hml, hown, hts⟩ (c_X1_bit l G kn x4) ⟨va_cnB 2 hts gX0_slack_X1_bit_n74 rfl rfl rfl hK.2.2.2 hw2 (by decide +kernel) ⟨Nat.le_of_ble_eq_true rfl, Nat.le_of_ble_eq_true rfl⟩, hw3, trivial⟩ ⟨ro_blind, ro_pre _ (hP.sub [] rfl) hK⟩ rfl rfl hl.1 rfl (lv_room (Nat.le_of_ble_eq_true rfl)) dX0_slack_19 ⟨Nat.le_refl _, Nat.le_refl _⟩) ?_
        refine lv_if_eq (tgt := 40) hx hb dX0_slack_22 (by decide) (fun c_22 => ?_) (fun c_22 => ?_)
        · refine lv_iload_n hx hb dX0_slack_40 rfl (lv_at hl 3 rfl) ?_
          refine lv_aload_n hx hb dX0_slack_41 rfl (lv_at hl 0 rfl) ?_
          refine lv_iload hx hb dX0_slack_42 (lv_at hl 4 rfl) ?_
          refine ro_call (va_runV (As := [.int x4]) (rest := [.int x3]) ⟨hx, hb, hml, hown, hts⟩ (c_X0_size l G o w d g f x4 i e4 (by omega)) (cwV 1 hts gX0_slack_X0_size rfl rfl rfl (by decide +kernel) ⟨Nat.le_of_ble_eq_true rfl, Nat.le_of_ble_eq_true rfl⟩) ⟨ro_blind, va_recv hK.1 hP (ci := 0) (q0 := 0) rfl rfl, ro_pre _ (hP.sub [0, 1] rfl) hK⟩ rfl rfl hl.1 rfl (lv_room (Nat.le_of_ble_eq_true rfl)) dX0_slack_44 ⟨Nat.le_refl _, Nat.le_refl _⟩) ?_
          refine lv_iadd hx hb dX0_slack_47 ?_
          refine lv_istore_n (lv' := [(3, .int (x3 + (absI (f i)))), (0, .ref o), (1, .int kn), (2, .int tr), (4, .int x4)]) hx hb dX0_slack_48 rfl hl (by decide) rfl (fun ls hl => ?_)
          refine lv_iinc (v := x4 + 1) (lv' := [(4, .int (x4 + 1)), (3, .int (x3 + (absI (f i)))), (0, .ref o), (1, .int kn), (2, .int tr)]) hx hb dX0_slack_49 hl (k := 4) rfl rfl (by decide) rfl (fun ls hl => ?_)
          refine lv_goto (tgt := 9) hx hb dX0_slack_52 (by decide) ?_
          exact ih_9 (i + 1) _ _ (by omega) (by omega) (by rw [sg_s, e3]; unfold slT; first | rw [if_pos (Or.inl (by rw [← e4]; exact c_22))] | rw [if_pos (Or.inr (by rw [← e4]; exact c_37))] | (rw [if_neg (by rw [← e4]; exact fun h => h.elim c_22 c_37)]; exact add0 _)) (by rw [e4]; exact nI_1 i) ls (lv_sub hl [2, 3, 4, 1, 0] rfl)
        · refine lv_iload_n hx hb dX0_slack_25 rfl (lv_at hl 2 rfl) ?_
          refine lv_iload hx hb dX0_slack_26 (lv_at hl 4 rfl) ?_
          refine ro_call (va_runSN (host := RX1) (As := [.int tr, .int x4]) (rest := []) ⟨hx, hb, hml, hown, hts⟩ (c_X1_bit l G tr x4) ⟨va_cnB 2 hts gX0_slack_X1_bit_n74 rfl rfl rfl hK.2.2.2 hw2 (by decide +kernel) ⟨Nat.le_of_ble_eq_true rfl, Nat.le_of_ble_eq_true rfl⟩, hw3, trivial⟩ ⟨ro_blind, ro_pre _ (hP.sub [] rfl) hK⟩ rfl rfl hl.1 rfl (lv_room (Nat.le_of_ble_eq_true rfl)) dX0_slack_28 ⟨Nat.le_refl _, Nat.le_refl _⟩) ?_
          refine lv_aload_n hx hb dX0_slack_31 rfl (lv_at hl 0 rfl) ?_
          refine lv_iload hx hb dX0_slack_32 (lv_at hl 4 rfl) ?_
          refine ro_call (va_runV (As := [.int x4]) (rest := [.int (bitI tr x4)]) ⟨hx, hb, hml, hown, hts⟩ (c_X0_countedTruth l G o w d g f x4 i e4 (by omega)) (cwV 1 hts gX0_slack_X0_countedTruth rfl rfl rfl (by decide +kernel) ⟨Nat.le_of_ble_eq_true rfl, Nat.le_of_ble_eq_true rfl⟩) ⟨ro_blind, va_recv hK.1 hP (ci := 0) (q0 := 0) rfl rfl, ro_pre _ (hP.sub [0, 1] rfl) hK⟩ rfl rfl hl.1 rfl (lv_room (Nat.le_of_ble_eq_true rfl)) dX0_slack_34 ⟨Nat.le_refl _, Nat.le_refl _⟩) ?_
          refine lv_icmp_ne (tgt := 49) hx hb dX0_slack_37 (by decide) (fun c_37 => ?_) (fun c_37 => ?_)
          · refine lv_iinc (v := x4 + 1) (lv' := [(4, .int (x4 + 1)), (0, .ref o), (1, .int kn), (2, .int tr), (3, .int x3)]) hx hb dX0_slack_49 hl (k := 4) rfl rfl (by decide) rfl (fun ls hl => ?_)
            refine lv_goto (tgt := 9) hx hb dX0_slack_52 (by decide) ?_
            exact ih_9 (i + 1) _ _ (by omega) (by omega) (by rw [sg_s, e3]; unfold slT; first | rw [if_pos (Or.inl (by rw [← e4]; exact c_22))] | rw [if_pos (Or.inr (by rw [← e4]; exact c_37))] | (rw [if_neg (by rw [← e4]; exact fun h => h.elim c_22 c_37)]; exact add0 _)) (by rw [e4]; exact nI_1 i) ls (lv_sub hl [1, 2, 3, 4, 0] rfl)
          · refine lv_iload_n hx hb dX0_slack_40 rfl (lv_at hl 3 rfl) ?_
            refine lv_aload_n hx hb dX0_slack_41 rfl (lv_at hl 0 rfl) ?_
            refine lv_iload hx hb dX0_slack_42 (lv_at hl 4 rfl) ?_
            refine ro_call (va_runV (As := [.int x4]) (rest := [.int x3]) ⟨hx, hb, hml, hown, hts⟩ (c_X0_size l G o w d g f x4 i e4 (by omega)) (cwV 1 hts gX0_slack_X0_size rfl rfl rfl (by decide +kernel) ⟨Nat.le_of_ble_eq_true rfl, Nat.le_of_ble_eq_true rfl⟩) ⟨ro_blind, va_recv hK.1 hP (ci := 0) (q0 := 0) rfl rfl, ro_pre _ (hP.sub [0, 1] rfl) hK⟩ rfl rfl hl.1 rfl (lv_room (Nat.le_of_ble_eq_true rfl)) dX0_slack_44 ⟨Nat.le_refl _, Nat.le_refl _⟩) ?_
            refine lv_iadd hx hb dX0_slack_47 ?_
            refine lv_istore_n (lv' := [(3, .int (x3 + (absI (f i)))), (0, .ref o), (1, .int kn), (2, .int tr), (4, .int x4)]) hx hb dX0_slack_48 rfl hl (by decide) rfl (fun ls hl => ?_)
            refine lv_iinc (v := x4 + 1) (lv' := [(4, .int (x4 + 1)), (3, .int (x3 + (absI (f i)))), (0, .ref o), (1, .int kn), (2, .int tr)]) hx hb dX0_slack_49 hl (k := 4) rfl rfl (by decide) rfl (fun ls hl => ?_)
            refine lv_goto (tgt := 9) hx hb dX0_slack_52 (by decide) ?_
            exact ih_9 (i + 1) _ _ (by omega) (by omega) (by rw [sg_s, e3]; unfold slT; first | rw [if_pos (Or.inl (by rw [← e4]; exact c_22))] | rw [if_pos (Or.inr (by rw [← e4]; exact c_37))] | (rw [if_neg (by rw [← e4]; exact fun h => h.elim c_22 c_37)]; exact add0 _)) (by rw [e4]; exact nI_1 i) ls (lv_sub hl [2, 3, 4, 1, 0] rfl)
  exact loop_9 (10 + 1) 0 _ _ (Nat.zero_le _) (by omega) (by rfl) (by exact nI_0.symm) ls (lv_sub hl [2, 3, 4, 1, 0] rfl)

abbrev rmX0_isMetBy : Room := { frames := 3, cells := 0, slots := 0, locals := 66 }
set_option maxHeartbeats 4000000 in
set_option maxRecDepth 100000 in
theorem c_X0_isMetBy (l : Launch) (G : Gt) (o w : Nat) (d g : Int32) (f : Nat → Int32) (x : Int32) : Met l yX0_isMetBy wsX0_isMetBy rmX0_isMetBy (ro_P G [.ref o, .int x] [(o, .inr (0, [.ref w, .int d, .int g])), (w, eI G 10 f)]) (QcRead (metI f d x)) 0 0 (fun _ => False) := by
  refine Met.ofW (cc := cX0_isMetBy) (maxL := 2) (ret := (some .boolean)) (by decide) rfl ?_
  intro p e s m args below meth c s₁ B hml hv
  obtain ⟨rfl, hP, hK⟩ := hv
  have hx := B.exec
  have hb := B.bytes
  have hr := B.returns
  have hts := atoms_spec (ws := wsX0_isMetBy) B.pre
  have hown : s.vm.findClass RX0 = some m.cls := findClass_of_methodNamed B.named
  have hlocks := B.notSynchronized
  have hl := lv_entry ([.ref o, .int x]) (n := 2) (Nat.le_of_ble_eq_true rfl)
  rw [lg_entry_eq]
  generalize (lg_sl ([.ref o, .int x]) ++ List.replicate (2 - (lg_sl ([.ref o, .int x])).length) Slot.unset).toArray = ls at hl ⊢
  have hl : lv_has ls 2 [(0, .ref o), (1, .int x)] := hl
  refine lv_aload_n hx hb dX0_isMetBy_0 rfl (lv_at hl 0 rfl) ?_
  refine lv_sipush (v := 1023) hx hb dX0_isMetBy_1 (by decide) ?_
  refine lv_iload_n hx hb dX0_isMetBy_4 rfl (lv_at hl 1 rfl) ?_
  refine ro_call (va_runV (As := [.int 1023, .int x]) (rest := []) ⟨hx, hb, hml, hown, hts⟩ (c_X0_slack l G o w d g f 1023 x) (cwV 2 hts gX0_isMetBy_X0_slack rfl rfl rfl (by decide +kernel) ⟨Nat.le_of_ble_eq_true rfl, Nat.le_of_ble_eq_true rfl⟩) ⟨ro_blind, va_recv hK.1 hP (ci := 0) (q0 := 0) rfl rfl, ro_pre _ (hP.sub [0, 1] rfl) hK⟩ rfl rfl hl.1 rfl (lv_room (Nat.le_of_ble_eq_true rfl)) dX0_isMetBy_5 ⟨Nat.le_refl _, Nat.le_refl _⟩) ?_
  refine lv_if_lt (tgt := 15) hx hb dX0_isMetBy_8 (by decide) (fun c_8 => ?_) (fun c_8 => ?_)
  · refine lv_iconst (v := 0) hx hb dX0_isMetBy_15 (by decide) ?_
    exact W.zret (v := 0) (ty := .boolean) hx hb hr rfl (fun t ht hW => ⟨congrArg (fun z => Outcome.returned (some (Value.int z))) (by unfold metI; first | exact (if_pos (Int32.not_lt.mp c_8)).symm | exact (if_neg (Int32.not_le.mpr c_8)).symm), ht⟩) (fun _ h => nomatch h) dX0_isMetBy_16
  · refine lv_iconst (v := 1) hx hb dX0_isMetBy_11 (by decide) ?_
    refine lv_goto (tgt := 16) hx hb dX0_isMetBy_12 (by decide) ?_
    exact W.zret (v := 1) (ty := .boolean) hx hb hr rfl (fun t ht hW => ⟨congrArg (fun z => Outcome.returned (some (Value.int z))) (by unfold metI; first | exact (if_pos (Int32.not_lt.mp c_8)).symm | exact (if_neg (Int32.not_le.mpr c_8)).symm), ht⟩) (fun _ h => nomatch h) dX0_isMetBy_16

abbrev rmX0_forcedFrom : Room := { frames := 3, cells := 0, slots := 0, locals := 66 }
set_option maxHeartbeats 4000000 in
set_option maxRecDepth 100000 in
theorem c_X0_forcedFrom (l : Launch) (G : Gt) (o w : Nat) (d g : Int32) (f : Nat → Int32) (x : Int32) : Met l yX0_forcedFrom wsX0_forcedFrom rmX0_forcedFrom (ro_P G [.ref o, .int x] [(o, .inr (0, [.ref w, .int d, .int g])), (w, eI G 10 f)]) (QcRead (fcd f d x)) 0 0 (fun _ => False) := by
  refine Met.ofW (cc := cX0_forcedFrom) (maxL := 6) (ret := (some .int)) (by decide) rfl ?_
  intro p e s m args below meth c s₁ B hml hv
  obtain ⟨rfl, hP, hK⟩ := hv
  have hx := B.exec
  have hb := B.bytes
  have hr := B.returns
  have hts := atoms_spec (ws := wsX0_forcedFrom) B.pre
  have hown : s.vm.findClass RX0 = some m.cls := findClass_of_methodNamed B.named
  have hlocks := B.notSynchronized
  have hw0 := hts (.initialized RX1) (by decide +kernel)
  have hw1 := hts (.static yX1_bit) (by decide +kernel)
  have hl := lv_entry ([.ref o, .int x]) (n := 6) (Nat.le_of_ble_eq_true rfl)
  rw [lg_entry_eq]
  generalize (lg_sl ([.ref o, .int x]) ++ List.replicate (6 - (lg_sl ([.ref o, .int x])).length) Slot.unset).toArray = ls at hl ⊢
  have hl : lv_has ls 6 [(0, .ref o), (1, .int x)] := hl
  refine lv_iload_n hx hb dX0_forcedFrom_0 rfl (lv_at hl 1 rfl) ?_
  refine lv_sipush (v := 1024) hx hb dX0_forcedFrom_1 (by decide) ?_
  refine lv_idiv hx hb dX0_forcedFrom_4 (by decide) ?_
  refine lv_istore_n (lv' := [(2, .int (x / 1024)), (0, .ref o), (1, .int x)]) hx hb dX0_forcedFrom_5 rfl hl (by decide) rfl (fun ls hl => ?_)
  refine lv_aload_n hx hb dX0_forcedFrom_6 rfl (lv_at hl 1 rfl) ?_
  refine lv_iload_n hx hb dX0_forcedFrom_7 rfl (lv_at hl 0 rfl) ?_
  refine lv_iload_n hx hb dX0_forcedFrom_8 rfl (lv_at hl 2 rfl) ?_
  refine lv_sipush (v := 1023) hx hb dX0_forcedFrom_9 (by decide) ?_
  refine lv_iand hx hb dX0_forcedFrom_12 ?_
  refine ro_call (va_runV (As := [.int (x / 1024), .int (x &&& 1023)]) (rest := []) ⟨hx, hb, hml, hown, hts⟩ (c_X0_slack l G o w d g f (x / 1024) (x &&& 1023)) (cwV 2 hts gX0_forcedFrom_X0_slack rfl rfl rfl (by decide +kernel) ⟨Nat.le_of_ble_eq_true rfl, Nat.le_of_ble_eq_true rfl⟩) ⟨ro_blind, va_recv hK.1 hP (ci := 0) (q0 := 0) rfl rfl, ro_pre _ (hP.sub [0, 1] rfl) hK⟩ rfl rfl hl.1 rfl (lv_room (Nat.le_of_ble_eq_true rfl)) dX0_forcedFrom_13 ⟨Nat.le_refl _, Nat.le_refl _⟩) ?_
  refine lv_istore_n (lv' := [(3, .int (slk f d (x / 1024) (x &&& 1023))), (2, .int (x / 1024)), (0, .ref o), (1, .int x)]) hx hb dX0_forcedFrom_16 rfl hl (by decide) rfl (fun ls hl => ?_)
  refine lv_iload_n hx hb dX0_forcedFrom_17 rfl (lv_at hl 0 rfl) ?_
  refine lv_if_ge (tgt := 23) hx hb dX0_forcedFrom_18 (by decide) (fun c_18 => ?_) (fun c_18 => ?_)
  · refine lv_iload_n hx hb dX0_forcedFrom_23 rfl (lv_at hl 3 rfl) ?_
    refine lv_istore (lv' := [(4, .int x), (3, .int (slk f d (x / 1024) (x &&& 1023))), (2, .int (x / 1024)), (0, .ref o), (1, .int x)]) hx hb dX0_forcedFrom_24 hl (by decide) rfl (fun ls hl => ?_)
    refine lv_iconst (v := 0) hx hb dX0_forcedFrom_26 (by decide) ?_
    refine lv_istore (lv' := [(5, .int 0), (4, .int x), (3, .int (slk f d (x / 1024) (x &&& 1023))), (2, .int (x / 1024)), (0, .ref o), (1, .int x)]) hx hb dX0_forcedFrom_27 hl (by decide) rfl (fun ls hl => ?_)
    have loop_29 : ∀ (n_29 i : Nat) (x4 x5 : Int32), i ≤ 10 → 10 + 1 ≤ i + n_29 → (x4 = sg x (fcT f (x / 1024) (slk f d (x / 1024) (x &&& 1023))) i) → (x5 = nI i) → ∀ ls : Array Slot, lv_has ls 6 [(0, .ref o), (2, .int (x / 1024)), (3, .int (slk f d (x / 1024) (x &&& 1023))), (4, .int x4), (5, .int x5)] → W p l e rmX0_forcedFrom s m [.ref o, .int x].toArray below meth c s.heap [] 0 0 (MQ below (QcRead (fcd f d x)) [.ref o, .int x].toArray s 0 0 (fun _ => False)) (F0 m 29 ls []) := by
      intro n_29
      induction n_29 with
      | zero => intro i x4 x5 h1 h2; exact absurd h2 (by omega)
      | succ n_29 ih_29 =>
        intro i x4 x5 hi_29 hn_29 e4 e5 ls hl
        refine lv_iload hx hb dX0_forcedFrom_29 (lv_at hl 4 rfl) ?_
        refine lv_bipush (v := 10) hx hb dX0_forcedFrom_31 (by decide) ?_
        refine lv_icmp_ge (tgt := 79) hx hb dX0_forcedFrom_33 (by decide) (fun c_33 => ?_) (fun c_33 => ?_)
        · have hN : i = 10 := ge_ix e5 (by decide) (by decide) c_33 hi_29
          refine lv_iload hx hb dX0_forcedFrom_79 (lv_at hl 3 rfl) ?_
          exact W.iret (v := x4) hx hb hr (fun t ht hW => ⟨congrArg (fun z => Outcome.returned (some (Value.int z))) (by unfold fcd; rw [if_neg (Int32.not_lt.mpr c_18), e4, hN]), ht⟩) (fun _ h => nomatch h) dX0_forcedFrom_81
        · have hlt : i < 10 := lt_ix e5 (by decide) (by decide) c_33 hi_29
          refine lv_iload_n hx hb dX0_forcedFrom_36 rfl (lv_at hl 1 rfl) ?_
          refine lv_iload hx hb dX0_forcedFrom_37 (lv_at hl 4 rfl) ?_
          refine ro_call (va_runSN (host := RX1) (As := [.int (x / 1024), .int x5]) (rest := []) ⟨hx, hb, hml, hown, hts⟩ (c_X1_bit l G (x / 1024) x5) ⟨va_cnB 2 hts gX0_forcedFrom_X1_bit_n74 rfl rfl rfl hK.2.2.2 hw0 (by decide +kernel) ⟨Nat.le_of_ble_eq_true rfl, Nat.le_of_ble_eq_true rfl⟩, hw1, trivial⟩ ⟨ro_blind, ro_pre _ (hP.sub [] rfl) hK⟩ rfl rfl hl.1 rfl (lv_room (Nat.le_of_ble_eq_true rfl)) dX0_forcedFrom_39 ⟨Nat.le_refl _, Nat.le_refl _⟩) ?_
          refine lv_if_ne (tgt := 73) hx hb dX0_forcedFrom_42 (by decide) (fun c_42 => ?_) (fun c_42 => ?_)
          · refine lv_iinc (v := x5 + 1) (lv' := [(5, .int (x5 + 1)), (0, .ref o), (2, .int (x / 1024)), (3, .int (slk f d (x / 1024) (x &&& 1023))), (4, .int x4)]) hx hb dX0_forcedFrom_73 hl (k := 4) rfl rfl (by decide) rfl (fun ls hl => ?_)
            refine lv_goto (tgt := 29) hx hb dX0_forcedFrom_76 (by decide) ?_
            exact ih_29 (i + 1) _ _ (by omega) (by omega) (by rw [sg_s, e4]; unfold fcT; (rw [if_neg (by rw [← e5]; exact fun h => c_42 h.1)]; exact add0 _)) (by rw [e5]; exact nI_1 i) ls (lv_sub hl [1, 2, 3, 4, 0] rfl)
          · refine lv_aload_n hx hb dX0_forcedFrom_45 rfl (lv_at hl 0 rfl) ?_
            refine lv_iload hx hb dX0_forcedFrom_46 (lv_at hl 4 rfl) ?_
            refine ro_call (va_runV (As := [.int x5]) (rest := []) ⟨hx, hb, hml, hown, hts⟩ (c_X0_size l G o w d g f x5 i e5 (by omega)) (cwV 1 hts gX0_forcedFrom_X0_size rfl rfl rfl (by decide +kernel) ⟨Nat.le_of_ble_eq_true rfl, Nat.le_of_ble_eq_true rfl⟩) ⟨ro_blind, va_recv hK.1 hP (ci := 0) (q0 := 0) rfl rfl, ro_pre _ (hP.sub [0, 1] rfl) hK⟩ rfl rfl hl.1 rfl (lv_room (Nat.le_of_ble_eq_true rfl)) dX0_forcedFrom_48 ⟨Nat.le_refl _, Nat.le_refl _⟩) ?_
            refine lv_iload_n hx hb dX0_forcedFrom_51 rfl (lv_at hl 2 rfl) ?_
            refine lv_icmp_le (tgt := 73) hx hb dX0_forcedFrom_52 (by decide) (fun c_52 => ?_) (fun c_52 => ?_)
            · refine lv_iinc (v := x5 + 1) (lv' := [(5, .int (x5 + 1)), (0, .ref o), (2, .int (x / 1024)), (3, .int (slk f d (x / 1024) (x &&& 1023))), (4, .int x4)]) hx hb dX0_forcedFrom_73 hl (k := 4) rfl rfl (by decide) rfl (fun ls hl => ?_)
              refine lv_goto (tgt := 29) hx hb dX0_forcedFrom_76 (by decide) ?_
              exact ih_29 (i + 1) _ _ (by omega) (by omega) (by rw [sg_s, e4]; unfold fcT; (rw [if_neg (fun h => absurd h.2 (Int32.not_lt.mpr c_52))]; exact add0 _)) (by rw [e5]; exact nI_1 i) ls (lv_sub hl [1, 2, 3, 4, 0] rfl)
            · refine lv_iload hx hb dX0_forcedFrom_55 (lv_at hl 3 rfl) ?_
              refine lv_sipush (v := 1024) hx hb dX0_forcedFrom_57 (by decide) ?_
              refine lv_aload_n hx hb dX0_forcedFrom_60 rfl (lv_at hl 0 rfl) ?_
              refine lv_iload hx hb dX0_forcedFrom_61 (lv_at hl 4 rfl) ?_
              refine ro_call (va_runV (As := [.int x5]) (rest := [.int 1024, .int x4]) ⟨hx, hb, hml, hown, hts⟩ (c_X0_countedTruth l G o w d g f x5 i e5 (by omega)) (cwV 1 hts gX0_forcedFrom_X0_countedTruth rfl rfl rfl (by decide +kernel) ⟨Nat.le_of_ble_eq_true rfl, Nat.le_of_ble_eq_true rfl⟩) ⟨ro_blind, va_recv hK.1 hP (ci := 0) (q0 := 0) rfl rfl, ro_pre _ (hP.sub [0, 1] rfl) hK⟩ rfl rfl hl.1 rfl (lv_room (Nat.le_of_ble_eq_true rfl)) dX0_forcedFrom_63 ⟨Nat.le_refl _, Nat.le_refl _⟩) ?_
              refine lv_iadd hx hb dX0_forcedFrom_66 ?_
              refine lv_iload hx hb dX0_forcedFrom_67 (lv_at hl 4 rfl) ?_
              refine lv_ishl hx hb dX0_forcedFrom_69 ?_
              refine lv_iadd hx hb dX0_forcedFrom_70 ?_
              refine lv_istore (lv' := [(4, .int (x4 + ((1024 + (cntI (f i))) <<< (x5 &&& 31)))), (0, .ref o), (2, .int (x / 1024)), (3, .int (slk f d (x / 1024) (x &&& 1023))), (5, .int x5)]) hx hb dX0_forcedFrom_71 hl (by decide) rfl (fun ls hl => ?_)
              refine lv_iinc (v := x5 + 1) (lv' := [(5, .int (x5 + 1)), (4, .int (x4 + ((1024 + (cntI (f i))) <<< (x5 &&& 31)))), (0, .ref o), (2, .int (x / 1024)), (3, .int (slk f d (x / 1024) (x &&& 1023)))]) hx hb dX0_forcedFrom_73 hl (k := 4) rfl rfl (by decide) rfl (fun ls hl => ?_)
              refine lv_goto (tgt := 29) hx hb dX0_forcedFrom_76 (by decide) ?_
              exact ih_29 (i + 1) _ _ (by omega) (by omega) (by rw [sg_s, e4]; unfold fcT; rw [if_pos ⟨by rw [← e5]; exact c_42, Int32.not_le.mp c_52⟩, ← e5]) (by rw [e5]; exact nI_1 i) ls (lv_sub hl [2, 3, 4, 1, 0] rfl)
    exact loop_29 (10 + 1) 0 _ _ (Nat.zero_le _) (by omega) (by rfl) (by exact nI_0.symm) ls (lv_sub hl [4, 3, 2, 1, 0] rfl)
  · refine lv_iconst (v := (-1)) hx hb dX0_forcedFrom_21 (by decide) ?_
    exact W.iret (v := (-1)) hx hb hr (fun t ht hW => ⟨congrArg (fun z => Outcome.returned (some (Value.int z))) (by unfold fcd; exact (if_pos (Int32.not_le.mp c_18)).symm), ht⟩) (fun _ h => nomatch h) dX0_forcedFrom_22

abbrev rmX0_quotientRoundedUp : Room := { frames := 0, cells := 0, slots := 0, locals := 0 }
set_option maxHeartbeats 4000000 in
set_option maxRecDepth 100000 in
theorem c_X0_quotientRoundedUp (l : Launch) (G : Gt) (x y : Int32) (hy : ¬ y = 0) : Met l yX0_quotientRoundedUp wsX0_quotientRoundedUp rmX0_quotientRoundedUp (ro_P G [.int x, .int y] []) (QcRead (quoI x y)) 0 0 (fun _ => False) := by
  refine Met.ofW (cc := cX0_quotientRoundedUp) (maxL := 2) (ret := (some .int)) (by decide) rfl ?_
  intro p e s m args below meth c s₁ B hml hv
  obtain ⟨rfl, hP, hK⟩ := hv
  have hx := B.exec
  have hb := B.bytes
  have hr := B.returns
  have hts := atoms_spec (ws := wsX0_quotientRoundedUp) B.pre
  have hown : s.vm.findClass RX0 = some m.cls := findClass_of_methodNamed B.named
  have hlocks := B.notSynchronized
  have hl := lv_entry ([.int x, .int y]) (n := 2) (Nat.le_of_ble_eq_true rfl)
  rw [lg_entry_eq]
  generalize (lg_sl ([.int x, .int y]) ++ List.replicate (2 - (lg_sl ([.int x, .int y])).length) Slot.unset).toArray = ls at hl ⊢
  have hl : lv_has ls 2 [(0, .int x), (1, .int y)] := hl
  refine lv_iload_n hx hb dX0_quotientRoundedUp_0 rfl (lv_at hl 0 rfl) ?_
  refine lv_iload_n hx hb dX0_quotientRoundedUp_1 rfl (lv_at hl 1 rfl) ?_
  refine lv_iadd hx hb dX0_quotientRoundedUp_2 ?_
  refine lv_iconst (v := 1) hx hb dX0_quotientRoundedUp_3 (by decide) ?_
  refine lv_isub hx hb dX0_quotientRoundedUp_4 ?_
  refine lv_iload_n hx hb dX0_quotientRoundedUp_5 rfl (lv_at hl 1 rfl) ?_
  refine lv_idiv hx hb dX0_quotientRoundedUp_6 hy ?_
  exact W.iret (v := ((x + y) - 1) / y) hx hb hr (fun t ht hW => ⟨congrArg (fun z => Outcome.returned (some (Value.int z))) (rfl), ht⟩) (fun _ h => nomatch h) dX0_quotientRoundedUp_7
