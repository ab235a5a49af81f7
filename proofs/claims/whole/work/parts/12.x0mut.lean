abbrev rmX0_resize : Room := { frames := 0, cells := 0, slots := 0, locals := 0 }
set_option maxHeartbeats 4000000 in
set_option maxRecDepth 100000 in
theorem c_X0_resize (l : Launch) (G : Gt) (sz : Nat) (o w : Nat) (d g : Int32) (f : Nat → Int32) (x y : Int32) (v : Nat) (ex : x = nI v) (hv : v < 10) : Met l yX0_resize wsX0_resize rmX0_resize (mu_P G sz [.ref o, .int x, .int y] [(o, .inr (0, [.ref w, .int d, .int g])), (w, eI G 10 f)]) (mu_Q G none [(o, .inr (0, [.ref w, .int d, .int g])), (w, eI G 10 (upd f v (rsz (f v) y)))] (va_A [(o, .inr (0, [.ref w, .int d, .int g])), (w, eI G 10 f)] sz)) 0 0 (va_A [(o, .inr (0, [.ref w, .int d, .int g])), (w, eI G 10 f)] sz) := by
  refine Met.ofW (cc := cX0_resize) (maxL := 3) (ret := none) (by decide) rfl ?_
  intro p e s m args below meth c s₁ B hml hv
  obtain ⟨rfl, hsz, hP, hD0, hK⟩ := hv
  have hx := B.exec
  have hb := B.bytes
  have hr := B.returns
  have hts := atoms_spec (ws := wsX0_resize) B.pre
  have hown : s.vm.findClass RX0 = some m.cls := findClass_of_methodNamed B.named
  have hlocks := B.notSynchronized
  subst hsz
  have hD := hD0.self (sz := s.heap.size)
  generalize hAe : va_A [(o, .inr (0, [.ref w, .int d, .int g])), (w, eI G 10 f)] s.heap.size = A at hD ⊢
  have hA : ∀ q : Nat, s.heap.size ≤ q → A q := fun q h => by rw [← hAe]; exact Or.inr h
  have hS : va_S A s.heap s.heap [] := va_S.rf
  have hinX0 : ∀ w ∈ u_ws RX0 TX0 3, w ∈ wsX0_resize := fun w h => List.mem_cons_of_mem _ (List.mem_append_right _ h)
  have hw1 := hts (.fieldLink RX0 9 "ChoiceBoard$Constraint" "weights" "[I") (by decide +kernel)
  have hl := lv_entry ([.ref o, .int x, .int y]) (n := 3) (Nat.le_of_ble_eq_true rfl)
  rw [lg_entry_eq]
  generalize (lg_sl ([.ref o, .int x, .int y]) ++ List.replicate (3 - (lg_sl ([.ref o, .int x, .int y])).length) Slot.unset).toArray = ls at hl ⊢
  have hl : lv_has ls 3 [(0, .ref o), (1, .int x), (2, .int y)] := hl
  refine lv_aload_n hx hb dX0_resize_0 rfl (lv_at hl 0 rfl) ?_
  refine va_get (D := G.1) (ci := 0) (v := .ref w) (C := RX0) (T := TX0) (N := 3) hx hb hts hinX0 hown hK.1 hP 0 rfl rfl 0 (by decide) hw1 (fun _ h9 => h9) rfl dX0_resize_1 ?_
  refine lv_iload_n hx hb dX0_resize_4 rfl (lv_at hl 1 rfl) ?_
  refine lv_aload_n hx hb dX0_resize_5 rfl (lv_at hl 0 rfl) ?_
  refine va_get (D := G.1) (ci := 0) (v := .ref w) (C := RX0) (T := TX0) (N := 3) hx hb hts hinX0 hown hK.1 hP 0 rfl rfl 0 (by decide) hw1 (fun _ h9 => h9) rfl dX0_resize_6 ?_
  refine lv_iload_n hx hb dX0_resize_9 rfl (lv_at hl 1 rfl) ?_
  refine ra_iald (f := f) (v := v) hx hb hK.1 hP 1 0 rfl rfl ex (by omega) (by decide) dX0_resize_10 ?_
  refine lv_if_ge (tgt := 19) hx hb dX0_resize_11 (by decide) (fun c_11 => ?_) (fun c_11 => ?_)
  · refine lv_iload_n hx hb dX0_resize_19 rfl (lv_at hl 2 rfl) ?_
    refine ra_iast (v := v) hx hb hK.1 hP hD hS 1 0 rfl rfl ex (by omega) (by decide) dX0_resize_20 (fun H locs hP hD hS => ?_)
    have hP : va_P G.1 vwCl [(o, .inr (0, [.ref w, .int d, .int g])), (w, eI G 10 (upd f v y))] H := hP
    have hD : va_D A [(o, .inr (0, [.ref w, .int d, .int g])), (w, eI G 10 (upd f v y))] := hD
    have eA20 : upd f v y = upd f v (rsz (f v) y) := by rw [show rsz (f v) y = y from if_neg (Int32.not_lt.mpr c_11)]
    rw [eA20] at hP hD
    have hP9 := hP.sub (ws' := [(o, .inr (0, [.ref w, .int d, .int g])), (w, eI G 10 (upd f v (rsz (f v) y)))]) [0, 1] rfl
    have hD9 := hD.sub (ws' := [(o, .inr (0, [.ref w, .int d, .int g])), (w, eI G 10 (upd f v (rsz (f v) y)))]) [0, 1] (by decide) rfl
    exact W.vret hx hb hr (fun t ht hW => ⟨rfl, by rw [ht]; exact hP9, hD9, hS.F ht⟩) hS.2.2 dX0_resize_21
  · refine lv_iload_n hx hb dX0_resize_14 rfl (lv_at hl 2 rfl) ?_
    refine lv_ineg hx hb dX0_resize_15 ?_
    refine lv_goto (tgt := 20) hx hb dX0_resize_16 (by decide) ?_
    refine ra_iast (v := v) hx hb hK.1 hP hD hS 1 0 rfl rfl ex (by omega) (by decide) dX0_resize_20 (fun H locs hP hD hS => ?_)
    have hP : va_P G.1 vwCl [(o, .inr (0, [.ref w, .int d, .int g])), (w, eI G 10 (upd f v (-y)))] H := hP
    have hD : va_D A [(o, .inr (0, [.ref w, .int d, .int g])), (w, eI G 10 (upd f v (-y)))] := hD
    have eA20 : upd f v (-y) = upd f v (rsz (f v) y) := by rw [show rsz (f v) y = -y from if_pos (Int32.not_le.mp c_11)]
    rw [eA20] at hP hD
    have hP9 := hP.sub (ws' := [(o, .inr (0, [.ref w, .int d, .int g])), (w, eI G 10 (upd f v (rsz (f v) y)))]) [0, 1] rfl
    have hD9 := hD.sub (ws' := [(o, .inr (0, [.ref w, .int d, .int g])), (w, eI G 10 (upd f v (rsz (f v) y)))]) [0, 1] (by decide) rfl
    exact W.vret hx hb hr (fun t ht hW => ⟨rfl, by rw [ht]; exact hP9, hD9, hS.F ht⟩) hS.2.2 dX0_resize_21

abbrev rmX0_giveUp : Room := { frames := 2, cells := 0, slots := 0, locals := 42 }
set_option maxHeartbeats 4000000 in
set_option maxRecDepth 100000 in
theorem c_X0_giveUp (l : Launch) (G : Gt) (sz : Nat) (o w : Nat) (d g : Int32) (f : Nat → Int32) (x : Int32) (v : Nat) (ex : x = nI v) (hv : v < 10) : Met l yX0_giveUp wsX0_giveUp rmX0_giveUp (mu_P G sz [.ref o, .int x] [(o, .inr (0, [.ref w, .int d, .int g])), (w, eI G 10 f)]) (mu_Q G none [(o, .inr (0, [.ref w, .int (maxI (d - (absI (f v))) 0), .int g])), (w, eI G 10 (upd f v 0))] (va_A [(o, .inr (0, [.ref w, .int d, .int g])), (w, eI G 10 f)] sz)) 0 0 (va_A [(o, .inr (0, [.ref w, .int d, .int g])), (w, eI G 10 f)] sz) := by
  refine Met.ofW (cc := cX0_giveUp) (maxL := 2) (ret := none) (by decide) rfl ?_
  intro p e s m args below meth c s₁ B hml hv
  obtain ⟨rfl, hsz, hP, hD0, hK⟩ := hv
  have hx := B.exec
  have hb := B.bytes
  have hr := B.returns
  have hts := atoms_spec (ws := wsX0_giveUp) B.pre
  have hown : s.vm.findClass RX0 = some m.cls := findClass_of_methodNamed B.named
  have hlocks := B.notSynchronized
  subst hsz
  have hD := hD0.self (sz := s.heap.size)
  generalize hAe : va_A [(o, .inr (0, [.ref w, .int d, .int g])), (w, eI G 10 f)] s.heap.size = A at hD ⊢
  have hA : ∀ q : Nat, s.heap.size ≤ q → A q := fun q h => by rw [← hAe]; exact Or.inr h
  have hS : va_S A s.heap s.heap [] := va_S.rf
  have hinX0 : ∀ w ∈ u_ws RX0 TX0 3, w ∈ wsX0_giveUp := fun w h => List.mem_cons_of_mem _ (List.mem_append_right _ h)
  have hw1 := hts (.fieldLink RX0 15 "ChoiceBoard$Constraint" "degree" "I") (by decide +kernel)
  have hw2 := hts (.methodLink RX0 37 Lib.Math.max.name) (by decide +kernel)
  have hw3 := hts (.static Lib.Math.max.name) (by decide +kernel)
  have hw4 := hts (.initialized "java/lang/Math") (by decide +kernel)
  have hw5 := hts (.code Lib.Math.max.name Lib.Math.max.code 2 (some .int)) (by decide +kernel)
  have hw6 := hts (.fieldLink RX0 9 "ChoiceBoard$Constraint" "weights" "[I") (by decide +kernel)
  have hl := lv_entry ([.ref o, .int x]) (n := 2) (Nat.le_of_ble_eq_true rfl)
  rw [lg_entry_eq]
  generalize (lg_sl ([.ref o, .int x]) ++ List.replicate (2 - (lg_sl ([.ref o, .int x])).length) Slot.unset).toArray = ls at hl ⊢
  have hl : lv_has ls 2 [(0, .ref o), (1, .int x)] := hl
  refine lv_aload_n hx hb dX0_giveUp_0 rfl (lv_at hl 0 rfl) ?_
  refine lv_aload_n hx hb dX0_giveUp_1 rfl (lv_at hl 0 rfl) ?_
  refine va_get (D := G.1) (ci := 0) (v := .int d) (C := RX0) (T := TX0) (N := 3) hx hb hts hinX0 hown hK.1 hP 0 rfl rfl 1 (by decide) hw1 (fun _ h9 => h9) rfl dX0_giveUp_2 ?_
  refine lv_aload_n hx hb dX0_giveUp_5 rfl (lv_at hl 0 rfl) ?_
  refine lv_iload_n hx hb dX0_giveUp_6 rfl (lv_at hl 1 rfl) ?_
  refine ro_call (va_runV (As := [.int x]) (rest := [.int d, .ref o]) ⟨hx, hb, hml, hown, hts⟩ (c_X0_size l G o w d g f x v ex (by omega)) (cwV 1 hts gX0_giveUp_X0_size rfl rfl rfl (by decide +kernel) ⟨Nat.le_of_ble_eq_true rfl, Nat.le_of_ble_eq_true rfl⟩) ⟨ro_blind, va_recv hK.1 hP (ci := 0) (q0 := 0) rfl rfl, ro_pre _ (hP.sub [0, 1] rfl) hK⟩ rfl rfl hl.1 rfl (lv_room (Nat.le_of_ble_eq_true rfl)) dX0_giveUp_7 ⟨Nat.le_refl _, Nat.le_refl _⟩) ?_
  refine lv_isub hx hb dX0_giveUp_10 ?_
  refine lv_iconst (v := 0) hx hb dX0_giveUp_11 (by decide) ?_
  refine va_mmax hx hb (hml.trans hl.1.symm) hown hw2 hw3 hw4 hw5 (Nat.le_of_ble_eq_true rfl) (Nat.le_of_ble_eq_true rfl) (Nat.le_refl _) (Nat.le_refl _) dX0_giveUp_12 ?_
  refine va_put (D := G.1) (ci := 0) (v := .int (maxI (d - (absI (f v))) 0)) (ty := .int) (C := RX0) (T := TX0) (N := 3) hx hb hts hinX0 tyX0 tyX0_ok nmX0 hown hK.1 hP hD hS 0 rfl rfl 1 (by decide) hw1 (fun _ h9 => h9) rfl (by decide +kernel) rfl rfl (Nat.le_of_ble_eq_true rfl) dX0_giveUp_15 (fun H locs hP hD hS => ?_)
  have hP : va_P G.1 vwCl [(o, .inr (0, [.ref w, .int (maxI (d - (absI (f v))) 0), .int g])), (w, eI G 10 f)] H := hP
  have hD : va_D A [(o, .inr (0, [.ref w, .int (maxI (d - (absI (f v))) 0), .int g])), (w, eI G 10 f)] := hD
  refine lv_aload_n hx hb dX0_giveUp_18 rfl (lv_at hl 0 rfl) ?_
  refine va_get (D := G.1) (ci := 0) (v := .ref w) (C := RX0) (T := TX0) (N := 3) hx hb hts hinX0 hown hK.1 hP 0 rfl rfl 0 (by decide) hw6 (fun _ h9 => h9) rfl dX0_giveUp_19 ?_
  refine lv_iload_n hx hb dX0_giveUp_22 rfl (lv_at hl 1 rfl) ?_
  refine lv_iconst (v := 0) hx hb dX0_giveUp_23 (by decide) ?_
  refine ra_iast (v := v) hx hb hK.1 hP hD hS 1 0 rfl rfl ex (by omega) (by decide) dX0_giveUp_24 (fun H locs hP hD hS => ?_)
  have hP : va_P G.1 vwCl [(o, .inr (0, [.ref w, .int (maxI (d - (absI (f v))) 0), .int g])), (w, eI G 10 (upd f v 0))] H := hP
  have hD : va_D A [(o, .inr (0, [.ref w, .int (maxI (d - (absI (f v))) 0), .int g])), (w, eI G 10 (upd f v 0))] := hD
  have hP9 := hP.sub (ws' := [(o, .inr (0, [.ref w, .int (maxI (d - (absI (f v))) 0), .int g])), (w, eI G 10 (upd f v 0))]) [0, 1] rfl
  have hD9 := hD.sub (ws' := [(o, .inr (0, [.ref w, .int (maxI (d - (absI (f v))) 0), .int g])), (w, eI G 10 (upd f v 0))]) [0, 1] (by decide) rfl
  exact W.vret hx hb hr (fun t ht hW => ⟨rfl, by rw [ht]; exact hP9, hD9, hS.F ht⟩) hS.2.2 dX0_giveUp_25

abbrev rmX0_turnToContrary : Room := { frames := 3, cells := 0, slots := 0, locals := 64 }
set_option maxHeartbeats 4000000 in
set_option maxRecDepth 100000 in
theorem c_X0_turnToContrary (l : Launch) (G : Gt) (sz : Nat) (o w : Nat) (d g : Int32) (f : Nat → Int32) : Met l yX0_turnToContrary wsX0_turnToContrary rmX0_turnToContrary (mu_P G sz [.ref o] [(o, .inr (0, [.ref w, .int d, .int g])), (w, eI G 10 f)]) (mu_Q G none [(o, .inr (0, [.ref w, .int (maxI (szs f + 1 - d) 0), .int g])), (w, eI G 10 (mixf 10 (fun v => -(f v)) f))] (va_A [(o, .inr (0, [.ref w, .int d, .int g])), (w, eI G 10 f)] sz)) 0 0 (va_A [(o, .inr (0, [.ref w, .int d, .int g])), (w, eI G 10 f)] sz) := by
  refine Met.ofW (cc := cX0_turnToContrary) (maxL := 2) (ret := none) (by decide) rfl ?_
  intro p e s m args below meth c s₁ B hml hv
  obtain ⟨rfl, hsz, hP, hD0, hK⟩ := hv
  have hx := B.exec
  have hb := B.bytes
  have hr := B.returns
  have hts := atoms_spec (ws := wsX0_turnToContrary) B.pre
  have hown : s.vm.findClass RX0 = some m.cls := findClass_of_methodNamed B.named
  have hlocks := B.notSynchronized
  subst hsz
  have hD := hD0.self (sz := s.heap.size)
  generalize hAe : va_A [(o, .inr (0, [.ref w, .int d, .int g])), (w, eI G 10 f)] s.heap.size = A at hD ⊢
  have hA : ∀ q : Nat, s.heap.size ≤ q → A q := fun q h => by rw [← hAe]; exact Or.inr h
  have hS : va_S A s.heap s.heap [] := va_S.rf
  have hinX0 : ∀ w ∈ u_ws RX0 TX0 3, w ∈ wsX0_turnToContrary := fun w h => List.mem_cons_of_mem _ (List.mem_append_right _ h)
  have hw1 := hts (.fieldLink RX0 15 "ChoiceBoard$Constraint" "degree" "I") (by decide +kernel)
  have hw2 := hts (.methodLink RX0 37 Lib.Math.max.name) (by decide +kernel)
  have hw3 := hts (.static Lib.Math.max.name) (by decide +kernel)
  have hw4 := hts (.initialized "java/lang/Math") (by decide +kernel)
  have hw5 := hts (.code Lib.Math.max.name Lib.Math.max.code 2 (some .int)) (by decide +kernel)
  have hw6 := hts (.fieldLink RX0 9 "ChoiceBoard$Constraint" "weights" "[I") (by decide +kernel)
  have hl := lv_entry ([.ref o]) (n := 2) (Nat.le_of_ble_eq_true rfl)
  rw [lg_entry_eq]
  generalize (lg_sl ([.ref o]) ++ List.replicate (2 - (lg_sl ([.ref o])).length) Slot.unset).toArray = ls at hl ⊢
  have hl : lv_has ls 2 [(0, .ref o)] := hl
  refine lv_aload_n hx hb dX0_turnToContrary_0 rfl (lv_at hl 0 rfl) ?_
  refine lv_aload_n hx hb dX0_turnToContrary_1 rfl (lv_at hl 0 rfl) ?_
  refine ro_call (va_runV (As := []) (rest := [.ref o]) ⟨hx, hb, hml, hown, hts⟩ (c_X0_sizeOfAll l G o w d g f) (cwV 0 hts gX0_turnToContrary_X0_sizeOfAll rfl rfl rfl (by decide +kernel) ⟨Nat.le_of_ble_eq_true rfl, Nat.le_of_ble_eq_true rfl⟩) ⟨ro_blind, va_recv hK.1 hP (ci := 0) (q0 := 0) rfl rfl, ro_pre _ (hP.sub [0, 1] rfl) hK⟩ rfl rfl hl.1 rfl (lv_room (Nat.le_of_ble_eq_true rfl)) dX0_turnToContrary_2 ⟨Nat.le_refl _, Nat.le_refl _⟩) ?_
  refine lv_iconst (v := 1) hx hb dX0_turnToContrary_5 (by decide) ?_
  refine lv_iadd hx hb dX0_turnToContrary_6 ?_
  refine lv_aload_n hx hb dX0_turnToContrary_7 rfl (lv_at hl 0 rfl) ?_
  refine va_get (D := G.1) (ci := 0) (v := .int d) (C := RX0) (T := TX0) (N := 3) hx hb hts hinX0 hown hK.1 hP 0 rfl rfl 1 (by decide) hw1 (fun _ h9 => h9) rfl dX0_turnToContrary_8 ?_
  refine lv_isub hx hb dX0_turnToContrary_11 ?_
  refine lv_iconst (v := 0) hx hb dX0_turnToContrary_12 (by decide) ?_
  refine va_mmax hx hb (hml.trans hl.1.symm) hown hw2 hw3 hw4 hw5 (Nat.le_of_ble_eq_true rfl) (Nat.le_of_ble_eq_true rfl) (Nat.le_refl _) (Nat.le_refl _) dX0_turnToContrary_13 ?_
  refine va_put (D := G.1) (ci := 0) (v := .int (maxI (((szs f) + 1) - d) 0)) (ty := .int) (C := RX0) (T := TX0) (N := 3) hx hb hts hinX0 tyX0 tyX0_ok nmX0 hown hK.1 hP hD hS 0 rfl rfl 1 (by decide) hw1 (fun _ h9 => h9) rfl (by decide +kernel) rfl rfl (Nat.le_of_ble_eq_true rfl) dX0_turnToContrary_16 (fun H locs hP hD hS => ?_)
  have hP : va_P G.1 vwCl [(o, .inr (0, [.ref w, .int (maxI (((szs f) + 1) - d) 0), .int g])), (w, eI G 10 f)] H := hP
  have hD : va_D A [(o, .inr (0, [.ref w, .int (maxI (((szs f) + 1) - d) 0), .int g])), (w, eI G 10 f)] := hD
  refine lv_iconst (v := 0) hx hb dX0_turnToContrary_19 (by decide) ?_
  refine lv_istore_n (lv' := [(1, .int 0), (0, .ref o)]) hx hb dX0_turnToContrary_20 rfl hl (by decide) rfl (fun ls hl => ?_)
  have loop_21 : ∀ (n_21 i : Nat) (xi : Int32) (h : Nat → Int32), i ≤ 10 → 10 + 1 ≤ i + n_21 → (xi = nI i) → (h = mixf i (fun v => -(f v)) f) → ∀ (H : Heap) (locs : List Loc), va_P G.1 vwCl [(o, .inr (0, [.ref w, .int (maxI (szs f + 1 - d) 0), .int g])), (w, eI G 10 h)] H → va_D A [(o, .inr (0, [.ref w, .int (maxI (szs f + 1 - d) 0), .int g])), (w, eI G 10 h)] → va_S A s.heap H locs → ∀ ls : Array Slot, lv_has ls 2 [(0, .ref o), (1, .int xi)] → W p l e rmX0_turnToContrary s m [.ref o].toArray below meth c H locs 0 0 (MQ below (mu_Q G none [(o, .inr (0, [.ref w, .int (maxI (szs f + 1 - d) 0), .int g])), (w, eI G 10 (mixf 10 (fun v => -(f v)) f))] A) [.ref o].toArray s 0 0 A) (F0 m 21 ls []) := by
    intro n_21
    induction n_21 with
    | zero => intro i xi h h1 h2; exact absurd h2 (by omega)
    | succ n_21 ih_21 =>
      intro i xi h hi_21 hn_21 ei eh H locs hP hD hS ls hl
      refine lv_iload_n hx hb dX0_turnToContrary_21 rfl (lv_at hl 1 rfl) ?_
      refine lv_bipush (v := 10) hx hb dX0_turnToContrary_22 (by decide) ?_
      refine lv_icmp_ge (tgt := 46) hx hb dX0_turnToContrary_24 (by decide) (fun c_24 => ?_) (fun c_24 => ?_)
      · have hN : i = 10 := ge_ix ei (by decide) (by decide) c_24 hi_21
        rw [eh, hN] at hP hD
        have hP9 := hP.sub (ws' := [(o, .inr (0, [.ref w, .int (maxI (szs f + 1 - d) 0), .int g])), (w, eI G 10 (mixf 10 (fun v => -(f v)) f))]) [0, 1] rfl
        have hD9 := hD.sub (ws' := [(o, .inr (0, [.ref w, .int (maxI (szs f + 1 - d) 0), .int g])), (w, eI G 10 (mixf 10 (fun v => -(f v)) f))]) [0, 1] (by decide) rfl
        exact W.vret hx hb hr (fun t ht hW => ⟨rfl, by rw [ht]; exact hP9, hD9, hS.F ht⟩) hS.2.2 dX0_turnToContrary_46
      · have hlt : i < 10 := lt_ix ei (by decide) (by decide) c_24 hi_21
        refine lv_aload_n hx hb dX0_turnToContrary_27 rfl (lv_at hl 0 rfl) ?_
        refine va_get (D := G.1) (ci := 0) (v := .ref w) (C := RX0) (T := TX0) (N := 3) hx hb hts hinX0 hown hK.1 hP 0 rfl rfl 0 (by decide) hw6 (fun _ h9 => h9) rfl dX0_turnToContrary_28 ?_
        refine lv_iload_n hx hb dX0_turnToContrary_31 rfl (lv_at hl 1 rfl) ?_
        refine lv_aload_n hx hb dX0_turnToContrary_32 rfl (lv_at hl 0 rfl) ?_
        refine va_get (D := G.1) (ci := 0) (v := .ref w) (C := RX0) (T := TX0) (N := 3) hx hb hts hinX0 hown hK.1 hP 0 rfl rfl 0 (by decide) hw6 (fun _ h9 => h9) rfl dX0_turnToContrary_33 ?_
        refine lv_iload_n hx hb dX0_turnToContrary_36 rfl (lv_at hl 1 rfl) ?_
        refine ra_iald (f := h) (v := i) hx hb hK.1 hP 1 0 rfl rfl ei (by omega) (by decide) dX0_turnToContrary_37 ?_
        refine lv_ineg hx hb dX0_turnToContrary_38 ?_
        refine ra_iast (v := i) hx hb hK.1 hP hD hS 1 0 rfl rfl ei (by omega) (by decide) dX0_turnToContrary_39 (fun H locs hP hD hS => ?_)
        have hP : va_P G.1 vwCl [(o, .inr (0, [.ref w, .int (maxI (szs f + 1 - d) 0), .int g])), (w, eI G 10 (upd h i (-(h i))))] H := hP
        have hD : va_D A [(o, .inr (0, [.ref w, .int (maxI (szs f + 1 - d) 0), .int g])), (w, eI G 10 (upd h i (-(h i))))] := hD
        refine lv_iinc (v := xi + 1) (lv' := [(1, .int (xi + 1)), (0, .ref o)]) hx hb dX0_turnToContrary_40 hl (k := 1) rfl rfl (by decide) rfl (fun ls hl => ?_)
        refine lv_goto (tgt := 21) hx hb dX0_turnToContrary_43 (by decide) ?_
        exact ih_21 (i + 1) _ _ (by omega) (by omega) (by rw [ei]; exact nI_1 i) (by rw [eh, mixf_hi _ _ (Nat.le_refl i)]; exact mixf_s i (fun v => -(f v)) f) _ _ (hP.sub [0, 1] rfl) (hD.sub [0, 1] (by decide) rfl) hS ls (lv_sub hl [1, 0] rfl)
  exact loop_21 (10 + 1) 0 _ _ (Nat.zero_le _) (by omega) (by exact nI_0.symm) (by exact (mixf_0 _ _).symm) _ _ (hP.sub [0, 1] rfl) (hD.sub [0, 1] (by decide) rfl) hS ls (lv_sub hl [1, 0] rfl)

abbrev rmX0_limitSizesToDegree : Room := { frames := 2, cells := 0, slots := 0, locals := 42 }
set_option maxHeartbeats 4000000 in
set_option maxRecDepth 100000 in
theorem c_X0_limitSizesToDegree (l : Launch) (G : Gt) (sz : Nat) (o w : Nat) (d g : Int32) (f : Nat → Int32) : Met l yX0_limitSizesToDegree wsX0_limitSizesToDegree rmX0_limitSizesToDegree (mu_P G sz [.ref o] [(o, .inr (0, [.ref w, .int d, .int g])), (w, eI G 10 f)]) (mu_Q G none [(o, .inr (0, [.ref w, .int d, .int g])), (w, eI G 10 (mixf 10 (fun v => rsz (f v) (minI (absI (f v)) d)) f))] (va_A [(o, .inr (0, [.ref w, .int d, .int g])), (w, eI G 10 f)] sz)) 0 0 (va_A [(o, .inr (0, [.ref w, .int d, .int g])), (w, eI G 10 f)] sz) := by
  refine Met.ofW (cc := cX0_limitSizesToDegree) (maxL := 2) (ret := none) (by decide) rfl ?_
  intro p e s m args below meth c s₁ B hml hv
  obtain ⟨rfl, hsz, hP, hD0, hK⟩ := hv
  have hx := B.exec
  have hb := B.bytes
  have hr := B.returns
  have hts := atoms_spec (ws := wsX0_limitSizesToDegree) B.pre
  have hown : s.vm.findClass RX0 = some m.cls := findClass_of_methodNamed B.named
  have hlocks := B.notSynchronized
  subst hsz
  have hD := hD0.self (sz := s.heap.size)
  generalize hAe : va_A [(o, .inr (0, [.ref w, .int d, .int g])), (w, eI G 10 f)] s.heap.size = A at hD ⊢
  have hA : ∀ q : Nat, s.heap.size ≤ q → A q := fun q h => by rw [← hAe]; exact Or.inr h
  have hS : va_S A s.heap s.heap [] := va_S.rf
  have hinX0 : ∀ w ∈ u_ws RX0 TX0 3, w ∈ wsX0_limitSizesToDegree := fun w h => List.mem_cons_of_mem _ (List.mem_append_right _ h)
  have hw1 := hts (.fieldLink RX0 15 "ChoiceBoard$Constraint" "degree" "I") (by decide +kernel)
  have hw2 := hts (.methodLink RX0 53 Lib.Math.min.name) (by decide +kernel)
  have hw3 := hts (.static Lib.Math.min.name) (by decide +kernel)
  have hw4 := hts (.initialized "java/lang/Math") (by decide +kernel)
  have hw5 := hts (.code Lib.Math.min.name Lib.Math.min.code 2 (some .int)) (by decide +kernel)
  have hl := lv_entry ([.ref o]) (n := 2) (Nat.le_of_ble_eq_true rfl)
  rw [lg_entry_eq]
  generalize (lg_sl ([.ref o]) ++ List.replicate (2 - (lg_sl ([.ref o])).length) Slot.unset).toArray = ls at hl ⊢
  have hl : lv_has ls 2 [(0, .ref o)] := hl
  refine lv_iconst (v := 0) hx hb dX0_limitSizesToDegree_0 (by decide) ?_
  refine lv_istore_n (lv' := [(1, .int 0), (0, .ref o)]) hx hb dX0_limitSizesToDegree_1 rfl hl (by decide) rfl (fun ls hl => ?_)
  have loop_2 : ∀ (n_2 i : Nat) (xi : Int32) (h : Nat → Int32), i ≤ 10 → 10 + 1 ≤ i + n_2 → (xi = nI i) → (h = mixf i (fun v => rsz (f v) (minI (absI (f v)) d)) f) → ∀ (H : Heap) (locs : List Loc), va_P G.1 vwCl [(o, .inr (0, [.ref w, .int d, .int g])), (w, eI G 10 h)] H → va_D A [(o, .inr (0, [.ref w, .int d, .int g])), (w, eI G 10 h)] → va_S A s.heap H locs → ∀ ls : Array Slot, lv_has ls 2 [(0, .ref o), (1, .int xi)] → W p l e rmX0_limitSizesToDegree s m [.ref o].toArray below meth c H locs 0 0 (MQ below (mu_Q G none [(o, .inr (0, [.ref w, .int d, .int g])), (w, eI G 10 (mixf 10 (fun v => rsz (f v) (minI (absI (f v)) d)) f))] A) [.ref o].toArray s 0 0 A) (F0 m 2 ls []) := by
    intro n_2
    induction n_2 with
    | zero => intro i xi h h1 h2; exact absurd h2 (by omega)
    | succ n_2 ih_2 =>
      intro i xi h hi_2 hn_2 ei eh H locs hP hD hS ls hl
      refine lv_iload_n hx hb dX0_limitSizesToDegree_2 rfl (lv_at hl 1 rfl) ?_
      refine lv_bipush (v := 10) hx hb dX0_limitSizesToDegree_3 (by decide) ?_
      refine lv_icmp_ge (tgt := 31) hx hb dX0_limitSizesToDegree_5 (by decide) (fun c_5 => ?_) (fun c_5 => ?_)
      · have hN : i = 10 := ge_ix ei (by decide) (by decide) c_5 hi_2
        rw [eh, hN] at hP hD
        have hP9 := hP.sub (ws' := [(o, .inr (0, [.ref w, .int d, .int g])), (w, eI G 10 (mixf 10 (fun v => rsz (f v) (minI (absI (f v)) d)) f))]) [0, 1] rfl
        have hD9 := hD.sub (ws' := [(o, .inr (0, [.ref w, .int d, .int g])), (w, eI G 10 (mixf 10 (fun v => rsz (f v) (minI (absI (f v)) d)) f))]) [0, 1] (by decide) rfl
        exact W.vret hx hb hr (fun t ht hW => ⟨rfl, by rw [ht]; exact hP9, hD9, hS.F ht⟩) hS.2.2 dX0_limitSizesToDegree_31
      · have hlt : i < 10 := lt_ix ei (by decide) (by decide) c_5 hi_2
        refine lv_aload_n hx hb dX0_limitSizesToDegree_8 rfl (lv_at hl 0 rfl) ?_
        refine lv_iload_n hx hb dX0_limitSizesToDegree_9 rfl (lv_at hl 1 rfl) ?_
        refine lv_aload_n hx hb dX0_limitSizesToDegree_10 rfl (lv_at hl 0 rfl) ?_
        refine lv_iload_n hx hb dX0_limitSizesToDegree_11 rfl (lv_at hl 1 rfl) ?_
        refine ro_call (va_runV (As := [.int xi]) (rest := [.int xi, .ref o]) ⟨hx, hb, hml, hown, hts⟩ (c_X0_size l G o w d g h xi i ei (by omega)) (cwV 1 hts gX0_limitSizesToDegree_X0_size rfl rfl rfl (by decide +kernel) ⟨Nat.le_of_ble_eq_true rfl, Nat.le_of_ble_eq_true rfl⟩) ⟨ro_blind, va_recv hK.1 hP (ci := 0) (q0 := 0) rfl rfl, ro_pre _ (hP.sub [0, 1] rfl) hK⟩ rfl rfl hl.1 rfl (lv_room (Nat.le_of_ble_eq_true rfl)) dX0_limitSizesToDegree_12 ⟨Nat.le_refl _, Nat.le_refl _⟩) ?_
        refine lv_aload_n hx hb dX0_limitSizesToDegree_15 rfl (lv_at hl 0 rfl) ?_
        refine va_get (D := G.1) (ci := 0) (v := .int d) (C := RX0) (T := TX0) (N := 3) hx hb hts hinX0 hown hK.1 hP 0 rfl rfl 1 (by decide) hw1 (fun _ h9 => h9) rfl dX0_limitSizesToDegree_16 ?_
        refine va_mmin hx hb (hml.trans hl.1.symm) hown hw2 hw3 hw4 hw5 (Nat.le_of_ble_eq_true rfl) (Nat.le_of_ble_eq_true rfl) (Nat.le_refl _) (Nat.le_refl _) dX0_limitSizesToDegree_19 ?_
        refine mu_call (va_runV (As := [.int xi, .int (minI (absI (h i)) d)]) (rest := []) ⟨hx, hb, hml, hown, hts⟩ (c_X0_resize l G _ o w d g h xi (minI (absI (h i)) d) i ei (by omega)) (cwV 2 hts gX0_limitSizesToDegree_X0_resize rfl rfl rfl (by decide +kernel) ⟨Nat.le_of_ble_eq_true rfl, Nat.le_of_ble_eq_true rfl⟩) ⟨mu_blind, va_recv hK.1 hP (ci := 0) (q0 := 0) rfl rfl, mu_pre _ (hP.sub [0, 1] rfl) (hD.sub [0, 1] (by decide) rfl) hK⟩ rfl rfl hl.1 rfl (lv_room (Nat.le_of_ble_eq_true rfl)) dX0_limitSizesToDegree_22 ⟨Nat.le_refl _, Nat.le_refl _⟩) hS (va_free hD hS hA [0, 1] rfl) (va_free hD hS hA [0, 1] rfl) (fun H1 locs hP1 hD1 hk1 hS => ?_)
        obtain ⟨hP, hD⟩ := rp_join (ws' := [(o, .inr (0, [.ref w, .int d, .int g])), (w, eI G 10 (upd h i (rsz (h i) (minI (absI (h i)) d))))]) hP hD [0, 1] rfl hk1 hP1 (fun k q h => match k, q, h with | 0, q, h => Or.inl ⟨0, h⟩ | 1, q, h => Or.inl ⟨1, h⟩ | k + 2, q, h => nomatch h) rfl
        generalize H1 = H at hP hS ⊢
        have hP : va_P G.1 vwCl [(o, .inr (0, [.ref w, .int d, .int g])), (w, eI G 10 (upd h i (rsz (h i) (minI (absI (h i)) d))))] H := hP
        have hD : va_D A [(o, .inr (0, [.ref w, .int d, .int g])), (w, eI G 10 (upd h i (rsz (h i) (minI (absI (h i)) d))))] := hD
        refine lv_iinc (v := xi + 1) (lv' := [(1, .int (xi + 1)), (0, .ref o)]) hx hb dX0_limitSizesToDegree_25 hl (k := 1) rfl rfl (by decide) rfl (fun ls hl => ?_)
        refine lv_goto (tgt := 2) hx hb dX0_limitSizesToDegree_28 (by decide) ?_
        exact ih_2 (i + 1) _ _ (by omega) (by omega) (by rw [ei]; exact nI_1 i) (by rw [eh, mixf_hi _ _ (Nat.le_refl i)]; exact mixf_s i (fun v => rsz (f v) (minI (absI (f v)) d)) f) _ _ (hP.sub [0, 1] rfl) (hD.sub [0, 1] (by decide) rfl) hS ls (lv_sub hl [1, 0] rfl)
  exact loop_2 (10 + 1) 0 _ _ (Nat.zero_le _) (by omega) (by exact nI_0.symm) (by exact (mixf_0 _ _).symm) _ _ (hP.sub [0, 1] rfl) (hD.sub [0, 1] (by decide) rfl) hS ls (lv_sub hl [1, 0] rfl)

abbrev rmX0_divideRoundingUp : Room := { frames := 2, cells := 0, slots := 0, locals := 42 }
set_option maxHeartbeats 4000000 in
set_option maxRecDepth 100000 in
theorem c_X0_divideRoundingUp (l : Launch) (G : Gt) (sz : Nat) (o w : Nat) (d g : Int32) (f : Nat → Int32) (x : Int32) (hx0 : ¬ x = 0) : Met l yX0_divideRoundingUp wsX0_divideRoundingUp rmX0_divideRoundingUp (mu_P G sz [.ref o, .int x] [(o, .inr (0, [.ref w, .int d, .int g])), (w, eI G 10 f)]) (mu_Q G none [(o, .inr (0, [.ref w, .int (quoI d x), .int g])), (w, eI G 10 (mixf 10 (fun v => rsz (f v) (quoI (absI (f v)) x)) f))] (va_A [(o, .inr (0, [.ref w, .int d, .int g])), (w, eI G 10 f)] sz)) 0 0 (va_A [(o, .inr (0, [.ref w, .int d, .int g])), (w, eI G 10 f)] sz) := by
  refine Met.ofW (cc := cX0_divideRoundingUp) (maxL := 3) (ret := none) (by decide) rfl ?_
  intro p e s m args below meth c s₁ B hml hv
  obtain ⟨rfl, hsz, hP, hD0, hK⟩ := hv
  have hx := B.exec
  have hb := B.bytes
  have hr := B.returns
  have hts := atoms_spec (ws := wsX0_divideRoundingUp) B.pre
  have hown : s.vm.findClass RX0 = some m.cls := findClass_of_methodNamed B.named
  have hlocks := B.notSynchronized
  subst hsz
  have hD := hD0.self (sz := s.heap.size)
  generalize hAe : va_A [(o, .inr (0, [.ref w, .int d, .int g])), (w, eI G 10 f)] s.heap.size = A at hD ⊢
  have hA : ∀ q : Nat, s.heap.size ≤ q → A q := fun q h => by rw [← hAe]; exact Or.inr h
  have hS : va_S A s.heap s.heap [] := va_S.rf
  have hinX0 : ∀ w ∈ u_ws RX0 TX0 3, w ∈ wsX0_divideRoundingUp := fun w h => List.mem_cons_of_mem _ (List.mem_append_right _ h)
  have hw1 := hts (.fieldLink RX0 15 "ChoiceBoard$Constraint" "degree" "I") (by decide +kernel)
  have hl := lv_entry ([.ref o, .int x]) (n := 3) (Nat.le_of_ble_eq_true rfl)
  rw [lg_entry_eq]
  generalize (lg_sl ([.ref o, .int x]) ++ List.replicate (3 - (lg_sl ([.ref o, .int x])).length) Slot.unset).toArray = ls at hl ⊢
  have hl : lv_has ls 3 [(0, .ref o), (1, .int x)] := hl
  refine lv_iconst (v := 0) hx hb dX0_divideRoundingUp_0 (by decide) ?_
  refine lv_istore_n (lv' := [(2, .int 0), (0, .ref o), (1, .int x)]) hx hb dX0_divideRoundingUp_1 rfl hl (by decide) rfl (fun ls hl => ?_)
  have loop_2 : ∀ (n_2 i : Nat) (xi : Int32) (h : Nat → Int32), i ≤ 10 → 10 + 1 ≤ i + n_2 → (xi = nI i) → (h = mixf i (fun v => rsz (f v) (quoI (absI (f v)) x)) f) → ∀ (H : Heap) (locs : List Loc), va_P G.1 vwCl [(o, .inr (0, [.ref w, .int d, .int g])), (w, eI G 10 h)] H → va_D A [(o, .inr (0, [.ref w, .int d, .int g])), (w, eI G 10 h)] → va_S A s.heap H locs → ∀ ls : Array Slot, lv_has ls 3 [(0, .ref o), (1, .int x), (2, .int xi)] → W p l e rmX0_divideRoundingUp s m [.ref o, .int x].toArray below meth c H locs 0 0 (MQ below (mu_Q G none [(o, .inr (0, [.ref w, .int (quoI d x), .int g])), (w, eI G 10 (mixf 10 (fun v => rsz (f v) (quoI (absI (f v)) x)) f))] A) [.ref o, .int x].toArray s 0 0 A) (F0 m 2 ls []) := by
    intro n_2
    induction n_2 with
    | zero => intro i xi h h1 h2; exact absurd h2 (by omega)
    | succ n_2 ih_2 =>
      intro i xi h hi_2 hn_2 ei eh H locs hP hD hS ls hl
      refine lv_iload_n hx hb dX0_divideRoundingUp_2 rfl (lv_at hl 2 rfl) ?_
      refine lv_bipush (v := 10) hx hb dX0_divideRoundingUp_3 (by decide) ?_
      refine lv_icmp_ge (tgt := 28) hx hb dX0_divideRoundingUp_5 (by decide) (fun c_5 => ?_) (fun c_5 => ?_)
      · have hN : i = 10 := ge_ix ei (by decide) (by decide) c_5 hi_2
        refine lv_aload_n hx hb dX0_divideRoundingUp_28 rfl (lv_at hl 0 rfl) ?_
        refine lv_aload_n hx hb dX0_divideRoundingUp_29 rfl (lv_at hl 0 rfl) ?_
        refine va_get (D := G.1) (ci := 0) (v := .int d) (C := RX0) (T := TX0) (N := 3) hx hb hts hinX0 hown hK.1 hP 0 rfl rfl 1 (by decide) hw1 (fun _ h9 => h9) rfl dX0_divideRoundingUp_30 ?_
        refine lv_iload_n hx hb dX0_divideRoundingUp_33 rfl (lv_at hl 1 rfl) ?_
        refine ro_call (va_runS (As := [.int d, .int x]) (rest := [.ref o]) ⟨hx, hb, hml, hown, hts⟩ (c_X0_quotientRoundedUp l G d x hx0) (va_cwS 2 hts gX0_divideRoundingUp_X0_quotientRoundedUp rfl rfl rfl (by decide +kernel) ⟨Nat.le_of_ble_eq_true rfl, Nat.le_of_ble_eq_true rfl⟩) ⟨ro_blind, ro_pre _ (hP.sub [] rfl) hK⟩ rfl rfl hl.1 rfl (lv_room (Nat.le_of_ble_eq_true rfl)) dX0_divideRoundingUp_34 ⟨Nat.le_refl _, Nat.le_refl _⟩) ?_
        refine va_put (D := G.1) (ci := 0) (v := .int (quoI d x)) (ty := .int) (C := RX0) (T := TX0) (N := 3) hx hb hts hinX0 tyX0 tyX0_ok nmX0 hown hK.1 hP hD hS 0 rfl rfl 1 (by decide) hw1 (fun _ h9 => h9) rfl (by decide +kernel) rfl rfl (Nat.le_of_ble_eq_true rfl) dX0_divideRoundingUp_37 (fun H locs hP hD hS => ?_)
        have hP : va_P G.1 vwCl [(o, .inr (0, [.ref w, .int (quoI d x), .int g])), (w, eI G 10 h)] H := hP
        have hD : va_D A [(o, .inr (0, [.ref w, .int (quoI d x), .int g])), (w, eI G 10 h)] := hD
        rw [eh, hN] at hP hD
        have hP9 := hP.sub (ws' := [(o, .inr (0, [.ref w, .int (quoI d x), .int g])), (w, eI G 10 (mixf 10 (fun v => rsz (f v) (quoI (absI (f v)) x)) f))]) [0, 1] rfl
        have hD9 := hD.sub (ws' := [(o, .inr (0, [.ref w, .int (quoI d x), .int g])), (w, eI G 10 (mixf 10 (fun v => rsz (f v) (quoI (absI (f v)) x)) f))]) [0, 1] (by decide) rfl
        exact W.vret hx hb hr (fun t ht hW => ⟨rfl, by rw [ht]; exact hP9, hD9, hS.F ht⟩) hS.2.2 dX0_divideRoundingUp_40
      · have hlt : i < 10 := lt_ix ei (by decide) (by decide) c_5 hi_2
        refine lv_aload_n hx hb dX0_divideRoundingUp_8 rfl (lv_at hl 0 rfl) ?_
        refine lv_iload_n hx hb dX0_divideRoundingUp_9 rfl (lv_at hl 2 rfl) ?_
        refine lv_aload_n hx hb dX0_divideRoundingUp_10 rfl (lv_at hl 0 rfl) ?_
        refine lv_iload_n hx hb dX0_divideRoundingUp_11 rfl (lv_at hl 2 rfl) ?_
        refine ro_call (va_runV (As := [.int xi]) (rest := [.int xi, .ref o]) ⟨hx, hb, hml, hown, hts⟩ (c_X0_size l G o w d g h xi i ei (by omega)) (cwV 1 hts gX0_divideRoundingUp_X0_size rfl rfl rfl (by decide +kernel) ⟨Nat.le_of_ble_eq_true rfl, Nat.le_of_ble_eq_true rfl⟩) ⟨ro_blind, va_recv hK.1 hP (ci := 0) (q0 := 0) rfl rfl, ro_pre _ (hP.sub [0, 1] rfl) hK⟩ rfl rfl hl.1 rfl (lv_room (Nat.le_of_ble_eq_true rfl)) dX0_divideRoundingUp_12 ⟨Nat.le_refl _, Nat.le_refl _⟩) ?_
        refine lv_iload_n hx hb dX0_divideRoundingUp_15 rfl (lv_at hl 1 rfl) ?_
        refine ro_call (va_runS (As := [.int (absI (h i)), .int x]) (rest := [.int xi, .ref o]) ⟨hx, hb, hml, hown, hts⟩ (c_X0_quotientRoundedUp l G (absI (h i)) x hx0) (va_cwS 2 hts gX0_divideRoundingUp_X0_quotientRoundedUp rfl rfl rfl (by decide +kernel) ⟨Nat.le_of_ble_eq_true rfl, Nat.le_of_ble_eq_true rfl⟩) ⟨ro_blind, ro_pre _ (hP.sub [] rfl) hK⟩ rfl rfl hl.1 rfl (lv_room (Nat.le_of_ble_eq_true rfl)) dX0_divideRoundingUp_16 ⟨Nat.le_refl _, Nat.le_refl _⟩) ?_
        refine mu_call (va_runV (As := [.int xi, .int (quoI (absI (h i)) x)]) (rest := []) ⟨hx, hb, hml, hown, hts⟩ (c_X0_resize l G _ o w d g h xi (quoI (absI (h i)) x) i ei (by omega)) (cwV 2 hts gX0_divideRoundingUp_X0_resize rfl rfl rfl (by decide +kernel) ⟨Nat.le_of_ble_eq_true rfl, Nat.le_of_ble_eq_true rfl⟩) ⟨mu_blind, va_recv hK.1 hP (ci := 0) (q0 := 0) rfl rfl, mu_pre _ (hP.sub [0, 1] rfl) (hD.sub [0, 1] (by decide) rfl) hK⟩ rfl rfl hl.1 rfl (lv_room (Nat.le_of_ble_eq_true rfl)) dX0_divideRoundingUp_19 ⟨Nat.le_refl _, Nat.le_refl _⟩) hS (va_free hD hS hA [0, 1] rfl) (va_free hD hS hA [0, 1] rfl) (fun H1 locs hP1 hD1 hk1 hS => ?_)
        obtain ⟨hP, hD⟩ := rp_join (ws' := [(o, .inr (0, [.ref w, .int d, .int g])), (w, eI G 10 (upd h i (rsz (h i) (quoI (absI (h i)) x))))]) hP hD [0, 1] rfl hk1 hP1 (fun k q h => match k, q, h with | 0, q, h => Or.inl ⟨0, h⟩ | 1, q, h => Or.inl ⟨1, h⟩ | k + 2, q, h => nomatch h) rfl
        generalize H1 = H at hP hS ⊢
        have hP : va_P G.1 vwCl [(o, .inr (0, [.ref w, .int d, .int g])), (w, eI G 10 (upd h i (rsz (h i) (quoI (absI (h i)) x))))] H := hP
        have hD : va_D A [(o, .inr (0, [.ref w, .int d, .int g])), (w, eI G 10 (upd h i (rsz (h i) (quoI (absI (h i)) x))))] := hD
        refine lv_iinc (v := xi + 1) (lv' := [(2, .int (xi + 1)), (0, .ref o), (1, .int x)]) hx hb dX0_divideRoundingUp_22 hl (k := 2) rfl rfl (by decide) rfl (fun ls hl => ?_)
        refine lv_goto (tgt := 2) hx hb dX0_divideRoundingUp_25 (by decide) ?_
        exact ih_2 (i + 1) _ _ (by omega) (by omega) (by rw [ei]; exact nI_1 i) (by rw [eh, mixf_hi _ _ (Nat.le_refl i)]; exact mixf_s i (fun v => rsz (f v) (quoI (absI (f v)) x)) f) _ _ (hP.sub [0, 1] rfl) (hD.sub [0, 1] (by decide) rfl) hS ls (lv_sub hl [1, 2, 0] rfl)
  exact loop_2 (10 + 1) 0 _ _ (Nat.zero_le _) (by omega) (by exact nI_0.symm) (by exact (mixf_0 _ _).symm) _ _ (hP.sub [0, 1] rfl) (hD.sub [0, 1] (by decide) rfl) hS ls (lv_sub hl [1, 2, 0] rfl)

abbrev rmX0_become : Room := { frames := 1, cells := 0, slots := 0, locals := 48 }
set_option maxHeartbeats 4000000 in
set_option maxRecDepth 100000 in
theorem c_X0_become (l : Launch) (G : Gt) (sz : Nat) (o w : Nat) (d g : Int32) (f : Nat → Int32) (o2 w2 : Nat) (d2 g2 : Int32) (f2 : Nat → Int32) : Met l yX0_become wsX0_become rmX0_become (mu_P G sz [.ref o, .ref o2] [(o, .inr (0, [.ref w, .int d, .int g])), (w, eI G 10 f), (o2, .inr (0, [.ref w2, .int d2, .int g2])), (w2, eI G 10 f2)]) (mu_Q G none [(o, .inr (0, [.ref w, .int d2, .int g])), (w, eI G 10 (mixf 10 f2 f)), (o2, .inr (0, [.ref w2, .int d2, .int g2])), (w2, eI G 10 f2)] (va_A [(o, .inr (0, [.ref w, .int d, .int g])), (w, eI G 10 f), (o2, .inr (0, [.ref w2, .int d2, .int g2])), (w2, eI G 10 f2)] sz)) 0 0 (va_A [(o, .inr (0, [.ref w, .int d, .int g])), (w, eI G 10 f), (o2, .inr (0, [.ref w2, .int d2, .int g2])), (w2, eI G 10 f2)] sz) := by
  refine Met.ofW (cc := cX0_become) (maxL := 2) (ret := none) (by decide) rfl ?_
  intro p e s m args below meth c s₁ B hml hv
  obtain ⟨rfl, hsz, hP, hD0, hK⟩ := hv
  have hx := B.exec
  have hb := B.bytes
  have hr := B.returns
  have hts := atoms_spec (ws := wsX0_become) B.pre
  have hown : s.vm.findClass RX0 = some m.cls := findClass_of_methodNamed B.named
  have hlocks := B.notSynchronized
  subst hsz
  have hD := hD0.self (sz := s.heap.size)
  generalize hAe : va_A [(o, .inr (0, [.ref w, .int d, .int g])), (w, eI G 10 f), (o2, .inr (0, [.ref w2, .int d2, .int g2])), (w2, eI G 10 f2)] s.heap.size = A at hD ⊢
  have hA : ∀ q : Nat, s.heap.size ≤ q → A q := fun q h => by rw [← hAe]; exact Or.inr h
  have hS : va_S A s.heap s.heap [] := va_S.rf
  have hinX0 : ∀ w ∈ u_ws RX0 TX0 3, w ∈ wsX0_become := fun w h => List.mem_cons_of_mem _ (List.mem_append_right _ h)
  have hw1 := hts (.fieldLink RX0 9 "ChoiceBoard$Constraint" "weights" "[I") (by decide +kernel)
  have hw2 := hts (.methodLink RX0 23 arraycopyName) (by decide +kernel)
  have hw3 := hts (.native arraycopyName) (by decide +kernel)
  have hw4 := hts (.static arraycopyName) (by decide +kernel)
  have hw5 := hts (.initialized "java/lang/System") (by decide +kernel)
  have hw6 := hts (.fieldLink RX0 15 "ChoiceBoard$Constraint" "degree" "I") (by decide +kernel)
  have hl := lv_entry ([.ref o, .ref o2]) (n := 2) (Nat.le_of_ble_eq_true rfl)
  rw [lg_entry_eq]
  generalize (lg_sl ([.ref o, .ref o2]) ++ List.replicate (2 - (lg_sl ([.ref o, .ref o2])).length) Slot.unset).toArray = ls at hl ⊢
  have hl : lv_has ls 2 [(0, .ref o), (1, .ref o2)] := hl
  refine lv_aload_n hx hb dX0_become_0 rfl (lv_at hl 1 rfl) ?_
  refine va_get (D := G.1) (ci := 0) (v := .ref w2) (C := RX0) (T := TX0) (N := 3) hx hb hts hinX0 hown hK.1 hP 2 rfl rfl 0 (by decide) hw1 (fun _ h9 => h9) rfl dX0_become_1 ?_
  refine lv_iconst (v := 0) hx hb dX0_become_4 (by decide) ?_
  refine lv_aload_n hx hb dX0_become_5 rfl (lv_at hl 0 rfl) ?_
  refine va_get (D := G.1) (ci := 0) (v := .ref w) (C := RX0) (T := TX0) (N := 3) hx hb hts hinX0 hown hK.1 hP 0 rfl rfl 0 (by decide) hw1 (fun _ h9 => h9) rfl dX0_become_6 ?_
  refine lv_iconst (v := 0) hx hb dX0_become_9 (by decide) ?_
  refine lv_bipush (v := 10) hx hb dX0_become_10 (by decide) ?_
  refine ra_copy hx hb (hml.trans hl.1.symm) hown hw2 hw3 hw4 hw5 hK.1 hP hD hS 3 1 0 0 rfl rfl rfl rfl (n := 10) (N := 10) (by decide) (by decide) (by decide) (by decide) (Nat.le_of_ble_eq_true rfl) (Nat.le_of_ble_eq_true rfl) dX0_become_12 (fun H locs hP hD hS => ?_)
  have hP : va_P G.1 vwCl [(o, .inr (0, [.ref w, .int d, .int g])), (w, eI G 10 (va_cpy f2 f 0 0 10)), (o2, .inr (0, [.ref w2, .int d2, .int g2])), (w2, eI G 10 f2)] H := hP
  have hD : va_D A [(o, .inr (0, [.ref w, .int d, .int g])), (w, eI G 10 (va_cpy f2 f 0 0 10)), (o2, .inr (0, [.ref w2, .int d2, .int g2])), (w2, eI G 10 f2)] := hD
  have eA12 : va_cpy f2 f 0 0 10 = mixf 10 f2 f := cpy_mix f2 f 10
  rw [eA12] at hP hD
  refine lv_aload_n hx hb dX0_become_15 rfl (lv_at hl 0 rfl) ?_
  refine lv_aload_n hx hb dX0_become_16 rfl (lv_at hl 1 rfl) ?_
  refine va_get (D := G.1) (ci := 0) (v := .int d2) (C := RX0) (T := TX0) (N := 3) hx hb hts hinX0 hown hK.1 hP 2 rfl rfl 1 (by decide) hw6 (fun _ h9 => h9) rfl dX0_become_17 ?_
  refine va_put (D := G.1) (ci := 0) (v := .int d2) (ty := .int) (C := RX0) (T := TX0) (N := 3) hx hb hts hinX0 tyX0 tyX0_ok nmX0 hown hK.1 hP hD hS 0 rfl rfl 1 (by decide) hw6 (fun _ h9 => h9) rfl (by decide +kernel) rfl rfl (Nat.le_of_ble_eq_true rfl) dX0_become_20 (fun H locs hP hD hS => ?_)
  have hP : va_P G.1 vwCl [(o, .inr (0, [.ref w, .int d2, .int g])), (w, eI G 10 (mixf 10 f2 f)), (o2, .inr (0, [.ref w2, .int d2, .int g2])), (w2, eI G 10 f2)] H := hP
  have hD : va_D A [(o, .inr (0, [.ref w, .int d2, .int g])), (w, eI G 10 (mixf 10 f2 f)), (o2, .inr (0, [.ref w2, .int d2, .int g2])), (w2, eI G 10 f2)] := hD
  have hP9 := hP.sub (ws' := [(o, .inr (0, [.ref w, .int d2, .int g])), (w, eI G 10 (mixf 10 f2 f)), (o2, .inr (0, [.ref w2, .int d2, .int g2])), (w2, eI G 10 f2)]) [0, 1, 2, 3] rfl
  have hD9 := hD.sub (ws' := [(o, .inr (0, [.ref w, .int d2, .int g])), (w, eI G 10 (mixf 10 f2 f)), (o2, .inr (0, [.ref w2, .int d2, .int g2])), (w2, eI G 10 f2)]) [0, 1, 2, 3] (by decide) rfl
  exact W.vret hx hb hr (fun t ht hW => ⟨rfl, by rw [ht]; exact hP9, hD9, hS.F ht⟩) hS.2.2 dX0_become_23

abbrev rmX0_becomeMultiple : Room := { frames := 0, cells := 0, slots := 0, locals := 0 }
set_option maxHeartbeats 4000000 in
set_option maxRecDepth 100000 in
theorem c_X0_becomeMultiple (l : Launch) (G : Gt) (sz : Nat) (o w : Nat) (d g : Int32) (f : Nat → Int32) (o2 w2 : Nat) (d2 g2 : Int32) (f2 : Nat → Int32) (x : Int32) : Met l yX0_becomeMultiple wsX0_becomeMultiple rmX0_becomeMultiple (mu_P G sz [.ref o, .ref o2, .int x] [(o, .inr (0, [.ref w, .int d, .int g])), (w, eI G 10 f), (o2, .inr (0, [.ref w2, .int d2, .int g2])), (w2, eI G 10 f2)]) (mu_Q G none [(o, .inr (0, [.ref w, .int (x * d2), .int g])), (w, eI G 10 (mixf 10 (fun v => x * (f2 v)) f)), (o2, .inr (0, [.ref w2, .int d2, .int g2])), (w2, eI G 10 f2)] (va_A [(o, .inr (0, [.ref w, .int d, .int g])), (w, eI G 10 f), (o2, .inr (0, [.ref w2, .int d2, .int g2])), (w2, eI G 10 f2)] sz)) 0 0 (va_A [(o, .inr (0, [.ref w, .int d, .int g])), (w, eI G 10 f), (o2, .inr (0, [.ref w2, .int d2, .int g2])), (w2, eI G 10 f2)] sz) := by
  refine Met.ofW (cc := cX0_becomeMultiple) (maxL := 4) (ret := none) (by decide) rfl ?_
  intro p e s m args below meth c s₁ B hml hv
  obtain ⟨rfl, hsz, hP, hD0, hK⟩ := hv
  have hx := B.exec
  have hb := B.bytes
  have hr := B.returns
  have hts := atoms_spec (ws := wsX0_becomeMultiple) B.pre
  have hown : s.vm.findClass RX0 = some m.cls := findClass_of_methodNamed B.named
  have hlocks := B.notSynchronized
  subst hsz
  have hD := hD0.self (sz := s.heap.size)
  generalize hAe : va_A [(o, .inr (0, [.ref w, .int d, .int g])), (w, eI G 10 f), (o2, .inr (0, [.ref w2, .int d2, .int g2])), (w2, eI G 10 f2)] s.heap.size = A at hD ⊢
  have hA : ∀ q : Nat, s.heap.size ≤ q → A q := fun q h => by rw [← hAe]; exact Or.inr h
  have hS : va_S A s.heap s.heap [] := va_S.rf
  have hinX0 : ∀ w ∈ u_ws RX0 TX0 3, w ∈ wsX0_becomeMultiple := fun w h => List.mem_cons_of_mem _ (List.mem_append_right _ h)
  have hw1 := hts (.fieldLink RX0 15 "ChoiceBoard$Constraint" "degree" "I") (by decide +kernel)
  have hw2 := hts (.fieldLink RX0 9 "ChoiceBoard$Constraint" "weights" "[I") (by decide +kernel)
  have hl := lv_entry ([.ref o, .ref o2, .int x]) (n := 4) (Nat.le_of_ble_eq_true rfl)
  rw [lg_entry_eq]
  generalize (lg_sl ([.ref o, .ref o2, .int x]) ++ List.replicate (4 - (lg_sl ([.ref o, .ref o2, .int x])).length) Slot.unset).toArray = ls at hl ⊢
  have hl : lv_has ls 4 [(0, .ref o), (1, .ref o2), (2, .int x)] := hl
  refine lv_iconst (v := 0) hx hb dX0_becomeMultiple_0 (by decide) ?_
  refine lv_istore_n (lv' := [(3, .int 0), (0, .ref o), (1, .ref o2), (2, .int x)]) hx hb dX0_becomeMultiple_1 rfl hl (by decide) rfl (fun ls hl => ?_)
  have loop_2 : ∀ (n_2 i : Nat) (xi : Int32) (h : Nat → Int32), i ≤ 10 → 10 + 1 ≤ i + n_2 → (xi = nI i) → (h = mixf i (fun v => x * (f2 v)) f) → ∀ (H : Heap) (locs : List Loc), va_P G.1 vwCl [(o, .inr (0, [.ref w, .int d, .int g])), (w, eI G 10 h), (o2, .inr (0, [.ref w2, .int d2, .int g2])), (w2, eI G 10 f2)] H → va_D A [(o, .inr (0, [.ref w, .int d, .int g])), (w, eI G 10 h), (o2, .inr (0, [.ref w2, .int d2, .int g2])), (w2, eI G 10 f2)] → va_S A s.heap H locs → ∀ ls : Array Slot, lv_has ls 4 [(0, .ref o), (1, .ref o2), (2, .int x), (3, .int xi)] → W p l e rmX0_becomeMultiple s m [.ref o, .ref o2, .int x].toArray below meth c H locs 0 0 (MQ below (mu_Q G none [(o, .inr (0, [.ref w, .int (x * d2), .int g])), (w, eI G 10 (mixf 10 (fun v => x * (f2 v)) f)), (o2, .inr (0, [.ref w2, .int d2, .int g2])), (w2, eI G 10 f2)] A) [.ref o, .ref o2, .int x].toArray s 0 0 A) (F0 m 2 ls []) := by
    intro n_2
    induction n_2 with
    | zero => intro i xi h h1 h2; exact absurd h2 (by omega)
    | succ n_2 ih_2 =>
      intro i xi h hi_2 hn_2 ei eh H locs hP hD hS ls hl
      refine lv_iload_n hx hb dX0_becomeMultiple_2 rfl (lv_at hl 3 rfl) ?_
      refine lv_bipush (v := 10) hx hb dX0_becomeMultiple_3 (by decide) ?_
      refine lv_icmp_ge (tgt := 28) hx hb dX0_becomeMultiple_5 (by decide) (fun c_5 => ?_) (fun c_5 => ?_)
      · have hN : i = 10 := ge_ix ei (by decide) (by decide) c_5 hi_2
        refine lv_aload_n hx hb dX0_becomeMultiple_28 rfl (lv_at hl 0 rfl) ?_
        refine lv_iload_n hx hb dX0_becomeMultiple_29 rfl (lv_at hl 2 rfl) ?_
        refine lv_aload_n hx hb dX0_becomeMultiple_30 rfl (lv_at hl 1 rfl) ?_
        refine va_get (D := G.1) (ci := 0) (v := .int d2) (C := RX0) (T := TX0) (N := 3) hx hb hts hinX0 hown hK.1 hP 2 rfl rfl 1 (by decide) hw1 (fun _ h9 => h9) rfl dX0_becomeMultiple_31 ?_
        refine lv_imul hx hb dX0_becomeMultiple_34 ?_
        refine va_put (D := G.1) (ci := 0) (v := .int (x * d2)) (ty := .int) (C := RX0) (T := TX0) (N := 3) hx hb hts hinX0 tyX0 tyX0_ok nmX0 hown hK.1 hP hD hS 0 rfl rfl 1 (by decide) hw1 (fun _ h9 => h9) rfl (by decide +kernel) rfl rfl (Nat.le_of_ble_eq_true rfl) dX0_becomeMultiple_35 (fun H locs hP hD hS => ?_)
        have hP : va_P G.1 vwCl [(o, .inr (0, [.ref w, .int (x * d2), .int g])), (w, eI G 10 h), (o2, .inr (0, [.ref w2, .int d2, .int g2])), (w2, eI G 10 f2)] H := hP
        have hD : va_D A [(o, .inr (0, [.ref w, .int (x * d2), .int g])), (w, eI G 10 h), (o2, .inr (0, [.ref w2, .int d2, .int g2])), (w2, eI G 10 f2)] := hD
        rw [eh, hN] at hP hD
        have hP9 := hP.sub (ws' := [(o, .inr (0, [.ref w, .int (x * d2), .int g])), (w, eI G 10 (mixf 10 (fun v => x * (f2 v)) f)), (o2, .inr (0, [.ref w2, .int d2, .int g2])), (w2, eI G 10 f2)]) [0, 1, 2, 3] rfl
        have hD9 := hD.sub (ws' := [(o, .inr (0, [.ref w, .int (x * d2), .int g])), (w, eI G 10 (mixf 10 (fun v => x * (f2 v)) f)), (o2, .inr (0, [.ref w2, .int d2, .int g2])), (w2, eI G 10 f2)]) [0, 1, 2, 3] (by decide) rfl
        exact W.vret hx hb hr (fun t ht hW => ⟨rfl, by rw [ht]; exact hP9, hD9, hS.F ht⟩) hS.2.2 dX0_becomeMultiple_38
      · have hlt : i < 10 := lt_ix ei (by decide) (by decide) c_5 hi_2
        refine lv_aload_n hx hb dX0_becomeMultiple_8 rfl (lv_at hl 0 rfl) ?_
        refine va_get (D := G.1) (ci := 0) (v := .ref w) (C := RX0) (T := TX0) (N := 3) hx hb hts hinX0 hown hK.1 hP 0 rfl rfl 0 (by decide) hw2 (fun _ h9 => h9) rfl dX0_becomeMultiple_9 ?_
        refine lv_iload_n hx hb dX0_becomeMultiple_12 rfl (lv_at hl 3 rfl) ?_
        refine lv_iload_n hx hb dX0_becomeMultiple_13 rfl (lv_at hl 2 rfl) ?_
        refine lv_aload_n hx hb dX0_becomeMultiple_14 rfl (lv_at hl 1 rfl) ?_
        refine va_get (D := G.1) (ci := 0) (v := .ref w2) (C := RX0) (T := TX0) (N := 3) hx hb hts hinX0 hown hK.1 hP 2 rfl rfl 0 (by decide) hw2 (fun _ h9 => h9) rfl dX0_becomeMultiple_15 ?_
        refine lv_iload_n hx hb dX0_becomeMultiple_18 rfl (lv_at hl 3 rfl) ?_
        refine ra_iald (f := f2) (v := i) hx hb hK.1 hP 3 0 rfl rfl ei (by omega) (by decide) dX0_becomeMultiple_19 ?_
        refine lv_imul hx hb dX0_becomeMultiple_20 ?_
        refine ra_iast (v := i) hx hb hK.1 hP hD hS 1 0 rfl rfl ei (by omega) (by decide) dX0_becomeMultiple_21 (fun H locs hP hD hS => ?_)
        have hP : va_P G.1 vwCl [(o, .inr (0, [.ref w, .int d, .int g])), (w, eI G 10 (upd h i (x * (f2 i)))), (o2, .inr (0, [.ref w2, .int d2, .int g2])), (w2, eI G 10 f2)] H := hP
        have hD : va_D A [(o, .inr (0, [.ref w, .int d, .int g])), (w, eI G 10 (upd h i (x * (f2 i)))), (o2, .inr (0, [.ref w2, .int d2, .int g2])), (w2, eI G 10 f2)] := hD
        refine lv_iinc (v := xi + 1) (lv' := [(3, .int (xi + 1)), (0, .ref o), (1, .ref o2), (2, .int x)]) hx hb dX0_becomeMultiple_22 hl (k := 3) rfl rfl (by decide) rfl (fun ls hl => ?_)
        refine lv_goto (tgt := 2) hx hb dX0_becomeMultiple_25 (by decide) ?_
        exact ih_2 (i + 1) _ _ (by omega) (by omega) (by rw [ei]; exact nI_1 i) (by rw [eh]; exact mixf_s i (fun v => x * (f2 v)) f) _ _ (hP.sub [0, 1, 2, 3] rfl) (hD.sub [0, 1, 2, 3] (by decide) rfl) hS ls (lv_sub hl [1, 2, 3, 0] rfl)
  exact loop_2 (10 + 1) 0 _ _ (Nat.zero_le _) (by omega) (by exact nI_0.symm) (by exact (mixf_0 _ _).symm) _ _ (hP.sub [0, 1, 2, 3] rfl) (hD.sub [0, 1, 2, 3] (by decide) rfl) hS ls (lv_sub hl [1, 2, 3, 0] rfl)

abbrev rmX0_becomeSum : Room := { frames := 2, cells := 0, slots := 0, locals := 42 }
set_option maxHeartbeats 4000000 in
set_option maxRecDepth 100000 in
theorem c_X0_becomeSum (l : Launch) (G : Gt) (sz : Nat) (o w : Nat) (d g : Int32) (f : Nat → Int32) (o1 w1 : Nat) (d1 g1 : Int32) (f1 : Nat → Int32) (o2 w2 : Nat) (d2 g2 : Int32) (f2 : Nat → Int32) : Met l yX0_becomeSum wsX0_becomeSum rmX0_becomeSum (mu_P G sz [.ref o, .ref o1, .ref o2] [(o, .inr (0, [.ref w, .int d, .int g])), (w, eI G 10 f), (o1, .inr (0, [.ref w1, .int d1, .int g1])), (w1, eI G 10 f1), (o2, .inr (0, [.ref w2, .int d2, .int g2])), (w2, eI G 10 f2)]) (mu_Q G none [(o, .inr (0, [.ref w, .int (smD f1 f2 d1 d2), .int g])), (w, eI G 10 (mixf 10 (fun v => (f1 v) + (f2 v)) f)), (o1, .inr (0, [.ref w1, .int d1, .int g1])), (w1, eI G 10 f1), (o2, .inr (0, [.ref w2, .int d2, .int g2])), (w2, eI G 10 f2)] (va_A [(o, .inr (0, [.ref w, .int d, .int g])), (w, eI G 10 f), (o1, .inr (0, [.ref w1, .int d1, .int g1])), (w1, eI G 10 f1), (o2, .inr (0, [.ref w2, .int d2, .int g2])), (w2, eI G 10 f2)] sz)) 0 0 (va_A [(o, .inr (0, [.ref w, .int d, .int g])), (w, eI G 10 f), (o1, .inr (0, [.ref w1, .int d1, .int g1])), (w1, eI G 10 f1), (o2, .inr (0, [.ref w2, .int d2, .int g2])), (w2, eI G 10 f2)] sz) := by
  refine Met.ofW (cc := cX0_becomeSum) (maxL := 5) (ret := none) (by decide) rfl ?_
  intro p e s m args below meth c s₁ B hml hv
  obtain ⟨rfl, hsz, hP, hD0, hK⟩ := hv
  have hx := B.exec
  have hb := B.bytes
  have hr := B.returns
  have hts := atoms_spec (ws := wsX0_becomeSum) B.pre
  have hown : s.vm.findClass RX0 = some m.cls := findClass_of_methodNamed B.named
  have hlocks := B.notSynchronized
  subst hsz
  have hD := hD0.self (sz := s.heap.size)
  generalize hAe : va_A [(o, .inr (0, [.ref w, .int d, .int g])), (w, eI G 10 f), (o1, .inr (0, [.ref w1, .int d1, .int g1])), (w1, eI G 10 f1), (o2, .inr (0, [.ref w2, .int d2, .int g2])), (w2, eI G 10 f2)] s.heap.size = A at hD ⊢
  have hA : ∀ q : Nat, s.heap.size ≤ q → A q := fun q h => by rw [← hAe]; exact Or.inr h
  have hS : va_S A s.heap s.heap [] := va_S.rf
  have hinX0 : ∀ w ∈ u_ws RX0 TX0 3, w ∈ wsX0_becomeSum := fun w h => List.mem_cons_of_mem _ (List.mem_append_right _ h)
  have hw1 := hts (.fieldLink RX0 15 "ChoiceBoard$Constraint" "degree" "I") (by decide +kernel)
  have hw2 := hts (.methodLink RX0 37 Lib.Math.max.name) (by decide +kernel)
  have hw3 := hts (.static Lib.Math.max.name) (by decide +kernel)
  have hw4 := hts (.initialized "java/lang/Math") (by decide +kernel)
  have hw5 := hts (.code Lib.Math.max.name Lib.Math.max.code 2 (some .int)) (by decide +kernel)
  have hw6 := hts (.fieldLink RX0 9 "ChoiceBoard$Constraint" "weights" "[I") (by decide +kernel)
  have hw7 := hts (.methodLink RX0 53 Lib.Math.min.name) (by decide +kernel)
  have hw8 := hts (.static Lib.Math.min.name) (by decide +kernel)
  have hw9 := hts (.code Lib.Math.min.name Lib.Math.min.code 2 (some .int)) (by decide +kernel)
  have hl := lv_entry ([.ref o, .ref o1, .ref o2]) (n := 5) (Nat.le_of_ble_eq_true rfl)
  rw [lg_entry_eq]
  generalize (lg_sl ([.ref o, .ref o1, .ref o2]) ++ List.replicate (5 - (lg_sl ([.ref o, .ref o1, .ref o2])).length) Slot.unset).toArray = ls at hl ⊢
  have hl : lv_has ls 5 [(0, .ref o), (1, .ref o1), (2, .ref o2)] := hl
  refine lv_aload_n hx hb dX0_becomeSum_0 rfl (lv_at hl 1 rfl) ?_
  refine va_get (D := G.1) (ci := 0) (v := .int d1) (C := RX0) (T := TX0) (N := 3) hx hb hts hinX0 hown hK.1 hP 2 rfl rfl 1 (by decide) hw1 (fun _ h9 => h9) rfl dX0_becomeSum_1 ?_
  refine lv_aload_n hx hb dX0_becomeSum_4 rfl (lv_at hl 2 rfl) ?_
  refine va_get (D := G.1) (ci := 0) (v := .int d2) (C := RX0) (T := TX0) (N := 3) hx hb hts hinX0 hown hK.1 hP 4 rfl rfl 1 (by decide) hw1 (fun _ h9 => h9) rfl dX0_becomeSum_5 ?_
  refine lv_iadd hx hb dX0_becomeSum_8 ?_
  refine lv_istore_n (lv' := [(3, .int (d1 + d2)), (0, .ref o), (1, .ref o1), (2, .ref o2)]) hx hb dX0_becomeSum_9 rfl hl (by decide) rfl (fun ls hl => ?_)
  refine lv_iconst (v := 0) hx hb dX0_becomeSum_10 (by decide) ?_
  refine lv_istore (lv' := [(4, .int 0), (3, .int (d1 + d2)), (0, .ref o), (1, .ref o1), (2, .ref o2)]) hx hb dX0_becomeSum_11 hl (by decide) rfl (fun ls hl => ?_)
  have loop_13 : ∀ (n_13 i : Nat) (xi : Int32) (h : Nat → Int32) (xs : Int32), i ≤ 10 → 10 + 1 ≤ i + n_13 → (xi = nI i) → (h = mixf i (fun v => (f1 v) + (f2 v)) f) → (xs = sgm (d1 + d2) (smT f1 f2) i) → ∀ (H : Heap) (locs : List Loc), va_P G.1 vwCl [(o, .inr (0, [.ref w, .int d, .int g])), (w, eI G 10 h), (o1, .inr (0, [.ref w1, .int d1, .int g1])), (w1, eI G 10 f1), (o2, .inr (0, [.ref w2, .int d2, .int g2])), (w2, eI G 10 f2)] H → va_D A [(o, .inr (0, [.ref w, .int d, .int g])), (w, eI G 10 h), (o1, .inr (0, [.ref w1, .int d1, .int g1])), (w1, eI G 10 f1), (o2, .inr (0, [.ref w2, .int d2, .int g2])), (w2, eI G 10 f2)] → va_S A s.heap H locs → ∀ ls : Array Slot, lv_has ls 5 [(0, .ref o), (1, .ref o1), (2, .ref o2), (3, .int xs), (4, .int xi)] → W p l e rmX0_becomeSum s m [.ref o, .ref o1, .ref o2].toArray below meth c H locs 0 0 (MQ below (mu_Q G none [(o, .inr (0, [.ref w, .int (smD f1 f2 d1 d2), .int g])), (w, eI G 10 (mixf 10 (fun v => (f1 v) + (f2 v)) f)), (o1, .inr (0, [.ref w1, .int d1, .int g1])), (w1, eI G 10 f1), (o2, .inr (0, [.ref w2, .int d2, .int g2])), (w2, eI G 10 f2)] A) [.ref o, .ref o1, .ref o2].toArray s 0 0 A) (F0 m 13 ls []) := by
    intro n_13
    induction n_13 with
    | zero => intro i xi h xs h1 h2; exact absurd h2 (by omega)
    | succ n_13 ih_13 =>
      intro i xi h xs hi_13 hn_13 ei eh es H locs hP hD hS ls hl
      refine lv_iload hx hb dX0_becomeSum_13 (lv_at hl 4 rfl) ?_
      refine lv_bipush (v := 10) hx hb dX0_becomeSum_15 (by decide) ?_
      refine lv_icmp_ge (tgt := 76) hx hb dX0_becomeSum_17 (by decide) (fun c_17 => ?_) (fun c_17 => ?_)
      · have hN : i = 10 := ge_ix ei (by decide) (by decide) c_17 hi_13
        refine lv_aload_n hx hb dX0_becomeSum_76 rfl (lv_at hl 0 rfl) ?_
        refine lv_iload_n hx hb dX0_becomeSum_77 rfl (lv_at hl 3 rfl) ?_
        refine lv_iconst (v := 0) hx hb dX0_becomeSum_78 (by decide) ?_
        refine va_mmax hx hb (hml.trans hl.1.symm) hown hw2 hw3 hw4 hw5 (Nat.le_of_ble_eq_true rfl) (Nat.le_of_ble_eq_true rfl) (Nat.le_refl _) (Nat.le_refl _) dX0_becomeSum_79 ?_
        refine va_put (D := G.1) (ci := 0) (v := .int (maxI xs 0)) (ty := .int) (C := RX0) (T := TX0) (N := 3) hx hb hts hinX0 tyX0 tyX0_ok nmX0 hown hK.1 hP hD hS 0 rfl rfl 1 (by decide) hw1 (fun _ h9 => h9) rfl (by decide +kernel) rfl rfl (Nat.le_of_ble_eq_true rfl) dX0_becomeSum_82 (fun H locs hP hD hS => ?_)
        have hP : va_P G.1 vwCl [(o, .inr (0, [.ref w, .int (maxI xs 0), .int g])), (w, eI G 10 h), (o1, .inr (0, [.ref w1, .int d1, .int g1])), (w1, eI G 10 f1), (o2, .inr (0, [.ref w2, .int d2, .int g2])), (w2, eI G 10 f2)] H := hP
        have hD : va_D A [(o, .inr (0, [.ref w, .int (maxI xs 0), .int g])), (w, eI G 10 h), (o1, .inr (0, [.ref w1, .int d1, .int g1])), (w1, eI G 10 f1), (o2, .inr (0, [.ref w2, .int d2, .int g2])), (w2, eI G 10 f2)] := hD
        rw [eh, es, hN] at hP hD
        have hP9 := hP.sub (ws' := [(o, .inr (0, [.ref w, .int (smD f1 f2 d1 d2), .int g])), (w, eI G 10 (mixf 10 (fun v => (f1 v) + (f2 v)) f)), (o1, .inr (0, [.ref w1, .int d1, .int g1])), (w1, eI G 10 f1), (o2, .inr (0, [.ref w2, .int d2, .int g2])), (w2, eI G 10 f2)]) [0, 1, 2, 3, 4, 5] rfl
        have hD9 := hD.sub (ws' := [(o, .inr (0, [.ref w, .int (smD f1 f2 d1 d2), .int g])), (w, eI G 10 (mixf 10 (fun v => (f1 v) + (f2 v)) f)), (o1, .inr (0, [.ref w1, .int d1, .int g1])), (w1, eI G 10 f1), (o2, .inr (0, [.ref w2, .int d2, .int g2])), (w2, eI G 10 f2)]) [0, 1, 2, 3, 4, 5] (by decide) rfl
        exact W.vret hx hb hr (fun t ht hW => ⟨rfl, by rw [ht]; exact hP9, hD9, hS.F ht⟩) hS.2.2 dX0_becomeSum_85
      · have hlt : i < 10 := lt_ix ei (by decide) (by decide) c_17 hi_13
        refine lv_aload_n hx hb dX0_becomeSum_20 rfl (lv_at hl 0 rfl) ?_
        refine va_get (D := G.1) (ci := 0) (v := .ref w) (C := RX0) (T := TX0) (N := 3) hx hb hts hinX0 hown hK.1 hP 0 rfl rfl 0 (by decide) hw6 (fun _ h9 => h9) rfl dX0_becomeSum_21 ?_
        refine lv_iload hx hb dX0_becomeSum_24 (lv_at hl 4 rfl) ?_
        refine lv_aload_n hx hb dX0_becomeSum_26 rfl (lv_at hl 1 rfl) ?_
        refine va_get (D := G.1) (ci := 0) (v := .ref w1) (C := RX0) (T := TX0) (N := 3) hx hb hts hinX0 hown hK.1 hP 2 rfl rfl 0 (by decide) hw6 (fun _ h9 => h9) rfl dX0_becomeSum_27 ?_
        refine lv_iload hx hb dX0_becomeSum_30 (lv_at hl 4 rfl) ?_
        refine ra_iald (f := f1) (v := i) hx hb hK.1 hP 3 0 rfl rfl ei (by omega) (by decide) dX0_becomeSum_32 ?_
        refine lv_aload_n hx hb dX0_becomeSum_33 rfl (lv_at hl 2 rfl) ?_
        refine va_get (D := G.1) (ci := 0) (v := .ref w2) (C := RX0) (T := TX0) (N := 3) hx hb hts hinX0 hown hK.1 hP 4 rfl rfl 0 (by decide) hw6 (fun _ h9 => h9) rfl dX0_becomeSum_34 ?_
        refine lv_iload hx hb dX0_becomeSum_37 (lv_at hl 4 rfl) ?_
        refine ra_iald (f := f2) (v := i) hx hb hK.1 hP 5 0 rfl rfl ei (by omega) (by decide) dX0_becomeSum_39 ?_
        refine lv_iadd hx hb dX0_becomeSum_40 ?_
        refine ra_iast (v := i) hx hb hK.1 hP hD hS 1 0 rfl rfl ei (by omega) (by decide) dX0_becomeSum_41 (fun H locs hP hD hS => ?_)
        have hP : va_P G.1 vwCl [(o, .inr (0, [.ref w, .int d, .int g])), (w, eI G 10 (upd h i ((f1 i) + (f2 i)))), (o1, .inr (0, [.ref w1, .int d1, .int g1])), (w1, eI G 10 f1), (o2, .inr (0, [.ref w2, .int d2, .int g2])), (w2, eI G 10 f2)] H := hP
        have hD : va_D A [(o, .inr (0, [.ref w, .int d, .int g])), (w, eI G 10 (upd h i ((f1 i) + (f2 i)))), (o1, .inr (0, [.ref w1, .int d1, .int g1])), (w1, eI G 10 f1), (o2, .inr (0, [.ref w2, .int d2, .int g2])), (w2, eI G 10 f2)] := hD
        have eA41 : upd h i ((f1 i) + (f2 i)) = mixf (i + 1) (fun v => (f1 v) + (f2 v)) f := by rw [eh]; exact mixf_s i (fun v => (f1 v) + (f2 v)) f
        rw [eA41] at hP hD
        refine lv_aload_n hx hb dX0_becomeSum_42 rfl (lv_at hl 1 rfl) ?_
        refine lv_aload_n hx hb dX0_becomeSum_43 rfl (lv_at hl 2 rfl) ?_
        refine lv_iload hx hb dX0_becomeSum_44 (lv_at hl 4 rfl) ?_
        refine ro_call (va_runV (As := [.ref o2, .int xi]) (rest := []) ⟨hx, hb, hml, hown, hts⟩ (c_X0_isOpposed l G o1 w1 d1 g1 f1 o2 w2 d2 g2 f2 xi i ei (by omega)) (cwV 2 hts gX0_becomeSum_X0_isOpposed rfl rfl rfl (by decide +kernel) ⟨Nat.le_of_ble_eq_true rfl, Nat.le_of_ble_eq_true rfl⟩) ⟨ro_blind, va_recv hK.1 hP (ci := 0) (q0 := 2) rfl rfl, ro_pre _ (hP.sub [2, 3, 4, 5] rfl) hK⟩ rfl rfl hl.1 rfl (lv_room (Nat.le_of_ble_eq_true rfl)) dX0_becomeSum_46 ⟨Nat.le_refl _, Nat.le_refl _⟩) ?_
        refine lv_if_eq (tgt := 70) hx hb dX0_becomeSum_49 (by decide) (fun c_49 => ?_) (fun c_49 => ?_)
        · refine lv_iinc (v := xi + 1) (lv' := [(4, .int (xi + 1)), (0, .ref o), (1, .ref o1), (2, .ref o2), (3, .int xs)]) hx hb dX0_becomeSum_70 hl (k := 4) rfl rfl (by decide) rfl (fun ls hl => ?_)
          refine lv_goto (tgt := 13) hx hb dX0_becomeSum_73 (by decide) ?_
          exact ih_13 (i + 1) _ _ _ (by omega) (by omega) (by rw [ei]; exact nI_1 i) (by rfl) (by show _ = sgm (d1 + d2) (smT f1 f2) i - smT f1 f2 i; rw [es]; unfold smT; (rw [if_pos c_49]; exact sub0 _)) _ _ (hP.sub [0, 1, 2, 3, 4, 5] rfl) (hD.sub [0, 1, 2, 3, 4, 5] (by decide) rfl) hS ls (lv_sub hl [1, 2, 3, 4, 0] rfl)
        · refine lv_iload_n hx hb dX0_becomeSum_52 rfl (lv_at hl 3 rfl) ?_
          refine lv_aload_n hx hb dX0_becomeSum_53 rfl (lv_at hl 1 rfl) ?_
          refine lv_iload hx hb dX0_becomeSum_54 (lv_at hl 4 rfl) ?_
          refine ro_call (va_runV (As := [.int xi]) (rest := [.int xs]) ⟨hx, hb, hml, hown, hts⟩ (c_X0_size l G o1 w1 d1 g1 f1 xi i ei (by omega)) (cwV 1 hts gX0_becomeSum_X0_size rfl rfl rfl (by decide +kernel) ⟨Nat.le_of_ble_eq_true rfl, Nat.le_of_ble_eq_true rfl⟩) ⟨ro_blind, va_recv hK.1 hP (ci := 0) (q0 := 2) rfl rfl, ro_pre _ (hP.sub [2, 3] rfl) hK⟩ rfl rfl hl.1 rfl (lv_room (Nat.le_of_ble_eq_true rfl)) dX0_becomeSum_56 ⟨Nat.le_refl _, Nat.le_refl _⟩) ?_
          refine lv_aload_n hx hb dX0_becomeSum_59 rfl (lv_at hl 2 rfl) ?_
          refine lv_iload hx hb dX0_becomeSum_60 (lv_at hl 4 rfl) ?_
          refine ro_call (va_runV (As := [.int xi]) (rest := [.int (absI (f1 i)), .int xs]) ⟨hx, hb, hml, hown, hts⟩ (c_X0_size l G o2 w2 d2 g2 f2 xi i ei (by omega)) (cwV 1 hts gX0_becomeSum_X0_size rfl rfl rfl (by decide +kernel) ⟨Nat.le_of_ble_eq_true rfl, Nat.le_of_ble_eq_true rfl⟩) ⟨ro_blind, va_recv hK.1 hP (ci := 0) (q0 := 4) rfl rfl, ro_pre _ (hP.sub [4, 5] rfl) hK⟩ rfl rfl hl.1 rfl (lv_room (Nat.le_of_ble_eq_true rfl)) dX0_becomeSum_62 ⟨Nat.le_refl _, Nat.le_refl _⟩) ?_
          refine va_mmin hx hb (hml.trans hl.1.symm) hown hw7 hw8 hw4 hw9 (Nat.le_of_ble_eq_true rfl) (Nat.le_of_ble_eq_true rfl) (Nat.le_refl _) (Nat.le_refl _) dX0_becomeSum_65 ?_
          refine lv_isub hx hb dX0_becomeSum_68 ?_
          refine lv_istore_n (lv' := [(3, .int (xs - (minI (absI (f1 i)) (absI (f2 i))))), (0, .ref o), (1, .ref o1), (2, .ref o2), (4, .int xi)]) hx hb dX0_becomeSum_69 rfl hl (by decide) rfl (fun ls hl => ?_)
          refine lv_iinc (v := xi + 1) (lv' := [(4, .int (xi + 1)), (3, .int (xs - (minI (absI (f1 i)) (absI (f2 i))))), (0, .ref o), (1, .ref o1), (2, .ref o2)]) hx hb dX0_becomeSum_70 hl (k := 4) rfl rfl (by decide) rfl (fun ls hl => ?_)
          refine lv_goto (tgt := 13) hx hb dX0_becomeSum_73 (by decide) ?_
          exact ih_13 (i + 1) _ _ _ (by omega) (by omega) (by rw [ei]; exact nI_1 i) (by rfl) (by show _ = sgm (d1 + d2) (smT f1 f2) i - smT f1 f2 i; rw [es]; unfold smT; rw [if_neg c_49]) _ _ (hP.sub [0, 1, 2, 3, 4, 5] rfl) (hD.sub [0, 1, 2, 3, 4, 5] (by decide) rfl) hS ls (lv_sub hl [2, 3, 4, 1, 0] rfl)
  exact loop_13 (10 + 1) 0 _ _ _ (Nat.zero_le _) (by omega) (by exact nI_0.symm) (by exact (mixf_0 _ _).symm) (by rfl) _ _ (hP.sub [0, 1, 2, 3, 4, 5] rfl) (hD.sub [0, 1, 2, 3, 4, 5] (by decide) rfl) hS ls (lv_sub hl [2, 3, 4, 1, 0] rfl)

abbrev rmX0_normalize : Room := { frames := 2, cells := 0, slots := 0, locals := 42 }
set_option maxHeartbeats 4000000 in
set_option maxRecDepth 100000 in
theorem c_X0_normalize (l : Launch) (G : Gt) (sz : Nat) (o w : Nat) (d g : Int32) (f : Nat → Int32) (q : Nat) (fac : Nat → Int32) (sn b : Int32) : Met l yX0_normalize wsX0_normalize rmX0_normalize (mu_P G sz [.ref o, .ref q, .int sn, .int b] [(o, .inr (0, [.ref w, .int d, .int g])), (w, eI G 10 f), (q, eI G 10 fac)]) (mu_Q G none [(o, .inr (0, [.ref w, .int (nrD fac sn b), .int g])), (w, eI G 10 (mixf 10 (nrW fac sn) f)), (q, eI G 10 fac)] (va_A [(o, .inr (0, [.ref w, .int d, .int g])), (w, eI G 10 f), (q, eI G 10 fac)] sz)) 0 0 (va_A [(o, .inr (0, [.ref w, .int d, .int g])), (w, eI G 10 f), (q, eI G 10 fac)] sz) := by
  refine Met.ofW (cc := cX0_normalize) (maxL := 6) (ret := none) (by decide) rfl ?_
  intro p e s m args below meth c s₁ B hml hv
  obtain ⟨rfl, hsz, hP, hD0, hK⟩ := hv
  have hx := B.exec
  have hb := B.bytes
  have hr := B.returns
  have hts := atoms_spec (ws := wsX0_normalize) B.pre
  have hown : s.vm.findClass RX0 = some m.cls := findClass_of_methodNamed B.named
  have hlocks := B.notSynchronized
  subst hsz
  have hD := hD0.self (sz := s.heap.size)
  generalize hAe : va_A [(o, .inr (0, [.ref w, .int d, .int g])), (w, eI G 10 f), (q, eI G 10 fac)] s.heap.size = A at hD ⊢
  have hA : ∀ q : Nat, s.heap.size ≤ q → A q := fun q h => by rw [← hAe]; exact Or.inr h
  have hS : va_S A s.heap s.heap [] := va_S.rf
  have hinX0 : ∀ w ∈ u_ws RX0 TX0 3, w ∈ wsX0_normalize := fun w h => List.mem_cons_of_mem _ (List.mem_append_right _ h)
  have hw0 := hts (.methodLink RX0 37 Lib.Math.max.name) (by decide +kernel)
  have hw1 := hts (.static Lib.Math.max.name) (by decide +kernel)
  have hw2 := hts (.initialized "java/lang/Math") (by decide +kernel)
  have hw3 := hts (.code Lib.Math.max.name Lib.Math.max.code 2 (some .int)) (by decide +kernel)
  have hw5 := hts (.fieldLink RX0 15 "ChoiceBoard$Constraint" "degree" "I") (by decide +kernel)
  have hw6 := hts (.fieldLink RX0 9 "ChoiceBoard$Constraint" "weights" "[I") (by decide +kernel)
  have hl := lv_entry ([.ref o, .ref q, .int sn, .int b]) (n := 6) (Nat.le_of_ble_eq_true rfl)
  rw [lg_entry_eq]
  generalize (lg_sl ([.ref o, .ref q, .int sn, .int b]) ++ List.replicate (6 - (lg_sl ([.ref o, .ref q, .int sn, .int b])).length) Slot.unset).toArray = ls at hl ⊢
  have hl : lv_has ls 6 [(0, .ref o), (1, .ref q), (2, .int sn), (3, .int b)] := hl
  refine lv_iload_n hx hb dX0_normalize_0 rfl (lv_at hl 3 rfl) ?_
  refine lv_istore (lv' := [(4, .int b), (0, .ref o), (1, .ref q), (2, .int sn), (3, .int b)]) hx hb dX0_normalize_1 hl (by decide) rfl (fun ls hl => ?_)
  refine lv_iconst (v := 0) hx hb dX0_normalize_3 (by decide) ?_
  refine lv_istore (lv' := [(5, .int 0), (4, .int b), (0, .ref o), (1, .ref q), (2, .int sn), (3, .int b)]) hx hb dX0_normalize_4 hl (by decide) rfl (fun ls hl => ?_)
  have loop_6 : ∀ (n_6 i : Nat) (xi : Int32) (h : Nat → Int32) (xs : Int32), i ≤ 10 → 10 + 1 ≤ i + n_6 → (xi = nI i) → (h = mixf i (nrW fac sn) f) → (xs = sg b (nrT fac sn) i) → ∀ (H : Heap) (locs : List Loc), va_P G.1 vwCl [(o, .inr (0, [.ref w, .int d, .int g])), (w, eI G 10 h), (q, eI G 10 fac)] H → va_D A [(o, .inr (0, [.ref w, .int d, .int g])), (w, eI G 10 h), (q, eI G 10 fac)] → va_S A s.heap H locs → ∀ ls : Array Slot, lv_has ls 6 [(0, .ref o), (1, .ref q), (2, .int sn), (4, .int xs), (5, .int xi)] → W p l e rmX0_normalize s m [.ref o, .ref q, .int sn, .int b].toArray below meth c H locs 0 0 (MQ below (mu_Q G none [(o, .inr (0, [.ref w, .int (nrD fac sn b), .int g])), (w, eI G 10 (mixf 10 (nrW fac sn) f)), (q, eI G 10 fac)] A) [.ref o, .ref q, .int sn, .int b].toArray s 0 0 A) (F0 m 6 ls []) := by
    intro n_6
    induction n_6 with
    | zero => intro i xi h xs h1 h2; exact absurd h2 (by omega)
    | succ n_6 ih_6 =>
      intro i xi h xs hi_6 hn_6 ei eh es H locs hP hD hS ls hl
      refine lv_iload hx hb dX0_normalize_6 (lv_at hl 4 rfl) ?_
      refine lv_bipush (v := 10) hx hb dX0_normalize_8 (by decide) ?_
      refine lv_icmp_ge (tgt := 53) hx hb dX0_normalize_10 (by decide) (fun c_10 => ?_) (fun c_10 => ?_)
      · have hN : i = 10 := ge_ix ei (by decide) (by decide) c_10 hi_6
        refine lv_aload_n hx hb dX0_normalize_53 rfl (lv_at hl 0 rfl) ?_
        refine lv_iload hx hb dX0_normalize_54 (lv_at hl 3 rfl) ?_
        refine lv_iconst (v := 0) hx hb dX0_normalize_56 (by decide) ?_
        refine va_mmax hx hb (hml.trans hl.1.symm) hown hw0 hw1 hw2 hw3 (Nat.le_of_ble_eq_true rfl) (Nat.le_of_ble_eq_true rfl) (Nat.le_refl _) (Nat.le_refl _) dX0_normalize_57 ?_
        refine va_put (D := G.1) (ci := 0) (v := .int (maxI xs 0)) (ty := .int) (C := RX0) (T := TX0) (N := 3) hx hb hts hinX0 tyX0 tyX0_ok nmX0 hown hK.1 hP hD hS 0 rfl rfl 1 (by decide) hw5 (fun _ h9 => h9) rfl (by decide +kernel) rfl rfl (Nat.le_of_ble_eq_true rfl) dX0_normalize_60 (fun H locs hP hD hS => ?_)
        have hP : va_P G.1 vwCl [(o, .inr (0, [.ref w, .int (maxI xs 0), .int g])), (w, eI G 10 h), (q, eI G 10 fac)] H := hP
        have hD : va_D A [(o, .inr (0, [.ref w, .int (maxI xs 0), .int g])), (w, eI G 10 h), (q, eI G 10 fac)] := hD
        rw [eh, es, hN] at hP hD
        have hP9 := hP.sub (ws' := [(o, .inr (0, [.ref w, .int (nrD fac sn b), .int g])), (w, eI G 10 (mixf 10 (nrW fac sn) f)), (q, eI G 10 fac)]) [0, 1, 2] rfl
        have hD9 := hD.sub (ws' := [(o, .inr (0, [.ref w, .int (nrD fac sn b), .int g])), (w, eI G 10 (mixf 10 (nrW fac sn) f)), (q, eI G 10 fac)]) [0, 1, 2] (by decide) rfl
        exact W.vret hx hb hr (fun t ht hW => ⟨rfl, by rw [ht]; exact hP9, hD9, hS.F ht⟩) hS.2.2 dX0_normalize_63
      · have hlt : i < 10 := lt_ix ei (by decide) (by decide) c_10 hi_6
        refine lv_aload_n hx hb dX0_normalize_13 rfl (lv_at hl 0 rfl) ?_
        refine va_get (D := G.1) (ci := 0) (v := .ref w) (C := RX0) (T := TX0) (N := 3) hx hb hts hinX0 hown hK.1 hP 0 rfl rfl 0 (by decide) hw6 (fun _ h9 => h9) rfl dX0_normalize_14 ?_
        refine lv_iload hx hb dX0_normalize_17 (lv_at hl 4 rfl) ?_
        refine lv_iload_n hx hb dX0_normalize_19 rfl (lv_at hl 2 rfl) ?_
        refine lv_aload_n hx hb dX0_normalize_20 rfl (lv_at hl 1 rfl) ?_
        refine lv_iload hx hb dX0_normalize_21 (lv_at hl 4 rfl) ?_
        refine ra_iald (f := fac) (v := i) hx hb hK.1 hP 2 0 rfl rfl ei (by omega) (by decide) dX0_normalize_23 ?_
        refine lv_imul hx hb dX0_normalize_24 ?_
        refine ra_iast (v := i) hx hb hK.1 hP hD hS 1 0 rfl rfl ei (by omega) (by decide) dX0_normalize_25 (fun H locs hP hD hS => ?_)
        have hP : va_P G.1 vwCl [(o, .inr (0, [.ref w, .int d, .int g])), (w, eI G 10 (upd h i (sn * (fac i)))), (q, eI G 10 fac)] H := hP
        have hD : va_D A [(o, .inr (0, [.ref w, .int d, .int g])), (w, eI G 10 (upd h i (sn * (fac i)))), (q, eI G 10 fac)] := hD
        have eA25 : upd h i (sn * (fac i)) = mixf (i + 1) (nrW fac sn) f := by rw [eh]; exact mixf_s i (nrW fac sn) f
        rw [eA25] at hP hD
        refine lv_aload_n hx hb dX0_normalize_26 rfl (lv_at hl 0 rfl) ?_
        refine va_get (D := G.1) (ci := 0) (v := .ref w) (C := RX0) (T := TX0) (N := 3) hx hb hts hinX0 hown hK.1 hP 0 rfl rfl 0 (by decide) hw6 (fun _ h9 => h9) rfl dX0_normalize_27 ?_
        refine lv_iload hx hb dX0_normalize_30 (lv_at hl 4 rfl) ?_
        refine ra_iald (f := (mixf (i + 1) (nrW fac sn) f)) (v := i) hx hb hK.1 hP 1 0 rfl rfl ei (by omega) (by decide) dX0_normalize_32 ?_
        refine lv_if_ge (tgt := 47) hx hb dX0_normalize_33 (by decide) (fun c_33 => ?_) (fun c_33 => ?_)
        · refine lv_iinc (v := xi + 1) (lv' := [(5, .int (xi + 1)), (0, .ref o), (1, .ref q), (2, .int sn), (4, .int xs)]) hx hb dX0_normalize_47 hl (k := 4) rfl rfl (by decide) rfl (fun ls hl => ?_)
          refine lv_goto (tgt := 6) hx hb dX0_normalize_50 (by decide) ?_
          exact ih_6 (i + 1) _ _ _ (by omega) (by omega) (by rw [ei]; exact nI_1 i) (by rfl) (by rw [mixf_lo _ _ (Nat.lt_succ_self i)] at c_33; show _ = sg b (nrT fac sn) i + nrT fac sn i; rw [es]; unfold nrT; (rw [if_neg (Int32.not_lt.mpr c_33)]; exact add0 _)) _ _ (hP.sub [0, 1, 2] rfl) (hD.sub [0, 1, 2] (by decide) rfl) hS ls (lv_sub hl [1, 2, 3, 4, 0] rfl)
        · refine lv_iload hx hb dX0_normalize_36 (lv_at hl 3 rfl) ?_
          refine lv_aload_n hx hb dX0_normalize_38 rfl (lv_at hl 0 rfl) ?_
          refine lv_iload hx hb dX0_normalize_39 (lv_at hl 4 rfl) ?_
          refine ro_call (va_runV (As := [.int xi]) (rest := [.int xs]) ⟨hx, hb, hml, hown, hts⟩ (c_X0_size l G o w d g (mixf (i + 1) (nrW fac sn) f) xi i ei (by omega)) (cwV 1 hts gX0_normalize_X0_size rfl rfl rfl (by decide +kernel) ⟨Nat.le_of_ble_eq_true rfl, Nat.le_of_ble_eq_true rfl⟩) ⟨ro_blind, va_recv hK.1 hP (ci := 0) (q0 := 0) rfl rfl, ro_pre _ (hP.sub [0, 1] rfl) hK⟩ rfl rfl hl.1 rfl (lv_room (Nat.le_of_ble_eq_true rfl)) dX0_normalize_41 ⟨Nat.le_refl _, Nat.le_refl _⟩) ?_
          refine lv_iadd hx hb dX0_normalize_44 ?_
          refine lv_istore (lv' := [(4, .int (xs + (absI ((mixf (i + 1) (nrW fac sn) f) i)))), (0, .ref o), (1, .ref q), (2, .int sn), (5, .int xi)]) hx hb dX0_normalize_45 hl (by decide) rfl (fun ls hl => ?_)
          refine lv_iinc (v := xi + 1) (lv' := [(5, .int (xi + 1)), (4, .int (xs + (absI ((mixf (i + 1) (nrW fac sn) f) i)))), (0, .ref o), (1, .ref q), (2, .int sn)]) hx hb dX0_normalize_47 hl (k := 4) rfl rfl (by decide) rfl (fun ls hl => ?_)
          refine lv_goto (tgt := 6) hx hb dX0_normalize_50 (by decide) ?_
          exact ih_6 (i + 1) _ _ _ (by omega) (by omega) (by rw [ei]; exact nI_1 i) (by rfl) (by rw [mixf_lo _ _ (Nat.lt_succ_self i)] at c_33; show _ = sg b (nrT fac sn) i + nrT fac sn i; rw [es]; unfold nrT; (rw [mixf_lo _ _ (Nat.lt_succ_self i), if_pos (Int32.not_le.mp c_33)])) _ _ (hP.sub [0, 1, 2] rfl) (hD.sub [0, 1, 2] (by decide) rfl) hS ls (lv_sub hl [2, 3, 4, 1, 0] rfl)
  exact loop_6 (10 + 1) 0 _ _ _ (Nat.zero_le _) (by omega) (by exact nI_0.symm) (by exact (mixf_0 _ _).symm) (by rfl) _ _ (hP.sub [0, 1, 2] rfl) (hD.sub [0, 1, 2] (by decide) rfl) hS ls (lv_sub hl [2, 3, 4, 1, 0] rfl)

abbrev rmX0_becomeAtLeast : Room := { frames := 3, cells := 0, slots := 0, locals := 67 }
set_option maxHeartbeats 4000000 in
set_option maxRecDepth 100000 in
theorem c_X0_becomeAtLeast (l : Launch) (G : Gt) (sz : Nat) (o w : Nat) (d g : Int32) (f : Nat → Int32) (q : Nat) (fac : Nat → Int32) (b : Int32) : Met l yX0_becomeAtLeast wsX0_becomeAtLeast rmX0_becomeAtLeast (mu_P G sz [.ref o, .ref q, .int b] [(o, .inr (0, [.ref w, .int d, .int g])), (w, eI G 10 f), (q, eI G 10 fac)]) (mu_Q G none [(o, .inr (0, [.ref w, .int (nrD fac 1 b), .int g])), (w, eI G 10 (mixf 10 (nrW fac 1) f)), (q, eI G 10 fac)] (va_A [(o, .inr (0, [.ref w, .int d, .int g])), (w, eI G 10 f), (q, eI G 10 fac)] sz)) 0 0 (va_A [(o, .inr (0, [.ref w, .int d, .int g])), (w, eI G 10 f), (q, eI G 10 fac)] sz) := by
  refine Met.ofW (cc := cX0_becomeAtLeast) (maxL := 3) (ret := none) (by decide) rfl ?_
  intro p e s m args below meth c s₁ B hml hv
  obtain ⟨rfl, hsz, hP, hD0, hK⟩ := hv
  have hx := B.exec
  have hb := B.bytes
  have hr := B.returns
  have hts := atoms_spec (ws := wsX0_becomeAtLeast) B.pre
  have hown : s.vm.findClass RX0 = some m.cls := findClass_of_methodNamed B.named
  have hlocks := B.notSynchronized
  subst hsz
  have hD := hD0.self (sz := s.heap.size)
  generalize hAe : va_A [(o, .inr (0, [.ref w, .int d, .int g])), (w, eI G 10 f), (q, eI G 10 fac)] s.heap.size = A at hD ⊢
  have hA : ∀ q : Nat, s.heap.size ≤ q → A q := fun q h => by rw [← hAe]; exact Or.inr h
  have hS : va_S A s.heap s.heap [] := va_S.rf
  have hl := lv_entry ([.ref o, .ref q, .int b]) (n := 3) (Nat.le_of_ble_eq_true rfl)
  rw [lg_entry_eq]
  generalize (lg_sl ([.ref o, .ref q, .int b]) ++ List.replicate (3 - (lg_sl ([.ref o, .ref q, .int b])).length) Slot.unset).toArray = ls at hl ⊢
  have hl : lv_has ls 3 [(0, .ref o), (1, .ref q), (2, .int b)] := hl
  refine lv_aload_n hx hb dX0_becomeAtLeast_0 rfl (lv_at hl 0 rfl) ?_
  refine lv_aload_n hx hb dX0_becomeAtLeast_1 rfl (lv_at hl 1 rfl) ?_
  refine lv_iconst (v := 1) hx hb dX0_becomeAtLeast_2 (by decide) ?_
  refine lv_iload_n hx hb dX0_becomeAtLeast_3 rfl (lv_at hl 2 rfl) ?_
  refine mu_call (va_runV (As := [.ref q, .int 1, .int b]) (rest := []) ⟨hx, hb, hml, hown, hts⟩ (c_X0_normalize l G _ o w d g f q fac 1 b) (cwV 3 hts gX0_becomeAtLeast_X0_normalize rfl rfl rfl (by decide +kernel) ⟨Nat.le_of_ble_eq_true rfl, Nat.le_of_ble_eq_true rfl⟩) ⟨mu_blind, va_recv hK.1 hP (ci := 0) (q0 := 0) rfl rfl, mu_pre _ (hP.sub [0, 1, 2] rfl) (hD.sub [0, 1, 2] (by decide) rfl) hK⟩ rfl rfl hl.1 rfl (lv_room (Nat.le_of_ble_eq_true rfl)) dX0_becomeAtLeast_4 ⟨Nat.le_refl _, Nat.le_refl _⟩) hS (va_free hD hS hA [0, 1, 2] rfl) (va_free hD hS hA [0, 1, 2] rfl) (fun H1 locs hP1 hD1 hk1 hS => ?_)
  obtain ⟨hP, hD⟩ := rp_join (ws' := [(o, .inr (0, [.ref w, .int (nrD fac 1 b), .int g])), (w, eI G 10 (mixf 10 (nrW fac 1) f)), (q, eI G 10 fac)]) hP hD [0, 1, 2] rfl hk1 hP1 (fun k q h => match k, q, h with | 0, q, h => Or.inl ⟨0, h⟩ | 1, q, h => Or.inl ⟨1, h⟩ | 2, q, h => Or.inl ⟨2, h⟩ | k + 3, q, h => nomatch h) rfl
  generalize H1 = H at hP hS ⊢
  have hP : va_P G.1 vwCl [(o, .inr (0, [.ref w, .int (nrD fac 1 b), .int g])), (w, eI G 10 (mixf 10 (nrW fac 1) f)), (q, eI G 10 fac)] H := hP
  have hD : va_D A [(o, .inr (0, [.ref w, .int (nrD fac 1 b), .int g])), (w, eI G 10 (mixf 10 (nrW fac 1) f)), (q, eI G 10 fac)] := hD
  have hP9 := hP.sub (ws' := [(o, .inr (0, [.ref w, .int (nrD fac 1 b), .int g])), (w, eI G 10 (mixf 10 (nrW fac 1) f)), (q, eI G 10 fac)]) [0, 1, 2] rfl
  have hD9 := hD.sub (ws' := [(o, .inr (0, [.ref w, .int (nrD fac 1 b), .int g])), (w, eI G 10 (mixf 10 (nrW fac 1) f)), (q, eI G 10 fac)]) [0, 1, 2] (by decide) rfl
  exact W.vret hx hb hr (fun t ht hW => ⟨rfl, by rw [ht]; exact hP9, hD9, hS.F ht⟩) hS.2.2 dX0_becomeAtLeast_7

abbrev rmX0_becomeAtMost : Room := { frames := 3, cells := 0, slots := 0, locals := 67 }
set_option maxHeartbeats 4000000 in
set_option maxRecDepth 100000 in
theorem c_X0_becomeAtMost (l : Launch) (G : Gt) (sz : Nat) (o w : Nat) (d g : Int32) (f : Nat → Int32) (q : Nat) (fac : Nat → Int32) (b : Int32) : Met l yX0_becomeAtMost wsX0_becomeAtMost rmX0_becomeAtMost (mu_P G sz [.ref o, .ref q, .int b] [(o, .inr (0, [.ref w, .int d, .int g])), (w, eI G 10 f), (q, eI G 10 fac)]) (mu_Q G none [(o, .inr (0, [.ref w, .int (nrD fac (-1) (-b)), .int g])), (w, eI G 10 (mixf 10 (nrW fac (-1)) f)), (q, eI G 10 fac)] (va_A [(o, .inr (0, [.ref w, .int d, .int g])), (w, eI G 10 f), (q, eI G 10 fac)] sz)) 0 0 (va_A [(o, .inr (0, [.ref w, .int d, .int g])), (w, eI G 10 f), (q, eI G 10 fac)] sz) := by
  refine Met.ofW (cc := cX0_becomeAtMost) (maxL := 3) (ret := none) (by decide) rfl ?_
  intro p e s m args below meth c s₁ B hml hv
  obtain ⟨rfl, hsz, hP, hD0, hK⟩ := hv
  have hx := B.exec
  have hb := B.bytes
  have hr := B.returns
  have hts := atoms_spec (ws := wsX0_becomeAtMost) B.pre
  have hown : s.vm.findClass RX0 = some m.cls := findClass_of_methodNamed B.named
  have hlocks := B.notSynchronized
  subst hsz
  have hD := hD0.self (sz := s.heap.size)
  generalize hAe : va_A [(o, .inr (0, [.ref w, .int d, .int g])), (w, eI G 10 f), (q, eI G 10 fac)] s.heap.size = A at hD ⊢
  have hA : ∀ q : Nat, s.heap.size ≤ q → A q := fun q h => by rw [← hAe]; exact Or.inr h
  have hS : va_S A s.heap s.heap [] := va_S.rf
  have hl := lv_entry ([.ref o, .ref q, .int b]) (n := 3) (Nat.le_of_ble_eq_true rfl)
  rw [lg_entry_eq]
  generalize (lg_sl ([.ref o, .ref q, .int b]) ++ List.replicate (3 - (lg_sl ([.ref o, .ref q, .int b])).length) Slot.unset).toArray = ls at hl ⊢
  have hl : lv_has ls 3 [(0, .ref o), (1, .ref q), (2, .int b)] := hl
  refine lv_aload_n hx hb dX0_becomeAtMost_0 rfl (lv_at hl 0 rfl) ?_
  refine lv_aload_n hx hb dX0_becomeAtMost_1 rfl (lv_at hl 1 rfl) ?_
  refine lv_iconst (v := (-1)) hx hb dX0_becomeAtMost_2 (by decide) ?_
  refine lv_iload_n hx hb dX0_becomeAtMost_3 rfl (lv_at hl 2 rfl) ?_
  refine lv_ineg hx hb dX0_becomeAtMost_4 ?_
  refine mu_call (va_runV (As := [.ref q, .int (-1), .int (-b)]) (rest := []) ⟨hx, hb, hml, hown, hts⟩ (c_X0_normalize l G _ o w d g f q fac (-1) (-b)) (cwV 3 hts gX0_becomeAtMost_X0_normalize rfl rfl rfl (by decide +kernel) ⟨Nat.le_of_ble_eq_true rfl, Nat.le_of_ble_eq_true rfl⟩) ⟨mu_blind, va_recv hK.1 hP (ci := 0) (q0 := 0) rfl rfl, mu_pre _ (hP.sub [0, 1, 2] rfl) (hD.sub [0, 1, 2] (by decide) rfl) hK⟩ rfl rfl hl.1 rfl (lv_room (Nat.le_of_ble_eq_true rfl)) dX0_becomeAtMost_5 ⟨Nat.le_refl _, Nat.le_refl _⟩) hS (va_free hD hS hA [0, 1, 2] rfl) (va_free hD hS hA [0, 1, 2] rfl) (fun H1 locs hP1 hD1 hk1 hS => ?_)
  obtain ⟨hP, hD⟩ := rp_join (ws' := [(o, .inr (0, [.ref w, .int (nrD fac (-1) (-b)), .int g])), (w, eI G 10 (mixf 10 (nrW fac (-1)) f)), (q, eI G 10 fac)]) hP hD [0, 1, 2] rfl hk1 hP1 (fun k q h => match k, q, h with | 0, q, h => Or.inl ⟨0, h⟩ | 1, q, h => Or.inl ⟨1, h⟩ | 2, q, h => Or.inl ⟨2, h⟩ | k + 3, q, h => nomatch h) rfl
  generalize H1 = H at hP hS ⊢
  have hP : va_P G.1 vwCl [(o, .inr (0, [.ref w, .int (nrD fac (-1) (-b)), .int g])), (w, eI G 10 (mixf 10 (nrW fac (-1)) f)), (q, eI G 10 fac)] H := hP
  have hD : va_D A [(o, .inr (0, [.ref w, .int (nrD fac (-1) (-b)), .int g])), (w, eI G 10 (mixf 10 (nrW fac (-1)) f)), (q, eI G 10 fac)] := hD
  have hP9 := hP.sub (ws' := [(o, .inr (0, [.ref w, .int (nrD fac (-1) (-b)), .int g])), (w, eI G 10 (mixf 10 (nrW fac (-1)) f)), (q, eI G 10 fac)]) [0, 1, 2] rfl
  have hD9 := hD.sub (ws' := [(o, .inr (0, [.ref w, .int (nrD fac (-1) (-b)), .int g])), (w, eI G 10 (mixf 10 (nrW fac (-1)) f)), (q, eI G 10 fac)]) [0, 1, 2] (by decide) rfl
  exact W.vret hx hb hr (fun t ht hW => ⟨rfl, by rw [ht]; exact hP9, hD9, hS.F ht⟩) hS.2.2 dX0_becomeAtMost_8

abbrev rmJ7_fill_53178 : Room := { frames := 0, cells := 0, slots := 0, locals := 0 }
set_option maxHeartbeats 4000000 in
set_option maxRecDepth 100000 in
theorem c_J7_fill_53178 (l : Launch) (G : Gt) (sz : Nat) (w : Nat) (f : Nat → Int32) (x : Int32) : Met l yJ7_fill_53178 wsJ7_fill_53178 rmJ7_fill_53178 (mu_P G sz [.ref w, .int x] [(w, eI G 10 f)]) (mu_Q G none [(w, eI G 10 (mixf 10 (fun _ => x) f))] (va_A [(w, eI G 10 f)] sz)) 0 0 (va_A [(w, eI G 10 f)] sz) := by
  refine Met.ofW (cc := cJ7_fill_53178) (maxL := 4) (ret := none) (by decide) rfl ?_
  intro p e s m args below meth c s₁ B hml hv
  obtain ⟨rfl, hsz, hP, hD0, hK⟩ := hv
  have hx := B.exec
  have hb := B.bytes
  have hr := B.returns
  have hts := atoms_spec (ws := wsJ7_fill_53178) B.pre
  have hown : s.vm.findClass RJ7 = some m.cls := findClass_of_methodNamed B.named
  have hlocks := B.notSynchronized
  subst hsz
  have hD := hD0.self (sz := s.heap.size)
  generalize hAe : va_A [(w, eI G 10 f)] s.heap.size = A at hD ⊢
  have hA : ∀ q : Nat, s.heap.size ≤ q → A q := fun q h => by rw [← hAe]; exact Or.inr h
  have hS : va_S A s.heap s.heap [] := va_S.rf
  have hl := lv_entry ([.ref w, .int x]) (n := 4) (Nat.le_of_ble_eq_true rfl)
  rw [lg_entry_eq]
  generalize (lg_sl ([.ref w, .int x]) ++ List.replicate (4 - (lg_sl ([.ref w, .int x])).length) Slot.unset).toArray = ls at hl ⊢
  have hl : lv_has ls 4 [(0, .ref w), (1, .int x)] := hl
  refine lv_iconst (v := 0) hx hb dJ7_fill_53178_0 (by decide) ?_
  refine lv_istore_n (lv' := [(2, .int 0), (0, .ref w), (1, .int x)]) hx hb dJ7_fill_53178_1 rfl hl (by decide) rfl (fun ls hl => ?_)
  refine lv_aload_n hx hb dJ7_fill_53178_2 rfl (lv_at hl 1 rfl) ?_
  refine va_alen (v := 10) hx hb hK.1 hP 0 0 rfl rfl rfl dJ7_fill_53178_3 ?_
  refine lv_istore_n (lv' := [(3, .int 10), (2, .int 0), (0, .ref w), (1, .int x)]) hx hb dJ7_fill_53178_4 rfl hl (by decide) rfl (fun ls hl => ?_)
  have loop_5 : ∀ (n_5 i : Nat) (xi : Int32) (h : Nat → Int32), i ≤ 10 → 10 + 1 ≤ i + n_5 → (xi = nI i) → (h = mixf i (fun _ => x) f) → ∀ (H : Heap) (locs : List Loc), va_P G.1 vwCl [(w, eI G 10 h)] H → va_D A [(w, eI G 10 h)] → va_S A s.heap H locs → ∀ ls : Array Slot, lv_has ls 4 [(0, .ref w), (1, .int x), (2, .int xi), (3, .int 10)] → W p l e rmJ7_fill_53178 s m [.ref w, .int x].toArray below meth c H locs 0 0 (MQ below (mu_Q G none [(w, eI G 10 (mixf 10 (fun _ => x) f))] A) [.ref w, .int x].toArray s 0 0 A) (F0 m 5 ls []) := by
    intro n_5
    induction n_5 with
    | zero => intro i xi h h1 h2; exact absurd h2 (by omega)
    | succ n_5 ih_5 =>
      intro i xi h hi_5 hn_5 ei eh H locs hP hD hS ls hl
      refine lv_iload_n hx hb dJ7_fill_53178_5 rfl (lv_at hl 2 rfl) ?_
      refine lv_iload_n hx hb dJ7_fill_53178_6 rfl (lv_at hl 3 rfl) ?_
      refine lv_icmp_ge (tgt := 20) hx hb dJ7_fill_53178_7 (by decide) (fun c_7 => ?_) (fun c_7 => ?_)
      · have hN : i = 10 := ge_ix ei (by decide) (by decide) c_7 hi_5
        rw [eh, hN] at hP hD
        have hP9 := hP.sub (ws' := [(w, eI G 10 (mixf 10 (fun _ => x) f))]) [0] rfl
        have hD9 := hD.sub (ws' := [(w, eI G 10 (mixf 10 (fun _ => x) f))]) [0] (by decide) rfl
        exact W.vret hx hb hr (fun t ht hW => ⟨rfl, by rw [ht]; exact hP9, hD9, hS.F ht⟩) hS.2.2 dJ7_fill_53178_20
      · have hlt : i < 10 := lt_ix ei (by decide) (by decide) c_7 hi_5
        refine lv_aload_n hx hb dJ7_fill_53178_10 rfl (lv_at hl 0 rfl) ?_
        refine lv_iload_n hx hb dJ7_fill_53178_11 rfl (lv_at hl 2 rfl) ?_
        refine lv_iload_n hx hb dJ7_fill_53178_12 rfl (lv_at hl 1 rfl) ?_
        refine ra_iast (v := i) hx hb hK.1 hP hD hS 0 0 rfl rfl ei (by omega) (by decide) dJ7_fill_53178_13 (fun H locs hP hD hS => ?_)
        have hP : va_P G.1 vwCl [(w, eI G 10 (upd h i x))] H := hP
        have hD : va_D A [(w, eI G 10 (upd h i x))] := hD
        refine lv_iinc (v := xi + 1) (lv' := [(2, .int (xi + 1)), (0, .ref w), (1, .int x), (3, .int 10)]) hx hb dJ7_fill_53178_14 hl (k := 2) rfl rfl (by decide) rfl (fun ls hl => ?_)
        refine lv_goto (tgt := 5) hx hb dJ7_fill_53178_17 (by decide) ?_
        exact ih_5 (i + 1) _ _ (by omega) (by omega) (by rw [ei]; exact nI_1 i) (by rw [eh]; exact mixf_s i (fun _ => x) f) _ _ (hP.sub [0] rfl) (hD.sub [0] (by decide) rfl) hS ls (lv_sub hl [1, 2, 0, 3] rfl)
  exact loop_5 (10 + 1) 0 _ _ (Nat.zero_le _) (by omega) (by exact nI_0.symm) (by exact (mixf_0 _ _).symm) _ _ (hP.sub [0] rfl) (hD.sub [0] (by decide) rfl) hS ls (lv_sub hl [2, 3, 1, 0] rfl)

abbrev rmX0_becomeAxiom : Room := { frames := 1, cells := 0, slots := 0, locals := 23 }
set_option maxHeartbeats 4000000 in
set_option maxRecDepth 100000 in
theorem c_X0_becomeAxiom (l : Launch) (G : Gt) (sz : Nat) (o w : Nat) (d g : Int32) (f : Nat → Int32) (x y : Int32) (v : Nat) (ex : x = nI v) (hv : v < 10) : Met l yX0_becomeAxiom wsX0_becomeAxiom rmX0_becomeAxiom (mu_P G sz [.ref o, .int x, .int y] [(o, .inr (0, [.ref w, .int d, .int g])), (w, eI G 10 f)]) (mu_Q G none [(o, .inr (0, [.ref w, .int 0, .int g])), (w, eI G 10 (upd (mixf 10 (fun _ => 0) f) v (if y = 0 then -1 else 1)))] (va_A [(o, .inr (0, [.ref w, .int d, .int g])), (w, eI G 10 f)] sz)) 0 0 (va_A [(o, .inr (0, [.ref w, .int d, .int g])), (w, eI G 10 f)] sz) := by
  refine Met.ofW (cc := cX0_becomeAxiom) (maxL := 3) (ret := none) (by decide) rfl ?_
  intro p e s m args below meth c s₁ B hml hv
  obtain ⟨rfl, hsz, hP, hD0, hK⟩ := hv
  have hx := B.exec
  have hb := B.bytes
  have hr := B.returns
  have hts := atoms_spec (ws := wsX0_becomeAxiom) B.pre
  have hown : s.vm.findClass RX0 = some m.cls := findClass_of_methodNamed B.named
  have hlocks := B.notSynchronized
  subst hsz
  have hD := hD0.self (sz := s.heap.size)
  generalize hAe : va_A [(o, .inr (0, [.ref w, .int d, .int g])), (w, eI G 10 f)] s.heap.size = A at hD ⊢
  have hA : ∀ q : Nat, s.heap.size ≤ q → A q := fun q h => by rw [← hAe]; exact Or.inr h
  have hS : va_S A s.heap s.heap [] := va_S.rf
  have hinX0 : ∀ w ∈ u_ws RX0 TX0 3, w ∈ wsX0_becomeAxiom := fun w h => List.mem_cons_of_mem _ (List.mem_append_right _ h)
  have hw1 := hts (.fieldLink RX0 9 "ChoiceBoard$Constraint" "weights" "[I") (by decide +kernel)
  have hw2 := hts (.fieldLink RX0 15 "ChoiceBoard$Constraint" "degree" "I") (by decide +kernel)
  have hl := lv_entry ([.ref o, .int x, .int y]) (n := 3) (Nat.le_of_ble_eq_true rfl)
  rw [lg_entry_eq]
  generalize (lg_sl ([.ref o, .int x, .int y]) ++ List.replicate (3 - (lg_sl ([.ref o, .int x, .int y])).length) Slot.unset).toArray = ls at hl ⊢
  have hl : lv_has ls 3 [(0, .ref o), (1, .int x), (2, .int y)] := hl
  refine lv_aload_n hx hb dX0_becomeAxiom_0 rfl (lv_at hl 0 rfl) ?_
  refine va_get (D := G.1) (ci := 0) (v := .ref w) (C := RX0) (T := TX0) (N := 3) hx hb hts hinX0 hown hK.1 hP 0 rfl rfl 0 (by decide) hw1 (fun _ h9 => h9) rfl dX0_becomeAxiom_1 ?_
  refine lv_iconst (v := 0) hx hb dX0_becomeAxiom_4 (by decide) ?_
  refine mu_call (va_runS (As := [.ref w, .int 0]) (rest := []) ⟨hx, hb, hml, hown, hts⟩ (c_J7_fill_53178 l G _ w f 0) (va_cwS 2 hts gX0_becomeAxiom_J7_fill_53178 rfl rfl rfl (by decide +kernel) ⟨Nat.le_of_ble_eq_true rfl, Nat.le_of_ble_eq_true rfl⟩) ⟨mu_blind, mu_pre _ (hP.sub [1] rfl) (hD.sub [1] (by decide) rfl) hK⟩ rfl rfl hl.1 rfl (lv_room (Nat.le_of_ble_eq_true rfl)) dX0_becomeAxiom_5 ⟨Nat.le_refl _, Nat.le_refl _⟩) hS (va_free hD hS hA [1] rfl) (va_free hD hS hA [1] rfl) (fun H1 locs hP1 hD1 hk1 hS => ?_)
  obtain ⟨hP, hD⟩ := rp_join (ws' := [(o, .inr (0, [.ref w, .int d, .int g])), (w, eI G 10 (mixf 10 (fun _ => 0) f))]) hP hD [1] rfl hk1 hP1 (fun k q h => match k, q, h with | 0, q, h => Or.inr ⟨by decide, h⟩ | 1, q, h => Or.inl ⟨0, h⟩ | k + 2, q, h => nomatch h) rfl
  generalize H1 = H at hP hS ⊢
  have hP : va_P G.1 vwCl [(o, .inr (0, [.ref w, .int d, .int g])), (w, eI G 10 (mixf 10 (fun _ => 0) f))] H := hP
  have hD : va_D A [(o, .inr (0, [.ref w, .int d, .int g])), (w, eI G 10 (mixf 10 (fun _ => 0) f))] := hD
  refine lv_aload_n hx hb dX0_becomeAxiom_8 rfl (lv_at hl 0 rfl) ?_
  refine va_get (D := G.1) (ci := 0) (v := .ref w) (C := RX0) (T := TX0) (N := 3) hx hb hts hinX0 hown hK.1 hP 0 rfl rfl 0 (by decide) hw1 (fun _ h9 => h9) rfl dX0_becomeAxiom_9 ?_
  refine lv_iload_n hx hb dX0_becomeAxiom_12 rfl (lv_at hl 1 rfl) ?_
  refine lv_iload_n hx hb dX0_becomeAxiom_13 rfl (lv_at hl 2 rfl) ?_
  refine lv_if_eq (tgt := 21) hx hb dX0_becomeAxiom_14 (by decide) (fun c_14 => ?_) (fun c_14 => ?_)
  · refine lv_iconst (v := (-1)) hx hb dX0_becomeAxiom_21 (by decide) ?_
    refine ra_iast (v := v) hx hb hK.1 hP hD hS 1 0 rfl rfl ex (by omega) (by decide) dX0_becomeAxiom_22 (fun H locs hP hD hS => ?_)
    have hP : va_P G.1 vwCl [(o, .inr (0, [.ref w, .int d, .int g])), (w, eI G 10 (upd (mixf 10 (fun _ => 0) f) v (-1)))] H := hP
    have hD : va_D A [(o, .inr (0, [.ref w, .int d, .int g])), (w, eI G 10 (upd (mixf 10 (fun _ => 0) f) v (-1)))] := hD
    have eA22 : upd (mixf 10 (fun _ => 0) f) v (-1) = upd (mixf 10 (fun _ => 0) f) v (if y = 0 then -1 else 1) := by rw [if_pos c_14]
    rw [eA22] at hP hD
    refine lv_aload_n hx hb dX0_becomeAxiom_23 rfl (lv_at hl 0 rfl) ?_
    refine lv_iconst (v := 0) hx hb dX0_becomeAxiom_24 (by decide) ?_
    refine va_put (D := G.1) (ci := 0) (v := .int 0) (ty := .int) (C := RX0) (T := TX0) (N := 3) hx hb hts hinX0 tyX0 tyX0_ok nmX0 hown hK.1 hP hD hS 0 rfl rfl 1 (by decide) hw2 (fun _ h9 => h9) rfl (by decide +kernel) rfl rfl (Nat.le_of_ble_eq_true rfl) dX0_becomeAxiom_25 (fun H locs hP hD hS => ?_)
    have hP : va_P G.1 vwCl [(o, .inr (0, [.ref w, .int 0, .int g])), (w, eI G 10 (upd (mixf 10 (fun _ => 0) f) v (if y = 0 then -1 else 1)))] H := hP
    have hD : va_D A [(o, .inr (0, [.ref w, .int 0, .int g])), (w, eI G 10 (upd (mixf 10 (fun _ => 0) f) v (if y = 0 then -1 else 1)))] := hD
    have hP9 := hP.sub (ws' := [(o, .inr (0, [.ref w, .int 0, .int g])), (w, eI G 10 (upd (mixf 10 (fun _ => 0) f) v (if y = 0 then -1 else 1)))]) [0, 1] rfl
    have hD9 := hD.sub (ws' := [(o, .inr (0, [.ref w, .int 0, .int g])), (w, eI G 10 (upd (mixf 10 (fun _ => 0) f) v (if y = 0 then -1 else 1)))]) [0, 1] (by decide) rfl
    exact W.vret hx hb hr (fun t ht hW => ⟨rfl, by rw [ht]; exact hP9, hD9, hS.F ht⟩) hS.2.2 dX0_becomeAxiom_28
  · refine lv_iconst (v := 1) hx hb dX0_becomeAxiom_17 (by decide) ?_
    refine lv_goto (tgt := 22) hx hb dX0_becomeAxiom_18 (by decide) ?_
    refine ra_iast (v := v) hx hb hK.1 hP hD hS 1 0 rfl rfl ex (by omega) (by decide) dX0_becomeAxiom_22 (fun H locs hP hD hS => ?_)
    have hP : va_P G.1 vwCl [(o, .inr (0, [.ref w, .int d, .int g])), (w, eI G 10 (upd (mixf 10 (fun _ => 0) f) v 1))] H := hP
    have hD : va_D A [(o, .inr (0, [.ref w, .int d, .int g])), (w, eI G 10 (upd (mixf 10 (fun _ => 0) f) v 1))] := hD
    have eA22 : upd (mixf 10 (fun _ => 0) f) v 1 = upd (mixf 10 (fun _ => 0) f) v (if y = 0 then -1 else 1) := by rw [if_neg c_14]
    rw [eA22] at hP hD
    refine lv_aload_n hx hb dX0_becomeAxiom_23 rfl (lv_at hl 0 rfl) ?_
    refine lv_iconst (v := 0) hx hb dX0_becomeAxiom_24 (by decide) ?_
    refine va_put (D := G.1) (ci := 0) (v := .int 0) (ty := .int) (C := RX0) (T := TX0) (N := 3) hx hb hts hinX0 tyX0 tyX0_ok nmX0 hown hK.1 hP hD hS 0 rfl rfl 1 (by decide) hw2 (fun _ h9 => h9) rfl (by decide +kernel) rfl rfl (Nat.le_of_ble_eq_true rfl) dX0_becomeAxiom_25 (fun H locs hP hD hS => ?_)
    have hP : va_P G.1 vwCl [(o, .inr (0, [.ref w, .int 0, .int g])), (w, eI G 10 (upd (mixf 10 (fun _ => 0) f) v (if y = 0 then -1 else 1)))] H := hP
    have hD : va_D A [(o, .inr (0, [.ref w, .int 0, .int g])), (w, eI G 10 (upd (mixf 10 (fun _ => 0) f) v (if y = 0 then -1 else 1)))] := hD
    have hP9 := hP.sub (ws' := [(o, .inr (0, [.ref w, .int 0, .int g])), (w, eI G 10 (upd (mixf 10 (fun _ => 0) f) v (if y = 0 then -1 else 1)))]) [0, 1] rfl
    have hD9 := hD.sub (ws' := [(o, .inr (0, [.ref w, .int 0, .int g])), (w, eI G 10 (upd (mixf 10 (fun _ => 0) f) v (if y = 0 then -1 else 1)))]) [0, 1] (by decide) rfl
    exact W.vret hx hb hr (fun t ht hW => ⟨rfl, by rw [ht]; exact hP9, hD9, hS.F ht⟩) hS.2.2 dX0_becomeAxiom_28
