abbrev rmX0_init : Room := { frames := 1, cells := 1, slots := 10, locals := 20 }
set_option maxHeartbeats 400000 in
set_option maxRecDepth 100000 in
theorem c_X0_init (l : Launch) (G : Gt) (sz : Nat) (h0 : Nat) : Met l yX0_init wsX0_init rmX0_init (mu_P G sz [.ref h0] [(h0, .inr (0, [.null, .int 0, .int 0]))]) (in_Q G (fun u : Nat => [(h0, eC u 0 0), (u, eI G 10 (fun _ => 0))]) (va_A [(h0, .inr (0, [.null, .int 0, .int 0]))] sz)) 1 10 (va_A [(h0, .inr (0, [.null, .int 0, .int 0]))] sz) := by
  refine Met.ofW (cc := cX0_init) (maxL := 1) (ret := none) (by decide) rfl ?_
  intro p e s m args below meth c s₁ B hml hv
  obtain ⟨rfl, hsz, hP, hD0, hK⟩ := hv
  have hx := B.exec
  have hb := B.bytes
  have hr := B.returns
  have hts := atoms_spec (ws := wsX0_init) B.pre
  have hown : s.vm.findClass RX0 = some m.cls := findClass_of_methodNamed B.named
  have hlocks := B.notSynchronized
  have hin : meth.name = "<init>" := (name_of_methodNamed B.named B.method).1
  subst hsz
  have hD := hD0.self (sz := s.heap.size)
  generalize hAe : va_A [(h0, .inr (0, [.null, .int 0, .int 0]))] s.heap.size = A at hD ⊢
  have hA : ∀ q : Nat, s.heap.size ≤ q → A q := fun q h => by rw [← hAe]; exact Or.inr h
  have hS : va_S A s.heap s.heap [] := va_S.rf
  have hinX0 : ∀ w ∈ u_ws RX0 TX0 3, w ∈ wsX0_init := fun w h => List.mem_cons_of_mem _ (List.mem_append_right _ h)
  have hw0 := hts (.methodLink RX0 3 objectInit) (by decide +kernel)
  have hw1 := hts (.instanceMethod objectInit) (by decide +kernel)
  have hw2 := hts (.code objectInit ⟨#[0xb1]⟩ 1 none) (by decide +kernel)
  have hw3 := hts (.arrayClass .int) (by decide +kernel)
  have hw5 := hts (.fieldLink RX0 9 "ChoiceBoard$Constraint" "weights" "[I") (by decide +kernel)
  have hw6 := hts (.fieldLink RX0 15 "ChoiceBoard$Constraint" "degree" "I") (by decide +kernel)
  have hw7 := hts (.fieldLink RX0 19 "ChoiceBoard$Constraint" "given" "Z") (by decide +kernel)
  have hl := lv_entry ([.ref h0]) (n := 1) (Nat.le_of_ble_eq_true rfl)
  rw [lg_entry_eq]
  generalize (lg_sl ([.ref h0]) ++ List.replicate (1 - (lg_sl ([.ref h0])).length) Slot.unset).toArray = ls at hl ⊢
  have hl : lv_has ls 1 [(0, .ref h0)] := hl
  refine lv_aload_n hx hb dX0_init_0 rfl (lv_at hl 0 rfl) ?_
  refine W.objInit hx hb hown hw0 hw1 hw2 rfl (by rw [hml]; exact hl.1) rfl dX0_init_1 (Nat.le_of_ble_eq_true rfl) (Nat.le_of_ble_eq_true rfl) ?_
  refine W.eq (g2 := F0 m 4 ls []) rfl ?_
  refine lv_aload_n hx hb dX0_init_4 rfl (lv_at hl 0 rfl) ?_
  refine lv_bipush (v := 10) hx hb dX0_init_5 (by decide) ?_
  refine ra_newa (atype := .int) (n := 10) (N' := 10) (a0 := (10, .inl (fun _ => 0))) (t0 := 0) (ty := .int) hx hb hw3 rfl hK.1 hP hD hS hA rfl (fun _ h => h) (fun _ => rfl) (by decide) (by decide) (by decide) (Nat.le_of_ble_eq_true rfl) (Nat.le_of_ble_eq_true rfl) dX0_init_7 (fun w0 H hP hD hS => ?_)
  have hP : va_P G.1 vwCl [(h0, .inr (0, [.null, .int 0, .int 0])), (w0, eI G 10 (fun _ => 0))] H := hP
  have hD : va_D A [(h0, .inr (0, [.null, .int 0, .int 0])), (w0, eI G 10 (fun _ => 0))] := hD
  refine va_putF (D := G.1) (ci := 0) (v := .ref w0) (ty := .array .int) (C := RX0) (T := TX0) (N := 3) hx hb hts hinX0 tyX0 tyX0_ok nmX0 hown hK.1 hP hD hS 0 rfl rfl 0 (by decide) hw5 (fun _ h9 => h9) rfl hin rfl (by decide +kernel) rfl rfl (Nat.le_of_ble_eq_true rfl) dX0_init_9 (fun H locs hP hD hS => ?_)
  have hP : va_P G.1 vwCl [(h0, .inr (0, [.ref w0, .int 0, .int 0])), (w0, eI G 10 (fun _ => 0))] H := hP
  have hD : va_D A [(h0, .inr (0, [.ref w0, .int 0, .int 0])), (w0, eI G 10 (fun _ => 0))] := hD
  refine lv_aload_n hx hb dX0_init_12 rfl (lv_at hl 0 rfl) ?_
  refine lv_iconst (v := 0) hx hb dX0_init_13 (by decide) ?_
  refine va_put (D := G.1) (ci := 0) (v := .int 0) (ty := .int) (C := RX0) (T := TX0) (N := 3) hx hb hts hinX0 tyX0 tyX0_ok nmX0 hown hK.1 hP hD hS 0 rfl rfl 1 (by decide) hw6 (fun _ h9 => h9) rfl (by decide +kernel) rfl rfl (Nat.le_of_ble_eq_true rfl) dX0_init_14 (fun H locs hP hD hS => ?_)
  have hP : va_P G.1 vwCl [(h0, .inr (0, [.ref w0, .int 0, .int 0])), (w0, eI G 10 (fun _ => 0))] H := hP
  have hD : va_D A [(h0, .inr (0, [.ref w0, .int 0, .int 0])), (w0, eI G 10 (fun _ => 0))] := hD
  refine lv_aload_n hx hb dX0_init_17 rfl (lv_at hl 0 rfl) ?_
  refine lv_iconst (v := 0) hx hb dX0_init_18 (by decide) ?_
  refine va_put (D := G.1) (ci := 0) (v := .int 0) (ty := .boolean) (C := RX0) (T := TX0) (N := 3) hx hb hts hinX0 tyX0 tyX0_ok nmX0 hown hK.1 hP hD hS 0 rfl rfl 2 (by decide) hw7 (fun _ h9 => h9) rfl (by decide +kernel) rfl rfl (Nat.le_of_ble_eq_true rfl) dX0_init_19 (fun H locs hP hD hS => ?_)
  have hP : va_P G.1 vwCl [(h0, .inr (0, [.ref w0, .int 0, .int 0])), (w0, eI G 10 (fun _ => 0))] H := hP
  have hD : va_D A [(h0, .inr (0, [.ref w0, .int 0, .int 0])), (w0, eI G 10 (fun _ => 0))] := hD
  have hP9 := hP.sub (ws' := [(h0, .inr (0, [.ref w0, .int 0, .int 0])), (w0, eI G 10 (fun _ => 0))]) [0, 1] rfl
  have hD9 := hD.sub (ws' := [(h0, .inr (0, [.ref w0, .int 0, .int 0])), (w0, eI G 10 (fun _ => 0))]) [0, 1] (by decide) rfl
  exact W.vret hx hb hr (fun t ht hW => ⟨rfl, w0, by rw [ht]; exact hP9, hD9, hS.F ht⟩) hS.2.2 dX0_init_22

abbrev rmX2_init : Room := { frames := 1, cells := 5, slots := 478, locals := 20 }
set_option maxHeartbeats 400000 in
set_option maxRecDepth 100000 in
theorem c_X2_init (l : Launch) (G : Gt) (sz : Nat) (mo : Nat) : Met l yX2_init wsX2_init rmX2_init (mu_P G sz [.ref mo] [(mo, .inr (2, [.int 0, .null, .null, .int 0, .int 0, .null, .null, .int 0, .int 0, .int 0, .int 0, .int 0, .null]))]) (in_Q G (fun u : Nat × Nat × Nat × Nat × Nat => [(mo, .inr (2, [.int 0, .ref u.1, .ref u.2.1, .int 0, .int 0, .ref u.2.2.1, .ref u.2.2.2.1, .int 0, .int 0, .int 0, .int 0, .int 0, .ref u.2.2.2.2])), (u.1, eI G 418 (fun _ => 0)), (u.2.1, eZ G 30 (fun _ => 0)), (u.2.2.1, eI G 10 (fun _ => 0)), (u.2.2.2.1, eI G 10 (fun _ => 0)), (u.2.2.2.2, eI G 10 (fun _ => 0))]) (va_A [(mo, .inr (2, [.int 0, .null, .null, .int 0, .int 0, .null, .null, .int 0, .int 0, .int 0, .int 0, .int 0, .null]))] sz)) 5 478 (va_A [(mo, .inr (2, [.int 0, .null, .null, .int 0, .int 0, .null, .null, .int 0, .int 0, .int 0, .int 0, .int 0, .null]))] sz) := by
  refine Met.ofW (cc := cX2_init) (maxL := 1) (ret := none) (by decide) rfl ?_
  intro p e s m args below meth c s₁ B hml hv
  obtain ⟨rfl, hsz, hP, hD0, hK⟩ := hv
  have hx := B.exec
  have hb := B.bytes
  have hr := B.returns
  have hts := atoms_spec (ws := wsX2_init) B.pre
  have hown : s.vm.findClass RX2 = some m.cls := findClass_of_methodNamed B.named
  have hlocks := B.notSynchronized
  have hin : meth.name = "<init>" := (name_of_methodNamed B.named B.method).1
  subst hsz
  have hD := hD0.self (sz := s.heap.size)
  generalize hAe : va_A [(mo, .inr (2, [.int 0, .null, .null, .int 0, .int 0, .null, .null, .int 0, .int 0, .int 0, .int 0, .int 0, .null]))] s.heap.size = A at hD ⊢
  have hA : ∀ q : Nat, s.heap.size ≤ q → A q := fun q h => by rw [← hAe]; exact Or.inr h
  have hS : va_S A s.heap s.heap [] := va_S.rf
  have hinX2 : ∀ w ∈ u_ws RX2 TX2 13, w ∈ wsX2_init := fun w h => List.mem_cons_of_mem _ (List.mem_append_right _ h)
  have hw0 := hts (.methodLink RX2 1 objectInit) (by decide +kernel)
  have hw1 := hts (.instanceMethod objectInit) (by decide +kernel)
  have hw2 := hts (.code objectInit ⟨#[0xb1]⟩ 1 none) (by decide +kernel)
  have hw3 := hts (.arrayClass .int) (by decide +kernel)
  have hw5 := hts (.fieldLink RX2 7 "ChoiceBoardModel" "cell" "[I") (by decide +kernel)
  have hw6 := hts (.arrayClass .boolean) (by decide +kernel)
  have hw7 := hts (.fieldLink RX2 13 "ChoiceBoardModel" "given" "[Z") (by decide +kernel)
  have hw8 := hts (.fieldLink RX2 17 "ChoiceBoardModel" "draft" "[I") (by decide +kernel)
  have hw9 := hts (.fieldLink RX2 20 "ChoiceBoardModel" "goal" "[I") (by decide +kernel)
  have hw10 := hts (.fieldLink RX2 23 "ChoiceBoardModel" "state" "[I") (by decide +kernel)
  have hl := lv_entry ([.ref mo]) (n := 1) (Nat.le_of_ble_eq_true rfl)
  rw [lg_entry_eq]
  generalize (lg_sl ([.ref mo]) ++ List.replicate (1 - (lg_sl ([.ref mo])).length) Slot.unset).toArray = ls at hl ⊢
  have hl : lv_has ls 1 [(0, .ref mo)] := hl
  refine lv_aload_n hx hb dX2_init_0 rfl (lv_at hl 0 rfl) ?_
  refine W.objInit hx hb hown hw0 hw1 hw2 rfl (by rw [hml]; exact hl.1) rfl dX2_init_1 (Nat.le_of_ble_eq_true rfl) (Nat.le_of_ble_eq_true rfl) ?_
  refine W.eq (g2 := F0 m 4 ls []) rfl ?_
  refine lv_aload_n hx hb dX2_init_4 rfl (lv_at hl 0 rfl) ?_
  refine lv_sipush (v := 418) hx hb dX2_init_5 (by decide) ?_
  refine ra_newa (atype := .int) (n := 418) (N' := 418) (a0 := (418, .inl (fun _ => 0))) (t0 := 0) (ty := .int) hx hb hw3 rfl hK.1 hP hD hS hA rfl (fun _ h => h) (fun _ => rfl) (by decide) (by decide) (by decide) (Nat.le_of_ble_eq_true rfl) (Nat.le_of_ble_eq_true rfl) dX2_init_8 (fun ce H hP hD hS => ?_)
  have hP : va_P G.1 vwCl [(mo, .inr (2, [.int 0, .null, .null, .int 0, .int 0, .null, .null, .int 0, .int 0, .int 0, .int 0, .int 0, .null])), (ce, eI G 418 (fun _ => 0))] H := hP
  have hD : va_D A [(mo, .inr (2, [.int 0, .null, .null, .int 0, .int 0, .null, .null, .int 0, .int 0, .int 0, .int 0, .int 0, .null])), (ce, eI G 418 (fun _ => 0))] := hD
  refine va_putF (D := G.1) (ci := 2) (v := .ref ce) (ty := .array .int) (C := RX2) (T := TX2) (N := 13) hx hb hts hinX2 tyX2 tyX2_ok nmX2 hown hK.1 hP hD hS 0 rfl rfl 1 (by decide) hw5 (fun _ h9 => h9) rfl hin rfl (by decide +kernel) rfl rfl (Nat.le_of_ble_eq_true rfl) dX2_init_10 (fun H locs hP hD hS => ?_)
  have hP : va_P G.1 vwCl [(mo, .inr (2, [.int 0, .ref ce, .null, .int 0, .int 0, .null, .null, .int 0, .int 0, .int 0, .int 0, .int 0, .null])), (ce, eI G 418 (fun _ => 0))] H := hP
  have hD : va_D A [(mo, .inr (2, [.int 0, .ref ce, .null, .int 0, .int 0, .null, .null, .int 0, .int 0, .int 0, .int 0, .int 0, .null])), (ce, eI G 418 (fun _ => 0))] := hD
  refine lv_aload_n hx hb dX2_init_13 rfl (lv_at hl 0 rfl) ?_
  refine lv_bipush (v := 30) hx hb dX2_init_14 (by decide) ?_
  refine ra_newa (atype := .boolean) (n := 30) (N' := 30) (a0 := (30, .inl (fun _ => 0))) (t0 := 1) (ty := .boolean) hx hb hw6 rfl hK.1 hP hD hS hA rfl (fun _ h => h) (fun _ => rfl) (by decide) (by decide) (by decide) (Nat.le_of_ble_eq_true rfl) (Nat.le_of_ble_eq_true rfl) dX2_init_16 (fun gv H hP hD hS => ?_)
  have hP : va_P G.1 vwCl [(mo, .inr (2, [.int 0, .ref ce, .null, .int 0, .int 0, .null, .null, .int 0, .int 0, .int 0, .int 0, .int 0, .null])), (ce, eI G 418 (fun _ => 0)), (gv, eZ G 30 (fun _ => 0))] H := hP
  have hD : va_D A [(mo, .inr (2, [.int 0, .ref ce, .null, .int 0, .int 0, .null, .null, .int 0, .int 0, .int 0, .int 0, .int 0, .null])), (ce, eI G 418 (fun _ => 0)), (gv, eZ G 30 (fun _ => 0))] := hD
  refine va_putF (D := G.1) (ci := 2) (v := .ref gv) (ty := .array .boolean) (C := RX2) (T := TX2) (N := 13) hx hb hts hinX2 tyX2 tyX2_ok nmX2 hown hK.1 hP hD hS 0 rfl rfl 2 (by decide) hw7 (fun _ h9 => h9) rfl hin rfl (by decide +kernel) rfl rfl (Nat.le_of_ble_eq_true rfl) dX2_init_18 (fun H locs hP hD hS => ?_)
  have hP : va_P G.1 vwCl [(mo, .inr (2, [.int 0, .ref ce, .ref gv, .int 0, .int 0, .null, .null, .int 0, .int 0, .int 0, .int 0, .int 0, .null])), (ce, eI G 418 (fun _ => 0)), (gv, eZ G 30 (fun _ => 0))] H := hP
  have hD : va_D A [(mo, .inr (2, [.int 0, .ref ce, .ref gv, .int 0, .int 0, .null, .null, .int 0, .int 0, .int 0, .int 0, .int 0, .null])), (ce, eI G 418 (fun _ => 0)), (gv, eZ G 30 (fun _ => 0))] := hD
  refine lv_aload_n hx hb dX2_init_21 rfl (lv_at hl 0 rfl) ?_
  refine lv_bipush (v := 10) hx hb dX2_init_22 (by decide) ?_
  refine ra_newa (atype := .int) (n := 10) (N' := 10) (a0 := (10, .inl (fun _ => 0))) (t0 := 0) (ty := .int) hx hb hw3 rfl hK.1 hP hD hS hA rfl (fun _ h => h) (fun _ => rfl) (by decide) (by decide) (by decide) (Nat.le_of_ble_eq_true rfl) (Nat.le_of_ble_eq_true rfl) dX2_init_24 (fun dr H hP hD hS => ?_)
  have hP : va_P G.1 vwCl [(mo, .inr (2, [.int 0, .ref ce, .ref gv, .int 0, .int 0, .null, .null, .int 0, .int 0, .int 0, .int 0, .int 0, .null])), (ce, eI G 418 (fun _ => 0)), (gv, eZ G 30 (fun _ => 0)), (dr, eI G 10 (fun _ => 0))] H := hP
  have hD : va_D A [(mo, .inr (2, [.int 0, .ref ce, .ref gv, .int 0, .int 0, .null, .null, .int 0, .int 0, .int 0, .int 0, .int 0, .null])), (ce, eI G 418 (fun _ => 0)), (gv, eZ G 30 (fun _ => 0)), (dr, eI G 10 (fun _ => 0))] := hD
  refine va_putF (D := G.1) (ci := 2) (v := .ref dr) (ty := .array .int) (C := RX2) (T := TX2) (N := 13) hx hb hts hinX2 tyX2 tyX2_ok nmX2 hown hK.1 hP hD hS 0 rfl rfl 5 (by decide) hw8 (fun _ h9 => h9) rfl hin rfl (by decide +kernel) rfl rfl (Nat.le_of_ble_eq_true rfl) dX2_init_26 (fun H locs hP hD hS => ?_)
  have hP : va_P G.1 vwCl [(mo, .inr (2, [.int 0, .ref ce, .ref gv, .int 0, .int 0, .ref dr, .null, .int 0, .int 0, .int 0, .int 0, .int 0, .null])), (ce, eI G 418 (fun _ => 0)), (gv, eZ G 30 (fun _ => 0)), (dr, eI G 10 (fun _ => 0))] H := hP
  have hD : va_D A [(mo, .inr (2, [.int 0, .ref ce, .ref gv, .int 0, .int 0, .ref dr, .null, .int 0, .int 0, .int 0, .int 0, .int 0, .null])), (ce, eI G 418 (fun _ => 0)), (gv, eZ G 30 (fun _ => 0)), (dr, eI G 10 (fun _ => 0))] := hD
  refine lv_aload_n hx hb dX2_init_29 rfl (lv_at hl 0 rfl) ?_
  refine lv_bipush (v := 10) hx hb dX2_init_30 (by decide) ?_
  refine ra_newa (atype := .int) (n := 10) (N' := 10) (a0 := (10, .inl (fun _ => 0))) (t0 := 0) (ty := .int) hx hb hw3 rfl hK.1 hP hD hS hA rfl (fun _ h => h) (fun _ => rfl) (by decide) (by decide) (by decide) (Nat.le_of_ble_eq_true rfl) (Nat.le_of_ble_eq_true rfl) dX2_init_32 (fun go H hP hD hS => ?_)
  have hP : va_P G.1 vwCl [(mo, .inr (2, [.int 0, .ref ce, .ref gv, .int 0, .int 0, .ref dr, .null, .int 0, .int 0, .int 0, .int 0, .int 0, .null])), (ce, eI G 418 (fun _ => 0)), (gv, eZ G 30 (fun _ => 0)), (dr, eI G 10 (fun _ => 0)), (go, eI G 10 (fun _ => 0))] H := hP
  have hD : va_D A [(mo, .inr (2, [.int 0, .ref ce, .ref gv, .int 0, .int 0, .ref dr, .null, .int 0, .int 0, .int 0, .int 0, .int 0, .null])), (ce, eI G 418 (fun _ => 0)), (gv, eZ G 30 (fun _ => 0)), (dr, eI G 10 (fun _ => 0)), (go, eI G 10 (fun _ => 0))] := hD
  refine va_putF (D := G.1) (ci := 2) (v := .ref go) (ty := .array .int) (C := RX2) (T := TX2) (N := 13) hx hb hts hinX2 tyX2 tyX2_ok nmX2 hown hK.1 hP hD hS 0 rfl rfl 6 (by decide) hw9 (fun _ h9 => h9) rfl hin rfl (by decide +kernel) rfl rfl (Nat.le_of_ble_eq_true rfl) dX2_init_34 (fun H locs hP hD hS => ?_)
  have hP : va_P G.1 vwCl [(mo, .inr (2, [.int 0, .ref ce, .ref gv, .int 0, .int 0, .ref dr, .ref go, .int 0, .int 0, .int 0, .int 0, .int 0, .null])), (ce, eI G 418 (fun _ => 0)), (gv, eZ G 30 (fun _ => 0)), (dr, eI G 10 (fun _ => 0)), (go, eI G 10 (fun _ => 0))] H := hP
  have hD : va_D A [(mo, .inr (2, [.int 0, .ref ce, .ref gv, .int 0, .int 0, .ref dr, .ref go, .int 0, .int 0, .int 0, .int 0, .int 0, .null])), (ce, eI G 418 (fun _ => 0)), (gv, eZ G 30 (fun _ => 0)), (dr, eI G 10 (fun _ => 0)), (go, eI G 10 (fun _ => 0))] := hD
  refine lv_aload_n hx hb dX2_init_37 rfl (lv_at hl 0 rfl) ?_
  refine lv_bipush (v := 10) hx hb dX2_init_38 (by decide) ?_
  refine ra_newa (atype := .int) (n := 10) (N' := 10) (a0 := (10, .inl (fun _ => 0))) (t0 := 0) (ty := .int) hx hb hw3 rfl hK.1 hP hD hS hA rfl (fun _ h => h) (fun _ => rfl) (by decide) (by decide) (by decide) (Nat.le_of_ble_eq_true rfl) (Nat.le_of_ble_eq_true rfl) dX2_init_40 (fun sa H hP hD hS => ?_)
  have hP : va_P G.1 vwCl [(mo, .inr (2, [.int 0, .ref ce, .ref gv, .int 0, .int 0, .ref dr, .ref go, .int 0, .int 0, .int 0, .int 0, .int 0, .null])), (ce, eI G 418 (fun _ => 0)), (gv, eZ G 30 (fun _ => 0)), (dr, eI G 10 (fun _ => 0)), (go, eI G 10 (fun _ => 0)), (sa, eI G 10 (fun _ => 0))] H := hP
  have hD : va_D A [(mo, .inr (2, [.int 0, .ref ce, .ref gv, .int 0, .int 0, .ref dr, .ref go, .int 0, .int 0, .int 0, .int 0, .int 0, .null])), (ce, eI G 418 (fun _ => 0)), (gv, eZ G 30 (fun _ => 0)), (dr, eI G 10 (fun _ => 0)), (go, eI G 10 (fun _ => 0)), (sa, eI G 10 (fun _ => 0))] := hD
  refine va_putF (D := G.1) (ci := 2) (v := .ref sa) (ty := .array .int) (C := RX2) (T := TX2) (N := 13) hx hb hts hinX2 tyX2 tyX2_ok nmX2 hown hK.1 hP hD hS 0 rfl rfl 12 (by decide) hw10 (fun _ h9 => h9) rfl hin rfl (by decide +kernel) rfl rfl (Nat.le_of_ble_eq_true rfl) dX2_init_42 (fun H locs hP hD hS => ?_)
  have hP : va_P G.1 vwCl [(mo, .inr (2, [.int 0, .ref ce, .ref gv, .int 0, .int 0, .ref dr, .ref go, .int 0, .int 0, .int 0, .int 0, .int 0, .ref sa])), (ce, eI G 418 (fun _ => 0)), (gv, eZ G 30 (fun _ => 0)), (dr, eI G 10 (fun _ => 0)), (go, eI G 10 (fun _ => 0)), (sa, eI G 10 (fun _ => 0))] H := hP
  have hD : va_D A [(mo, .inr (2, [.int 0, .ref ce, .ref gv, .int 0, .int 0, .ref dr, .ref go, .int 0, .int 0, .int 0, .int 0, .int 0, .ref sa])), (ce, eI G 418 (fun _ => 0)), (gv, eZ G 30 (fun _ => 0)), (dr, eI G 10 (fun _ => 0)), (go, eI G 10 (fun _ => 0)), (sa, eI G 10 (fun _ => 0))] := hD
  have hP9 := hP.sub (ws' := [(mo, .inr (2, [.int 0, .ref ce, .ref gv, .int 0, .int 0, .ref dr, .ref go, .int 0, .int 0, .int 0, .int 0, .int 0, .ref sa])), (ce, eI G 418 (fun _ => 0)), (gv, eZ G 30 (fun _ => 0)), (dr, eI G 10 (fun _ => 0)), (go, eI G 10 (fun _ => 0)), (sa, eI G 10 (fun _ => 0))]) [0, 1, 2, 3, 4, 5] rfl
  have hD9 := hD.sub (ws' := [(mo, .inr (2, [.int 0, .ref ce, .ref gv, .int 0, .int 0, .ref dr, .ref go, .int 0, .int 0, .int 0, .int 0, .int 0, .ref sa])), (ce, eI G 418 (fun _ => 0)), (gv, eZ G 30 (fun _ => 0)), (dr, eI G 10 (fun _ => 0)), (go, eI G 10 (fun _ => 0)), (sa, eI G 10 (fun _ => 0))]) [0, 1, 2, 3, 4, 5] (by decide) rfl
  exact W.vret hx hb hr (fun t ht hW => ⟨rfl, (ce, gv, dr, go, sa), by rw [ht]; exact hP9, hD9, hS.F ht⟩) hS.2.2 dX2_init_45
