abbrev rmX2_outside : Room := { frames := 0, cells := 0, slots := 0, locals := 0 }
set_option maxHeartbeats 4000000 in
set_option maxRecDepth 100000 in
theorem c_X2_outside (l : Launch) (G : Gt) (v lo hi : Int32) : Met l yX2_outside wsX2_outside rmX2_outside (ro_P G [.int v, .int lo, .int hi] []) (QcRead (outI v lo hi)) 0 0 (fun _ => False) := by
  refine Met.ofW (cc := cX2_outside) (maxL := 3) (ret := (some .boolean)) (by decide) rfl ?_
  intro p e s m args below meth c s₁ B hml hv
  obtain ⟨rfl, hP, hK⟩ := hv
  have hx := B.exec
  have hb := B.bytes
  have hr := B.returns
  have hts := atoms_spec (ws := wsX2_outside) B.pre
  have hown : s.vm.findClass RX2 = some m.cls := findClass_of_methodNamed B.named
  have hlocks := B.notSynchronized
  have hl := lv_entry ([.int v, .int lo, .int hi]) (n := 3) (Nat.le_of_ble_eq_true rfl)
  rw [lg_entry_eq]
  generalize (lg_sl ([.int v, .int lo, .int hi]) ++ List.replicate (3 - (lg_sl ([.int v, .int lo, .int hi])).length) Slot.unset).toArray = ls at hl ⊢
  have hl : lv_has ls 3 [(0, .int v), (1, .int lo), (2, .int hi)] := hl
  refine lv_iload_n hx hb dX2_outside_0 rfl (lv_at hl 0 rfl) ?_
  refine lv_iload_n hx hb dX2_outside_1 rfl (lv_at hl 1 rfl) ?_
  refine lv_icmp_lt (tgt := 10) hx hb dX2_outside_2 (by decide) (fun c_2 => ?_) (fun c_2 => ?_)
  · refine lv_iconst (v := 1) hx hb dX2_outside_10 (by decide) ?_
    refine lv_goto (tgt := 15) hx hb dX2_outside_11 (by decide) ?_
    exact W.zret (v := 1) (ty := .boolean) hx hb hr rfl (fun t ht hW => ⟨congrArg (fun z => Outcome.returned (some (Value.int z))) (by unfold outI; rw [if_pos c_2]), ht⟩) (fun _ h => nomatch h) dX2_outside_15
  · refine lv_iload_n hx hb dX2_outside_5 rfl (lv_at hl 0 rfl) ?_
    refine lv_iload_n hx hb dX2_outside_6 rfl (lv_at hl 2 rfl) ?_
    refine lv_icmp_le (tgt := 14) hx hb dX2_outside_7 (by decide) (fun c_7 => ?_) (fun c_7 => ?_)
    · refine lv_iconst (v := 0) hx hb dX2_outside_14 (by decide) ?_
      exact W.zret (v := 0) (ty := .boolean) hx hb hr rfl (fun t ht hW => ⟨congrArg (fun z => Outcome.returned (some (Value.int z))) (by unfold outI; rw [if_neg c_2, if_neg (Int32.not_lt.mpr c_7)]), ht⟩) (fun _ h => nomatch h) dX2_outside_15
    · refine lv_iconst (v := 1) hx hb dX2_outside_10 (by decide) ?_
      refine lv_goto (tgt := 15) hx hb dX2_outside_11 (by decide) ?_
      exact W.zret (v := 1) (ty := .boolean) hx hb hr rfl (fun t ht hW => ⟨congrArg (fun z => Outcome.returned (some (Value.int z))) (by unfold outI; rw [if_neg c_2, if_pos (Int32.not_le.mp c_7)]), ht⟩) (fun _ h => nomatch h) dX2_outside_15

abbrev rmX2_size : Room := { frames := 0, cells := 0, slots := 0, locals := 0 }
set_option maxHeartbeats 4000000 in
set_option maxRecDepth 100000 in
theorem c_X2_size (l : Launch) (G : Gt) (x : Int32) : Met l yX2_size wsX2_size rmX2_size (ro_P G [.int x] []) (QcRead (szI x)) 0 0 (fun _ => False) := by
  refine Met.ofW (cc := cX2_size) (maxL := 1) (ret := (some .int)) (by decide) rfl ?_
  intro p e s m args below meth c s₁ B hml hv
  obtain ⟨rfl, hP, hK⟩ := hv
  have hx := B.exec
  have hb := B.bytes
  have hr := B.returns
  have hts := atoms_spec (ws := wsX2_size) B.pre
  have hown : s.vm.findClass RX2 = some m.cls := findClass_of_methodNamed B.named
  have hlocks := B.notSynchronized
  have hl := lv_entry ([.int x]) (n := 1) (Nat.le_of_ble_eq_true rfl)
  rw [lg_entry_eq]
  generalize (lg_sl ([.int x]) ++ List.replicate (1 - (lg_sl ([.int x])).length) Slot.unset).toArray = ls at hl ⊢
  have hl : lv_has ls 1 [(0, .int x)] := hl
  refine lv_iload_n hx hb dX2_size_0 rfl (lv_at hl 0 rfl) ?_
  refine lv_if_ge (tgt := 9) hx hb dX2_size_1 (by decide) (fun c_1 => ?_) (fun c_1 => ?_)
  · refine lv_iload_n hx hb dX2_size_9 rfl (lv_at hl 0 rfl) ?_
    exact W.iret (v := x) hx hb hr (fun t ht hW => ⟨congrArg (fun z => Outcome.returned (some (Value.int z))) (by unfold szI; rw [if_neg (Int32.not_lt.mpr c_1)]), ht⟩) (fun _ h => nomatch h) dX2_size_10
  · refine lv_iload_n hx hb dX2_size_4 rfl (lv_at hl 0 rfl) ?_
    refine lv_ineg hx hb dX2_size_5 ?_
    refine lv_goto (tgt := 10) hx hb dX2_size_6 (by decide) ?_
    exact W.iret (v := -x) hx hb hr (fun t ht hW => ⟨congrArg (fun z => Outcome.returned (some (Value.int z))) (by unfold szI; rw [if_pos (Int32.not_le.mp c_1)]), ht⟩) (fun _ h => nomatch h) dX2_size_10

abbrev rmX2_thrown : Room := { frames := 0, cells := 0, slots := 0, locals := 0 }
set_option maxHeartbeats 4000000 in
set_option maxRecDepth 100000 in
theorem c_X2_thrown (l : Launch) (G : Gt) (mo ce gv dr go sa : Nat) (th st sk tk be so le an : Int32) (fc fg fd fo fs : Nat → Int32) : Met l yX2_thrown wsX2_thrown rmX2_thrown (ro_P G [.ref mo] [(mo, .inr (2, [.int th, .ref ce, .ref gv, .int st, .int sk, .ref dr, .ref go, .int tk, .int be, .int so, .int le, .int an, .ref sa])), (ce, eI G 418 fc), (gv, eZ G 30 fg), (dr, eI G 10 fd), (go, eI G 10 fo), (sa, eI G 10 fs)]) (QcRead th) 0 0 (fun _ => False) := by
  refine Met.ofW (cc := cX2_thrown) (maxL := 1) (ret := (some .int)) (by decide) rfl ?_
  intro p e s m args below meth c s₁ B hml hv
  obtain ⟨rfl, hP, hK⟩ := hv
  have hx := B.exec
  have hb := B.bytes
  have hr := B.returns
  have hts := atoms_spec (ws := wsX2_thrown) B.pre
  have hown : s.vm.findClass RX2 = some m.cls := findClass_of_methodNamed B.named
  have hlocks := B.notSynchronized
  have hinX2 : ∀ w ∈ u_ws RX2 TX2 13, w ∈ wsX2_thrown := fun w h => List.mem_cons_of_mem _ (List.mem_append_right _ h)
  have hw1 := hts (.fieldLink RX2 26 "ChoiceBoardModel" "thrown" "I") (by decide +kernel)
  have hl := lv_entry ([.ref mo]) (n := 1) (Nat.le_of_ble_eq_true rfl)
  rw [lg_entry_eq]
  generalize (lg_sl ([.ref mo]) ++ List.replicate (1 - (lg_sl ([.ref mo])).length) Slot.unset).toArray = ls at hl ⊢
  have hl : lv_has ls 1 [(0, .ref mo)] := hl
  refine lv_aload_n hx hb dX2_thrown_0 rfl (lv_at hl 0 rfl) ?_
  refine va_get (D := G.1) (ci := 2) (v := .int th) (C := RX2) (T := TX2) (N := 13) hx hb hts hinX2 hown hK.1 hP 0 rfl rfl 0 (by decide) hw1 (fun _ h9 => h9) rfl dX2_thrown_1 ?_
  exact W.iret (v := th) hx hb hr (fun t ht hW => ⟨congrArg (fun z => Outcome.returned (some (Value.int z))) (rfl), ht⟩) (fun _ h => nomatch h) dX2_thrown_4

abbrev rmX2_fails : Room := { frames := 0, cells := 0, slots := 0, locals := 0 }
set_option maxHeartbeats 4000000 in
set_option maxRecDepth 100000 in
theorem c_X2_fails (l : Launch) (G : Gt) (sz : Nat) (mo ce gv dr go sa : Nat) (th st sk tk be so le an : Int32) (fc fg fd fo fs : Nat → Int32) (x1 x2 x3 : Int32) : Met l yX2_fails wsX2_fails rmX2_fails (mu_P G sz [.ref mo, .int x1, .int x2, .int x3] [(mo, .inr (2, [.int th, .ref ce, .ref gv, .int st, .int sk, .ref dr, .ref go, .int tk, .int be, .int so, .int le, .int an, .ref sa])), (ce, eI G 418 fc), (gv, eZ G 30 fg), (dr, eI G 10 fd), (go, eI G 10 fo), (sa, eI G 10 fs)]) (mu_Q G (some (.int (cntI (flI x1 x2 x3)))) [(mo, .inr (2, [.int (flI x1 x2 x3), .ref ce, .ref gv, .int st, .int sk, .ref dr, .ref go, .int tk, .int be, .int so, .int le, .int an, .ref sa])), (ce, eI G 418 fc), (gv, eZ G 30 fg), (dr, eI G 10 fd), (go, eI G 10 fo), (sa, eI G 10 fs)] (va_A [(mo, .inr (2, [.int th, .ref ce, .ref gv, .int st, .int sk, .ref dr, .ref go, .int tk, .int be, .int so, .int le, .int an, .ref sa])), (ce, eI G 418 fc), (gv, eZ G 30 fg), (dr, eI G 10 fd), (go, eI G 10 fo), (sa, eI G 10 fs)] sz)) 0 0 (va_A [(mo, .inr (2, [.int th, .ref ce, .ref gv, .int st, .int sk, .ref dr, .ref go, .int tk, .int be, .int so, .int le, .int an, .ref sa])), (ce, eI G 418 fc), (gv, eZ G 30 fg), (dr, eI G 10 fd), (go, eI G 10 fo), (sa, eI G 10 fs)] sz) := by
  refine Met.ofW (cc := cX2_fails) (maxL := 4) (ret := (some .boolean)) (by decide) rfl ?_
  intro p e s m args below meth c s₁ B hml hv
  obtain ⟨rfl, hsz, hP, hD0, hK⟩ := hv
  have hx := B.exec
  have hb := B.bytes
  have hr := B.returns
  have hts := atoms_spec (ws := wsX2_fails) B.pre
  have hown : s.vm.findClass RX2 = some m.cls := findClass_of_methodNamed B.named
  have hlocks := B.notSynchronized
  subst hsz
  have hD := hD0.self (sz := s.heap.size)
  generalize hAe : va_A [(mo, .inr (2, [.int th, .ref ce, .ref gv, .int st, .int sk, .ref dr, .ref go, .int tk, .int be, .int so, .int le, .int an, .ref sa])), (ce, eI G 418 fc), (gv, eZ G 30 fg), (dr, eI G 10 fd), (go, eI G 10 fo), (sa, eI G 10 fs)] s.heap.size = A at hD ⊢
  have hA : ∀ q : Nat, s.heap.size ≤ q → A q := fun q h => by rw [← hAe]; exact Or.inr h
  have hS : va_S A s.heap s.heap [] := va_S.rf
  have hinX2 : ∀ w ∈ u_ws RX2 TX2 13, w ∈ wsX2_fails := fun w h => List.mem_cons_of_mem _ (List.mem_append_right _ h)
  have hw1 := hts (.fieldLink RX2 26 "ChoiceBoardModel" "thrown" "I") (by decide +kernel)
  have hl := lv_entry ([.ref mo, .int x1, .int x2, .int x3]) (n := 4) (Nat.le_of_ble_eq_true rfl)
  rw [lg_entry_eq]
  generalize (lg_sl ([.ref mo, .int x1, .int x2, .int x3]) ++ List.replicate (4 - (lg_sl ([.ref mo, .int x1, .int x2, .int x3])).length) Slot.unset).toArray = ls at hl ⊢
  have hl : lv_has ls 4 [(0, .ref mo), (1, .int x1), (2, .int x2), (3, .int x3)] := hl
  refine lv_aload_n hx hb dX2_fails_0 rfl (lv_at hl 0 rfl) ?_
  have join_26 : ∀ (t : Int32), (t = flI x1 x2 x3) → ∀ (H : Heap) (locs : List Loc), va_P G.1 vwCl [(mo, .inr (2, [.int th, .ref ce, .ref gv, .int st, .int sk, .ref dr, .ref go, .int tk, .int be, .int so, .int le, .int an, .ref sa])), (ce, eI G 418 fc), (gv, eZ G 30 fg), (dr, eI G 10 fd), (go, eI G 10 fo), (sa, eI G 10 fs)] H → va_D A [(mo, .inr (2, [.int th, .ref ce, .ref gv, .int st, .int sk, .ref dr, .ref go, .int tk, .int be, .int so, .int le, .int an, .ref sa])), (ce, eI G 418 fc), (gv, eZ G 30 fg), (dr, eI G 10 fd), (go, eI G 10 fo), (sa, eI G 10 fs)] → va_S A s.heap H locs → ∀ ls : Array Slot, lv_has ls 4 [(0, .ref mo), (1, .int x1), (2, .int x2), (3, .int x3)] → W p l e rmX2_fails s m [.ref mo, .int x1, .int x2, .int x3].toArray below meth c H locs 0 0 (MQ below (mu_Q G (some (.int (cntI (flI x1 x2 x3)))) [(mo, .inr (2, [.int (flI x1 x2 x3), .ref ce, .ref gv, .int st, .int sk, .ref dr, .ref go, .int tk, .int be, .int so, .int le, .int an, .ref sa])), (ce, eI G 418 fc), (gv, eZ G 30 fg), (dr, eI G 10 fd), (go, eI G 10 fo), (sa, eI G 10 fs)] A) [.ref mo, .int x1, .int x2, .int x3].toArray s 0 0 A) (F0 m 26 ls [.int t, .ref mo]) := by
    intro t et H locs hP hD hS ls hl
    refine va_put (D := G.1) (ci := 2) (v := .int t) (ty := .int) (C := RX2) (T := TX2) (N := 13) hx hb hts hinX2 tyX2 tyX2_ok nmX2 hown hK.1 hP hD hS 0 rfl rfl 0 (by decide) hw1 (fun _ h9 => h9) rfl (by decide +kernel) rfl rfl (Nat.le_of_ble_eq_true rfl) dX2_fails_26 (fun H locs hP hD hS => ?_)
    have hP : va_P G.1 vwCl [(mo, .inr (2, [.int t, .ref ce, .ref gv, .int st, .int sk, .ref dr, .ref go, .int tk, .int be, .int so, .int le, .int an, .ref sa])), (ce, eI G 418 fc), (gv, eZ G 30 fg), (dr, eI G 10 fd), (go, eI G 10 fo), (sa, eI G 10 fs)] H := hP
    have hD : va_D A [(mo, .inr (2, [.int t, .ref ce, .ref gv, .int st, .int sk, .ref dr, .ref go, .int tk, .int be, .int so, .int le, .int an, .ref sa])), (ce, eI G 418 fc), (gv, eZ G 30 fg), (dr, eI G 10 fd), (go, eI G 10 fo), (sa, eI G 10 fs)] := hD
    refine lv_aload_n hx hb dX2_fails_29 rfl (lv_at hl 0 rfl) ?_
    refine va_get (D := G.1) (ci := 2) (v := .int t) (C := RX2) (T := TX2) (N := 13) hx hb hts hinX2 hown hK.1 hP 0 rfl rfl 0 (by decide) hw1 (fun _ h9 => h9) rfl dX2_fails_30 ?_
    refine lv_if_le (tgt := 40) hx hb dX2_fails_33 (by decide) (fun c_33 => ?_) (fun c_33 => ?_)
    · refine lv_iconst (v := 0) hx hb dX2_fails_40 (by decide) ?_
      rw [et] at hP hD
      have hP9 := hP.sub (ws' := [(mo, .inr (2, [.int (flI x1 x2 x3), .ref ce, .ref gv, .int st, .int sk, .ref dr, .ref go, .int tk, .int be, .int so, .int le, .int an, .ref sa])), (ce, eI G 418 fc), (gv, eZ G 30 fg), (dr, eI G 10 fd), (go, eI G 10 fo), (sa, eI G 10 fs)]) [0, 1, 2, 3, 4, 5] rfl
      have hD9 := hD.sub (ws' := [(mo, .inr (2, [.int (flI x1 x2 x3), .ref ce, .ref gv, .int st, .int sk, .ref dr, .ref go, .int tk, .int be, .int so, .int le, .int an, .ref sa])), (ce, eI G 418 fc), (gv, eZ G 30 fg), (dr, eI G 10 fd), (go, eI G 10 fo), (sa, eI G 10 fs)]) [0, 1, 2, 3, 4, 5] (by decide) rfl
      exact W.zret (v := 0) (ty := .boolean) hx hb hr rfl (fun t ht hW => ⟨congrArg (fun z => Outcome.returned (some (Value.int z))) (by rw [← et]; unfold cntI; rw [if_neg (Int32.not_lt.mpr c_33)]), by rw [ht]; exact hP9, hD9, hS.F ht⟩) hS.2.2 dX2_fails_41
    · refine lv_iconst (v := 1) hx hb dX2_fails_36 (by decide) ?_
      refine lv_goto (tgt := 41) hx hb dX2_fails_37 (by decide) ?_
      rw [et] at hP hD
      have hP9 := hP.sub (ws' := [(mo, .inr (2, [.int (flI x1 x2 x3), .ref ce, .ref gv, .int st, .int sk, .ref dr, .ref go, .int tk, .int be, .int so, .int le, .int an, .ref sa])), (ce, eI G 418 fc), (gv, eZ G 30 fg), (dr, eI G 10 fd), (go, eI G 10 fo), (sa, eI G 10 fs)]) [0, 1, 2, 3, 4, 5] rfl
      have hD9 := hD.sub (ws' := [(mo, .inr (2, [.int (flI x1 x2 x3), .ref ce, .ref gv, .int st, .int sk, .ref dr, .ref go, .int tk, .int be, .int so, .int le, .int an, .ref sa])), (ce, eI G 418 fc), (gv, eZ G 30 fg), (dr, eI G 10 fd), (go, eI G 10 fo), (sa, eI G 10 fs)]) [0, 1, 2, 3, 4, 5] (by decide) rfl
      exact W.zret (v := 1) (ty := .boolean) hx hb hr rfl (fun t ht hW => ⟨congrArg (fun z => Outcome.returned (some (Value.int z))) (by rw [← et]; unfold cntI; rw [if_pos (Int32.not_le.mp c_33)]), by rw [ht]; exact hP9, hD9, hS.F ht⟩) hS.2.2 dX2_fails_41
  refine lv_iload_n hx hb dX2_fails_1 rfl (lv_at hl 1 rfl) ?_
  refine lv_if_eq (tgt := 9) hx hb dX2_fails_2 (by decide) (fun c_2 => ?_) (fun c_2 => ?_)
  · refine lv_iload_n hx hb dX2_fails_9 rfl (lv_at hl 2 rfl) ?_
    refine lv_if_eq (tgt := 17) hx hb dX2_fails_10 (by decide) (fun c_10 => ?_) (fun c_10 => ?_)
    · refine lv_iload_n hx hb dX2_fails_17 rfl (lv_at hl 3 rfl) ?_
      refine lv_if_eq (tgt := 25) hx hb dX2_fails_18 (by decide) (fun c_18 => ?_) (fun c_18 => ?_)
      · refine lv_iconst (v := 0) hx hb dX2_fails_25 (by decide) ?_
        exact join_26 _ (by unfold flI; rw [if_pos c_2, if_pos c_10, if_pos c_18]) _ _ (hP.sub [0, 1, 2, 3, 4, 5] rfl) (hD.sub [0, 1, 2, 3, 4, 5] (by decide) rfl) hS ls (lv_sub hl [0, 1, 2, 3] rfl)
      · refine lv_iconst (v := 3) hx hb dX2_fails_21 (by decide) ?_
        refine lv_goto (tgt := 26) hx hb dX2_fails_22 (by decide) ?_
        exact join_26 _ (by unfold flI; rw [if_pos c_2, if_pos c_10, if_neg c_18]) _ _ (hP.sub [0, 1, 2, 3, 4, 5] rfl) (hD.sub [0, 1, 2, 3, 4, 5] (by decide) rfl) hS ls (lv_sub hl [0, 1, 2, 3] rfl)
    · refine lv_iconst (v := 2) hx hb dX2_fails_13 (by decide) ?_
      refine lv_goto (tgt := 26) hx hb dX2_fails_14 (by decide) ?_
      exact join_26 _ (by unfold flI; rw [if_pos c_2, if_neg c_10]) _ _ (hP.sub [0, 1, 2, 3, 4, 5] rfl) (hD.sub [0, 1, 2, 3, 4, 5] (by decide) rfl) hS ls (lv_sub hl [0, 1, 2, 3] rfl)
  · refine lv_iconst (v := 1) hx hb dX2_fails_5 (by decide) ?_
    refine lv_goto (tgt := 26) hx hb dX2_fails_6 (by decide) ?_
    exact join_26 _ (by unfold flI; rw [if_neg c_2]) _ _ (hP.sub [0, 1, 2, 3, 4, 5] rfl) (hD.sub [0, 1, 2, 3, 4, 5] (by decide) rfl) hS ls (lv_sub hl [0, 1, 2, 3] rfl)

abbrev rmX2_sizes : Room := { frames := 1, cells := 0, slots := 0, locals := 20 }
set_option maxHeartbeats 4000000 in
set_option maxRecDepth 100000 in
theorem c_X2_sizes (l : Launch) (G : Gt) (mo ce gv dr go sa : Nat) (th st sk tk be so le an : Int32) (fc fg fd fo fs : Nat → Int32) (x : Int32) (r : Nat) (ex : x = nI r) (hr : r < 38) : Met l yX2_sizes wsX2_sizes rmX2_sizes (ro_P G [.ref mo, .int x] [(mo, .inr (2, [.int th, .ref ce, .ref gv, .int st, .int sk, .ref dr, .ref go, .int tk, .int be, .int so, .int le, .int an, .ref sa])), (ce, eI G 418 fc), (gv, eZ G 30 fg), (dr, eI G 10 fd), (go, eI G 10 fo), (sa, eI G 10 fs)]) (QcRead (szM fc r)) 0 0 (fun _ => False) := by
  refine Met.ofW (cc := cX2_sizes) (maxL := 4) (ret := (some .int)) (by decide) rfl ?_
  intro p e s m args below meth c s₁ B hml hv
  obtain ⟨rfl, hP, hK⟩ := hv
  have hx := B.exec
  have hb := B.bytes
  have hr := B.returns
  have hts := atoms_spec (ws := wsX2_sizes) B.pre
  have hown : s.vm.findClass RX2 = some m.cls := findClass_of_methodNamed B.named
  have hlocks := B.notSynchronized
  have hinX2 : ∀ w ∈ u_ws RX2 TX2 13, w ∈ wsX2_sizes := fun w h => List.mem_cons_of_mem _ (List.mem_append_right _ h)
  have hw1 := hts (.fieldLink RX2 7 "ChoiceBoardModel" "cell" "[I") (by decide +kernel)
  have hl := lv_entry ([.ref mo, .int x]) (n := 4) (Nat.le_of_ble_eq_true rfl)
  rw [lg_entry_eq]
  generalize (lg_sl ([.ref mo, .int x]) ++ List.replicate (4 - (lg_sl ([.ref mo, .int x])).length) Slot.unset).toArray = ls at hl ⊢
  have hl : lv_has ls 4 [(0, .ref mo), (1, .int x)] := hl
  refine lv_iconst (v := 0) hx hb dX2_sizes_0 (by decide) ?_
  refine lv_istore_n (lv' := [(2, .int 0), (0, .ref mo), (1, .int x)]) hx hb dX2_sizes_1 rfl hl (by decide) rfl (fun ls hl => ?_)
  refine lv_iconst (v := 0) hx hb dX2_sizes_2 (by decide) ?_
  refine lv_istore_n (lv' := [(3, .int 0), (2, .int 0), (0, .ref mo), (1, .int x)]) hx hb dX2_sizes_3 rfl hl (by decide) rfl (fun ls hl => ?_)
  have loop_4 : ∀ (n_4 i : Nat) (xs xi : Int32), i ≤ 10 → 10 + 1 ≤ i + n_4 → (xs = sg 0 (fun v => szI (fc (11 * r + v))) i) → (xi = nI i) → ∀ ls : Array Slot, lv_has ls 4 [(0, .ref mo), (1, .int x), (2, .int xs), (3, .int xi)] → W p l e rmX2_sizes s m [.ref mo, .int x].toArray below meth c s.heap [] 0 0 (MQ below (QcRead (szM fc r)) [.ref mo, .int x].toArray s 0 0 (fun _ => False)) (F0 m 4 ls []) := by
    intro n_4
    induction n_4 with
    | zero => intro i xs xi h1 h2; exact absurd h2 (by omega)
    | succ n_4 ih_4 =>
      intro i xs xi hi_4 hn_4 es ei ls hl
      refine lv_iload_n hx hb dX2_sizes_4 rfl (lv_at hl 3 rfl) ?_
      refine lv_bipush (v := 10) hx hb dX2_sizes_5 (by decide) ?_
      refine lv_icmp_ge (tgt := 33) hx hb dX2_sizes_7 (by decide) (fun c_7 => ?_) (fun c_7 => ?_)
      · have hN : i = 10 := ge_ix ei (by decide) (by decide) c_7 hi_4
        refine lv_iload_n hx hb dX2_sizes_33 rfl (lv_at hl 2 rfl) ?_
        exact W.iret (v := xs) hx hb hr (fun t ht hW => ⟨congrArg (fun z => Outcome.returned (some (Value.int z))) (by rw [es, hN]; rfl), ht⟩) (fun _ h => nomatch h) dX2_sizes_34
      · have hlt : i < 10 := lt_ix ei (by decide) (by decide) c_7 hi_4
        refine lv_iload_n hx hb dX2_sizes_10 rfl (lv_at hl 2 rfl) ?_
        refine lv_aload_n hx hb dX2_sizes_11 rfl (lv_at hl 0 rfl) ?_
        refine va_get (D := G.1) (ci := 2) (v := .ref ce) (C := RX2) (T := TX2) (N := 13) hx hb hts hinX2 hown hK.1 hP 0 rfl rfl 1 (by decide) hw1 (fun _ h9 => h9) rfl dX2_sizes_12 ?_
        refine lv_bipush (v := 11) hx hb dX2_sizes_15 (by decide) ?_
        refine lv_iload_n hx hb dX2_sizes_17 rfl (lv_at hl 1 rfl) ?_
        refine lv_imul hx hb dX2_sizes_18 ?_
        refine lv_iload_n hx hb dX2_sizes_19 rfl (lv_at hl 3 rfl) ?_
        refine lv_iadd hx hb dX2_sizes_20 ?_
        refine ra_iald (f := fc) (v := ((11 * r) + i)) hx hb hK.1 hP 1 0 rfl rfl (na_add (na_mul (by decide) ex) ei) (by omega) (by decide) dX2_sizes_21 ?_
        refine ro_call (va_runS (As := [.int (fc ((11 * r) + i))]) (rest := [.int xs]) ⟨hx, hb, hml, hown, hts⟩ (c_X2_size l G (fc ((11 * r) + i))) (va_cwS 1 hts gX2_sizes_X2_size rfl rfl rfl (by decide +kernel) ⟨Nat.le_of_ble_eq_true rfl, Nat.le_of_ble_eq_true rfl⟩) ⟨ro_blind, ro_pre _ (hP.sub [] rfl) hK⟩ rfl rfl hl.1 rfl (lv_room (Nat.le_of_ble_eq_true rfl)) dX2_sizes_22 ⟨Nat.le_refl _, Nat.le_refl _⟩) ?_
        refine lv_iadd hx hb dX2_sizes_25 ?_
        refine lv_istore_n (lv' := [(2, .int (xs + (szI (fc ((11 * r) + i))))), (0, .ref mo), (1, .int x), (3, .int xi)]) hx hb dX2_sizes_26 rfl hl (by decide) rfl (fun ls hl => ?_)
        refine lv_iinc (v := xi + 1) (lv' := [(3, .int (xi + 1)), (2, .int (xs + (szI (fc ((11 * r) + i))))), (0, .ref mo), (1, .int x)]) hx hb dX2_sizes_27 hl (k := 3) rfl rfl (by decide) rfl (fun ls hl => ?_)
        refine lv_goto (tgt := 4) hx hb dX2_sizes_30 (by decide) ?_
        exact ih_4 (i + 1) _ _ (by omega) (by omega) (by rw [es]; rfl) (by rw [ei]; exact nI_1 i) ls (lv_sub hl [2, 3, 1, 0] rfl)
  exact loop_4 (10 + 1) 0 _ _ (Nat.zero_le _) (by omega) (by rfl) (by exact nI_0.symm) ls (lv_sub hl [2, 3, 1, 0] rfl)

abbrev rmX2_copy : Room := { frames := 0, cells := 0, slots := 0, locals := 0 }
set_option maxHeartbeats 4000000 in
set_option maxRecDepth 100000 in
theorem c_X2_copy (l : Launch) (G : Gt) (sz : Nat) (mo ce gv dr go sa : Nat) (th st sk tk be so le an : Int32) (fc fg fd fo fs : Nat → Int32) (x : Int32) (r : Nat) (ex : x = nI r) (hr : r < 38) (y : Int32) (t : Nat) (ey : y = nI t) (ht : t < 38) (hrt : r ≠ t) : Met l yX2_copy wsX2_copy rmX2_copy (mu_P G sz [.ref mo, .int x, .int y] [(mo, .inr (2, [.int th, .ref ce, .ref gv, .int st, .int sk, .ref dr, .ref go, .int tk, .int be, .int so, .int le, .int an, .ref sa])), (ce, eI G 418 fc), (gv, eZ G 30 fg), (dr, eI G 10 fd), (go, eI G 10 fo), (sa, eI G 10 fs)]) (mu_Q G none [(mo, .inr (2, [.int th, .ref ce, .ref gv, .int st, .int sk, .ref dr, .ref go, .int tk, .int be, .int so, .int le, .int an, .ref sa])), (ce, eI G 418 (cpy11 fc r t)), (gv, eZ G 30 fg), (dr, eI G 10 fd), (go, eI G 10 fo), (sa, eI G 10 fs)] (va_A [(mo, .inr (2, [.int th, .ref ce, .ref gv, .int st, .int sk, .ref dr, .ref go, .int tk, .int be, .int so, .int le, .int an, .ref sa])), (ce, eI G 418 fc), (gv, eZ G 30 fg), (dr, eI G 10 fd), (go, eI G 10 fo), (sa, eI G 10 fs)] sz)) 0 0 (va_A [(mo, .inr (2, [.int th, .ref ce, .ref gv, .int st, .int sk, .ref dr, .ref go, .int tk, .int be, .int so, .int le, .int an, .ref sa])), (ce, eI G 418 fc), (gv, eZ G 30 fg), (dr, eI G 10 fd), (go, eI G 10 fo), (sa, eI G 10 fs)] sz) := by
  refine Met.ofW (cc := cX2_copy) (maxL := 4) (ret := none) (by decide) rfl ?_
  intro p e s m args below meth c s₁ B hml hv
  obtain ⟨rfl, hsz, hP, hD0, hK⟩ := hv
  have hx := B.exec
  have hb := B.bytes
  have hr := B.returns
  have hts := atoms_spec (ws := wsX2_copy) B.pre
  have hown : s.vm.findClass RX2 = some m.cls := findClass_of_methodNamed B.named
  have hlocks := B.notSynchronized
  subst hsz
  have hD := hD0.self (sz := s.heap.size)
  generalize hAe : va_A [(mo, .inr (2, [.int th, .ref ce, .ref gv, .int st, .int sk, .ref dr, .ref go, .int tk, .int be, .int so, .int le, .int an, .ref sa])), (ce, eI G 418 fc), (gv, eZ G 30 fg), (dr, eI G 10 fd), (go, eI G 10 fo), (sa, eI G 10 fs)] s.heap.size = A at hD ⊢
  have hA : ∀ q : Nat, s.heap.size ≤ q → A q := fun q h => by rw [← hAe]; exact Or.inr h
  have hS : va_S A s.heap s.heap [] := va_S.rf
  have hinX2 : ∀ w ∈ u_ws RX2 TX2 13, w ∈ wsX2_copy := fun w h => List.mem_cons_of_mem _ (List.mem_append_right _ h)
  have hw1 := hts (.fieldLink RX2 7 "ChoiceBoardModel" "cell" "[I") (by decide +kernel)
  have hl := lv_entry ([.ref mo, .int x, .int y]) (n := 4) (Nat.le_of_ble_eq_true rfl)
  rw [lg_entry_eq]
  generalize (lg_sl ([.ref mo, .int x, .int y]) ++ List.replicate (4 - (lg_sl ([.ref mo, .int x, .int y])).length) Slot.unset).toArray = ls at hl ⊢
  have hl : lv_has ls 4 [(0, .ref mo), (1, .int x), (2, .int y)] := hl
  refine lv_iconst (v := 0) hx hb dX2_copy_0 (by decide) ?_
  refine lv_istore_n (lv' := [(3, .int 0), (0, .ref mo), (1, .int x), (2, .int y)]) hx hb dX2_copy_1 rfl hl (by decide) rfl (fun ls hl => ?_)
  have loop_2 : ∀ (n_2 i : Nat) (xi : Int32) (h : Nat → Int32), i ≤ 11 → 11 + 1 ≤ i + n_2 → (xi = nI i) → (h = seg (11 * t) i (fun v => fc (11 * r + v)) fc) → ∀ (H : Heap) (locs : List Loc), va_P G.1 vwCl [(mo, .inr (2, [.int th, .ref ce, .ref gv, .int st, .int sk, .ref dr, .ref go, .int tk, .int be, .int so, .int le, .int an, .ref sa])), (ce, eI G 418 h), (gv, eZ G 30 fg), (dr, eI G 10 fd), (go, eI G 10 fo), (sa, eI G 10 fs)] H → va_D A [(mo, .inr (2, [.int th, .ref ce, .ref gv, .int st, .int sk, .ref dr, .ref go, .int tk, .int be, .int so, .int le, .int an, .ref sa])), (ce, eI G 418 h), (gv, eZ G 30 fg), (dr, eI G 10 fd), (go, eI G 10 fo), (sa, eI G 10 fs)] → va_S A s.heap H locs → ∀ ls : Array Slot, lv_has ls 4 [(0, .ref mo), (1, .int x), (2, .int y), (3, .int xi)] → W p l e rmX2_copy s m [.ref mo, .int x, .int y].toArray below meth c H locs 0 0 (MQ below (mu_Q G none [(mo, .inr (2, [.int th, .ref ce, .ref gv, .int st, .int sk, .ref dr, .ref go, .int tk, .int be, .int so, .int le, .int an, .ref sa])), (ce, eI G 418 (cpy11 fc r t)), (gv, eZ G 30 fg), (dr, eI G 10 fd), (go, eI G 10 fo), (sa, eI G 10 fs)] A) [.ref mo, .int x, .int y].toArray s 0 0 A) (F0 m 2 ls []) := by
    intro n_2
    induction n_2 with
    | zero => intro i xi h h1 h2; exact absurd h2 (by omega)
    | succ n_2 ih_2 =>
      intro i xi h hi_2 hn_2 ei eh H locs hP hD hS ls hl
      refine lv_iload_n hx hb dX2_copy_2 rfl (lv_at hl 3 rfl) ?_
      refine lv_bipush (v := 11) hx hb dX2_copy_3 (by decide) ?_
      refine lv_icmp_ge (tgt := 36) hx hb dX2_copy_5 (by decide) (fun c_5 => ?_) (fun c_5 => ?_)
      · have hN : i = 11 := ge_ix ei (by decide) (by decide) c_5 hi_2
        rw [eh, hN] at hP hD
        have hP9 := hP.sub (ws' := [(mo, .inr (2, [.int th, .ref ce, .ref gv, .int st, .int sk, .ref dr, .ref go, .int tk, .int be, .int so, .int le, .int an, .ref sa])), (ce, eI G 418 (cpy11 fc r t)), (gv, eZ G 30 fg), (dr, eI G 10 fd), (go, eI G 10 fo), (sa, eI G 10 fs)]) [0, 1, 2, 3, 4, 5] rfl
        have hD9 := hD.sub (ws' := [(mo, .inr (2, [.int th, .ref ce, .ref gv, .int st, .int sk, .ref dr, .ref go, .int tk, .int be, .int so, .int le, .int an, .ref sa])), (ce, eI G 418 (cpy11 fc r t)), (gv, eZ G 30 fg), (dr, eI G 10 fd), (go, eI G 10 fo), (sa, eI G 10 fs)]) [0, 1, 2, 3, 4, 5] (by decide) rfl
        exact W.vret hx hb hr (fun t ht hW => ⟨rfl, by rw [ht]; exact hP9, hD9, hS.F ht⟩) hS.2.2 dX2_copy_36
      · have hlt : i < 11 := lt_ix ei (by decide) (by decide) c_5 hi_2
        refine lv_aload_n hx hb dX2_copy_8 rfl (lv_at hl 0 rfl) ?_
        refine va_get (D := G.1) (ci := 2) (v := .ref ce) (C := RX2) (T := TX2) (N := 13) hx hb hts hinX2 hown hK.1 hP 0 rfl rfl 1 (by decide) hw1 (fun _ h9 => h9) rfl dX2_copy_9 ?_
        refine lv_bipush (v := 11) hx hb dX2_copy_12 (by decide) ?_
        refine lv_iload_n hx hb dX2_copy_14 rfl (lv_at hl 2 rfl) ?_
        refine lv_imul hx hb dX2_copy_15 ?_
        refine lv_iload_n hx hb dX2_copy_16 rfl (lv_at hl 3 rfl) ?_
        refine lv_iadd hx hb dX2_copy_17 ?_
        refine lv_aload_n hx hb dX2_copy_18 rfl (lv_at hl 0 rfl) ?_
        refine va_get (D := G.1) (ci := 2) (v := .ref ce) (C := RX2) (T := TX2) (N := 13) hx hb hts hinX2 hown hK.1 hP 0 rfl rfl 1 (by decide) hw1 (fun _ h9 => h9) rfl dX2_copy_19 ?_
        refine lv_bipush (v := 11) hx hb dX2_copy_22 (by decide) ?_
        refine lv_iload_n hx hb dX2_copy_24 rfl (lv_at hl 1 rfl) ?_
        refine lv_imul hx hb dX2_copy_25 ?_
        refine lv_iload_n hx hb dX2_copy_26 rfl (lv_at hl 3 rfl) ?_
        refine lv_iadd hx hb dX2_copy_27 ?_
        refine ra_iald (f := h) (v := ((11 * r) + i)) hx hb hK.1 hP 1 0 rfl rfl (na_add (na_mul (by decide) ex) ei) (by omega) (by decide) dX2_copy_28 ?_
        refine ra_iast (v := ((11 * t) + i)) hx hb hK.1 hP hD hS 1 0 rfl rfl (na_add (na_mul (by decide) ey) ei) (by omega) (by decide) dX2_copy_29 (fun H locs hP hD hS => ?_)
        have hP : va_P G.1 vwCl [(mo, .inr (2, [.int th, .ref ce, .ref gv, .int st, .int sk, .ref dr, .ref go, .int tk, .int be, .int so, .int le, .int an, .ref sa])), (ce, eI G 418 (upd h ((11 * t) + i) (h ((11 * r) + i)))), (gv, eZ G 30 fg), (dr, eI G 10 fd), (go, eI G 10 fo), (sa, eI G 10 fs)] H := hP
        have hD : va_D A [(mo, .inr (2, [.int th, .ref ce, .ref gv, .int st, .int sk, .ref dr, .ref go, .int tk, .int be, .int so, .int le, .int an, .ref sa])), (ce, eI G 418 (upd h ((11 * t) + i) (h ((11 * r) + i)))), (gv, eZ G 30 fg), (dr, eI G 10 fd), (go, eI G 10 fo), (sa, eI G 10 fs)] := hD
        refine lv_iinc (v := xi + 1) (lv' := [(3, .int (xi + 1)), (0, .ref mo), (1, .int x), (2, .int y)]) hx hb dX2_copy_30 hl (k := 3) rfl rfl (by decide) rfl (fun ls hl => ?_)
        refine lv_goto (tgt := 2) hx hb dX2_copy_33 (by decide) ?_
        exact ih_2 (i + 1) _ _ (by omega) (by omega) (by rw [ei]; exact nI_1 i) (by rw [eh, seg_out (b := 11 * t) (n := i) (j := 11 * r + i) _ _ (by omega)]; exact seg_s (11 * t) i (fun v => fc (11 * r + v)) fc) _ _ (hP.sub [0, 1, 2, 3, 4, 5] rfl) (hD.sub [0, 1, 2, 3, 4, 5] (by decide) rfl) hS ls (lv_sub hl [1, 2, 3, 0] rfl)
  exact loop_2 (11 + 1) 0 _ _ (Nat.zero_le _) (by omega) (by exact nI_0.symm) (by exact (seg_0 _ _ _).symm) _ _ (hP.sub [0, 1, 2, 3, 4, 5] rfl) (hD.sub [0, 1, 2, 3, 4, 5] (by decide) rfl) hS ls (lv_sub hl [1, 2, 3, 0] rfl)

abbrev rmX2_empty : Room := { frames := 0, cells := 0, slots := 0, locals := 0 }
set_option maxHeartbeats 4000000 in
set_option maxRecDepth 100000 in
theorem c_X2_empty (l : Launch) (G : Gt) (sz : Nat) (mo ce gv dr go sa : Nat) (th st sk tk be so le an : Int32) (fc fg fd fo fs : Nat → Int32) : Met l yX2_empty wsX2_empty rmX2_empty (mu_P G sz [.ref mo] [(mo, .inr (2, [.int th, .ref ce, .ref gv, .int st, .int sk, .ref dr, .ref go, .int tk, .int be, .int so, .int le, .int an, .ref sa])), (ce, eI G 418 fc), (gv, eZ G 30 fg), (dr, eI G 10 fd), (go, eI G 10 fo), (sa, eI G 10 fs)]) (mu_Q G none [(mo, .inr (2, [.int th, .ref ce, .ref gv, .int st, .int sk, .ref dr, .ref go, .int tk, .int be, .int so, .int le, .int an, .ref sa])), (ce, eI G 418 fc), (gv, eZ G 30 fg), (dr, eI G 10 (mixf 10 (fun _ => 0) fd)), (go, eI G 10 fo), (sa, eI G 10 fs)] (va_A [(mo, .inr (2, [.int th, .ref ce, .ref gv, .int st, .int sk, .ref dr, .ref go, .int tk, .int be, .int so, .int le, .int an, .ref sa])), (ce, eI G 418 fc), (gv, eZ G 30 fg), (dr, eI G 10 fd), (go, eI G 10 fo), (sa, eI G 10 fs)] sz)) 0 0 (va_A [(mo, .inr (2, [.int th, .ref ce, .ref gv, .int st, .int sk, .ref dr, .ref go, .int tk, .int be, .int so, .int le, .int an, .ref sa])), (ce, eI G 418 fc), (gv, eZ G 30 fg), (dr, eI G 10 fd), (go, eI G 10 fo), (sa, eI G 10 fs)] sz) := by
  refine Met.ofW (cc := cX2_empty) (maxL := 2) (ret := none) (by decide) rfl ?_
  intro p e s m args below meth c s₁ B hml hv
  obtain ⟨rfl, hsz, hP, hD0, hK⟩ := hv
  have hx := B.exec
  have hb := B.bytes
  have hr := B.returns
  have hts := atoms_spec (ws := wsX2_empty) B.pre
  have hown : s.vm.findClass RX2 = some m.cls := findClass_of_methodNamed B.named
  have hlocks := B.notSynchronized
  subst hsz
  have hD := hD0.self (sz := s.heap.size)
  generalize hAe : va_A [(mo, .inr (2, [.int th, .ref ce, .ref gv, .int st, .int sk, .ref dr, .ref go, .int tk, .int be, .int so, .int le, .int an, .ref sa])), (ce, eI G 418 fc), (gv, eZ G 30 fg), (dr, eI G 10 fd), (go, eI G 10 fo), (sa, eI G 10 fs)] s.heap.size = A at hD ⊢
  have hA : ∀ q : Nat, s.heap.size ≤ q → A q := fun q h => by rw [← hAe]; exact Or.inr h
  have hS : va_S A s.heap s.heap [] := va_S.rf
  have hinX2 : ∀ w ∈ u_ws RX2 TX2 13, w ∈ wsX2_empty := fun w h => List.mem_cons_of_mem _ (List.mem_append_right _ h)
  have hw1 := hts (.fieldLink RX2 17 "ChoiceBoardModel" "draft" "[I") (by decide +kernel)
  have hl := lv_entry ([.ref mo]) (n := 2) (Nat.le_of_ble_eq_true rfl)
  rw [lg_entry_eq]
  generalize (lg_sl ([.ref mo]) ++ List.replicate (2 - (lg_sl ([.ref mo])).length) Slot.unset).toArray = ls at hl ⊢
  have hl : lv_has ls 2 [(0, .ref mo)] := hl
  refine lv_iconst (v := 0) hx hb dX2_empty_0 (by decide) ?_
  refine lv_istore_n (lv' := [(1, .int 0), (0, .ref mo)]) hx hb dX2_empty_1 rfl hl (by decide) rfl (fun ls hl => ?_)
  have loop_2 : ∀ (n_2 i : Nat) (xi : Int32) (h : Nat → Int32), i ≤ 10 → 10 + 1 ≤ i + n_2 → (xi = nI i) → (h = mixf i (fun _ => 0) fd) → ∀ (H : Heap) (locs : List Loc), va_P G.1 vwCl [(mo, .inr (2, [.int th, .ref ce, .ref gv, .int st, .int sk, .ref dr, .ref go, .int tk, .int be, .int so, .int le, .int an, .ref sa])), (ce, eI G 418 fc), (gv, eZ G 30 fg), (dr, eI G 10 h), (go, eI G 10 fo), (sa, eI G 10 fs)] H → va_D A [(mo, .inr (2, [.int th, .ref ce, .ref gv, .int st, .int sk, .ref dr, .ref go, .int tk, .int be, .int so, .int le, .int an, .ref sa])), (ce, eI G 418 fc), (gv, eZ G 30 fg), (dr, eI G 10 h), (go, eI G 10 fo), (sa, eI G 10 fs)] → va_S A s.heap H locs → ∀ ls : Array Slot, lv_has ls 2 [(0, .ref mo), (1, .int xi)] → W p l e rmX2_empty s m [.ref mo].toArray below meth c H locs 0 0 (MQ below (mu_Q G none [(mo, .inr (2, [.int th, .ref ce, .ref gv, .int st, .int sk, .ref dr, .ref go, .int tk, .int be, .int so, .int le, .int an, .ref sa])), (ce, eI G 418 fc), (gv, eZ G 30 fg), (dr, eI G 10 (mixf 10 (fun _ => 0) fd)), (go, eI G 10 fo), (sa, eI G 10 fs)] A) [.ref mo].toArray s 0 0 A) (F0 m 2 ls []) := by
    intro n_2
    induction n_2 with
    | zero => intro i xi h h1 h2; exact absurd h2 (by omega)
    | succ n_2 ih_2 =>
      intro i xi h hi_2 hn_2 ei eh H locs hP hD hS ls hl
      refine lv_iload_n hx hb dX2_empty_2 rfl (lv_at hl 1 rfl) ?_
      refine lv_bipush (v := 10) hx hb dX2_empty_3 (by decide) ?_
      refine lv_icmp_ge (tgt := 21) hx hb dX2_empty_5 (by decide) (fun c_5 => ?_) (fun c_5 => ?_)
      · have hN : i = 10 := ge_ix ei (by decide) (by decide) c_5 hi_2
        rw [eh, hN] at hP hD
        have hP9 := hP.sub (ws' := [(mo, .inr (2, [.int th, .ref ce, .ref gv, .int st, .int sk, .ref dr, .ref go, .int tk, .int be, .int so, .int le, .int an, .ref sa])), (ce, eI G 418 fc), (gv, eZ G 30 fg), (dr, eI G 10 (mixf 10 (fun _ => 0) fd)), (go, eI G 10 fo), (sa, eI G 10 fs)]) [0, 1, 2, 3, 4, 5] rfl
        have hD9 := hD.sub (ws' := [(mo, .inr (2, [.int th, .ref ce, .ref gv, .int st, .int sk, .ref dr, .ref go, .int tk, .int be, .int so, .int le, .int an, .ref sa])), (ce, eI G 418 fc), (gv, eZ G 30 fg), (dr, eI G 10 (mixf 10 (fun _ => 0) fd)), (go, eI G 10 fo), (sa, eI G 10 fs)]) [0, 1, 2, 3, 4, 5] (by decide) rfl
        exact W.vret hx hb hr (fun t ht hW => ⟨rfl, by rw [ht]; exact hP9, hD9, hS.F ht⟩) hS.2.2 dX2_empty_21
      · have hlt : i < 10 := lt_ix ei (by decide) (by decide) c_5 hi_2
        refine lv_aload_n hx hb dX2_empty_8 rfl (lv_at hl 0 rfl) ?_
        refine va_get (D := G.1) (ci := 2) (v := .ref dr) (C := RX2) (T := TX2) (N := 13) hx hb hts hinX2 hown hK.1 hP 0 rfl rfl 5 (by decide) hw1 (fun _ h9 => h9) rfl dX2_empty_9 ?_
        refine lv_iload_n hx hb dX2_empty_12 rfl (lv_at hl 1 rfl) ?_
        refine lv_iconst (v := 0) hx hb dX2_empty_13 (by decide) ?_
        refine ra_iast (v := i) hx hb hK.1 hP hD hS 3 0 rfl rfl ei (by omega) (by decide) dX2_empty_14 (fun H locs hP hD hS => ?_)
        have hP : va_P G.1 vwCl [(mo, .inr (2, [.int th, .ref ce, .ref gv, .int st, .int sk, .ref dr, .ref go, .int tk, .int be, .int so, .int le, .int an, .ref sa])), (ce, eI G 418 fc), (gv, eZ G 30 fg), (dr, eI G 10 (upd h i 0)), (go, eI G 10 fo), (sa, eI G 10 fs)] H := hP
        have hD : va_D A [(mo, .inr (2, [.int th, .ref ce, .ref gv, .int st, .int sk, .ref dr, .ref go, .int tk, .int be, .int so, .int le, .int an, .ref sa])), (ce, eI G 418 fc), (gv, eZ G 30 fg), (dr, eI G 10 (upd h i 0)), (go, eI G 10 fo), (sa, eI G 10 fs)] := hD
        refine lv_iinc (v := xi + 1) (lv' := [(1, .int (xi + 1)), (0, .ref mo)]) hx hb dX2_empty_15 hl (k := 1) rfl rfl (by decide) rfl (fun ls hl => ?_)
        refine lv_goto (tgt := 2) hx hb dX2_empty_18 (by decide) ?_
        exact ih_2 (i + 1) _ _ (by omega) (by omega) (by rw [ei]; exact nI_1 i) (by rw [eh]; exact mixf_s i (fun _ => 0) fd) _ _ (hP.sub [0, 1, 2, 3, 4, 5] rfl) (hD.sub [0, 1, 2, 3, 4, 5] (by decide) rfl) hS ls (lv_sub hl [1, 0] rfl)
  exact loop_2 (10 + 1) 0 _ _ (Nat.zero_le _) (by omega) (by exact nI_0.symm) (by exact (mixf_0 _ _).symm) _ _ (hP.sub [0, 1, 2, 3, 4, 5] rfl) (hD.sub [0, 1, 2, 3, 4, 5] (by decide) rfl) hS ls (lv_sub hl [1, 0] rfl)

abbrev rmX2_normalize_d : Room := { frames := 0, cells := 0, slots := 0, locals := 0 }
set_option maxHeartbeats 4000000 in
set_option maxRecDepth 100000 in
theorem c_X2_normalize_d (l : Launch) (G : Gt) (sz : Nat) (mo ce gv dr go sa : Nat) (th st sk tk be so le an : Int32) (fc fg fd fo fs : Nat → Int32) (y sn b : Int32) (hy : y = 0) : Met l yX2_normalize wsX2_normalize rmX2_normalize_d (mu_P G sz [.ref mo, .int y, .int sn, .int b] [(mo, .inr (2, [.int th, .ref ce, .ref gv, .int st, .int sk, .ref dr, .ref go, .int tk, .int be, .int so, .int le, .int an, .ref sa])), (ce, eI G 418 fc), (gv, eZ G 30 fg), (dr, eI G 10 fd), (go, eI G 10 fo), (sa, eI G 10 fs)]) (mu_Q G none [(mo, .inr (2, [.int th, .ref ce, .ref gv, .int st, .int sk, .ref dr, .ref go, .int tk, .int be, .int so, .int le, .int an, .ref sa])), (ce, eI G 418 (nmC fc fd sn b)), (gv, eZ G 30 fg), (dr, eI G 10 fd), (go, eI G 10 fo), (sa, eI G 10 fs)] (va_A [(mo, .inr (2, [.int th, .ref ce, .ref gv, .int st, .int sk, .ref dr, .ref go, .int tk, .int be, .int so, .int le, .int an, .ref sa])), (ce, eI G 418 fc), (gv, eZ G 30 fg), (dr, eI G 10 fd), (go, eI G 10 fo), (sa, eI G 10 fs)] sz)) 0 0 (va_A [(mo, .inr (2, [.int th, .ref ce, .ref gv, .int st, .int sk, .ref dr, .ref go, .int tk, .int be, .int so, .int le, .int an, .ref sa])), (ce, eI G 418 fc), (gv, eZ G 30 fg), (dr, eI G 10 fd), (go, eI G 10 fo), (sa, eI G 10 fs)] sz) := by
  refine Met.ofW (cc := cX2_normalize) (maxL := 7) (ret := none) (by decide) rfl ?_
  intro p e s m args below meth c s₁ B hml hv
  obtain ⟨rfl, hsz, hP, hD0, hK⟩ := hv
  have hx := B.exec
  have hb := B.bytes
  have hr := B.returns
  have hts := atoms_spec (ws := wsX2_normalize) B.pre
  have hown : s.vm.findClass RX2 = some m.cls := findClass_of_methodNamed B.named
  have hlocks := B.notSynchronized
  subst hsz
  have hD := hD0.self (sz := s.heap.size)
  generalize hAe : va_A [(mo, .inr (2, [.int th, .ref ce, .ref gv, .int st, .int sk, .ref dr, .ref go, .int tk, .int be, .int so, .int le, .int an, .ref sa])), (ce, eI G 418 fc), (gv, eZ G 30 fg), (dr, eI G 10 fd), (go, eI G 10 fo), (sa, eI G 10 fs)] s.heap.size = A at hD ⊢
  have hA : ∀ q : Nat, s.heap.size ≤ q → A q := fun q h => by rw [← hAe]; exact Or.inr h
  have hS : va_S A s.heap s.heap [] := va_S.rf
  have hinX2 : ∀ w ∈ u_ws RX2 TX2 13, w ∈ wsX2_normalize := fun w h => List.mem_cons_of_mem _ (List.mem_append_right _ h)
  have hw1 := hts (.fieldLink RX2 7 "ChoiceBoardModel" "cell" "[I") (by decide +kernel)
  have hw2 := hts (.fieldLink RX2 17 "ChoiceBoardModel" "draft" "[I") (by decide +kernel)
  have hl := lv_entry ([.ref mo, .int y, .int sn, .int b]) (n := 7) (Nat.le_of_ble_eq_true rfl)
  rw [lg_entry_eq]
  generalize (lg_sl ([.ref mo, .int y, .int sn, .int b]) ++ List.replicate (7 - (lg_sl ([.ref mo, .int y, .int sn, .int b])).length) Slot.unset).toArray = ls at hl ⊢
  have hl : lv_has ls 7 [(0, .ref mo), (1, .int y), (2, .int sn), (3, .int b)] := hl
  refine lv_iload_n hx hb dX2_normalize_0 rfl (lv_at hl 3 rfl) ?_
  refine lv_istore (lv' := [(4, .int b), (0, .ref mo), (1, .int y), (2, .int sn), (3, .int b)]) hx hb dX2_normalize_1 hl (by decide) rfl (fun ls hl => ?_)
  refine lv_iconst (v := 0) hx hb dX2_normalize_3 (by decide) ?_
  refine lv_istore (lv' := [(5, .int 0), (4, .int b), (0, .ref mo), (1, .int y), (2, .int sn), (3, .int b)]) hx hb dX2_normalize_4 hl (by decide) rfl (fun ls hl => ?_)
  have loop_6 : ∀ (n_6 i : Nat) (xi xs : Int32) (h : Nat → Int32), i ≤ 10 → 10 + 1 ≤ i + n_6 → (xi = nI i) → (xs = sg b (nmT fd sn) i) → (h = seg 396 i (fun v => sn * fd v) fc) → ∀ (H : Heap) (locs : List Loc), va_P G.1 vwCl [(mo, .inr (2, [.int th, .ref ce, .ref gv, .int st, .int sk, .ref dr, .ref go, .int tk, .int be, .int so, .int le, .int an, .ref sa])), (ce, eI G 418 h), (gv, eZ G 30 fg), (dr, eI G 10 fd), (go, eI G 10 fo), (sa, eI G 10 fs)] H → va_D A [(mo, .inr (2, [.int th, .ref ce, .ref gv, .int st, .int sk, .ref dr, .ref go, .int tk, .int be, .int so, .int le, .int an, .ref sa])), (ce, eI G 418 h), (gv, eZ G 30 fg), (dr, eI G 10 fd), (go, eI G 10 fo), (sa, eI G 10 fs)] → va_S A s.heap H locs → ∀ ls : Array Slot, lv_has ls 7 [(0, .ref mo), (1, .int y), (2, .int sn), (4, .int xs), (5, .int xi)] → W p l e rmX2_normalize_d s m [.ref mo, .int y, .int sn, .int b].toArray below meth c H locs 0 0 (MQ below (mu_Q G none [(mo, .inr (2, [.int th, .ref ce, .ref gv, .int st, .int sk, .ref dr, .ref go, .int tk, .int be, .int so, .int le, .int an, .ref sa])), (ce, eI G 418 (nmC fc fd sn b)), (gv, eZ G 30 fg), (dr, eI G 10 fd), (go, eI G 10 fo), (sa, eI G 10 fs)] A) [.ref mo, .int y, .int sn, .int b].toArray s 0 0 A) (F0 m 6 ls []) := by
    intro n_6
    induction n_6 with
    | zero => intro i xi xs h h1 h2; exact absurd h2 (by omega)
    | succ n_6 ih_6 =>
      intro i xi xs h hi_6 hn_6 ei es eh H locs hP hD hS ls hl
      refine lv_iload hx hb dX2_normalize_6 (lv_at hl 4 rfl) ?_
      refine lv_bipush (v := 10) hx hb dX2_normalize_8 (by decide) ?_
      refine lv_icmp_ge (tgt := 74) hx hb dX2_normalize_10 (by decide) (fun c_10 => ?_) (fun c_10 => ?_)
      · have hN : i = 10 := ge_ix ei (by decide) (by decide) c_10 hi_6
        refine lv_aload_n hx hb dX2_normalize_74 rfl (lv_at hl 0 rfl) ?_
        refine va_get (D := G.1) (ci := 2) (v := .ref ce) (C := RX2) (T := TX2) (N := 13) hx hb hts hinX2 hown hK.1 hP 0 rfl rfl 1 (by decide) hw1 (fun _ h9 => h9) rfl dX2_normalize_75 ?_
        refine lv_sipush (v := 406) hx hb dX2_normalize_78 (by decide) ?_
        refine lv_iload hx hb dX2_normalize_81 (lv_at hl 3 rfl) ?_
        refine lv_if_ge (tgt := 90) hx hb dX2_normalize_83 (by decide) (fun c_83 => ?_) (fun c_83 => ?_)
        · refine lv_iload hx hb dX2_normalize_90 (lv_at hl 3 rfl) ?_
          refine ra_iast (v := 406) hx hb hK.1 hP hD hS 1 0 rfl rfl (by decide) (by omega) (by decide) dX2_normalize_92 (fun H locs hP hD hS => ?_)
          have hP : va_P G.1 vwCl [(mo, .inr (2, [.int th, .ref ce, .ref gv, .int st, .int sk, .ref dr, .ref go, .int tk, .int be, .int so, .int le, .int an, .ref sa])), (ce, eI G 418 (upd h 406 xs)), (gv, eZ G 30 fg), (dr, eI G 10 fd), (go, eI G 10 fo), (sa, eI G 10 fs)] H := hP
          have hD : va_D A [(mo, .inr (2, [.int th, .ref ce, .ref gv, .int st, .int sk, .ref dr, .ref go, .int tk, .int be, .int so, .int le, .int an, .ref sa])), (ce, eI G 418 (upd h 406 xs)), (gv, eZ G 30 fg), (dr, eI G 10 fd), (go, eI G 10 fo), (sa, eI G 10 fs)] := hD
          have eA92 : upd h 406 xs = nmC fc fd sn b := by unfold nmC nmD cl0; rw [← hN, ← es, ← eh, if_neg (Int32.not_lt.mpr c_83)]
          rw [eA92] at hP hD
          have hP9 := hP.sub (ws' := [(mo, .inr (2, [.int th, .ref ce, .ref gv, .int st, .int sk, .ref dr, .ref go, .int tk, .int be, .int so, .int le, .int an, .ref sa])), (ce, eI G 418 (nmC fc fd sn b)), (gv, eZ G 30 fg), (dr, eI G 10 fd), (go, eI G 10 fo), (sa, eI G 10 fs)]) [0, 1, 2, 3, 4, 5] rfl
          have hD9 := hD.sub (ws' := [(mo, .inr (2, [.int th, .ref ce, .ref gv, .int st, .int sk, .ref dr, .ref go, .int tk, .int be, .int so, .int le, .int an, .ref sa])), (ce, eI G 418 (nmC fc fd sn b)), (gv, eZ G 30 fg), (dr, eI G 10 fd), (go, eI G 10 fo), (sa, eI G 10 fs)]) [0, 1, 2, 3, 4, 5] (by decide) rfl
          exact W.vret hx hb hr (fun t ht hW => ⟨rfl, by rw [ht]; exact hP9, hD9, hS.F ht⟩) hS.2.2 dX2_normalize_93
        · refine lv_iconst (v := 0) hx hb dX2_normalize_86 (by decide) ?_
          refine lv_goto (tgt := 92) hx hb dX2_normalize_87 (by decide) ?_
          refine ra_iast (v := 406) hx hb hK.1 hP hD hS 1 0 rfl rfl (by decide) (by omega) (by decide) dX2_normalize_92 (fun H locs hP hD hS => ?_)
          have hP : va_P G.1 vwCl [(mo, .inr (2, [.int th, .ref ce, .ref gv, .int st, .int sk, .ref dr, .ref go, .int tk, .int be, .int so, .int le, .int an, .ref sa])), (ce, eI G 418 (upd h 406 0)), (gv, eZ G 30 fg), (dr, eI G 10 fd), (go, eI G 10 fo), (sa, eI G 10 fs)] H := hP
          have hD : va_D A [(mo, .inr (2, [.int th, .ref ce, .ref gv, .int st, .int sk, .ref dr, .ref go, .int tk, .int be, .int so, .int le, .int an, .ref sa])), (ce, eI G 418 (upd h 406 0)), (gv, eZ G 30 fg), (dr, eI G 10 fd), (go, eI G 10 fo), (sa, eI G 10 fs)] := hD
          have eA92 : upd h 406 0 = nmC fc fd sn b := by unfold nmC nmD cl0; rw [← hN, ← es, ← eh, if_pos (Int32.not_le.mp c_83)]
          rw [eA92] at hP hD
          have hP9 := hP.sub (ws' := [(mo, .inr (2, [.int th, .ref ce, .ref gv, .int st, .int sk, .ref dr, .ref go, .int tk, .int be, .int so, .int le, .int an, .ref sa])), (ce, eI G 418 (nmC fc fd sn b)), (gv, eZ G 30 fg), (dr, eI G 10 fd), (go, eI G 10 fo), (sa, eI G 10 fs)]) [0, 1, 2, 3, 4, 5] rfl
          have hD9 := hD.sub (ws' := [(mo, .inr (2, [.int th, .ref ce, .ref gv, .int st, .int sk, .ref dr, .ref go, .int tk, .int be, .int so, .int le, .int an, .ref sa])), (ce, eI G 418 (nmC fc fd sn b)), (gv, eZ G 30 fg), (dr, eI G 10 fd), (go, eI G 10 fo), (sa, eI G 10 fs)]) [0, 1, 2, 3, 4, 5] (by decide) rfl
          exact W.vret hx hb hr (fun t ht hW => ⟨rfl, by rw [ht]; exact hP9, hD9, hS.F ht⟩) hS.2.2 dX2_normalize_93
      · have hlt : i < 10 := lt_ix ei (by decide) (by decide) c_10 hi_6
        refine lv_iload_n hx hb dX2_normalize_13 rfl (lv_at hl 2 rfl) ?_
        refine lv_iload_n hx hb dX2_normalize_14 rfl (lv_at hl 1 rfl) ?_
        refine lv_if_eq (tgt := 28) hx hb dX2_normalize_15 (by decide) (fun c_15 => ?_) (fun c_15 => ?_)
        · refine lv_aload_n hx hb dX2_normalize_28 rfl (lv_at hl 0 rfl) ?_
          refine va_get (D := G.1) (ci := 2) (v := .ref dr) (C := RX2) (T := TX2) (N := 13) hx hb hts hinX2 hown hK.1 hP 0 rfl rfl 5 (by decide) hw2 (fun _ h9 => h9) rfl dX2_normalize_29 ?_
          refine lv_iload hx hb dX2_normalize_32 (lv_at hl 4 rfl) ?_
          refine ra_iald (f := fd) (v := i) hx hb hK.1 hP 3 0 rfl rfl ei (by omega) (by decide) dX2_normalize_34 ?_
          refine lv_imul hx hb dX2_normalize_35 ?_
          refine lv_istore (lv' := [(6, .int (sn * (fd i))), (0, .ref mo), (1, .int y), (2, .int sn), (4, .int xs), (5, .int xi)]) hx hb dX2_normalize_36 hl (by decide) rfl (fun ls hl => ?_)
          refine lv_aload_n hx hb dX2_normalize_38 rfl (lv_at hl 1 rfl) ?_
          refine va_get (D := G.1) (ci := 2) (v := .ref ce) (C := RX2) (T := TX2) (N := 13) hx hb hts hinX2 hown hK.1 hP 0 rfl rfl 1 (by decide) hw1 (fun _ h9 => h9) rfl dX2_normalize_39 ?_
          refine lv_sipush (v := 396) hx hb dX2_normalize_42 (by decide) ?_
          refine lv_iload hx hb dX2_normalize_45 (lv_at hl 5 rfl) ?_
          refine lv_iadd hx hb dX2_normalize_47 ?_
          refine lv_iload hx hb dX2_normalize_48 (lv_at hl 0 rfl) ?_
          refine ra_iast (v := (396 + i)) hx hb hK.1 hP hD hS 1 0 rfl rfl (na_add (by decide) ei) (by omega) (by decide) dX2_normalize_50 (fun H locs hP hD hS => ?_)
          have hP : va_P G.1 vwCl [(mo, .inr (2, [.int th, .ref ce, .ref gv, .int st, .int sk, .ref dr, .ref go, .int tk, .int be, .int so, .int le, .int an, .ref sa])), (ce, eI G 418 (upd h (396 + i) (sn * (fd i)))), (gv, eZ G 30 fg), (dr, eI G 10 fd), (go, eI G 10 fo), (sa, eI G 10 fs)] H := hP
          have hD : va_D A [(mo, .inr (2, [.int th, .ref ce, .ref gv, .int st, .int sk, .ref dr, .ref go, .int tk, .int be, .int so, .int le, .int an, .ref sa])), (ce, eI G 418 (upd h (396 + i) (sn * (fd i)))), (gv, eZ G 30 fg), (dr, eI G 10 fd), (go, eI G 10 fo), (sa, eI G 10 fs)] := hD
          have eA50 : upd h (396 + i) (sn * (fd i)) = seg 396 (i + 1) (fun v => sn * fd v) fc := by rw [eh]; exact seg_s 396 i (fun v => sn * fd v) fc
          rw [eA50] at hP hD
          refine lv_iload hx hb dX2_normalize_51 (lv_at hl 4 rfl) ?_
          refine lv_iload hx hb dX2_normalize_53 (lv_at hl 0 rfl) ?_
          refine lv_if_ge (tgt := 64) hx hb dX2_normalize_55 (by decide) (fun c_55 => ?_) (fun c_55 => ?_)
          · refine lv_iconst (v := 0) hx hb dX2_normalize_64 (by decide) ?_
            refine lv_iadd hx hb dX2_normalize_65 ?_
            refine lv_istore (lv' := [(4, .int (xs + 0)), (6, .int (sn * (fd i))), (0, .ref mo), (1, .int y), (2, .int sn), (5, .int xi)]) hx hb dX2_normalize_66 hl (by decide) rfl (fun ls hl => ?_)
            refine lv_iinc (v := xi + 1) (lv' := [(5, .int (xi + 1)), (4, .int (xs + 0)), (6, .int (sn * (fd i))), (0, .ref mo), (1, .int y), (2, .int sn)]) hx hb dX2_normalize_68 hl (k := 5) rfl rfl (by decide) rfl (fun ls hl => ?_)
            refine lv_goto (tgt := 6) hx hb dX2_normalize_71 (by decide) ?_
            exact ih_6 (i + 1) _ _ _ (by omega) (by omega) (by rw [ei]; exact nI_1 i) (by rw [sg_s, es]; unfold nmT; rw [if_neg (Int32.not_lt.mpr c_55)]) (by rfl) _ _ (hP.sub [0, 1, 2, 3, 4, 5] rfl) (hD.sub [0, 1, 2, 3, 4, 5] (by decide) rfl) hS ls (lv_sub hl [3, 4, 5, 1, 0] rfl)
          · refine lv_iload hx hb dX2_normalize_58 (lv_at hl 0 rfl) ?_
            refine lv_ineg hx hb dX2_normalize_60 ?_
            refine lv_goto (tgt := 65) hx hb dX2_normalize_61 (by decide) ?_
            refine lv_iadd hx hb dX2_normalize_65 ?_
            refine lv_istore (lv' := [(4, .int (xs + (-(sn * (fd i))))), (6, .int (sn * (fd i))), (0, .ref mo), (1, .int y), (2, .int sn), (5, .int xi)]) hx hb dX2_normalize_66 hl (by decide) rfl (fun ls hl => ?_)
            refine lv_iinc (v := xi + 1) (lv' := [(5, .int (xi + 1)), (4, .int (xs + (-(sn * (fd i))))), (6, .int (sn * (fd i))), (0, .ref mo), (1, .int y), (2, .int sn)]) hx hb dX2_normalize_68 hl (k := 5) rfl rfl (by decide) rfl (fun ls hl => ?_)
            refine lv_goto (tgt := 6) hx hb dX2_normalize_71 (by decide) ?_
            exact ih_6 (i + 1) _ _ _ (by omega) (by omega) (by rw [ei]; exact nI_1 i) (by rw [sg_s, es]; unfold nmT; rw [if_pos (Int32.not_le.mp c_55)]) (by rfl) _ _ (hP.sub [0, 1, 2, 3, 4, 5] rfl) (hD.sub [0, 1, 2, 3, 4, 5] (by decide) rfl) hS ls (lv_sub hl [3, 4, 5, 1, 0] rfl)
        · exact absurd hy c_15
  exact loop_6 (10 + 1) 0 _ _ _ (Nat.zero_le _) (by omega) (by exact nI_0.symm) (by rfl) (by exact (seg_0 _ _ _).symm) _ _ (hP.sub [0, 1, 2, 3, 4, 5] rfl) (hD.sub [0, 1, 2, 3, 4, 5] (by decide) rfl) hS ls (lv_sub hl [2, 3, 4, 1, 0] rfl)

abbrev rmX2_normalize_g : Room := { frames := 0, cells := 0, slots := 0, locals := 0 }
set_option maxHeartbeats 4000000 in
set_option maxRecDepth 100000 in
theorem c_X2_normalize_g (l : Launch) (G : Gt) (sz : Nat) (mo ce gv dr go sa : Nat) (th st sk tk be so le an : Int32) (fc fg fd fo fs : Nat → Int32) (y sn b : Int32) (hy : ¬ y = 0) : Met l yX2_normalize wsX2_normalize rmX2_normalize_g (mu_P G sz [.ref mo, .int y, .int sn, .int b] [(mo, .inr (2, [.int th, .ref ce, .ref gv, .int st, .int sk, .ref dr, .ref go, .int tk, .int be, .int so, .int le, .int an, .ref sa])), (ce, eI G 418 fc), (gv, eZ G 30 fg), (dr, eI G 10 fd), (go, eI G 10 fo), (sa, eI G 10 fs)]) (mu_Q G none [(mo, .inr (2, [.int th, .ref ce, .ref gv, .int st, .int sk, .ref dr, .ref go, .int tk, .int be, .int so, .int le, .int an, .ref sa])), (ce, eI G 418 (nmC fc fo sn b)), (gv, eZ G 30 fg), (dr, eI G 10 fd), (go, eI G 10 fo), (sa, eI G 10 fs)] (va_A [(mo, .inr (2, [.int th, .ref ce, .ref gv, .int st, .int sk, .ref dr, .ref go, .int tk, .int be, .int so, .int le, .int an, .ref sa])), (ce, eI G 418 fc), (gv, eZ G 30 fg), (dr, eI G 10 fd), (go, eI G 10 fo), (sa, eI G 10 fs)] sz)) 0 0 (va_A [(mo, .inr (2, [.int th, .ref ce, .ref gv, .int st, .int sk, .ref dr, .ref go, .int tk, .int be, .int so, .int le, .int an, .ref sa])), (ce, eI G 418 fc), (gv, eZ G 30 fg), (dr, eI G 10 fd), (go, eI G 10 fo), (sa, eI G 10 fs)] sz) := by
  refine Met.ofW (cc := cX2_normalize) (maxL := 7) (ret := none) (by decide) rfl ?_
  intro p e s m args below meth c s₁ B hml hv
  obtain ⟨rfl, hsz, hP, hD0, hK⟩ := hv
  have hx := B.exec
  have hb := B.bytes
  have hr := B.returns
  have hts := atoms_spec (ws := wsX2_normalize) B.pre
  have hown : s.vm.findClass RX2 = some m.cls := findClass_of_methodNamed B.named
  have hlocks := B.notSynchronized
  subst hsz
  have hD := hD0.self (sz := s.heap.size)
  generalize hAe : va_A [(mo, .inr (2, [.int th, .ref ce, .ref gv, .int st, .int sk, .ref dr, .ref go, .int tk, .int be, .int so, .int le, .int an, .ref sa])), (ce, eI G 418 fc), (gv, eZ G 30 fg), (dr, eI G 10 fd), (go, eI G 10 fo), (sa, eI G 10 fs)] s.heap.size = A at hD ⊢
  have hA : ∀ q : Nat, s.heap.size ≤ q → A q := fun q h => by rw [← hAe]; exact Or.inr h
  have hS : va_S A s.heap s.heap [] := va_S.rf
  have hinX2 : ∀ w ∈ u_ws RX2 TX2 13, w ∈ wsX2_normalize := fun w h => List.mem_cons_of_mem _ (List.mem_append_right _ h)
  have hw1 := hts (.fieldLink RX2 7 "ChoiceBoardModel" "cell" "[I") (by decide +kernel)
  have hw2 := hts (.fieldLink RX2 20 "ChoiceBoardModel" "goal" "[I") (by decide +kernel)
  have hl := lv_entry ([.ref mo, .int y, .int sn, .int b]) (n := 7) (Nat.le_of_ble_eq_true rfl)
  rw [lg_entry_eq]
  generalize (lg_sl ([.ref mo, .int y, .int sn, .int b]) ++ List.replicate (7 - (lg_sl ([.ref mo, .int y, .int sn, .int b])).length) Slot.unset).toArray = ls at hl ⊢
  have hl : lv_has ls 7 [(0, .ref mo), (1, .int y), (2, .int sn), (3, .int b)] := hl
  refine lv_iload_n hx hb dX2_normalize_0 rfl (lv_at hl 3 rfl) ?_
  refine lv_istore (lv' := [(4, .int b), (0, .ref mo), (1, .int y), (2, .int sn), (3, .int b)]) hx hb dX2_normalize_1 hl (by decide) rfl (fun ls hl => ?_)
  refine lv_iconst (v := 0) hx hb dX2_normalize_3 (by decide) ?_
  refine lv_istore (lv' := [(5, .int 0), (4, .int b), (0, .ref mo), (1, .int y), (2, .int sn), (3, .int b)]) hx hb dX2_normalize_4 hl (by decide) rfl (fun ls hl => ?_)
  have loop_6 : ∀ (n_6 i : Nat) (xi xs : Int32) (h : Nat → Int32), i ≤ 10 → 10 + 1 ≤ i + n_6 → (xi = nI i) → (xs = sg b (nmT fo sn) i) → (h = seg 396 i (fun v => sn * fo v) fc) → ∀ (H : Heap) (locs : List Loc), va_P G.1 vwCl [(mo, .inr (2, [.int th, .ref ce, .ref gv, .int st, .int sk, .ref dr, .ref go, .int tk, .int be, .int so, .int le, .int an, .ref sa])), (ce, eI G 418 h), (gv, eZ G 30 fg), (dr, eI G 10 fd), (go, eI G 10 fo), (sa, eI G 10 fs)] H → va_D A [(mo, .inr (2, [.int th, .ref ce, .ref gv, .int st, .int sk, .ref dr, .ref go, .int tk, .int be, .int so, .int le, .int an, .ref sa])), (ce, eI G 418 h), (gv, eZ G 30 fg), (dr, eI G 10 fd), (go, eI G 10 fo), (sa, eI G 10 fs)] → va_S A s.heap H locs → ∀ ls : Array Slot, lv_has ls 7 [(0, .ref mo), (1, .int y), (2, .int sn), (4, .int xs), (5, .int xi)] → W p l e rmX2_normalize_g s m [.ref mo, .int y, .int sn, .int b].toArray below meth c H locs 0 0 (MQ below (mu_Q G none [(mo, .inr (2, [.int th, .ref ce, .ref gv, .int st, .int sk, .ref dr, .ref go, .int tk, .int be, .int so, .int le, .int an, .ref sa])), (ce, eI G 418 (nmC fc fo sn b)), (gv, eZ G 30 fg), (dr, eI G 10 fd), (go, eI G 10 fo), (sa, eI G 10 fs)] A) [.ref mo, .int y, .int sn, .int b].toArray s 0 0 A) (F0 m 6 ls []) := by
    intro n_6
    induction n_6 with
    | zero => intro i xi xs h h1 h2; exact absurd h2 (by omega)
    | succ n_6 ih_6 =>
      intro i xi xs h hi_6 hn_6 ei es eh H locs hP hD hS ls hl
      refine lv_iload hx hb dX2_normalize_6 (lv_at hl 4 rfl) ?_
      refine lv_bipush (v := 10) hx hb dX2_normalize_8 (by decide) ?_
      refine lv_icmp_ge (tgt := 74) hx hb dX2_normalize_10 (by decide) (fun c_10 => ?_) (fun c_10 => ?_)
      · have hN : i = 10 := ge_ix ei (by decide) (by decide) c_10 hi_6
        refine lv_aload_n hx hb dX2_normalize_74 rfl (lv_at hl 0 rfl) ?_
        refine va_get (D := G.1) (ci := 2) (v := .ref ce) (C := RX2) (T := TX2) (N := 13) hx hb hts hinX2 hown hK.1 hP 0 rfl rfl 1 (by decide) hw1 (fun _ h9 => h9) rfl dX2_normalize_75 ?_
        refine lv_sipush (v := 406) hx hb dX2_normalize_78 (by decide) ?_
        refine lv_iload hx hb dX2_normalize_81 (lv_at hl 3 rfl) ?_
        refine lv_if_ge (tgt := 90) hx hb dX2_normalize_83 (by decide) (fun c_83 => ?_) (fun c_83 => ?_)
        · refine lv_iload hx hb dX2_normalize_90 (lv_at hl 3 rfl) ?_
          refine ra_iast (v := 406) hx hb hK.1 hP hD hS 1 0 rfl rfl (by decide) (by omega) (by decide) dX2_normalize_92 (fun H locs hP hD hS => ?_)
          have hP : va_P G.1 vwCl [(mo, .inr (2, [.int th, .ref ce, .ref gv, .int st, .int sk, .ref dr, .ref go, .int tk, .int be, .int so, .int le, .int an, .ref sa])), (ce, eI G 418 (upd h 406 xs)), (gv, eZ G 30 fg), (dr, eI G 10 fd), (go, eI G 10 fo), (sa, eI G 10 fs)] H := hP
          have hD : va_D A [(mo, .inr (2, [.int th, .ref ce, .ref gv, .int st, .int sk, .ref dr, .ref go, .int tk, .int be, .int so, .int le, .int an, .ref sa])), (ce, eI G 418 (upd h 406 xs)), (gv, eZ G 30 fg), (dr, eI G 10 fd), (go, eI G 10 fo), (sa, eI G 10 fs)] := hD
          have eA92 : upd h 406 xs = nmC fc fo sn b := by unfold nmC nmD cl0; rw [← hN, ← es, ← eh, if_neg (Int32.not_lt.mpr c_83)]
          rw [eA92] at hP hD
          have hP9 := hP.sub (ws' := [(mo, .inr (2, [.int th, .ref ce, .ref gv, .int st, .int sk, .ref dr, .ref go, .int tk, .int be, .int so, .int le, .int an, .ref sa])), (ce, eI G 418 (nmC fc fo sn b)), (gv, eZ G 30 fg), (dr, eI G 10 fd), (go, eI G 10 fo), (sa, eI G 10 fs)]) [0, 1, 2, 3, 4, 5] rfl
          have hD9 := hD.sub (ws' := [(mo, .inr (2, [.int th, .ref ce, .ref gv, .int st, .int sk, .ref dr, .ref go, .int tk, .int be, .int so, .int le, .int an, .ref sa])), (ce, eI G 418 (nmC fc fo sn b)), (gv, eZ G 30 fg), (dr, eI G 10 fd), (go, eI G 10 fo), (sa, eI G 10 fs)]) [0, 1, 2, 3, 4, 5] (by decide) rfl
          exact W.vret hx hb hr (fun t ht hW => ⟨rfl, by rw [ht]; exact hP9, hD9, hS.F ht⟩) hS.2.2 dX2_normalize_93
        · refine lv_iconst (v := 0) hx hb dX2_normalize_86 (by decide) ?_
          refine lv_goto (tgt := 92) hx hb dX2_normalize_87 (by decide) ?_
          refine ra_iast (v := 406) hx hb hK.1 hP hD hS 1 0 rfl rfl (by decide) (by omega) (by decide) dX2_normalize_92 (fun H locs hP hD hS => ?_)
          have hP : va_P G.1 vwCl [(mo, .inr (2, [.int th, .ref ce, .ref gv, .int st, .int sk, .ref dr, .ref go, .int tk, .int be, .int so, .int le, .int an, .ref sa])), (ce, eI G 418 (upd h 406 0)), (gv, eZ G 30 fg), (dr, eI G 10 fd), (go, eI G 10 fo), (sa, eI G 10 fs)] H := hP
          have hD : va_D A [(mo, .inr (2, [.int th, .ref ce, .ref gv, .int st, .int sk, .ref dr, .ref go, .int tk, .int be, .int so, .int le, .int an, .ref sa])), (ce, eI G 418 (upd h 406 0)), (gv, eZ G 30 fg), (dr, eI G 10 fd), (go, eI G 10 fo), (sa, eI G 10 fs)] := hD
          have eA92 : upd h 406 0 = nmC fc fo sn b := by unfold nmC nmD cl0; rw [← hN, ← es, ← eh, if_pos (Int32.not_le.mp c_83)]
          rw [eA92] at hP hD
          have hP9 := hP.sub (ws' := [(mo, .inr (2, [.int th, .ref ce, .ref gv, .int st, .int sk, .ref dr, .ref go, .int tk, .int be, .int so, .int le, .int an, .ref sa])), (ce, eI G 418 (nmC fc fo sn b)), (gv, eZ G 30 fg), (dr, eI G 10 fd), (go, eI G 10 fo), (sa, eI G 10 fs)]) [0, 1, 2, 3, 4, 5] rfl
          have hD9 := hD.sub (ws' := [(mo, .inr (2, [.int th, .ref ce, .ref gv, .int st, .int sk, .ref dr, .ref go, .int tk, .int be, .int so, .int le, .int an, .ref sa])), (ce, eI G 418 (nmC fc fo sn b)), (gv, eZ G 30 fg), (dr, eI G 10 fd), (go, eI G 10 fo), (sa, eI G 10 fs)]) [0, 1, 2, 3, 4, 5] (by decide) rfl
          exact W.vret hx hb hr (fun t ht hW => ⟨rfl, by rw [ht]; exact hP9, hD9, hS.F ht⟩) hS.2.2 dX2_normalize_93
      · have hlt : i < 10 := lt_ix ei (by decide) (by decide) c_10 hi_6
        refine lv_iload_n hx hb dX2_normalize_13 rfl (lv_at hl 2 rfl) ?_
        refine lv_iload_n hx hb dX2_normalize_14 rfl (lv_at hl 1 rfl) ?_
        refine lv_if_eq (tgt := 28) hx hb dX2_normalize_15 (by decide) (fun c_15 => ?_) (fun c_15 => ?_)
        · exact absurd c_15 hy
        · refine lv_aload_n hx hb dX2_normalize_18 rfl (lv_at hl 0 rfl) ?_
          refine va_get (D := G.1) (ci := 2) (v := .ref go) (C := RX2) (T := TX2) (N := 13) hx hb hts hinX2 hown hK.1 hP 0 rfl rfl 6 (by decide) hw2 (fun _ h9 => h9) rfl dX2_normalize_19 ?_
          refine lv_iload hx hb dX2_normalize_22 (lv_at hl 4 rfl) ?_
          refine ra_iald (f := fo) (v := i) hx hb hK.1 hP 4 0 rfl rfl ei (by omega) (by decide) dX2_normalize_24 ?_
          refine lv_goto (tgt := 35) hx hb dX2_normalize_25 (by decide) ?_
          refine lv_imul hx hb dX2_normalize_35 ?_
          refine lv_istore (lv' := [(6, .int (sn * (fo i))), (0, .ref mo), (1, .int y), (2, .int sn), (4, .int xs), (5, .int xi)]) hx hb dX2_normalize_36 hl (by decide) rfl (fun ls hl => ?_)
          refine lv_aload_n hx hb dX2_normalize_38 rfl (lv_at hl 1 rfl) ?_
          refine va_get (D := G.1) (ci := 2) (v := .ref ce) (C := RX2) (T := TX2) (N := 13) hx hb hts hinX2 hown hK.1 hP 0 rfl rfl 1 (by decide) hw1 (fun _ h9 => h9) rfl dX2_normalize_39 ?_
          refine lv_sipush (v := 396) hx hb dX2_normalize_42 (by decide) ?_
          refine lv_iload hx hb dX2_normalize_45 (lv_at hl 5 rfl) ?_
          refine lv_iadd hx hb dX2_normalize_47 ?_
          refine lv_iload hx hb dX2_normalize_48 (lv_at hl 0 rfl) ?_
          refine ra_iast (v := (396 + i)) hx hb hK.1 hP hD hS 1 0 rfl rfl (na_add (by decide) ei) (by omega) (by decide) dX2_normalize_50 (fun H locs hP hD hS => ?_)
          have hP : va_P G.1 vwCl [(mo, .inr (2, [.int th, .ref ce, .ref gv, .int st, .int sk, .ref dr, .ref go, .int tk, .int be, .int so, .int le, .int an, .ref sa])), (ce, eI G 418 (upd h (396 + i) (sn * (fo i)))), (gv, eZ G 30 fg), (dr, eI G 10 fd), (go, eI G 10 fo), (sa, eI G 10 fs)] H := hP
          have hD : va_D A [(mo, .inr (2, [.int th, .ref ce, .ref gv, .int st, .int sk, .ref dr, .ref go, .int tk, .int be, .int so, .int le, .int an, .ref sa])), (ce, eI G 418 (upd h (396 + i) (sn * (fo i)))), (gv, eZ G 30 fg), (dr, eI G 10 fd), (go, eI G 10 fo), (sa, eI G 10 fs)] := hD
          have eA50 : upd h (396 + i) (sn * (fo i)) = seg 396 (i + 1) (fun v => sn * fo v) fc := by rw [eh]; exact seg_s 396 i (fun v => sn * fo v) fc
          rw [eA50] at hP hD
          refine lv_iload hx hb dX2_normalize_51 (lv_at hl 4 rfl) ?_
          refine lv_iload hx hb dX2_normalize_53 (lv_at hl 0 rfl) ?_
          refine lv_if_ge (tgt := 64) hx hb dX2_normalize_55 (by decide) (fun c_55 => ?_) (fun c_55 => ?_)
          · refine lv_iconst (v := 0) hx hb dX2_normalize_64 (by decide) ?_
            refine lv_iadd hx hb dX2_normalize_65 ?_
            refine lv_istore (lv' := [(4, .int (xs + 0)), (6, .int (sn * (fo i))), (0, .ref mo), (1, .int y), (2, .int sn), (5, .int xi)]) hx hb dX2_normalize_66 hl (by decide) rfl (fun ls hl => ?_)
            refine lv_iinc (v := xi + 1) (lv' := [(5, .int (xi + 1)), (4, .int (xs + 0)), (6, .int (sn * (fo i))), (0, .ref mo), (1, .int y), (2, .int sn)]) hx hb dX2_normalize_68 hl (k := 5) rfl rfl (by decide) rfl (fun ls hl => ?_)
            refine lv_goto (tgt := 6) hx hb dX2_normalize_71 (by decide) ?_
            exact ih_6 (i + 1) _ _ _ (by omega) (by omega) (by rw [ei]; exact nI_1 i) (by rw [sg_s, es]; unfold nmT; rw [if_neg (Int32.not_lt.mpr c_55)]) (by rfl) _ _ (hP.sub [0, 1, 2, 3, 4, 5] rfl) (hD.sub [0, 1, 2, 3, 4, 5] (by decide) rfl) hS ls (lv_sub hl [3, 4, 5, 1, 0] rfl)
          · refine lv_iload hx hb dX2_normalize_58 (lv_at hl 0 rfl) ?_
            refine lv_ineg hx hb dX2_normalize_60 ?_
            refine lv_goto (tgt := 65) hx hb dX2_normalize_61 (by decide) ?_
            refine lv_iadd hx hb dX2_normalize_65 ?_
            refine lv_istore (lv' := [(4, .int (xs + (-(sn * (fo i))))), (6, .int (sn * (fo i))), (0, .ref mo), (1, .int y), (2, .int sn), (5, .int xi)]) hx hb dX2_normalize_66 hl (by decide) rfl (fun ls hl => ?_)
            refine lv_iinc (v := xi + 1) (lv' := [(5, .int (xi + 1)), (4, .int (xs + (-(sn * (fo i))))), (6, .int (sn * (fo i))), (0, .ref mo), (1, .int y), (2, .int sn)]) hx hb dX2_normalize_68 hl (k := 5) rfl rfl (by decide) rfl (fun ls hl => ?_)
            refine lv_goto (tgt := 6) hx hb dX2_normalize_71 (by decide) ?_
            exact ih_6 (i + 1) _ _ _ (by omega) (by omega) (by rw [ei]; exact nI_1 i) (by rw [sg_s, es]; unfold nmT; rw [if_pos (Int32.not_le.mp c_55)]) (by rfl) _ _ (hP.sub [0, 1, 2, 3, 4, 5] rfl) (hD.sub [0, 1, 2, 3, 4, 5] (by decide) rfl) hS ls (lv_sub hl [3, 4, 5, 1, 0] rfl)
  exact loop_6 (10 + 1) 0 _ _ _ (Nat.zero_le _) (by omega) (by exact nI_0.symm) (by rfl) (by exact (seg_0 _ _ _).symm) _ _ (hP.sub [0, 1, 2, 3, 4, 5] rfl) (hD.sub [0, 1, 2, 3, 4, 5] (by decide) rfl) hS ls (lv_sub hl [2, 3, 4, 1, 0] rfl)

abbrev rmX2_keep : Room := { frames := 1, cells := 0, slots := 0, locals := 23 }
set_option maxHeartbeats 4000000 in
set_option maxRecDepth 100000 in
theorem c_X2_keep (l : Launch) (G : Gt) (sz : Nat) (mo ce gv dr go sa : Nat) (th st sk tk be so le an : Int32) (fc fg fd fo fs : Nat → Int32) (x : Int32) (r : Nat) (ex : x = nI r) (hr : r < 38) (y : Int32) (hy : vp_nar .boolean y = y) (k : Nat) (est : st = nI k) (hk : k < 30) (hrk : r ≠ k) : Met l yX2_keep wsX2_keep rmX2_keep (mu_P G sz [.ref mo, .int x, .int y] [(mo, .inr (2, [.int th, .ref ce, .ref gv, .int st, .int sk, .ref dr, .ref go, .int tk, .int be, .int so, .int le, .int an, .ref sa])), (ce, eI G 418 fc), (gv, eZ G 30 fg), (dr, eI G 10 fd), (go, eI G 10 fo), (sa, eI G 10 fs)]) (mu_Q G (some (.int (st + 1 - 1))) [(mo, .inr (2, [.int th, .ref ce, .ref gv, .int (st + 1), .int sk, .ref dr, .ref go, .int tk, .int be, .int so, .int le, .int an, .ref sa])), (ce, eI G 418 (cpy11 fc r k)), (gv, eZ G 30 (upd fg k y)), (dr, eI G 10 fd), (go, eI G 10 fo), (sa, eI G 10 fs)] (va_A [(mo, .inr (2, [.int th, .ref ce, .ref gv, .int st, .int sk, .ref dr, .ref go, .int tk, .int be, .int so, .int le, .int an, .ref sa])), (ce, eI G 418 fc), (gv, eZ G 30 fg), (dr, eI G 10 fd), (go, eI G 10 fo), (sa, eI G 10 fs)] sz)) 0 0 (va_A [(mo, .inr (2, [.int th, .ref ce, .ref gv, .int st, .int sk, .ref dr, .ref go, .int tk, .int be, .int so, .int le, .int an, .ref sa])), (ce, eI G 418 fc), (gv, eZ G 30 fg), (dr, eI G 10 fd), (go, eI G 10 fo), (sa, eI G 10 fs)] sz) := by
  refine Met.ofW (cc := cX2_keep) (maxL := 3) (ret := (some .int)) (by decide) rfl ?_
  intro p e s m args below meth c s₁ B hml hv
  obtain ⟨rfl, hsz, hP, hD0, hK⟩ := hv
  have hx := B.exec
  have hb := B.bytes
  have hr := B.returns
  have hts := atoms_spec (ws := wsX2_keep) B.pre
  have hown : s.vm.findClass RX2 = some m.cls := findClass_of_methodNamed B.named
  have hlocks := B.notSynchronized
  subst hsz
  have hD := hD0.self (sz := s.heap.size)
  generalize hAe : va_A [(mo, .inr (2, [.int th, .ref ce, .ref gv, .int st, .int sk, .ref dr, .ref go, .int tk, .int be, .int so, .int le, .int an, .ref sa])), (ce, eI G 418 fc), (gv, eZ G 30 fg), (dr, eI G 10 fd), (go, eI G 10 fo), (sa, eI G 10 fs)] s.heap.size = A at hD ⊢
  have hA : ∀ q : Nat, s.heap.size ≤ q → A q := fun q h => by rw [← hAe]; exact Or.inr h
  have hS : va_S A s.heap s.heap [] := va_S.rf
  have hinX2 : ∀ w ∈ u_ws RX2 TX2 13, w ∈ wsX2_keep := fun w h => List.mem_cons_of_mem _ (List.mem_append_right _ h)
  have hw1 := hts (.fieldLink RX2 45 "ChoiceBoardModel" "stored" "I") (by decide +kernel)
  have hw2 := hts (.fieldLink RX2 13 "ChoiceBoardModel" "given" "[Z") (by decide +kernel)
  have hl := lv_entry ([.ref mo, .int x, .int y]) (n := 3) (Nat.le_of_ble_eq_true rfl)
  rw [lg_entry_eq]
  generalize (lg_sl ([.ref mo, .int x, .int y]) ++ List.replicate (3 - (lg_sl ([.ref mo, .int x, .int y])).length) Slot.unset).toArray = ls at hl ⊢
  have hl : lv_has ls 3 [(0, .ref mo), (1, .int x), (2, .int y)] := hl
  refine lv_aload_n hx hb dX2_keep_0 rfl (lv_at hl 0 rfl) ?_
  refine lv_iload_n hx hb dX2_keep_1 rfl (lv_at hl 1 rfl) ?_
  refine lv_aload_n hx hb dX2_keep_2 rfl (lv_at hl 0 rfl) ?_
  refine va_get (D := G.1) (ci := 2) (v := .int st) (C := RX2) (T := TX2) (N := 13) hx hb hts hinX2 hown hK.1 hP 0 rfl rfl 3 (by decide) hw1 (fun _ h9 => h9) rfl dX2_keep_3 ?_
  refine mu_call (va_runV (As := [.int x, .int st]) (rest := []) ⟨hx, hb, hml, hown, hts⟩ (c_X2_copy l G _ mo ce gv dr go sa th st sk tk be so le an fc fg fd fo fs x r ex (by omega) st k est (by omega) (by omega)) (cwV 2 hts gX2_keep_X2_copy rfl rfl rfl (by decide +kernel) ⟨Nat.le_of_ble_eq_true rfl, Nat.le_of_ble_eq_true rfl⟩) ⟨mu_blind, va_recv hK.1 hP (ci := 2) (q0 := 0) rfl rfl, mu_pre _ (hP.sub [0, 1, 2, 3, 4, 5] rfl) (hD.sub [0, 1, 2, 3, 4, 5] (by decide) rfl) hK⟩ rfl rfl hl.1 rfl (lv_room (Nat.le_of_ble_eq_true rfl)) dX2_keep_6 ⟨Nat.le_refl _, Nat.le_refl _⟩) hS (va_free hD hS hA [0, 1, 2, 3, 4, 5] rfl) (va_free hD hS hA [0, 1, 2, 3, 4, 5] rfl) (fun H1 locs hP1 hD1 hk1 hS => ?_)
  obtain ⟨hP, hD⟩ := rp_join (ws' := [(mo, .inr (2, [.int th, .ref ce, .ref gv, .int st, .int sk, .ref dr, .ref go, .int tk, .int be, .int so, .int le, .int an, .ref sa])), (ce, eI G 418 (cpy11 fc r k)), (gv, eZ G 30 fg), (dr, eI G 10 fd), (go, eI G 10 fo), (sa, eI G 10 fs)]) hP hD [0, 1, 2, 3, 4, 5] rfl hk1 hP1 (fun k q h => match k, q, h with | 0, q, h => Or.inl ⟨0, h⟩ | 1, q, h => Or.inl ⟨1, h⟩ | 2, q, h => Or.inl ⟨2, h⟩ | 3, q, h => Or.inl ⟨3, h⟩ | 4, q, h => Or.inl ⟨4, h⟩ | 5, q, h => Or.inl ⟨5, h⟩ | k + 6, q, h => nomatch h) rfl
  generalize H1 = H at hP hS ⊢
  have hP : va_P G.1 vwCl [(mo, .inr (2, [.int th, .ref ce, .ref gv, .int st, .int sk, .ref dr, .ref go, .int tk, .int be, .int so, .int le, .int an, .ref sa])), (ce, eI G 418 (cpy11 fc r k)), (gv, eZ G 30 fg), (dr, eI G 10 fd), (go, eI G 10 fo), (sa, eI G 10 fs)] H := hP
  have hD : va_D A [(mo, .inr (2, [.int th, .ref ce, .ref gv, .int st, .int sk, .ref dr, .ref go, .int tk, .int be, .int so, .int le, .int an, .ref sa])), (ce, eI G 418 (cpy11 fc r k)), (gv, eZ G 30 fg), (dr, eI G 10 fd), (go, eI G 10 fo), (sa, eI G 10 fs)] := hD
  refine lv_aload_n hx hb dX2_keep_9 rfl (lv_at hl 0 rfl) ?_
  refine va_get (D := G.1) (ci := 2) (v := .ref gv) (C := RX2) (T := TX2) (N := 13) hx hb hts hinX2 hown hK.1 hP 0 rfl rfl 2 (by decide) hw2 (fun _ h9 => h9) rfl dX2_keep_10 ?_
  refine lv_aload_n hx hb dX2_keep_13 rfl (lv_at hl 0 rfl) ?_
  refine va_get (D := G.1) (ci := 2) (v := .int st) (C := RX2) (T := TX2) (N := 13) hx hb hts hinX2 hown hK.1 hP 0 rfl rfl 3 (by decide) hw1 (fun _ h9 => h9) rfl dX2_keep_14 ?_
  refine lv_iload_n hx hb dX2_keep_17 rfl (lv_at hl 2 rfl) ?_
  refine ra_zast (v := k) hx hb hK.1 hP hD hS 2 1 rfl rfl est (by omega) (by decide) hy dX2_keep_18 (fun H locs hP hD hS => ?_)
  have hP : va_P G.1 vwCl [(mo, .inr (2, [.int th, .ref ce, .ref gv, .int st, .int sk, .ref dr, .ref go, .int tk, .int be, .int so, .int le, .int an, .ref sa])), (ce, eI G 418 (cpy11 fc r k)), (gv, eZ G 30 (upd fg k y)), (dr, eI G 10 fd), (go, eI G 10 fo), (sa, eI G 10 fs)] H := hP
  have hD : va_D A [(mo, .inr (2, [.int th, .ref ce, .ref gv, .int st, .int sk, .ref dr, .ref go, .int tk, .int be, .int so, .int le, .int an, .ref sa])), (ce, eI G 418 (cpy11 fc r k)), (gv, eZ G 30 (upd fg k y)), (dr, eI G 10 fd), (go, eI G 10 fo), (sa, eI G 10 fs)] := hD
  refine lv_aload_n hx hb dX2_keep_19 rfl (lv_at hl 0 rfl) ?_
  refine lv_dup hx hb dX2_keep_20 rfl ?_
  refine va_get (D := G.1) (ci := 2) (v := .int st) (C := RX2) (T := TX2) (N := 13) hx hb hts hinX2 hown hK.1 hP 0 rfl rfl 3 (by decide) hw1 (fun _ h9 => h9) rfl dX2_keep_21 ?_
  refine lv_iconst (v := 1) hx hb dX2_keep_24 (by decide) ?_
  refine lv_iadd hx hb dX2_keep_25 ?_
  refine va_put (D := G.1) (ci := 2) (v := .int (st + 1)) (ty := .int) (C := RX2) (T := TX2) (N := 13) hx hb hts hinX2 tyX2 tyX2_ok nmX2 hown hK.1 hP hD hS 0 rfl rfl 3 (by decide) hw1 (fun _ h9 => h9) rfl (by decide +kernel) rfl rfl (Nat.le_of_ble_eq_true rfl) dX2_keep_26 (fun H locs hP hD hS => ?_)
  have hP : va_P G.1 vwCl [(mo, .inr (2, [.int th, .ref ce, .ref gv, .int (st + 1), .int sk, .ref dr, .ref go, .int tk, .int be, .int so, .int le, .int an, .ref sa])), (ce, eI G 418 (cpy11 fc r k)), (gv, eZ G 30 (upd fg k y)), (dr, eI G 10 fd), (go, eI G 10 fo), (sa, eI G 10 fs)] H := hP
  have hD : va_D A [(mo, .inr (2, [.int th, .ref ce, .ref gv, .int (st + 1), .int sk, .ref dr, .ref go, .int tk, .int be, .int so, .int le, .int an, .ref sa])), (ce, eI G 418 (cpy11 fc r k)), (gv, eZ G 30 (upd fg k y)), (dr, eI G 10 fd), (go, eI G 10 fo), (sa, eI G 10 fs)] := hD
  refine lv_aload_n hx hb dX2_keep_29 rfl (lv_at hl 0 rfl) ?_
  refine va_get (D := G.1) (ci := 2) (v := .int (st + 1)) (C := RX2) (T := TX2) (N := 13) hx hb hts hinX2 hown hK.1 hP 0 rfl rfl 3 (by decide) hw1 (fun _ h9 => h9) rfl dX2_keep_30 ?_
  refine lv_iconst (v := 1) hx hb dX2_keep_33 (by decide) ?_
  refine lv_isub hx hb dX2_keep_34 ?_
  have hP9 := hP.sub (ws' := [(mo, .inr (2, [.int th, .ref ce, .ref gv, .int (st + 1), .int sk, .ref dr, .ref go, .int tk, .int be, .int so, .int le, .int an, .ref sa])), (ce, eI G 418 (cpy11 fc r k)), (gv, eZ G 30 (upd fg k y)), (dr, eI G 10 fd), (go, eI G 10 fo), (sa, eI G 10 fs)]) [0, 1, 2, 3, 4, 5] rfl
  have hD9 := hD.sub (ws' := [(mo, .inr (2, [.int th, .ref ce, .ref gv, .int (st + 1), .int sk, .ref dr, .ref go, .int tk, .int be, .int so, .int le, .int an, .ref sa])), (ce, eI G 418 (cpy11 fc r k)), (gv, eZ G 30 (upd fg k y)), (dr, eI G 10 fd), (go, eI G 10 fo), (sa, eI G 10 fs)]) [0, 1, 2, 3, 4, 5] (by decide) rfl
  exact W.iret (v := (st + 1) - 1) hx hb hr (fun t ht hW => ⟨congrArg (fun z => Outcome.returned (some (Value.int z))) (rfl), by rw [ht]; exact hP9, hD9, hS.F ht⟩) hS.2.2 dX2_keep_35

abbrev rmX2_slack : Room := { frames := 1, cells := 0, slots := 0, locals := 20 }
set_option maxHeartbeats 4000000 in
set_option maxRecDepth 100000 in
theorem c_X2_slack (l : Launch) (G : Gt) (mo ce gv dr go sa : Nat) (th st sk tk be so le an : Int32) (fc fg fd fo fs : Nat → Int32) (x : Int32) (r : Nat) (ex : x = nI r) (hr : r < 38) : Met l yX2_slack wsX2_slack rmX2_slack (ro_P G [.ref mo, .int x] [(mo, .inr (2, [.int th, .ref ce, .ref gv, .int st, .int sk, .ref dr, .ref go, .int tk, .int be, .int so, .int le, .int an, .ref sa])), (ce, eI G 418 fc), (gv, eZ G 30 fg), (dr, eI G 10 fd), (go, eI G 10 fo), (sa, eI G 10 fs)]) (QcRead (slM fc fs r)) 0 0 (fun _ => False) := by
  refine Met.ofW (cc := cX2_slack) (maxL := 6) (ret := (some .int)) (by decide) rfl ?_
  intro p e s m args below meth c s₁ B hml hv
  obtain ⟨rfl, hP, hK⟩ := hv
  have hx := B.exec
  have hb := B.bytes
  have hr := B.returns
  have hts := atoms_spec (ws := wsX2_slack) B.pre
  have hown : s.vm.findClass RX2 = some m.cls := findClass_of_methodNamed B.named
  have hlocks := B.notSynchronized
  have hinX2 : ∀ w ∈ u_ws RX2 TX2 13, w ∈ wsX2_slack := fun w h => List.mem_cons_of_mem _ (List.mem_append_right _ h)
  have hw1 := hts (.fieldLink RX2 7 "ChoiceBoardModel" "cell" "[I") (by decide +kernel)
  have hw2 := hts (.fieldLink RX2 23 "ChoiceBoardModel" "state" "[I") (by decide +kernel)
  have hl := lv_entry ([.ref mo, .int x]) (n := 6) (Nat.le_of_ble_eq_true rfl)
  rw [lg_entry_eq]
  generalize (lg_sl ([.ref mo, .int x]) ++ List.replicate (6 - (lg_sl ([.ref mo, .int x])).length) Slot.unset).toArray = ls at hl ⊢
  have hl : lv_has ls 6 [(0, .ref mo), (1, .int x)] := hl
  refine lv_aload_n hx hb dX2_slack_0 rfl (lv_at hl 0 rfl) ?_
  refine va_get (D := G.1) (ci := 2) (v := .ref ce) (C := RX2) (T := TX2) (N := 13) hx hb hts hinX2 hown hK.1 hP 0 rfl rfl 1 (by decide) hw1 (fun _ h9 => h9) rfl dX2_slack_1 ?_
  refine lv_bipush (v := 11) hx hb dX2_slack_4 (by decide) ?_
  refine lv_iload_n hx hb dX2_slack_6 rfl (lv_at hl 1 rfl) ?_
  refine lv_imul hx hb dX2_slack_7 ?_
  refine lv_bipush (v := 10) hx hb dX2_slack_8 (by decide) ?_
  refine lv_iadd hx hb dX2_slack_10 ?_
  refine ra_iald (f := fc) (v := ((11 * r) + 10)) hx hb hK.1 hP 1 0 rfl rfl (na_add (na_mul (by decide) ex) (by decide)) (by omega) (by decide) dX2_slack_11 ?_
  refine lv_ineg hx hb dX2_slack_12 ?_
  refine lv_istore_n (lv' := [(2, .int (-(fc ((11 * r) + 10)))), (0, .ref mo), (1, .int x)]) hx hb dX2_slack_13 rfl hl (by decide) rfl (fun ls hl => ?_)
  refine lv_iconst (v := 0) hx hb dX2_slack_14 (by decide) ?_
  refine lv_istore_n (lv' := [(3, .int 0), (2, .int (-(fc ((11 * r) + 10)))), (0, .ref mo), (1, .int x)]) hx hb dX2_slack_15 rfl hl (by decide) rfl (fun ls hl => ?_)
  have loop_16 : ∀ (n_16 i : Nat) (xs xi : Int32), i ≤ 10 → 10 + 1 ≤ i + n_16 → (xs = sg (-(fc (11 * r + 10))) (slMT fc fs r) i) → (xi = nI i) → ∀ ls : Array Slot, lv_has ls 6 [(0, .ref mo), (1, .int x), (2, .int xs), (3, .int xi)] → W p l e rmX2_slack s m [.ref mo, .int x].toArray below meth c s.heap [] 0 0 (MQ below (QcRead (slM fc fs r)) [.ref mo, .int x].toArray s 0 0 (fun _ => False)) (F0 m 16 ls []) := by
    intro n_16
    induction n_16 with
    | zero => intro i xs xi h1 h2; exact absurd h2 (by omega)
    | succ n_16 ih_16 =>
      intro i xs xi hi_16 hn_16 es ei ls hl
      refine lv_iload_n hx hb dX2_slack_16 rfl (lv_at hl 3 rfl) ?_
      refine lv_bipush (v := 10) hx hb dX2_slack_17 (by decide) ?_
      refine lv_icmp_ge (tgt := 101) hx hb dX2_slack_19 (by decide) (fun c_19 => ?_) (fun c_19 => ?_)
      · have hN : i = 10 := ge_ix ei (by decide) (by decide) c_19 hi_16
        refine lv_iload_n hx hb dX2_slack_101 rfl (lv_at hl 2 rfl) ?_
        exact W.iret (v := xs) hx hb hr (fun t ht hW => ⟨congrArg (fun z => Outcome.returned (some (Value.int z))) (by rw [es, hN]; rfl), ht⟩) (fun _ h => nomatch h) dX2_slack_102
      · have hlt : i < 10 := lt_ix ei (by decide) (by decide) c_19 hi_16
        refine lv_aload_n hx hb dX2_slack_22 rfl (lv_at hl 0 rfl) ?_
        refine va_get (D := G.1) (ci := 2) (v := .ref ce) (C := RX2) (T := TX2) (N := 13) hx hb hts hinX2 hown hK.1 hP 0 rfl rfl 1 (by decide) hw1 (fun _ h9 => h9) rfl dX2_slack_23 ?_
        refine lv_bipush (v := 11) hx hb dX2_slack_26 (by decide) ?_
        refine lv_iload_n hx hb dX2_slack_28 rfl (lv_at hl 1 rfl) ?_
        refine lv_imul hx hb dX2_slack_29 ?_
        refine lv_iload_n hx hb dX2_slack_30 rfl (lv_at hl 3 rfl) ?_
        refine lv_iadd hx hb dX2_slack_31 ?_
        refine ra_iald (f := fc) (v := ((11 * r) + i)) hx hb hK.1 hP 1 0 rfl rfl (na_add (na_mul (by decide) ex) ei) (by omega) (by decide) dX2_slack_32 ?_
        refine lv_istore (lv' := [(4, .int (fc ((11 * r) + i))), (0, .ref mo), (1, .int x), (2, .int xs), (3, .int xi)]) hx hb dX2_slack_33 hl (by decide) rfl (fun ls hl => ?_)
        have join_76 : ∀ (x5 : Int32), (x5 = ctM (fs i) (fc (11 * r + i))) → ∀ ls : Array Slot, lv_has ls 6 [(4, .int (fc ((11 * r) + i))), (0, .ref mo), (1, .int x), (2, .int xs), (3, .int xi)] → W p l e rmX2_slack s m [.ref mo, .int x].toArray below meth c s.heap [] 0 0 (MQ below (QcRead (slM fc fs r)) [.ref mo, .int x].toArray s 0 0 (fun _ => False)) (F0 m 76 ls [.int x5]) := by
          intro x5 ev ls hl
          refine lv_istore (lv' := [(5, .int x5), (4, .int (fc ((11 * r) + i))), (0, .ref mo), (1, .int x), (2, .int xs), (3, .int xi)]) hx hb dX2_slack_76 hl (by decide) rfl (fun ls hl => ?_)
          refine lv_iload_n hx hb dX2_slack_78 rfl (lv_at hl 4 rfl) ?_
          refine lv_iload hx hb dX2_slack_79 (lv_at hl 0 rfl) ?_
          refine lv_if_eq (tgt := 92) hx hb dX2_slack_81 (by decide) (fun c_81 => ?_) (fun c_81 => ?_)
          · refine lv_iconst (v := 0) hx hb dX2_slack_92 (by decide) ?_
            refine lv_iadd hx hb dX2_slack_93 ?_
            refine lv_istore_n (lv' := [(2, .int (xs + 0)), (5, .int x5), (4, .int (fc ((11 * r) + i))), (0, .ref mo), (1, .int x), (3, .int xi)]) hx hb dX2_slack_94 rfl hl (by decide) rfl (fun ls hl => ?_)
            refine lv_iinc (v := xi + 1) (lv' := [(3, .int (xi + 1)), (2, .int (xs + 0)), (5, .int x5), (4, .int (fc ((11 * r) + i))), (0, .ref mo), (1, .int x)]) hx hb dX2_slack_95 hl (k := 5) rfl rfl (by decide) rfl (fun ls hl => ?_)
            refine lv_goto (tgt := 16) hx hb dX2_slack_98 (by decide) ?_
            exact ih_16 (i + 1) _ _ (by omega) (by omega) (by rw [sg_s, es]; unfold slMT; rw [← ev, if_pos c_81]) (by rw [ei]; exact nI_1 i) ls (lv_sub hl [4, 5, 1, 0] rfl)
          · refine lv_iload hx hb dX2_slack_84 (lv_at hl 1 rfl) ?_
            refine ro_call (va_runS (As := [.int (fc ((11 * r) + i))]) (rest := [.int xs]) ⟨hx, hb, hml, hown, hts⟩ (c_X2_size l G (fc ((11 * r) + i))) (va_cwS 1 hts gX2_slack_X2_size rfl rfl rfl (by decide +kernel) ⟨Nat.le_of_ble_eq_true rfl, Nat.le_of_ble_eq_true rfl⟩) ⟨ro_blind, ro_pre _ (hP.sub [] rfl) hK⟩ rfl rfl hl.1 rfl (lv_room (Nat.le_of_ble_eq_true rfl)) dX2_slack_86 ⟨Nat.le_refl _, Nat.le_refl _⟩) ?_
            refine lv_goto (tgt := 93) hx hb dX2_slack_89 (by decide) ?_
            refine lv_iadd hx hb dX2_slack_93 ?_
            refine lv_istore_n (lv' := [(2, .int (xs + (szI (fc ((11 * r) + i))))), (5, .int x5), (4, .int (fc ((11 * r) + i))), (0, .ref mo), (1, .int x), (3, .int xi)]) hx hb dX2_slack_94 rfl hl (by decide) rfl (fun ls hl => ?_)
            refine lv_iinc (v := xi + 1) (lv' := [(3, .int (xi + 1)), (2, .int (xs + (szI (fc ((11 * r) + i))))), (5, .int x5), (4, .int (fc ((11 * r) + i))), (0, .ref mo), (1, .int x)]) hx hb dX2_slack_95 hl (k := 5) rfl rfl (by decide) rfl (fun ls hl => ?_)
            refine lv_goto (tgt := 16) hx hb dX2_slack_98 (by decide) ?_
            exact ih_16 (i + 1) _ _ (by omega) (by omega) (by rw [sg_s, es]; unfold slMT; rw [← ev, if_neg c_81]) (by rw [ei]; exact nI_1 i) ls (lv_sub hl [4, 5, 1, 0] rfl)
        refine lv_aload_n hx hb dX2_slack_35 rfl (lv_at hl 1 rfl) ?_
        refine va_get (D := G.1) (ci := 2) (v := .ref sa) (C := RX2) (T := TX2) (N := 13) hx hb hts hinX2 hown hK.1 hP 0 rfl rfl 12 (by decide) hw2 (fun _ h9 => h9) rfl dX2_slack_36 ?_
        refine lv_iload_n hx hb dX2_slack_39 rfl (lv_at hl 4 rfl) ?_
        refine ra_iald (f := fs) (v := i) hx hb hK.1 hP 5 0 rfl rfl ei (by omega) (by decide) dX2_slack_40 ?_
        refine lv_if_lt (tgt := 71) hx hb dX2_slack_41 (by decide) (fun c_41 => ?_) (fun c_41 => ?_)
        · refine lv_iconst (v := 1) hx hb dX2_slack_71 (by decide) ?_
          refine lv_goto (tgt := 76) hx hb dX2_slack_72 (by decide) ?_
          exact join_76 _ (by unfold ctM; rw [if_pos c_41]) ls (lv_sub hl [0, 1, 2, 3, 4] rfl)
        · refine lv_iload hx hb dX2_slack_44 (lv_at hl 0 rfl) ?_
          refine lv_if_le (tgt := 62) hx hb dX2_slack_46 (by decide) (fun c_46 => ?_) (fun c_46 => ?_)
          · refine lv_aload_n hx hb dX2_slack_62 rfl (lv_at hl 1 rfl) ?_
            refine va_get (D := G.1) (ci := 2) (v := .ref sa) (C := RX2) (T := TX2) (N := 13) hx hb hts hinX2 hown hK.1 hP 0 rfl rfl 12 (by decide) hw2 (fun _ h9 => h9) rfl dX2_slack_63 ?_
            refine lv_iload_n hx hb dX2_slack_66 rfl (lv_at hl 4 rfl) ?_
            refine ra_iald (f := fs) (v := i) hx hb hK.1 hP 5 0 rfl rfl ei (by omega) (by decide) dX2_slack_67 ?_
            refine lv_if_ne (tgt := 75) hx hb dX2_slack_68 (by decide) (fun c_68 => ?_) (fun c_68 => ?_)
            · refine lv_iconst (v := 0) hx hb dX2_slack_75 (by decide) ?_
              exact join_76 _ (by unfold ctM; rw [if_neg c_41, if_neg (Int32.not_lt.mpr c_46), if_neg c_68]) ls (lv_sub hl [0, 1, 2, 3, 4] rfl)
            · refine lv_iconst (v := 1) hx hb dX2_slack_71 (by decide) ?_
              refine lv_goto (tgt := 76) hx hb dX2_slack_72 (by decide) ?_
              exact join_76 _ (by unfold ctM; rw [if_neg c_41, if_neg (Int32.not_lt.mpr c_46), if_pos c_68]) ls (lv_sub hl [0, 1, 2, 3, 4] rfl)
          · refine lv_aload_n hx hb dX2_slack_49 rfl (lv_at hl 1 rfl) ?_
            refine va_get (D := G.1) (ci := 2) (v := .ref sa) (C := RX2) (T := TX2) (N := 13) hx hb hts hinX2 hown hK.1 hP 0 rfl rfl 12 (by decide) hw2 (fun _ h9 => h9) rfl dX2_slack_50 ?_
            refine lv_iload_n hx hb dX2_slack_53 rfl (lv_at hl 4 rfl) ?_
            refine ra_iald (f := fs) (v := i) hx hb hK.1 hP 5 0 rfl rfl ei (by omega) (by decide) dX2_slack_54 ?_
            refine lv_iconst (v := 1) hx hb dX2_slack_55 (by decide) ?_
            refine lv_icmp_ne (tgt := 75) hx hb dX2_slack_56 (by decide) (fun c_56 => ?_) (fun c_56 => ?_)
            · refine lv_iconst (v := 0) hx hb dX2_slack_75 (by decide) ?_
              exact join_76 _ (by unfold ctM; rw [if_neg c_41, if_pos (Int32.not_le.mp c_46), if_neg c_56]) ls (lv_sub hl [0, 1, 2, 3, 4] rfl)
            · refine lv_goto (tgt := 71) hx hb dX2_slack_59 (by decide) ?_
              refine lv_iconst (v := 1) hx hb dX2_slack_71 (by decide) ?_
              refine lv_goto (tgt := 76) hx hb dX2_slack_72 (by decide) ?_
              exact join_76 _ (by unfold ctM; rw [if_neg c_41, if_pos (Int32.not_le.mp c_46), if_pos c_56]) ls (lv_sub hl [0, 1, 2, 3, 4] rfl)
  exact loop_16 (10 + 1) 0 _ _ (Nat.zero_le _) (by omega) (by rfl) (by exact nI_0.symm) ls (lv_sub hl [2, 3, 1, 0] rfl)

abbrev rmX2_tighten : Room := { frames := 2, cells := 0, slots := 0, locals := 45 }
set_option maxHeartbeats 4000000 in
set_option maxRecDepth 100000 in
theorem c_X2_tighten (l : Launch) (G : Gt) (sz : Nat) (mo ce gv dr go sa : Nat) (th st sk tk be so le an : Int32) (fc fg fd fo fs : Nat → Int32) (x : Int32) (r : Nat) (ex : x = nI r) (hr : r < 38) : Met l yX2_tighten wsX2_tighten rmX2_tighten (mu_P G sz [.ref mo, .int x] [(mo, .inr (2, [.int th, .ref ce, .ref gv, .int st, .int sk, .ref dr, .ref go, .int tk, .int be, .int so, .int le, .int an, .ref sa])), (ce, eI G 418 fc), (gv, eZ G 30 fg), (dr, eI G 10 fd), (go, eI G 10 fo), (sa, eI G 10 fs)]) (mu_Q G (some (.int (tgA fc fs r))) [(mo, .inr (2, [.int th, .ref ce, .ref gv, .int st, .int sk, .ref dr, .ref go, .int tk, .int be, .int so, .int le, .int an, .ref sa])), (ce, eI G 418 fc), (gv, eZ G 30 fg), (dr, eI G 10 fd), (go, eI G 10 fo), (sa, eI G 10 (tgS fc fs r))] (va_A [(mo, .inr (2, [.int th, .ref ce, .ref gv, .int st, .int sk, .ref dr, .ref go, .int tk, .int be, .int so, .int le, .int an, .ref sa])), (ce, eI G 418 fc), (gv, eZ G 30 fg), (dr, eI G 10 fd), (go, eI G 10 fo), (sa, eI G 10 fs)] sz)) 0 0 (va_A [(mo, .inr (2, [.int th, .ref ce, .ref gv, .int st, .int sk, .ref dr, .ref go, .int tk, .int be, .int so, .int le, .int an, .ref sa])), (ce, eI G 418 fc), (gv, eZ G 30 fg), (dr, eI G 10 fd), (go, eI G 10 fo), (sa, eI G 10 fs)] sz) := by
  refine Met.ofW (cc := cX2_tighten) (maxL := 6) (ret := (some .int)) (by decide) rfl ?_
  intro p e s m args below meth c s₁ B hml hv
  obtain ⟨rfl, hsz, hP, hD0, hK⟩ := hv
  have hx := B.exec
  have hb := B.bytes
  have hr := B.returns
  have hts := atoms_spec (ws := wsX2_tighten) B.pre
  have hown : s.vm.findClass RX2 = some m.cls := findClass_of_methodNamed B.named
  have hlocks := B.notSynchronized
  subst hsz
  have hD := hD0.self (sz := s.heap.size)
  generalize hAe : va_A [(mo, .inr (2, [.int th, .ref ce, .ref gv, .int st, .int sk, .ref dr, .ref go, .int tk, .int be, .int so, .int le, .int an, .ref sa])), (ce, eI G 418 fc), (gv, eZ G 30 fg), (dr, eI G 10 fd), (go, eI G 10 fo), (sa, eI G 10 fs)] s.heap.size = A at hD ⊢
  have hA : ∀ q : Nat, s.heap.size ≤ q → A q := fun q h => by rw [← hAe]; exact Or.inr h
  have hS : va_S A s.heap s.heap [] := va_S.rf
  have hinX2 : ∀ w ∈ u_ws RX2 TX2 13, w ∈ wsX2_tighten := fun w h => List.mem_cons_of_mem _ (List.mem_append_right _ h)
  have hw1 := hts (.fieldLink RX2 7 "ChoiceBoardModel" "cell" "[I") (by decide +kernel)
  have hw2 := hts (.fieldLink RX2 23 "ChoiceBoardModel" "state" "[I") (by decide +kernel)
  have hl := lv_entry ([.ref mo, .int x]) (n := 6) (Nat.le_of_ble_eq_true rfl)
  rw [lg_entry_eq]
  generalize (lg_sl ([.ref mo, .int x]) ++ List.replicate (6 - (lg_sl ([.ref mo, .int x])).length) Slot.unset).toArray = ls at hl ⊢
  have hl : lv_has ls 6 [(0, .ref mo), (1, .int x)] := hl
  refine lv_aload_n hx hb dX2_tighten_0 rfl (lv_at hl 0 rfl) ?_
  refine lv_iload_n hx hb dX2_tighten_1 rfl (lv_at hl 1 rfl) ?_
  refine ro_call (va_runV (As := [.int x]) (rest := []) ⟨hx, hb, hml, hown, hts⟩ (c_X2_slack l G mo ce gv dr go sa th st sk tk be so le an fc fg fd fo fs x r ex (by omega)) (cwV 1 hts gX2_tighten_X2_slack rfl rfl rfl (by decide +kernel) ⟨Nat.le_of_ble_eq_true rfl, Nat.le_of_ble_eq_true rfl⟩) ⟨ro_blind, va_recv hK.1 hP (ci := 2) (q0 := 0) rfl rfl, ro_pre _ (hP.sub [0, 1, 2, 3, 4, 5] rfl) hK⟩ rfl rfl hl.1 rfl (lv_room (Nat.le_of_ble_eq_true rfl)) dX2_tighten_2 ⟨Nat.le_refl _, Nat.le_refl _⟩) ?_
  refine lv_istore_n (lv' := [(2, .int (slM fc fs r)), (0, .ref mo), (1, .int x)]) hx hb dX2_tighten_5 rfl hl (by decide) rfl (fun ls hl => ?_)
  refine lv_iload_n hx hb dX2_tighten_6 rfl (lv_at hl 0 rfl) ?_
  refine lv_if_ge (tgt := 12) hx hb dX2_tighten_7 (by decide) (fun c_7 => ?_) (fun c_7 => ?_)
  · refine lv_iconst (v := 0) hx hb dX2_tighten_12 (by decide) ?_
    refine lv_istore_n (lv' := [(3, .int 0), (2, .int (slM fc fs r)), (0, .ref mo), (1, .int x)]) hx hb dX2_tighten_13 rfl hl (by decide) rfl (fun ls hl => ?_)
    refine lv_iconst (v := 0) hx hb dX2_tighten_14 (by decide) ?_
    refine lv_istore (lv' := [(4, .int 0), (3, .int 0), (2, .int (slM fc fs r)), (0, .ref mo), (1, .int x)]) hx hb dX2_tighten_15 hl (by decide) rfl (fun ls hl => ?_)
    have loop_17 : ∀ (n_17 i : Nat) (x3 xi : Int32) (h : Nat → Int32), i ≤ 10 → 10 + 1 ≤ i + n_17 → (x3 = bI (anyB (tgB fc fs r (slM fc fs r)) i)) → (xi = nI i) → (h = mixf i (tgG fc fs r (slM fc fs r)) fs) → ∀ (H : Heap) (locs : List Loc), va_P G.1 vwCl [(mo, .inr (2, [.int th, .ref ce, .ref gv, .int st, .int sk, .ref dr, .ref go, .int tk, .int be, .int so, .int le, .int an, .ref sa])), (ce, eI G 418 fc), (gv, eZ G 30 fg), (dr, eI G 10 fd), (go, eI G 10 fo), (sa, eI G 10 h)] H → va_D A [(mo, .inr (2, [.int th, .ref ce, .ref gv, .int st, .int sk, .ref dr, .ref go, .int tk, .int be, .int so, .int le, .int an, .ref sa])), (ce, eI G 418 fc), (gv, eZ G 30 fg), (dr, eI G 10 fd), (go, eI G 10 fo), (sa, eI G 10 h)] → va_S A s.heap H locs → ∀ ls : Array Slot, lv_has ls 6 [(0, .ref mo), (1, .int x), (2, .int (slM fc fs r)), (3, .int x3), (4, .int xi)] → W p l e rmX2_tighten s m [.ref mo, .int x].toArray below meth c H locs 0 0 (MQ below (mu_Q G (some (.int (tgA fc fs r))) [(mo, .inr (2, [.int th, .ref ce, .ref gv, .int st, .int sk, .ref dr, .ref go, .int tk, .int be, .int so, .int le, .int an, .ref sa])), (ce, eI G 418 fc), (gv, eZ G 30 fg), (dr, eI G 10 fd), (go, eI G 10 fo), (sa, eI G 10 (tgS fc fs r))] A) [.ref mo, .int x].toArray s 0 0 A) (F0 m 17 ls []) := by
      intro n_17
      induction n_17 with
      | zero => intro i x3 xi h h1 h2; exact absurd h2 (by omega)
      | succ n_17 ih_17 =>
        intro i x3 xi h hi_17 hn_17 e3 ei eh H locs hP hD hS ls hl
        refine lv_iload hx hb dX2_tighten_17 (lv_at hl 4 rfl) ?_
        refine lv_bipush (v := 10) hx hb dX2_tighten_19 (by decide) ?_
        refine lv_icmp_ge (tgt := 82) hx hb dX2_tighten_21 (by decide) (fun c_21 => ?_) (fun c_21 => ?_)
        · have hN : i = 10 := ge_ix ei (by decide) (by decide) c_21 hi_17
          refine lv_iload_n hx hb dX2_tighten_82 rfl (lv_at hl 3 rfl) ?_
          have hP9 := hP.sub (ws' := [(mo, .inr (2, [.int th, .ref ce, .ref gv, .int st, .int sk, .ref dr, .ref go, .int tk, .int be, .int so, .int le, .int an, .ref sa])), (ce, eI G 418 fc), (gv, eZ G 30 fg), (dr, eI G 10 fd), (go, eI G 10 fo), (sa, eI G 10 (tgS fc fs r))]) [0, 1, 2, 3, 4, 5] (by unfold tgS; rw [if_neg (Int32.not_lt.mpr c_7), ← hN, ← eh]; rfl)
          have hD9 := hD.sub (ws' := [(mo, .inr (2, [.int th, .ref ce, .ref gv, .int st, .int sk, .ref dr, .ref go, .int tk, .int be, .int so, .int le, .int an, .ref sa])), (ce, eI G 418 fc), (gv, eZ G 30 fg), (dr, eI G 10 fd), (go, eI G 10 fo), (sa, eI G 10 (tgS fc fs r))]) [0, 1, 2, 3, 4, 5] (by decide) (by unfold tgS; rw [if_neg (Int32.not_lt.mpr c_7), ← hN, ← eh]; rfl)
          exact W.iret (v := x3) hx hb hr (fun t ht hW => ⟨congrArg (fun z => Outcome.returned (some (Value.int z))) (by unfold tgA; rw [if_neg (Int32.not_lt.mpr c_7), e3, hN]), by rw [ht]; exact hP9, hD9, hS.F ht⟩) hS.2.2 dX2_tighten_83
        · have hlt : i < 10 := lt_ix ei (by decide) (by decide) c_21 hi_17
          refine lv_aload_n hx hb dX2_tighten_24 rfl (lv_at hl 0 rfl) ?_
          refine va_get (D := G.1) (ci := 2) (v := .ref ce) (C := RX2) (T := TX2) (N := 13) hx hb hts hinX2 hown hK.1 hP 0 rfl rfl 1 (by decide) hw1 (fun _ h9 => h9) rfl dX2_tighten_25 ?_
          refine lv_bipush (v := 11) hx hb dX2_tighten_28 (by decide) ?_
          refine lv_iload_n hx hb dX2_tighten_30 rfl (lv_at hl 1 rfl) ?_
          refine lv_imul hx hb dX2_tighten_31 ?_
          refine lv_iload hx hb dX2_tighten_32 (lv_at hl 4 rfl) ?_
          refine lv_iadd hx hb dX2_tighten_34 ?_
          refine ra_iald (f := fc) (v := ((11 * r) + i)) hx hb hK.1 hP 1 0 rfl rfl (na_add (na_mul (by decide) ex) ei) (by omega) (by decide) dX2_tighten_35 ?_
          refine lv_istore (lv' := [(5, .int (fc ((11 * r) + i))), (0, .ref mo), (1, .int x), (2, .int (slM fc fs r)), (3, .int x3), (4, .int xi)]) hx hb dX2_tighten_36 hl (by decide) rfl (fun ls hl => ?_)
          have ehi : h i = fs i := by rw [eh]; exact mixf_hi _ _ (Nat.le_refl i)
          refine lv_aload_n hx hb dX2_tighten_38 rfl (lv_at hl 1 rfl) ?_
          refine va_get (D := G.1) (ci := 2) (v := .ref sa) (C := RX2) (T := TX2) (N := 13) hx hb hts hinX2 hown hK.1 hP 0 rfl rfl 12 (by decide) hw2 (fun _ h9 => h9) rfl dX2_tighten_39 ?_
          refine lv_iload hx hb dX2_tighten_42 (lv_at hl 5 rfl) ?_
          refine ra_iald (f := h) (v := i) hx hb hK.1 hP 5 0 rfl rfl ei (by omega) (by decide) dX2_tighten_44 ?_
          refine lv_if_ge (tgt := 76) hx hb dX2_tighten_45 (by decide) (fun c_45 => ?_) (fun c_45 => ?_)
          · refine lv_iinc (v := xi + 1) (lv' := [(4, .int (xi + 1)), (5, .int (fc ((11 * r) + i))), (0, .ref mo), (1, .int x), (2, .int (slM fc fs r)), (3, .int x3)]) hx hb dX2_tighten_76 hl (k := 5) rfl rfl (by decide) rfl (fun ls hl => ?_)
            refine lv_goto (tgt := 17) hx hb dX2_tighten_79 (by decide) ?_
            exact ih_17 (i + 1) _ _ _ (by omega) (by omega) (by rw [e3, anyB_f (by show (decide (fs i < 0) && _) = false; rw [decide_eq_false (by rw [← ehi]; exact Int32.not_lt.mpr c_45)]; rfl)]) (by rw [ei]; exact nI_1 i) (by rw [eh]; exact (mixf_skip (if_neg (by rw [← ehi]; exact Int32.not_lt.mpr c_45))).symm) _ _ (hP.sub [0, 1, 2, 3, 4, 5] rfl) (hD.sub [0, 1, 2, 3, 4, 5] (by decide) rfl) hS ls (lv_sub hl [2, 3, 4, 5, 0] rfl)
          · refine lv_iload hx hb dX2_tighten_48 (lv_at hl 0 rfl) ?_
            refine ro_call (va_runS (As := [.int (fc ((11 * r) + i))]) (rest := []) ⟨hx, hb, hml, hown, hts⟩ (c_X2_size l G (fc ((11 * r) + i))) (va_cwS 1 hts gX2_tighten_X2_size rfl rfl rfl (by decide +kernel) ⟨Nat.le_of_ble_eq_true rfl, Nat.le_of_ble_eq_true rfl⟩) ⟨ro_blind, ro_pre _ (hP.sub [] rfl) hK⟩ rfl rfl hl.1 rfl (lv_room (Nat.le_of_ble_eq_true rfl)) dX2_tighten_50 ⟨Nat.le_refl _, Nat.le_refl _⟩) ?_
            refine lv_iload_n hx hb dX2_tighten_53 rfl (lv_at hl 3 rfl) ?_
            refine lv_icmp_le (tgt := 76) hx hb dX2_tighten_54 (by decide) (fun c_54 => ?_) (fun c_54 => ?_)
            · refine lv_iinc (v := xi + 1) (lv' := [(4, .int (xi + 1)), (5, .int (fc ((11 * r) + i))), (0, .ref mo), (1, .int x), (2, .int (slM fc fs r)), (3, .int x3)]) hx hb dX2_tighten_76 hl (k := 5) rfl rfl (by decide) rfl (fun ls hl => ?_)
              refine lv_goto (tgt := 17) hx hb dX2_tighten_79 (by decide) ?_
              exact ih_17 (i + 1) _ _ _ (by omega) (by omega) (by rw [e3, anyB_f (by show (_ && decide (slM fc fs r < szI (fc (11 * r + i)))) = false; rw [decide_eq_false (Int32.not_lt.mpr c_54), Bool.and_false])]) (by rw [ei]; exact nI_1 i) (by rw [eh]; exact (mixf_skip ((if_pos (by rw [← ehi]; exact Int32.not_le.mp c_45)).trans (if_neg (Int32.not_lt.mpr c_54)))).symm) _ _ (hP.sub [0, 1, 2, 3, 4, 5] rfl) (hD.sub [0, 1, 2, 3, 4, 5] (by decide) rfl) hS ls (lv_sub hl [2, 3, 4, 5, 0] rfl)
            · refine lv_aload_n hx hb dX2_tighten_57 rfl (lv_at hl 1 rfl) ?_
              refine va_get (D := G.1) (ci := 2) (v := .ref sa) (C := RX2) (T := TX2) (N := 13) hx hb hts hinX2 hown hK.1 hP 0 rfl rfl 12 (by decide) hw2 (fun _ h9 => h9) rfl dX2_tighten_58 ?_
              refine lv_iload hx hb dX2_tighten_61 (lv_at hl 5 rfl) ?_
              refine lv_iload hx hb dX2_tighten_63 (lv_at hl 0 rfl) ?_
              refine lv_if_le (tgt := 72) hx hb dX2_tighten_65 (by decide) (fun c_65 => ?_) (fun c_65 => ?_)
              · refine lv_iconst (v := 0) hx hb dX2_tighten_72 (by decide) ?_
                refine ra_iast (v := i) hx hb hK.1 hP hD hS 5 0 rfl rfl ei (by omega) (by decide) dX2_tighten_73 (fun H locs hP hD hS => ?_)
                have hP : va_P G.1 vwCl [(mo, .inr (2, [.int th, .ref ce, .ref gv, .int st, .int sk, .ref dr, .ref go, .int tk, .int be, .int so, .int le, .int an, .ref sa])), (ce, eI G 418 fc), (gv, eZ G 30 fg), (dr, eI G 10 fd), (go, eI G 10 fo), (sa, eI G 10 (upd h i 0))] H := hP
                have hD : va_D A [(mo, .inr (2, [.int th, .ref ce, .ref gv, .int st, .int sk, .ref dr, .ref go, .int tk, .int be, .int so, .int le, .int an, .ref sa])), (ce, eI G 418 fc), (gv, eZ G 30 fg), (dr, eI G 10 fd), (go, eI G 10 fo), (sa, eI G 10 (upd h i 0))] := hD
                refine lv_iconst (v := 1) hx hb dX2_tighten_74 (by decide) ?_
                refine lv_istore_n (lv' := [(3, .int 1), (5, .int (fc ((11 * r) + i))), (0, .ref mo), (1, .int x), (2, .int (slM fc fs r)), (4, .int xi)]) hx hb dX2_tighten_75 rfl hl (by decide) rfl (fun ls hl => ?_)
                refine lv_iinc (v := xi + 1) (lv' := [(4, .int (xi + 1)), (3, .int 1), (5, .int (fc ((11 * r) + i))), (0, .ref mo), (1, .int x), (2, .int (slM fc fs r))]) hx hb dX2_tighten_76 hl (k := 5) rfl rfl (by decide) rfl (fun ls hl => ?_)
                refine lv_goto (tgt := 17) hx hb dX2_tighten_79 (by decide) ?_
                exact ih_17 (i + 1) _ _ _ (by omega) (by omega) (by rw [anyB_t (by show (decide (fs i < 0) && decide (slM fc fs r < szI (fc (11 * r + i)))) = true; rw [decide_eq_true (by rw [← ehi]; exact Int32.not_le.mp c_45), decide_eq_true (Int32.not_le.mp c_54)]; rfl)]; rfl) (by rw [ei]; exact nI_1 i) (by rw [← mixf_s, ← eh]; congr 1; show _ = tgG fc fs r (slM fc fs r) i; unfold tgG; rw [if_pos (by rw [← ehi]; exact Int32.not_le.mp c_45), if_pos (Int32.not_le.mp c_54)]; unfold cntI; rw [if_neg (Int32.not_lt.mpr c_65)]) _ _ (hP.sub [0, 1, 2, 3, 4, 5] rfl) (hD.sub [0, 1, 2, 3, 4, 5] (by decide) rfl) hS ls (lv_sub hl [3, 4, 5, 1, 0] rfl)
              · refine lv_iconst (v := 1) hx hb dX2_tighten_68 (by decide) ?_
                refine lv_goto (tgt := 73) hx hb dX2_tighten_69 (by decide) ?_
                refine ra_iast (v := i) hx hb hK.1 hP hD hS 5 0 rfl rfl ei (by omega) (by decide) dX2_tighten_73 (fun H locs hP hD hS => ?_)
                have hP : va_P G.1 vwCl [(mo, .inr (2, [.int th, .ref ce, .ref gv, .int st, .int sk, .ref dr, .ref go, .int tk, .int be, .int so, .int le, .int an, .ref sa])), (ce, eI G 418 fc), (gv, eZ G 30 fg), (dr, eI G 10 fd), (go, eI G 10 fo), (sa, eI G 10 (upd h i 1))] H := hP
                have hD : va_D A [(mo, .inr (2, [.int th, .ref ce, .ref gv, .int st, .int sk, .ref dr, .ref go, .int tk, .int be, .int so, .int le, .int an, .ref sa])), (ce, eI G 418 fc), (gv, eZ G 30 fg), (dr, eI G 10 fd), (go, eI G 10 fo), (sa, eI G 10 (upd h i 1))] := hD
                refine lv_iconst (v := 1) hx hb dX2_tighten_74 (by decide) ?_
                refine lv_istore_n (lv' := [(3, .int 1), (5, .int (fc ((11 * r) + i))), (0, .ref mo), (1, .int x), (2, .int (slM fc fs r)), (4, .int xi)]) hx hb dX2_tighten_75 rfl hl (by decide) rfl (fun ls hl => ?_)
                refine lv_iinc (v := xi + 1) (lv' := [(4, .int (xi + 1)), (3, .int 1), (5, .int (fc ((11 * r) + i))), (0, .ref mo), (1, .int x), (2, .int (slM fc fs r))]) hx hb dX2_tighten_76 hl (k := 5) rfl rfl (by decide) rfl (fun ls hl => ?_)
                refine lv_goto (tgt := 17) hx hb dX2_tighten_79 (by decide) ?_
                exact ih_17 (i + 1) _ _ _ (by omega) (by omega) (by rw [anyB_t (by show (decide (fs i < 0) && decide (slM fc fs r < szI (fc (11 * r + i)))) = true; rw [decide_eq_true (by rw [← ehi]; exact Int32.not_le.mp c_45), decide_eq_true (Int32.not_le.mp c_54)]; rfl)]; rfl) (by rw [ei]; exact nI_1 i) (by rw [← mixf_s, ← eh]; congr 1; show _ = tgG fc fs r (slM fc fs r) i; unfold tgG; rw [if_pos (by rw [← ehi]; exact Int32.not_le.mp c_45), if_pos (Int32.not_le.mp c_54)]; unfold cntI; rw [if_pos (Int32.not_le.mp c_65)]) _ _ (hP.sub [0, 1, 2, 3, 4, 5] rfl) (hD.sub [0, 1, 2, 3, 4, 5] (by decide) rfl) hS ls (lv_sub hl [3, 4, 5, 1, 0] rfl)
    exact loop_17 (10 + 1) 0 _ _ _ (Nat.zero_le _) (by omega) (by rfl) (by exact nI_0.symm) (by exact (mixf_0 _ _).symm) _ _ (hP.sub [0, 1, 2, 3, 4, 5] rfl) (hD.sub [0, 1, 2, 3, 4, 5] (by decide) rfl) hS ls (lv_sub hl [3, 4, 2, 1, 0] rfl)
  · refine lv_iconst (v := (-1)) hx hb dX2_tighten_10 (by decide) ?_
    have hP9 := hP.sub (ws' := [(mo, .inr (2, [.int th, .ref ce, .ref gv, .int st, .int sk, .ref dr, .ref go, .int tk, .int be, .int so, .int le, .int an, .ref sa])), (ce, eI G 418 fc), (gv, eZ G 30 fg), (dr, eI G 10 fd), (go, eI G 10 fo), (sa, eI G 10 (tgS fc fs r))]) [0, 1, 2, 3, 4, 5] (by unfold tgS; rw [if_pos (Int32.not_le.mp c_7)]; rfl)
    have hD9 := hD.sub (ws' := [(mo, .inr (2, [.int th, .ref ce, .ref gv, .int st, .int sk, .ref dr, .ref go, .int tk, .int be, .int so, .int le, .int an, .ref sa])), (ce, eI G 418 fc), (gv, eZ G 30 fg), (dr, eI G 10 fd), (go, eI G 10 fo), (sa, eI G 10 (tgS fc fs r))]) [0, 1, 2, 3, 4, 5] (by decide) (by unfold tgS; rw [if_pos (Int32.not_le.mp c_7)]; rfl)
    exact W.iret (v := (-1)) hx hb hr (fun t ht hW => ⟨congrArg (fun z => Outcome.returned (some (Value.int z))) (by unfold tgA; rw [if_pos (Int32.not_le.mp c_7)]), by rw [ht]; exact hP9, hD9, hS.F ht⟩) hS.2.2 dX2_tighten_11

abbrev rmX2_upper : Room := { frames := 0, cells := 0, slots := 0, locals := 0 }
set_option maxHeartbeats 4000000 in
set_option maxRecDepth 100000 in
theorem c_X2_upper (l : Launch) (G : Gt) (mo ce gv dr go sa : Nat) (th st sk tk be so le an : Int32) (fc fg fd fo fs : Nat → Int32) : Met l yX2_upper wsX2_upper rmX2_upper (ro_P G [.ref mo] [(mo, .inr (2, [.int th, .ref ce, .ref gv, .int st, .int sk, .ref dr, .ref go, .int tk, .int be, .int so, .int le, .int an, .ref sa])), (ce, eI G 418 fc), (gv, eZ G 30 fg), (dr, eI G 10 fd), (go, eI G 10 fo), (sa, eI G 10 fs)]) (QcRead (30 + sk - 1)) 0 0 (fun _ => False) := by
  refine Met.ofW (cc := cX2_upper) (maxL := 1) (ret := (some .int)) (by decide) rfl ?_
  intro p e s m args below meth c s₁ B hml hv
  obtain ⟨rfl, hP, hK⟩ := hv
  have hx := B.exec
  have hb := B.bytes
  have hr := B.returns
  have hts := atoms_spec (ws := wsX2_upper) B.pre
  have hown : s.vm.findClass RX2 = some m.cls := findClass_of_methodNamed B.named
  have hlocks := B.notSynchronized
  have hinX2 : ∀ w ∈ u_ws RX2 TX2 13, w ∈ wsX2_upper := fun w h => List.mem_cons_of_mem _ (List.mem_append_right _ h)
  have hw1 := hts (.fieldLink RX2 74 "ChoiceBoardModel" "stacked" "I") (by decide +kernel)
  have hl := lv_entry ([.ref mo]) (n := 1) (Nat.le_of_ble_eq_true rfl)
  rw [lg_entry_eq]
  generalize (lg_sl ([.ref mo]) ++ List.replicate (1 - (lg_sl ([.ref mo])).length) Slot.unset).toArray = ls at hl ⊢
  have hl : lv_has ls 1 [(0, .ref mo)] := hl
  refine lv_bipush (v := 30) hx hb dX2_upper_0 (by decide) ?_
  refine lv_aload_n hx hb dX2_upper_2 rfl (lv_at hl 0 rfl) ?_
  refine va_get (D := G.1) (ci := 2) (v := .int sk) (C := RX2) (T := TX2) (N := 13) hx hb hts hinX2 hown hK.1 hP 0 rfl rfl 4 (by decide) hw1 (fun _ h9 => h9) rfl dX2_upper_3 ?_
  refine lv_iadd hx hb dX2_upper_6 ?_
  refine lv_iconst (v := 1) hx hb dX2_upper_7 (by decide) ?_
  refine lv_isub hx hb dX2_upper_8 ?_
  exact W.iret (v := (30 + sk) - 1) hx hb hr (fun t ht hW => ⟨congrArg (fun z => Outcome.returned (some (Value.int z))) (rfl), ht⟩) (fun _ h => nomatch h) dX2_upper_9

abbrev rmX2_large : Room := { frames := 1, cells := 0, slots := 0, locals := 20 }
set_option maxHeartbeats 4000000 in
set_option maxRecDepth 100000 in
theorem c_X2_large (l : Launch) (G : Gt) (mo ce gv dr go sa : Nat) (th st sk tk be so le an : Int32) (fc fg fd fo fs : Nat → Int32) (x : Int32) (r : Nat) (ex : x = nI r) (hr : r < 38) : Met l yX2_large wsX2_large rmX2_large (ro_P G [.ref mo, .int x] [(mo, .inr (2, [.int th, .ref ce, .ref gv, .int st, .int sk, .ref dr, .ref go, .int tk, .int be, .int so, .int le, .int an, .ref sa])), (ce, eI G 418 fc), (gv, eZ G 30 fg), (dr, eI G 10 fd), (go, eI G 10 fo), (sa, eI G 10 fs)]) (QcRead (bI (lgM fc r))) 0 0 (fun _ => False) := by
  refine Met.ofW (cc := cX2_large) (maxL := 4) (ret := (some .boolean)) (by decide) rfl ?_
  intro p e s m args below meth c s₁ B hml hv
  obtain ⟨rfl, hP, hK⟩ := hv
  have hx := B.exec
  have hb := B.bytes
  have hr := B.returns
  have hts := atoms_spec (ws := wsX2_large) B.pre
  have hown : s.vm.findClass RX2 = some m.cls := findClass_of_methodNamed B.named
  have hlocks := B.notSynchronized
  have hinX2 : ∀ w ∈ u_ws RX2 TX2 13, w ∈ wsX2_large := fun w h => List.mem_cons_of_mem _ (List.mem_append_right _ h)
  have hw1 := hts (.fieldLink RX2 7 "ChoiceBoardModel" "cell" "[I") (by decide +kernel)
  have hw2 := hts (.constant RX2 81 (1000000)) (by decide +kernel)
  have hl := lv_entry ([.ref mo, .int x]) (n := 4) (Nat.le_of_ble_eq_true rfl)
  rw [lg_entry_eq]
  generalize (lg_sl ([.ref mo, .int x]) ++ List.replicate (4 - (lg_sl ([.ref mo, .int x])).length) Slot.unset).toArray = ls at hl ⊢
  have hl : lv_has ls 4 [(0, .ref mo), (1, .int x)] := hl
  have join_22 : ∀ (x2 : Int32), (x2 = bI (decide (1000000 < fc (11 * r + 10)))) → ∀ ls : Array Slot, lv_has ls 4 [(0, .ref mo), (1, .int x)] → W p l e rmX2_large s m [.ref mo, .int x].toArray below meth c s.heap [] 0 0 (MQ below (QcRead (bI (lgM fc r))) [.ref mo, .int x].toArray s 0 0 (fun _ => False)) (F0 m 22 ls [.int x2]) := by
    intro x2 e20 ls hl
    refine lv_istore_n (lv' := [(2, .int x2), (0, .ref mo), (1, .int x)]) hx hb dX2_large_22 rfl hl (by decide) rfl (fun ls hl => ?_)
    refine lv_iconst (v := 0) hx hb dX2_large_23 (by decide) ?_
    refine lv_istore_n (lv' := [(3, .int 0), (2, .int x2), (0, .ref mo), (1, .int x)]) hx hb dX2_large_24 rfl hl (by decide) rfl (fun ls hl => ?_)
    have loop_25 : ∀ (n_25 i : Nat) (x2 xi : Int32), i ≤ 10 → 10 + 1 ≤ i + n_25 → (x2 = bI (decide (1000000 < fc (11 * r + 10)) || anyB (fun v => decide (1000000 < szI (fc (11 * r + v)))) i)) → (xi = nI i) → ∀ ls : Array Slot, lv_has ls 4 [(0, .ref mo), (1, .int x), (2, .int x2), (3, .int xi)] → W p l e rmX2_large s m [.ref mo, .int x].toArray below meth c s.heap [] 0 0 (MQ below (QcRead (bI (lgM fc r))) [.ref mo, .int x].toArray s 0 0 (fun _ => False)) (F0 m 25 ls []) := by
      intro n_25
      induction n_25 with
      | zero => intro i x2 xi h1 h2; exact absurd h2 (by omega)
      | succ n_25 ih_25 =>
        intro i x2 xi hi_25 hn_25 e2 ei ls hl
        refine lv_iload_n hx hb dX2_large_25 rfl (lv_at hl 3 rfl) ?_
        refine lv_bipush (v := 10) hx hb dX2_large_26 (by decide) ?_
        refine lv_icmp_ge (tgt := 66) hx hb dX2_large_28 (by decide) (fun c_28 => ?_) (fun c_28 => ?_)
        · have hN : i = 10 := ge_ix ei (by decide) (by decide) c_28 hi_25
          refine lv_iload_n hx hb dX2_large_66 rfl (lv_at hl 2 rfl) ?_
          exact W.zret (v := x2) (ty := .boolean) hx hb hr (by rw [e2]; exact nar_bI _) (fun t ht hW => ⟨congrArg (fun z => Outcome.returned (some (Value.int z))) (by rw [e2, hN]; rfl), ht⟩) (fun _ h => nomatch h) dX2_large_67
        · have hlt : i < 10 := lt_ix ei (by decide) (by decide) c_28 hi_25
          have join_59 : ∀ (y2 : Int32), (y2 = bI (decide (1000000 < fc (11 * r + 10)) || anyB (fun v => decide (1000000 < szI (fc (11 * r + v)))) (i + 1))) → ∀ ls : Array Slot, lv_has ls 4 [(0, .ref mo), (1, .int x), (2, .int x2), (3, .int xi)] → W p l e rmX2_large s m [.ref mo, .int x].toArray below meth c s.heap [] 0 0 (MQ below (QcRead (bI (lgM fc r))) [.ref mo, .int x].toArray s 0 0 (fun _ => False)) (F0 m 59 ls [.int y2]) := by
            intro y2 ev ls hl
            refine lv_istore_n (lv' := [(2, .int y2), (0, .ref mo), (1, .int x), (3, .int xi)]) hx hb dX2_large_59 rfl hl (by decide) rfl (fun ls hl => ?_)
            refine lv_iinc (v := xi + 1) (lv' := [(3, .int (xi + 1)), (2, .int y2), (0, .ref mo), (1, .int x)]) hx hb dX2_large_60 hl (k := 3) rfl rfl (by decide) rfl (fun ls hl => ?_)
            refine lv_goto (tgt := 25) hx hb dX2_large_63 (by decide) ?_
            exact ih_25 (i + 1) _ _ (by omega) (by omega) (by exact ev) (by rw [ei]; exact nI_1 i) ls (lv_sub hl [2, 3, 1, 0] rfl)
          refine lv_iload_n hx hb dX2_large_31 rfl (lv_at hl 2 rfl) ?_
          refine lv_if_ne (tgt := 54) hx hb dX2_large_32 (by decide) (fun c_32 => ?_) (fun c_32 => ?_)
          · refine lv_iconst (v := 1) hx hb dX2_large_54 (by decide) ?_
            refine lv_goto (tgt := 59) hx hb dX2_large_55 (by decide) ?_
            exact join_59 _ (lg_1 e2 c_32) ls (lv_sub hl [0, 1, 2, 3] rfl)
          · refine lv_aload_n hx hb dX2_large_35 rfl (lv_at hl 0 rfl) ?_
            refine va_get (D := G.1) (ci := 2) (v := .ref ce) (C := RX2) (T := TX2) (N := 13) hx hb hts hinX2 hown hK.1 hP 0 rfl rfl 1 (by decide) hw1 (fun _ h9 => h9) rfl dX2_large_36 ?_
            refine lv_bipush (v := 11) hx hb dX2_large_39 (by decide) ?_
            refine lv_iload_n hx hb dX2_large_41 rfl (lv_at hl 1 rfl) ?_
            refine lv_imul hx hb dX2_large_42 ?_
            refine lv_iload_n hx hb dX2_large_43 rfl (lv_at hl 3 rfl) ?_
            refine lv_iadd hx hb dX2_large_44 ?_
            refine ra_iald (f := fc) (v := ((11 * r) + i)) hx hb hK.1 hP 1 0 rfl rfl (na_add (na_mul (by decide) ex) ei) (by omega) (by decide) dX2_large_45 ?_
            refine ro_call (va_runS (As := [.int (fc ((11 * r) + i))]) (rest := []) ⟨hx, hb, hml, hown, hts⟩ (c_X2_size l G (fc ((11 * r) + i))) (va_cwS 1 hts gX2_large_X2_size rfl rfl rfl (by decide +kernel) ⟨Nat.le_of_ble_eq_true rfl, Nat.le_of_ble_eq_true rfl⟩) ⟨ro_blind, ro_pre _ (hP.sub [] rfl) hK⟩ rfl rfl hl.1 rfl (lv_room (Nat.le_of_ble_eq_true rfl)) dX2_large_46 ⟨Nat.le_refl _, Nat.le_refl _⟩) ?_
            refine lv_ldc (v := 1000000) hx hb hown hw2 dX2_large_49 ?_
            refine lv_icmp_le (tgt := 58) hx hb dX2_large_51 (by decide) (fun c_51 => ?_) (fun c_51 => ?_)
            · refine lv_iconst (v := 0) hx hb dX2_large_58 (by decide) ?_
              exact join_59 _ (lg_3 e2 c_32 (decide_eq_false (Int32.not_lt.mpr c_51))) ls (lv_sub hl [0, 1, 2, 3] rfl)
            · refine lv_iconst (v := 1) hx hb dX2_large_54 (by decide) ?_
              refine lv_goto (tgt := 59) hx hb dX2_large_55 (by decide) ?_
              exact join_59 _ (lg_2 (decide_eq_true (Int32.not_le.mp c_51))) ls (lv_sub hl [0, 1, 2, 3] rfl)
    exact loop_25 (10 + 1) 0 _ _ (Nat.zero_le _) (by omega) (by rw [e20]; show _ = bI (_ || false); rw [Bool.or_false]) (by exact nI_0.symm) ls (lv_sub hl [2, 3, 1, 0] rfl)
  refine lv_aload_n hx hb dX2_large_0 rfl (lv_at hl 0 rfl) ?_
  refine va_get (D := G.1) (ci := 2) (v := .ref ce) (C := RX2) (T := TX2) (N := 13) hx hb hts hinX2 hown hK.1 hP 0 rfl rfl 1 (by decide) hw1 (fun _ h9 => h9) rfl dX2_large_1 ?_
  refine lv_bipush (v := 11) hx hb dX2_large_4 (by decide) ?_
  refine lv_iload_n hx hb dX2_large_6 rfl (lv_at hl 1 rfl) ?_
  refine lv_imul hx hb dX2_large_7 ?_
  refine lv_bipush (v := 10) hx hb dX2_large_8 (by decide) ?_
  refine lv_iadd hx hb dX2_large_10 ?_
  refine ra_iald (f := fc) (v := ((11 * r) + 10)) hx hb hK.1 hP 1 0 rfl rfl (na_add (na_mul (by decide) ex) (by decide)) (by omega) (by decide) dX2_large_11 ?_
  refine lv_ldc (v := 1000000) hx hb hown hw2 dX2_large_12 ?_
  refine lv_icmp_le (tgt := 21) hx hb dX2_large_14 (by decide) (fun c_14 => ?_) (fun c_14 => ?_)
  · refine lv_iconst (v := 0) hx hb dX2_large_21 (by decide) ?_
    exact join_22 _ (by rw [decide_eq_false (Int32.not_lt.mpr c_14)]; rfl) ls (lv_sub hl [0, 1] rfl)
  · refine lv_iconst (v := 1) hx hb dX2_large_17 (by decide) ?_
    refine lv_goto (tgt := 22) hx hb dX2_large_18 (by decide) ?_
    exact join_22 _ (by rw [decide_eq_true (Int32.not_le.mp c_14)]; rfl) ls (lv_sub hl [0, 1] rfl)
