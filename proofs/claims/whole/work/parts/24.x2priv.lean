abbrev rmX2_part : Room := { frames := 0, cells := 0, slots := 0, locals := 0 }
set_option maxHeartbeats 4000000 in
set_option maxRecDepth 100000 in
theorem c_X2_part (l : Launch) (G : Gt) (x y : Int32) (hy : ¬ y = 0) : Met l yX2_part wsX2_part rmX2_part (ro_P G [.int x, .int y] []) (QcRead (ptI x y)) 0 0 (fun _ => False) := by
  refine Met.ofW (cc := cX2_part) (maxL := 2) (ret := (some .int)) (by decide) rfl ?_
  intro p e s m args below meth c s₁ B hml hv
  obtain ⟨rfl, hP, hK⟩ := hv
  have hx := B.exec
  have hb := B.bytes
  have hr := B.returns
  have hts := atoms_spec (ws := wsX2_part) B.pre
  have hown : s.vm.findClass RX2 = some m.cls := findClass_of_methodNamed B.named
  have hlocks := B.notSynchronized
  have hl := lv_entry ([.int x, .int y]) (n := 2) (Nat.le_of_ble_eq_true rfl)
  rw [lg_entry_eq]
  generalize (lg_sl ([.int x, .int y]) ++ List.replicate (2 - (lg_sl ([.int x, .int y])).length) Slot.unset).toArray = ls at hl ⊢
  have hl : lv_has ls 2 [(0, .int x), (1, .int y)] := hl
  refine lv_iload_n hx hb dX2_part_0 rfl (lv_at hl 0 rfl) ?_
  refine lv_if_ne (tgt := 8) hx hb dX2_part_1 (by decide) (fun c_1 => ?_) (fun c_1 => ?_)
  · refine lv_iload_n hx hb dX2_part_8 rfl (lv_at hl 0 rfl) ?_
    refine lv_iconst (v := 1) hx hb dX2_part_9 (by decide) ?_
    refine lv_isub hx hb dX2_part_10 ?_
    refine lv_iload_n hx hb dX2_part_11 rfl (lv_at hl 1 rfl) ?_
    refine lv_idiv hx hb dX2_part_12 hy ?_
    refine lv_iconst (v := 1) hx hb dX2_part_13 (by decide) ?_
    refine lv_iadd hx hb dX2_part_14 ?_
    exact W.iret (v := ((x - 1) / y) + 1) hx hb hr (fun t ht hW => ⟨congrArg (fun z => Outcome.returned (some (Value.int z))) (by unfold ptI; rw [if_neg c_1]), ht⟩) (fun _ h => nomatch h) dX2_part_15
  · refine lv_iconst (v := 0) hx hb dX2_part_4 (by decide) ?_
    refine lv_goto (tgt := 15) hx hb dX2_part_5 (by decide) ?_
    exact W.iret (v := 0) hx hb hr (fun t ht hW => ⟨congrArg (fun z => Outcome.returned (some (Value.int z))) (by unfold ptI; rw [if_pos c_1]), ht⟩) (fun _ h => nomatch h) dX2_part_15

abbrev rmX2_meets : Room := { frames := 1, cells := 0, slots := 0, locals := 20 }
set_option maxHeartbeats 4000000 in
set_option maxRecDepth 100000 in
theorem c_X2_meets (l : Launch) (G : Gt) (mo ce gv dr go sa : Nat) (th st sk tk be so le an : Int32) (fc fg fd fo fs : Nat → Int32) (x : Int32) (r : Nat) (ex : x = nI r) (hr : r < 38) (y : Int32) : Met l yX2_meets wsX2_meets rmX2_meets (ro_P G [.ref mo, .int x, .int y] [(mo, .inr (2, [.int th, .ref ce, .ref gv, .int st, .int sk, .ref dr, .ref go, .int tk, .int be, .int so, .int le, .int an, .ref sa])), (ce, eI G 418 fc), (gv, eZ G 30 fg), (dr, eI G 10 fd), (go, eI G 10 fo), (sa, eI G 10 fs)]) (QcRead (mtM fc r y)) 0 0 (fun _ => False) := by
  refine Met.ofW (cc := cX2_meets) (maxL := 7) (ret := (some .boolean)) (by decide) rfl ?_
  intro p e s m args below meth c s₁ B hml hv
  obtain ⟨rfl, hP, hK⟩ := hv
  have hx := B.exec
  have hb := B.bytes
  have hr := B.returns
  have hts := atoms_spec (ws := wsX2_meets) B.pre
  have hown : s.vm.findClass RX2 = some m.cls := findClass_of_methodNamed B.named
  have hlocks := B.notSynchronized
  have hinX2 : ∀ w ∈ u_ws RX2 TX2 13, w ∈ wsX2_meets := fun w h => List.mem_cons_of_mem _ (List.mem_append_right _ h)
  have hw1 := hts (.fieldLink RX2 7 "ChoiceBoardModel" "cell" "[I") (by decide +kernel)
  have hl := lv_entry ([.ref mo, .int x, .int y]) (n := 7) (Nat.le_of_ble_eq_true rfl)
  rw [lg_entry_eq]
  generalize (lg_sl ([.ref mo, .int x, .int y]) ++ List.replicate (7 - (lg_sl ([.ref mo, .int x, .int y])).length) Slot.unset).toArray = ls at hl ⊢
  have hl : lv_has ls 7 [(0, .ref mo), (1, .int x), (2, .int y)] := hl
  refine lv_iconst (v := 0) hx hb dX2_meets_0 (by decide) ?_
  refine lv_istore_n (lv' := [(3, .int 0), (0, .ref mo), (1, .int x), (2, .int y)]) hx hb dX2_meets_1 rfl hl (by decide) rfl (fun ls hl => ?_)
  refine lv_iconst (v := 0) hx hb dX2_meets_2 (by decide) ?_
  refine lv_istore (lv' := [(4, .int 0), (3, .int 0), (0, .ref mo), (1, .int x), (2, .int y)]) hx hb dX2_meets_3 hl (by decide) rfl (fun ls hl => ?_)
  have loop_5 : ∀ (n_5 i : Nat) (xs xi : Int32), i ≤ 10 → 10 + 1 ≤ i + n_5 → (xs = sg 0 (mtT fc r y) i) → (xi = nI i) → ∀ ls : Array Slot, lv_has ls 7 [(0, .ref mo), (1, .int x), (2, .int y), (3, .int xs), (4, .int xi)] → W p l e rmX2_meets s m [.ref mo, .int x, .int y].toArray below meth c s.heap [] 0 0 (MQ below (QcRead (mtM fc r y)) [.ref mo, .int x, .int y].toArray s 0 0 (fun _ => False)) (F0 m 5 ls []) := by
    intro n_5
    induction n_5 with
    | zero => intro i xs xi h1 h2; exact absurd h2 (by omega)
    | succ n_5 ih_5 =>
      intro i xs xi hi_5 hn_5 es ei ls hl
      refine lv_iload hx hb dX2_meets_5 (lv_at hl 4 rfl) ?_
      refine lv_bipush (v := 10) hx hb dX2_meets_7 (by decide) ?_
      refine lv_icmp_ge (tgt := 76) hx hb dX2_meets_9 (by decide) (fun c_9 => ?_) (fun c_9 => ?_)
      · have hN : i = 10 := ge_ix ei (by decide) (by decide) c_9 hi_5
        refine lv_iload_n hx hb dX2_meets_76 rfl (lv_at hl 3 rfl) ?_
        refine lv_aload_n hx hb dX2_meets_77 rfl (lv_at hl 0 rfl) ?_
        refine va_get (D := G.1) (ci := 2) (v := .ref ce) (C := RX2) (T := TX2) (N := 13) hx hb hts hinX2 hown hK.1 hP 0 rfl rfl 1 (by decide) hw1 (fun _ h9 => h9) rfl dX2_meets_78 ?_
        refine lv_bipush (v := 11) hx hb dX2_meets_81 (by decide) ?_
        refine lv_iload_n hx hb dX2_meets_83 rfl (lv_at hl 1 rfl) ?_
        refine lv_imul hx hb dX2_meets_84 ?_
        refine lv_bipush (v := 10) hx hb dX2_meets_85 (by decide) ?_
        refine lv_iadd hx hb dX2_meets_87 ?_
        refine ra_iald (f := fc) (v := ((11 * r) + 10)) hx hb hK.1 hP 1 0 rfl rfl (na_add (na_mul (by decide) ex) (by decide)) (by omega) (by decide) dX2_meets_88 ?_
        refine lv_icmp_lt (tgt := 96) hx hb dX2_meets_89 (by decide) (fun c_89 => ?_) (fun c_89 => ?_)
        · refine lv_iconst (v := 0) hx hb dX2_meets_96 (by decide) ?_
          exact W.zret (v := 0) (ty := .boolean) hx hb hr rfl (fun t ht hW => ⟨congrArg (fun z => Outcome.returned (some (Value.int z))) (by have e9 := es; rw [hN] at e9; unfold mtM; rw [← e9, if_pos c_89]), ht⟩) (fun _ h => nomatch h) dX2_meets_97
        · refine lv_iconst (v := 1) hx hb dX2_meets_92 (by decide) ?_
          refine lv_goto (tgt := 97) hx hb dX2_meets_93 (by decide) ?_
          exact W.zret (v := 1) (ty := .boolean) hx hb hr rfl (fun t ht hW => ⟨congrArg (fun z => Outcome.returned (some (Value.int z))) (by have e9 := es; rw [hN] at e9; unfold mtM; rw [← e9, if_neg c_89]), ht⟩) (fun _ h => nomatch h) dX2_meets_97
      · have hlt : i < 10 := lt_ix ei (by decide) (by decide) c_9 hi_5
        refine lv_aload_n hx hb dX2_meets_12 rfl (lv_at hl 0 rfl) ?_
        refine va_get (D := G.1) (ci := 2) (v := .ref ce) (C := RX2) (T := TX2) (N := 13) hx hb hts hinX2 hown hK.1 hP 0 rfl rfl 1 (by decide) hw1 (fun _ h9 => h9) rfl dX2_meets_13 ?_
        refine lv_bipush (v := 11) hx hb dX2_meets_16 (by decide) ?_
        refine lv_iload_n hx hb dX2_meets_18 rfl (lv_at hl 1 rfl) ?_
        refine lv_imul hx hb dX2_meets_19 ?_
        refine lv_iload hx hb dX2_meets_20 (lv_at hl 4 rfl) ?_
        refine lv_iadd hx hb dX2_meets_22 ?_
        refine ra_iald (f := fc) (v := ((11 * r) + i)) hx hb hK.1 hP 1 0 rfl rfl (na_add (na_mul (by decide) ex) ei) (by omega) (by decide) dX2_meets_23 ?_
        refine lv_istore (lv' := [(5, .int (fc ((11 * r) + i))), (0, .ref mo), (1, .int x), (2, .int y), (3, .int xs), (4, .int xi)]) hx hb dX2_meets_24 hl (by decide) rfl (fun ls hl => ?_)
        have join_41 : ∀ (x6 : Int32), (x6 = onC y xi) → ∀ ls : Array Slot, lv_has ls 7 [(5, .int (fc ((11 * r) + i))), (0, .ref mo), (1, .int x), (2, .int y), (3, .int xs), (4, .int xi)] → W p l e rmX2_meets s m [.ref mo, .int x, .int y].toArray below meth c s.heap [] 0 0 (MQ below (QcRead (mtM fc r y)) [.ref mo, .int x, .int y].toArray s 0 0 (fun _ => False)) (F0 m 41 ls [.int x6]) := by
          intro x6 e6 ls hl
          refine lv_istore (lv' := [(6, .int x6), (5, .int (fc ((11 * r) + i))), (0, .ref mo), (1, .int x), (2, .int y), (3, .int xs), (4, .int xi)]) hx hb dX2_meets_41 hl (by decide) rfl (fun ls hl => ?_)
          refine lv_iload_n hx hb dX2_meets_43 rfl (lv_at hl 5 rfl) ?_
          have join_54 : ∀ (t7 : Int32), (t7 = cntI (fc (11 * r + i))) → ∀ ls : Array Slot, lv_has ls 7 [(6, .int x6), (5, .int (fc ((11 * r) + i))), (0, .ref mo), (1, .int x), (2, .int y), (3, .int xs), (4, .int xi)] → W p l e rmX2_meets s m [.ref mo, .int x, .int y].toArray below meth c s.heap [] 0 0 (MQ below (QcRead (mtM fc r y)) [.ref mo, .int x, .int y].toArray s 0 0 (fun _ => False)) (F0 m 54 ls [.int t7, .int xs]) := by
            intro t7 e7 ls hl
            refine lv_iload hx hb dX2_meets_54 (lv_at hl 0 rfl) ?_
            refine lv_icmp_ne (tgt := 67) hx hb dX2_meets_56 (by decide) (fun c_56 => ?_) (fun c_56 => ?_)
            · refine lv_iconst (v := 0) hx hb dX2_meets_67 (by decide) ?_
              refine lv_iadd hx hb dX2_meets_68 ?_
              refine lv_istore_n (lv' := [(3, .int (xs + 0)), (6, .int x6), (5, .int (fc ((11 * r) + i))), (0, .ref mo), (1, .int x), (2, .int y), (4, .int xi)]) hx hb dX2_meets_69 rfl hl (by decide) rfl (fun ls hl => ?_)
              refine lv_iinc (v := xi + 1) (lv' := [(4, .int (xi + 1)), (3, .int (xs + 0)), (6, .int x6), (5, .int (fc ((11 * r) + i))), (0, .ref mo), (1, .int x), (2, .int y)]) hx hb dX2_meets_70 hl (k := 6) rfl rfl (by decide) rfl (fun ls hl => ?_)
              refine lv_goto (tgt := 5) hx hb dX2_meets_73 (by decide) ?_
              exact ih_5 (i + 1) _ _ (by omega) (by omega) (by rw [sg_s, es]; unfold mtT; rw [← e7, ← ei, ← e6, if_neg c_56]) (by rw [ei]; exact nI_1 i) ls (lv_sub hl [4, 5, 6, 1, 0] rfl)
            · refine lv_iload hx hb dX2_meets_59 (lv_at hl 1 rfl) ?_
              refine ro_call (va_runS (As := [.int (fc ((11 * r) + i))]) (rest := [.int xs]) ⟨hx, hb, hml, hown, hts⟩ (c_X2_size l G (fc ((11 * r) + i))) (va_cwS 1 hts gX2_meets_X2_size rfl rfl rfl (by decide +kernel) ⟨Nat.le_of_ble_eq_true rfl, Nat.le_of_ble_eq_true rfl⟩) ⟨ro_blind, ro_pre _ (hP.sub [] rfl) hK⟩ rfl rfl hl.1 rfl (lv_room (Nat.le_of_ble_eq_true rfl)) dX2_meets_61 ⟨Nat.le_refl _, Nat.le_refl _⟩) ?_
              refine lv_goto (tgt := 68) hx hb dX2_meets_64 (by decide) ?_
              refine lv_iadd hx hb dX2_meets_68 ?_
              refine lv_istore_n (lv' := [(3, .int (xs + (szI (fc ((11 * r) + i))))), (6, .int x6), (5, .int (fc ((11 * r) + i))), (0, .ref mo), (1, .int x), (2, .int y), (4, .int xi)]) hx hb dX2_meets_69 rfl hl (by decide) rfl (fun ls hl => ?_)
              refine lv_iinc (v := xi + 1) (lv' := [(4, .int (xi + 1)), (3, .int (xs + (szI (fc ((11 * r) + i))))), (6, .int x6), (5, .int (fc ((11 * r) + i))), (0, .ref mo), (1, .int x), (2, .int y)]) hx hb dX2_meets_70 hl (k := 6) rfl rfl (by decide) rfl (fun ls hl => ?_)
              refine lv_goto (tgt := 5) hx hb dX2_meets_73 (by decide) ?_
              exact ih_5 (i + 1) _ _ (by omega) (by omega) (by rw [sg_s, es]; unfold mtT; rw [← e7, ← ei, ← e6, if_pos c_56]) (by rw [ei]; exact nI_1 i) ls (lv_sub hl [4, 5, 6, 1, 0] rfl)
          refine lv_iload hx hb dX2_meets_44 (lv_at hl 1 rfl) ?_
          refine lv_if_le (tgt := 53) hx hb dX2_meets_46 (by decide) (fun c_46 => ?_) (fun c_46 => ?_)
          · refine lv_iconst (v := 0) hx hb dX2_meets_53 (by decide) ?_
            exact join_54 _ (by unfold cntI; rw [if_neg (Int32.not_lt.mpr c_46)]) ls (lv_sub hl [0, 1, 2, 3, 4, 5, 6] rfl)
          · refine lv_iconst (v := 1) hx hb dX2_meets_49 (by decide) ?_
            refine lv_goto (tgt := 54) hx hb dX2_meets_50 (by decide) ?_
            exact join_54 _ (by unfold cntI; rw [if_pos (Int32.not_le.mp c_46)]) ls (lv_sub hl [0, 1, 2, 3, 4, 5, 6] rfl)
        refine lv_iload_n hx hb dX2_meets_26 rfl (lv_at hl 3 rfl) ?_
        refine lv_iload hx hb dX2_meets_27 (lv_at hl 5 rfl) ?_
        refine lv_ishr hx hb dX2_meets_29 ?_
        refine lv_iconst (v := 1) hx hb dX2_meets_30 (by decide) ?_
        refine lv_iand hx hb dX2_meets_31 ?_
        refine lv_iconst (v := 1) hx hb dX2_meets_32 (by decide) ?_
        refine lv_icmp_ne (tgt := 40) hx hb dX2_meets_33 (by decide) (fun c_33 => ?_) (fun c_33 => ?_)
        · refine lv_iconst (v := 0) hx hb dX2_meets_40 (by decide) ?_
          exact join_41 _ (by unfold onC bitI; rw [if_neg c_33]) ls (lv_sub hl [0, 1, 2, 3, 4, 5] rfl)
        · refine lv_iconst (v := 1) hx hb dX2_meets_36 (by decide) ?_
          refine lv_goto (tgt := 41) hx hb dX2_meets_37 (by decide) ?_
          exact join_41 _ (by unfold onC bitI; rw [if_pos c_33]) ls (lv_sub hl [0, 1, 2, 3, 4, 5] rfl)
  exact loop_5 (10 + 1) 0 _ _ (Nat.zero_le _) (by omega) (by rfl) (by exact nI_0.symm) ls (lv_sub hl [2, 3, 4, 1, 0] rfl)

abbrev rmX2_worth : Room := { frames := 0, cells := 0, slots := 0, locals := 0 }
set_option maxHeartbeats 4000000 in
set_option maxRecDepth 100000 in
theorem c_X2_worth (l : Launch) (G : Gt) (mo ce gv dr go sa : Nat) (th st sk tk be so le an : Int32) (fc fg fd fo fs : Nat → Int32) (y : Int32) : Met l yX2_worth wsX2_worth rmX2_worth (ro_P G [.ref mo, .int y] [(mo, .inr (2, [.int th, .ref ce, .ref gv, .int st, .int sk, .ref dr, .ref go, .int tk, .int be, .int so, .int le, .int an, .ref sa])), (ce, eI G 418 fc), (gv, eZ G 30 fg), (dr, eI G 10 fd), (go, eI G 10 fo), (sa, eI G 10 fs)]) (QcRead (wrM fo y)) 0 0 (fun _ => False) := by
  refine Met.ofW (cc := cX2_worth) (maxL := 4) (ret := (some .int)) (by decide) rfl ?_
  intro p e s m args below meth c s₁ B hml hv
  obtain ⟨rfl, hP, hK⟩ := hv
  have hx := B.exec
  have hb := B.bytes
  have hr := B.returns
  have hts := atoms_spec (ws := wsX2_worth) B.pre
  have hown : s.vm.findClass RX2 = some m.cls := findClass_of_methodNamed B.named
  have hlocks := B.notSynchronized
  have hinX2 : ∀ w ∈ u_ws RX2 TX2 13, w ∈ wsX2_worth := fun w h => List.mem_cons_of_mem _ (List.mem_append_right _ h)
  have hw1 := hts (.fieldLink RX2 20 "ChoiceBoardModel" "goal" "[I") (by decide +kernel)
  have hl := lv_entry ([.ref mo, .int y]) (n := 4) (Nat.le_of_ble_eq_true rfl)
  rw [lg_entry_eq]
  generalize (lg_sl ([.ref mo, .int y]) ++ List.replicate (4 - (lg_sl ([.ref mo, .int y])).length) Slot.unset).toArray = ls at hl ⊢
  have hl : lv_has ls 4 [(0, .ref mo), (1, .int y)] := hl
  refine lv_iconst (v := 0) hx hb dX2_worth_0 (by decide) ?_
  refine lv_istore_n (lv' := [(2, .int 0), (0, .ref mo), (1, .int y)]) hx hb dX2_worth_1 rfl hl (by decide) rfl (fun ls hl => ?_)
  refine lv_iconst (v := 0) hx hb dX2_worth_2 (by decide) ?_
  refine lv_istore_n (lv' := [(3, .int 0), (2, .int 0), (0, .ref mo), (1, .int y)]) hx hb dX2_worth_3 rfl hl (by decide) rfl (fun ls hl => ?_)
  have loop_4 : ∀ (n_4 i : Nat) (xs xi : Int32), i ≤ 10 → 10 + 1 ≤ i + n_4 → (xs = sg 0 (fun v => bitI y (nI v) * fo v) i) → (xi = nI i) → ∀ ls : Array Slot, lv_has ls 4 [(0, .ref mo), (1, .int y), (2, .int xs), (3, .int xi)] → W p l e rmX2_worth s m [.ref mo, .int y].toArray below meth c s.heap [] 0 0 (MQ below (QcRead (wrM fo y)) [.ref mo, .int y].toArray s 0 0 (fun _ => False)) (F0 m 4 ls []) := by
    intro n_4
    induction n_4 with
    | zero => intro i xs xi h1 h2; exact absurd h2 (by omega)
    | succ n_4 ih_4 =>
      intro i xs xi hi_4 hn_4 es ei ls hl
      refine lv_iload_n hx hb dX2_worth_4 rfl (lv_at hl 3 rfl) ?_
      refine lv_bipush (v := 10) hx hb dX2_worth_5 (by decide) ?_
      refine lv_icmp_ge (tgt := 31) hx hb dX2_worth_7 (by decide) (fun c_7 => ?_) (fun c_7 => ?_)
      · have hN : i = 10 := ge_ix ei (by decide) (by decide) c_7 hi_4
        refine lv_iload_n hx hb dX2_worth_31 rfl (lv_at hl 2 rfl) ?_
        exact W.iret (v := xs) hx hb hr (fun t ht hW => ⟨congrArg (fun z => Outcome.returned (some (Value.int z))) (by rw [es, hN]; rfl), ht⟩) (fun _ h => nomatch h) dX2_worth_32
      · have hlt : i < 10 := lt_ix ei (by decide) (by decide) c_7 hi_4
        refine lv_iload_n hx hb dX2_worth_10 rfl (lv_at hl 2 rfl) ?_
        refine lv_iload_n hx hb dX2_worth_11 rfl (lv_at hl 1 rfl) ?_
        refine lv_iload_n hx hb dX2_worth_12 rfl (lv_at hl 3 rfl) ?_
        refine lv_ishr hx hb dX2_worth_13 ?_
        refine lv_iconst (v := 1) hx hb dX2_worth_14 (by decide) ?_
        refine lv_iand hx hb dX2_worth_15 ?_
        refine lv_aload_n hx hb dX2_worth_16 rfl (lv_at hl 0 rfl) ?_
        refine va_get (D := G.1) (ci := 2) (v := .ref go) (C := RX2) (T := TX2) (N := 13) hx hb hts hinX2 hown hK.1 hP 0 rfl rfl 6 (by decide) hw1 (fun _ h9 => h9) rfl dX2_worth_17 ?_
        refine lv_iload_n hx hb dX2_worth_20 rfl (lv_at hl 3 rfl) ?_
        refine ra_iald (f := fo) (v := i) hx hb hK.1 hP 4 0 rfl rfl ei (by omega) (by decide) dX2_worth_21 ?_
        refine lv_imul hx hb dX2_worth_22 ?_
        refine lv_iadd hx hb dX2_worth_23 ?_
        refine lv_istore_n (lv' := [(2, .int (xs + (((y >>> (xi &&& 31)) &&& 1) * (fo i)))), (0, .ref mo), (1, .int y), (3, .int xi)]) hx hb dX2_worth_24 rfl hl (by decide) rfl (fun ls hl => ?_)
        refine lv_iinc (v := xi + 1) (lv' := [(3, .int (xi + 1)), (2, .int (xs + (((y >>> (xi &&& 31)) &&& 1) * (fo i)))), (0, .ref mo), (1, .int y)]) hx hb dX2_worth_25 hl (k := 3) rfl rfl (by decide) rfl (fun ls hl => ?_)
        refine lv_goto (tgt := 4) hx hb dX2_worth_28 (by decide) ?_
        exact ih_4 (i + 1) _ _ (by omega) (by omega) (by rw [es]; show _ = sg 0 (fun v => bitI y (nI v) * fo v) i + bitI y (nI i) * fo i; rw [← ei]; rfl) (by rw [ei]; exact nI_1 i) ls (lv_sub hl [2, 3, 1, 0] rfl)
  exact loop_4 (10 + 1) 0 _ _ (Nat.zero_le _) (by omega) (by rfl) (by exact nI_0.symm) ls (lv_sub hl [2, 3, 1, 0] rfl)

abbrev rmX2_noGoal : Room := { frames := 0, cells := 0, slots := 0, locals := 0 }
set_option maxHeartbeats 4000000 in
set_option maxRecDepth 100000 in
theorem c_X2_noGoal (l : Launch) (G : Gt) (mo ce gv dr go sa : Nat) (th st sk tk be so le an : Int32) (fc fg fd fo fs : Nat → Int32) : Met l yX2_noGoal wsX2_noGoal rmX2_noGoal (ro_P G [.ref mo] [(mo, .inr (2, [.int th, .ref ce, .ref gv, .int st, .int sk, .ref dr, .ref go, .int tk, .int be, .int so, .int le, .int an, .ref sa])), (ce, eI G 418 fc), (gv, eZ G 30 fg), (dr, eI G 10 fd), (go, eI G 10 fo), (sa, eI G 10 fs)]) (QcRead (bI (ngM fo))) 0 0 (fun _ => False) := by
  refine Met.ofW (cc := cX2_noGoal) (maxL := 3) (ret := (some .boolean)) (by decide) rfl ?_
  intro p e s m args below meth c s₁ B hml hv
  obtain ⟨rfl, hP, hK⟩ := hv
  have hx := B.exec
  have hb := B.bytes
  have hr := B.returns
  have hts := atoms_spec (ws := wsX2_noGoal) B.pre
  have hown : s.vm.findClass RX2 = some m.cls := findClass_of_methodNamed B.named
  have hlocks := B.notSynchronized
  have hinX2 : ∀ w ∈ u_ws RX2 TX2 13, w ∈ wsX2_noGoal := fun w h => List.mem_cons_of_mem _ (List.mem_append_right _ h)
  have hw1 := hts (.fieldLink RX2 20 "ChoiceBoardModel" "goal" "[I") (by decide +kernel)
  have hl := lv_entry ([.ref mo]) (n := 3) (Nat.le_of_ble_eq_true rfl)
  rw [lg_entry_eq]
  generalize (lg_sl ([.ref mo]) ++ List.replicate (3 - (lg_sl ([.ref mo])).length) Slot.unset).toArray = ls at hl ⊢
  have hl : lv_has ls 3 [(0, .ref mo)] := hl
  refine lv_iconst (v := 1) hx hb dX2_noGoal_0 (by decide) ?_
  refine lv_istore_n (lv' := [(1, .int 1), (0, .ref mo)]) hx hb dX2_noGoal_1 rfl hl (by decide) rfl (fun ls hl => ?_)
  refine lv_iconst (v := 0) hx hb dX2_noGoal_2 (by decide) ?_
  refine lv_istore_n (lv' := [(2, .int 0), (1, .int 1), (0, .ref mo)]) hx hb dX2_noGoal_3 rfl hl (by decide) rfl (fun ls hl => ?_)
  have loop_4 : ∀ (n_4 i : Nat) (x1 xi : Int32), i ≤ 10 → 10 + 1 ≤ i + n_4 → (x1 = bI (allB (fun v => decide (fo v = 0)) i)) → (xi = nI i) → ∀ ls : Array Slot, lv_has ls 3 [(0, .ref mo), (1, .int x1), (2, .int xi)] → W p l e rmX2_noGoal s m [.ref mo].toArray below meth c s.heap [] 0 0 (MQ below (QcRead (bI (ngM fo))) [.ref mo].toArray s 0 0 (fun _ => False)) (F0 m 4 ls []) := by
    intro n_4
    induction n_4 with
    | zero => intro i x1 xi h1 h2; exact absurd h2 (by omega)
    | succ n_4 ih_4 =>
      intro i x1 xi hi_4 hn_4 e1 ei ls hl
      refine lv_iload_n hx hb dX2_noGoal_4 rfl (lv_at hl 2 rfl) ?_
      refine lv_bipush (v := 10) hx hb dX2_noGoal_5 (by decide) ?_
      refine lv_icmp_ge (tgt := 35) hx hb dX2_noGoal_7 (by decide) (fun c_7 => ?_) (fun c_7 => ?_)
      · have hN : i = 10 := ge_ix ei (by decide) (by decide) c_7 hi_4
        refine lv_iload_n hx hb dX2_noGoal_35 rfl (lv_at hl 1 rfl) ?_
        exact W.zret (v := x1) (ty := .boolean) hx hb hr (by rw [e1]; exact nar_bI _) (fun t ht hW => ⟨congrArg (fun z => Outcome.returned (some (Value.int z))) (by rw [e1, hN]; rfl), ht⟩) (fun _ h => nomatch h) dX2_noGoal_36
      · have hlt : i < 10 := lt_ix ei (by decide) (by decide) c_7 hi_4
        have join_28 : ∀ (y1 : Int32), (y1 = bI (allB (fun v => decide (fo v = 0)) (i + 1))) → ∀ ls : Array Slot, lv_has ls 3 [(0, .ref mo), (1, .int x1), (2, .int xi)] → W p l e rmX2_noGoal s m [.ref mo].toArray below meth c s.heap [] 0 0 (MQ below (QcRead (bI (ngM fo))) [.ref mo].toArray s 0 0 (fun _ => False)) (F0 m 28 ls [.int y1]) := by
          intro y1 ev ls hl
          refine lv_istore_n (lv' := [(1, .int y1), (0, .ref mo), (2, .int xi)]) hx hb dX2_noGoal_28 rfl hl (by decide) rfl (fun ls hl => ?_)
          refine lv_iinc (v := xi + 1) (lv' := [(2, .int (xi + 1)), (1, .int y1), (0, .ref mo)]) hx hb dX2_noGoal_29 hl (k := 2) rfl rfl (by decide) rfl (fun ls hl => ?_)
          refine lv_goto (tgt := 4) hx hb dX2_noGoal_32 (by decide) ?_
          exact ih_4 (i + 1) _ _ (by omega) (by omega) (by exact ev) (by rw [ei]; exact nI_1 i) ls (lv_sub hl [2, 1, 0] rfl)
        refine lv_iload_n hx hb dX2_noGoal_10 rfl (lv_at hl 1 rfl) ?_
        refine lv_if_eq (tgt := 27) hx hb dX2_noGoal_11 (by decide) (fun c_11 => ?_) (fun c_11 => ?_)
        · refine lv_iconst (v := 0) hx hb dX2_noGoal_27 (by decide) ?_
          exact join_28 _ (ng_1 e1 c_11) ls (lv_sub hl [0, 1, 2] rfl)
        · refine lv_aload_n hx hb dX2_noGoal_14 rfl (lv_at hl 0 rfl) ?_
          refine va_get (D := G.1) (ci := 2) (v := .ref go) (C := RX2) (T := TX2) (N := 13) hx hb hts hinX2 hown hK.1 hP 0 rfl rfl 6 (by decide) hw1 (fun _ h9 => h9) rfl dX2_noGoal_15 ?_
          refine lv_iload_n hx hb dX2_noGoal_18 rfl (lv_at hl 2 rfl) ?_
          refine ra_iald (f := fo) (v := i) hx hb hK.1 hP 4 0 rfl rfl ei (by omega) (by decide) dX2_noGoal_19 ?_
          refine lv_if_ne (tgt := 27) hx hb dX2_noGoal_20 (by decide) (fun c_20 => ?_) (fun c_20 => ?_)
          · refine lv_iconst (v := 0) hx hb dX2_noGoal_27 (by decide) ?_
            exact join_28 _ (ng_2 (decide_eq_false c_20)) ls (lv_sub hl [0, 1, 2] rfl)
          · refine lv_iconst (v := 1) hx hb dX2_noGoal_23 (by decide) ?_
            refine lv_goto (tgt := 28) hx hb dX2_noGoal_24 (by decide) ?_
            exact join_28 _ (ng_3 e1 c_11 (decide_eq_true c_20)) ls (lv_sub hl [0, 1, 2] rfl)
  exact loop_4 (10 + 1) 0 _ _ (Nat.zero_le _) (by omega) (by rfl) (by exact nI_0.symm) ls (lv_sub hl [2, 1, 0] rfl)

abbrev rmX2_turned : Room := { frames := 0, cells := 0, slots := 0, locals := 0 }
set_option maxHeartbeats 4000000 in
set_option maxRecDepth 100000 in
theorem c_X2_turned (l : Launch) (G : Gt) (x : Int32) : Met l yX2_turned wsX2_turned rmX2_turned (ro_P G [.int x] []) (QcRead (tnI x 10)) 0 0 (fun _ => False) := by
  refine Met.ofW (cc := cX2_turned) (maxL := 3) (ret := (some .int)) (by decide) rfl ?_
  intro p e s m args below meth c s₁ B hml hv
  obtain ⟨rfl, hP, hK⟩ := hv
  have hx := B.exec
  have hb := B.bytes
  have hr := B.returns
  have hts := atoms_spec (ws := wsX2_turned) B.pre
  have hown : s.vm.findClass RX2 = some m.cls := findClass_of_methodNamed B.named
  have hlocks := B.notSynchronized
  have hl := lv_entry ([.int x]) (n := 3) (Nat.le_of_ble_eq_true rfl)
  rw [lg_entry_eq]
  generalize (lg_sl ([.int x]) ++ List.replicate (3 - (lg_sl ([.int x])).length) Slot.unset).toArray = ls at hl ⊢
  have hl : lv_has ls 3 [(0, .int x)] := hl
  refine lv_iconst (v := 0) hx hb dX2_turned_0 (by decide) ?_
  refine lv_istore_n (lv' := [(1, .int 0), (0, .int x)]) hx hb dX2_turned_1 rfl hl (by decide) rfl (fun ls hl => ?_)
  refine lv_iconst (v := 0) hx hb dX2_turned_2 (by decide) ?_
  refine lv_istore_n (lv' := [(2, .int 0), (1, .int 0), (0, .int x)]) hx hb dX2_turned_3 rfl hl (by decide) rfl (fun ls hl => ?_)
  have loop_4 : ∀ (n_4 i : Nat) (xs xi : Int32), i ≤ 10 → 10 + 1 ≤ i + n_4 → (xs = tnI x i) → (xi = nI i) → ∀ ls : Array Slot, lv_has ls 3 [(0, .int x), (1, .int xs), (2, .int xi)] → W p l e rmX2_turned s m [.int x].toArray below meth c s.heap [] 0 0 (MQ below (QcRead (tnI x 10)) [.int x].toArray s 0 0 (fun _ => False)) (F0 m 4 ls []) := by
    intro n_4
    induction n_4 with
    | zero => intro i xs xi h1 h2; exact absurd h2 (by omega)
    | succ n_4 ih_4 =>
      intro i xs xi hi_4 hn_4 es ei ls hl
      refine lv_iload_n hx hb dX2_turned_4 rfl (lv_at hl 2 rfl) ?_
      refine lv_bipush (v := 10) hx hb dX2_turned_5 (by decide) ?_
      refine lv_icmp_ge (tgt := 29) hx hb dX2_turned_7 (by decide) (fun c_7 => ?_) (fun c_7 => ?_)
      · have hN : i = 10 := ge_ix ei (by decide) (by decide) c_7 hi_4
        refine lv_iload_n hx hb dX2_turned_29 rfl (lv_at hl 1 rfl) ?_
        exact W.iret (v := xs) hx hb hr (fun t ht hW => ⟨congrArg (fun z => Outcome.returned (some (Value.int z))) (by rw [es, hN]), ht⟩) (fun _ h => nomatch h) dX2_turned_30
      · have hlt : i < 10 := lt_ix ei (by decide) (by decide) c_7 hi_4
        refine lv_iload_n hx hb dX2_turned_10 rfl (lv_at hl 1 rfl) ?_
        refine lv_iload_n hx hb dX2_turned_11 rfl (lv_at hl 0 rfl) ?_
        refine lv_bipush (v := 9) hx hb dX2_turned_12 (by decide) ?_
        refine lv_iload_n hx hb dX2_turned_14 rfl (lv_at hl 2 rfl) ?_
        refine lv_isub hx hb dX2_turned_15 ?_
        refine lv_ishr hx hb dX2_turned_16 ?_
        refine lv_iconst (v := 1) hx hb dX2_turned_17 (by decide) ?_
        refine lv_iand hx hb dX2_turned_18 ?_
        refine lv_iload_n hx hb dX2_turned_19 rfl (lv_at hl 2 rfl) ?_
        refine lv_ishl hx hb dX2_turned_20 ?_
        refine lv_ior hx hb dX2_turned_21 ?_
        refine lv_istore_n (lv' := [(1, .int (xs ||| (((x >>> ((9 - xi) &&& 31)) &&& 1) <<< (xi &&& 31)))), (0, .int x), (2, .int xi)]) hx hb dX2_turned_22 rfl hl (by decide) rfl (fun ls hl => ?_)
        refine lv_iinc (v := xi + 1) (lv' := [(2, .int (xi + 1)), (1, .int (xs ||| (((x >>> ((9 - xi) &&& 31)) &&& 1) <<< (xi &&& 31)))), (0, .int x)]) hx hb dX2_turned_23 hl (k := 2) rfl rfl (by decide) rfl (fun ls hl => ?_)
        refine lv_goto (tgt := 4) hx hb dX2_turned_26 (by decide) ?_
        exact ih_4 (i + 1) _ _ (by omega) (by omega) (by rw [es]; show _ = tnI x i ||| (bitI x (9 - nI i) <<< (nI i &&& 31)); rw [← ei]; rfl) (by rw [ei]; exact nI_1 i) ls (lv_sub hl [2, 1, 0] rfl)
  exact loop_4 (10 + 1) 0 _ _ (Nat.zero_le _) (by omega) (by rfl) (by exact nI_0.symm) ls (lv_sub hl [2, 1, 0] rfl)

abbrev rmX2_closes : Room := { frames := 3, cells := 0, slots := 0, locals := 70 }
set_option maxHeartbeats 4000000 in
set_option maxRecDepth 100000 in
theorem c_X2_closes (l : Launch) (G : Gt) (sz : Nat) (mo ce gv dr go sa : Nat) (th st sk tk be so le an : Int32) (fc fg fd fo fs : Nat → Int32) (x : Int32) (k : Nat) (est : st = nI k) (hk : k ≤ 30) : Met l yX2_closes wsX2_closes rmX2_closes (mu_P G sz [.ref mo, .int x] [(mo, .inr (2, [.int th, .ref ce, .ref gv, .int st, .int sk, .ref dr, .ref go, .int tk, .int be, .int so, .int le, .int an, .ref sa])), (ce, eI G 418 fc), (gv, eZ G 30 fg), (dr, eI G 10 fd), (go, eI G 10 fo), (sa, eI G 10 fs)]) (mu_Q G (some (.int (bI (clB fc k x fs)))) [(mo, .inr (2, [.int th, .ref ce, .ref gv, .int st, .int sk, .ref dr, .ref go, .int tk, .int be, .int so, .int le, .int an, .ref sa])), (ce, eI G 418 fc), (gv, eZ G 30 fg), (dr, eI G 10 fd), (go, eI G 10 fo), (sa, eI G 10 ((clO fc k x fs 12).1))] (va_A [(mo, .inr (2, [.int th, .ref ce, .ref gv, .int st, .int sk, .ref dr, .ref go, .int tk, .int be, .int so, .int le, .int an, .ref sa])), (ce, eI G 418 fc), (gv, eZ G 30 fg), (dr, eI G 10 fd), (go, eI G 10 fo), (sa, eI G 10 fs)] sz)) 0 0 (va_A [(mo, .inr (2, [.int th, .ref ce, .ref gv, .int st, .int sk, .ref dr, .ref go, .int tk, .int be, .int so, .int le, .int an, .ref sa])), (ce, eI G 418 fc), (gv, eZ G 30 fg), (dr, eI G 10 fd), (go, eI G 10 fo), (sa, eI G 10 fs)] sz) := by
  refine Met.ofW (cc := cX2_closes) (maxL := 6) (ret := (some .boolean)) (by decide) rfl ?_
  intro p e s m args below meth c s₁ B hml hv
  obtain ⟨rfl, hsz, hP, hD0, hK⟩ := hv
  have hx := B.exec
  have hb := B.bytes
  have hr := B.returns
  have hts := atoms_spec (ws := wsX2_closes) B.pre
  have hown : s.vm.findClass RX2 = some m.cls := findClass_of_methodNamed B.named
  have hlocks := B.notSynchronized
  subst hsz
  have hD := hD0.self (sz := s.heap.size)
  generalize hAe : va_A [(mo, .inr (2, [.int th, .ref ce, .ref gv, .int st, .int sk, .ref dr, .ref go, .int tk, .int be, .int so, .int le, .int an, .ref sa])), (ce, eI G 418 fc), (gv, eZ G 30 fg), (dr, eI G 10 fd), (go, eI G 10 fo), (sa, eI G 10 fs)] s.heap.size = A at hD ⊢
  have hA : ∀ q : Nat, s.heap.size ≤ q → A q := fun q h => by rw [← hAe]; exact Or.inr h
  have hS : va_S A s.heap s.heap [] := va_S.rf
  have hinX2 : ∀ w ∈ u_ws RX2 TX2 13, w ∈ wsX2_closes := fun w h => List.mem_cons_of_mem _ (List.mem_append_right _ h)
  have hw1 := hts (.fieldLink RX2 45 "ChoiceBoardModel" "stored" "I") (by decide +kernel)
  have hl := lv_entry ([.ref mo, .int x]) (n := 6) (Nat.le_of_ble_eq_true rfl)
  rw [lg_entry_eq]
  generalize (lg_sl ([.ref mo, .int x]) ++ List.replicate (6 - (lg_sl ([.ref mo, .int x])).length) Slot.unset).toArray = ls at hl ⊢
  have hl : lv_has ls 6 [(0, .ref mo), (1, .int x)] := hl
  refine lv_iconst (v := 1) hx hb dX2_closes_0 (by decide) ?_
  refine lv_istore_n (lv' := [(2, .int 1), (0, .ref mo), (1, .int x)]) hx hb dX2_closes_1 rfl hl (by decide) rfl (fun ls hl => ?_)
  refine lv_iconst (v := 0) hx hb dX2_closes_2 (by decide) ?_
  refine lv_istore_n (lv' := [(3, .int 0), (2, .int 1), (0, .ref mo), (1, .int x)]) hx hb dX2_closes_3 rfl hl (by decide) rfl (fun ls hl => ?_)
  have loop_4 : ∀ (n_4 j : Nat) (x2 xj : Int32) (h : Nat → Int32), j ≤ 12 → 12 + 1 ≤ j + n_4 → (x2 = (clO fc k x fs j).2.1) → (xj = nI j) → (h = (clO fc k x fs j).1) → ((clO fc k x fs j).2.2 = false) → ∀ (H : Heap) (locs : List Loc), va_P G.1 vwCl [(mo, .inr (2, [.int th, .ref ce, .ref gv, .int st, .int sk, .ref dr, .ref go, .int tk, .int be, .int so, .int le, .int an, .ref sa])), (ce, eI G 418 fc), (gv, eZ G 30 fg), (dr, eI G 10 fd), (go, eI G 10 fo), (sa, eI G 10 h)] H → va_D A [(mo, .inr (2, [.int th, .ref ce, .ref gv, .int st, .int sk, .ref dr, .ref go, .int tk, .int be, .int so, .int le, .int an, .ref sa])), (ce, eI G 418 fc), (gv, eZ G 30 fg), (dr, eI G 10 fd), (go, eI G 10 fo), (sa, eI G 10 h)] → va_S A s.heap H locs → ∀ ls : Array Slot, lv_has ls 6 [(0, .ref mo), (1, .int x), (2, .int x2), (3, .int xj)] → W p l e rmX2_closes s m [.ref mo, .int x].toArray below meth c H locs 0 0 (MQ below (mu_Q G (some (.int (bI (clB fc k x fs)))) [(mo, .inr (2, [.int th, .ref ce, .ref gv, .int st, .int sk, .ref dr, .ref go, .int tk, .int be, .int so, .int le, .int an, .ref sa])), (ce, eI G 418 fc), (gv, eZ G 30 fg), (dr, eI G 10 fd), (go, eI G 10 fo), (sa, eI G 10 ((clO fc k x fs 12).1))] A) [.ref mo, .int x].toArray s 0 0 A) (F0 m 4 ls []) := by
    intro n_4
    induction n_4 with
    | zero => intro j x2 xj h h1 h2; exact absurd h2 (by omega)
    | succ n_4 ih_4 =>
      intro j x2 xj h hi_4 hn_4 e2 ej eh hb9 H locs hP hD hS ls hl
      refine lv_iload_n hx hb dX2_closes_4 rfl (lv_at hl 3 rfl) ?_
      refine lv_bipush (v := 12) hx hb dX2_closes_5 (by decide) ?_
      refine lv_icmp_ge (tgt := 92) hx hb dX2_closes_7 (by decide) (fun c_7 => ?_) (fun c_7 => ?_)
      · have hN : j = 12 := ge_ix ej (by decide) (by decide) c_7 hi_4
        refine lv_iconst (v := 1) hx hb dX2_closes_92 (by decide) ?_
        rw [eh, hN] at hP hD
        have hP9 := hP.sub (ws' := [(mo, .inr (2, [.int th, .ref ce, .ref gv, .int st, .int sk, .ref dr, .ref go, .int tk, .int be, .int so, .int le, .int an, .ref sa])), (ce, eI G 418 fc), (gv, eZ G 30 fg), (dr, eI G 10 fd), (go, eI G 10 fo), (sa, eI G 10 ((clO fc k x fs 12).1))]) [0, 1, 2, 3, 4, 5] rfl
        have hD9 := hD.sub (ws' := [(mo, .inr (2, [.int th, .ref ce, .ref gv, .int st, .int sk, .ref dr, .ref go, .int tk, .int be, .int so, .int le, .int an, .ref sa])), (ce, eI G 418 fc), (gv, eZ G 30 fg), (dr, eI G 10 fd), (go, eI G 10 fo), (sa, eI G 10 ((clO fc k x fs 12).1))]) [0, 1, 2, 3, 4, 5] (by decide) rfl
        exact W.zret (v := 1) (ty := .boolean) hx hb hr rfl (fun t ht hW => ⟨congrArg (fun z => Outcome.returned (some (Value.int z))) (by have e9 := hb9; rw [hN] at e9; unfold clB; rw [e9]; rfl), by rw [ht]; exact hP9, hD9, hS.F ht⟩) hS.2.2 dX2_closes_93
      · have hlt : j < 12 := lt_ix ej (by decide) (by decide) c_7 hi_4
        refine lv_iload_n hx hb dX2_closes_10 rfl (lv_at hl 2 rfl) ?_
        refine lv_if_eq (tgt := 92) hx hb dX2_closes_11 (by decide) (fun c_11 => ?_) (fun c_11 => ?_)
        · have hst : clO fc k x fs 12 = clO fc k x fs j := by have h9 := clO_stop (fc := fc) (ns := k) (mo := x) (fs := fs) (n := j) (Or.inr (by rw [← e2]; exact c_11)) (12 - j); rw [show j + (12 - j) = 12 by omega] at h9; exact h9
          refine lv_iconst (v := 1) hx hb dX2_closes_92 (by decide) ?_
          rw [eh, ← hst] at hP hD
          have hP9 := hP.sub (ws' := [(mo, .inr (2, [.int th, .ref ce, .ref gv, .int st, .int sk, .ref dr, .ref go, .int tk, .int be, .int so, .int le, .int an, .ref sa])), (ce, eI G 418 fc), (gv, eZ G 30 fg), (dr, eI G 10 fd), (go, eI G 10 fo), (sa, eI G 10 ((clO fc k x fs 12).1))]) [0, 1, 2, 3, 4, 5] rfl
          have hD9 := hD.sub (ws' := [(mo, .inr (2, [.int th, .ref ce, .ref gv, .int st, .int sk, .ref dr, .ref go, .int tk, .int be, .int so, .int le, .int an, .ref sa])), (ce, eI G 418 fc), (gv, eZ G 30 fg), (dr, eI G 10 fd), (go, eI G 10 fo), (sa, eI G 10 ((clO fc k x fs 12).1))]) [0, 1, 2, 3, 4, 5] (by decide) rfl
          exact W.zret (v := 1) (ty := .boolean) hx hb hr rfl (fun t ht hW => ⟨congrArg (fun z => Outcome.returned (some (Value.int z))) (by unfold clB; rw [hst, hb9]; rfl), by rw [ht]; exact hP9, hD9, hS.F ht⟩) hS.2.2 dX2_closes_93
        · have hstep : clO fc k x fs (j + 1) = clR fc k x (clO fc k x fs j).1 38 := by show (if _ then _ else if _ then _ else _) = _; rw [if_neg (by rw [hb9]; decide), if_neg (by rw [← e2]; exact c_11)]
          refine lv_iconst (v := 0) hx hb dX2_closes_14 (by decide) ?_
          refine lv_istore_n (lv' := [(2, .int 0), (0, .ref mo), (1, .int x), (3, .int xj)]) hx hb dX2_closes_15 rfl hl (by decide) rfl (fun ls hl => ?_)
          refine lv_iconst (v := 0) hx hb dX2_closes_16 (by decide) ?_
          refine lv_istore (lv' := [(4, .int 0), (2, .int 0), (0, .ref mo), (1, .int x), (3, .int xj)]) hx hb dX2_closes_17 hl (by decide) rfl (fun ls hl => ?_)
          have loop_19 : ∀ (n_19 i : Nat) (y2 xi : Int32) (h2 : Nat → Int32), i ≤ 38 → 38 + 1 ≤ i + n_19 → (y2 = (clR fc k x (clO fc k x fs j).1 i).2.1) → (xi = nI i) → (h2 = (clR fc k x (clO fc k x fs j).1 i).1) → ((clR fc k x (clO fc k x fs j).1 i).2.2 = false) → ∀ (H : Heap) (locs : List Loc), va_P G.1 vwCl [(mo, .inr (2, [.int th, .ref ce, .ref gv, .int st, .int sk, .ref dr, .ref go, .int tk, .int be, .int so, .int le, .int an, .ref sa])), (ce, eI G 418 fc), (gv, eZ G 30 fg), (dr, eI G 10 fd), (go, eI G 10 fo), (sa, eI G 10 h2)] H → va_D A [(mo, .inr (2, [.int th, .ref ce, .ref gv, .int st, .int sk, .ref dr, .ref go, .int tk, .int be, .int so, .int le, .int an, .ref sa])), (ce, eI G 418 fc), (gv, eZ G 30 fg), (dr, eI G 10 fd), (go, eI G 10 fo), (sa, eI G 10 h2)] → va_S A s.heap H locs → ∀ ls : Array Slot, lv_has ls 6 [(0, .ref mo), (1, .int x), (2, .int y2), (3, .int xj), (4, .int xi)] → W p l e rmX2_closes s m [.ref mo, .int x].toArray below meth c H locs 0 0 (MQ below (mu_Q G (some (.int (bI (clB fc k x fs)))) [(mo, .inr (2, [.int th, .ref ce, .ref gv, .int st, .int sk, .ref dr, .ref go, .int tk, .int be, .int so, .int le, .int an, .ref sa])), (ce, eI G 418 fc), (gv, eZ G 30 fg), (dr, eI G 10 fd), (go, eI G 10 fo), (sa, eI G 10 ((clO fc k x fs 12).1))] A) [.ref mo, .int x].toArray s 0 0 A) (F0 m 19 ls []) := by
            intro n_19
            induction n_19 with
            | zero => intro i y2 xi h2 h1 h2; exact absurd h2 (by omega)
            | succ n_19 ih_19 =>
              intro i y2 xi h2 hi_19 hn_19 ey ei eg hbb H locs hP hD hS ls hl
              refine lv_iload hx hb dX2_closes_19 (lv_at hl 4 rfl) ?_
              refine lv_bipush (v := 38) hx hb dX2_closes_21 (by decide) ?_
              refine lv_icmp_ge (tgt := 86) hx hb dX2_closes_23 (by decide) (fun c_23 => ?_) (fun c_23 => ?_)
              · have hNi : i = 38 := ge_ix ei (by decide) (by decide) c_23 hi_19
                refine lv_iinc (v := xj + 1) (lv' := [(3, .int (xj + 1)), (0, .ref mo), (1, .int x), (2, .int y2), (4, .int xi)]) hx hb dX2_closes_86 hl (k := 3) rfl rfl (by decide) rfl (fun ls hl => ?_)
                refine lv_goto (tgt := 4) hx hb dX2_closes_89 (by decide) ?_
                exact ih_4 (j + 1) _ _ _ (by omega) (by omega) (by rw [hstep, ← hNi]; exact ey) (by rw [ej]; exact nI_1 j) (by rw [hstep, ← hNi]; exact eg) (by rw [hstep, ← hNi]; exact hbb) _ _ (hP.sub [0, 1, 2, 3, 4, 5] rfl) (hD.sub [0, 1, 2, 3, 4, 5] (by decide) rfl) hS ls (lv_sub hl [1, 2, 3, 0] rfl)
              · have hlti : i < 38 := lt_ix ei (by decide) (by decide) c_23 hi_19
                have join_56 : ∀ (gt : Int32) (h3 : Nat → Int32), (clR fc k x (clO fc k x fs j).1 (i + 1) = if gt < 0 then (h3, y2, true) else (h3, onI y2 gt, false)) → ∀ (H : Heap) (locs : List Loc), va_P G.1 vwCl [(mo, .inr (2, [.int th, .ref ce, .ref gv, .int st, .int sk, .ref dr, .ref go, .int tk, .int be, .int so, .int le, .int an, .ref sa])), (ce, eI G 418 fc), (gv, eZ G 30 fg), (dr, eI G 10 fd), (go, eI G 10 fo), (sa, eI G 10 h3)] H → va_D A [(mo, .inr (2, [.int th, .ref ce, .ref gv, .int st, .int sk, .ref dr, .ref go, .int tk, .int be, .int so, .int le, .int an, .ref sa])), (ce, eI G 418 fc), (gv, eZ G 30 fg), (dr, eI G 10 fd), (go, eI G 10 fo), (sa, eI G 10 h3)] → va_S A s.heap H locs → ∀ ls : Array Slot, lv_has ls 6 [(0, .ref mo), (1, .int x), (2, .int y2), (3, .int xj), (4, .int xi)] → W p l e rmX2_closes s m [.ref mo, .int x].toArray below meth c H locs 0 0 (MQ below (mu_Q G (some (.int (bI (clB fc k x fs)))) [(mo, .inr (2, [.int th, .ref ce, .ref gv, .int st, .int sk, .ref dr, .ref go, .int tk, .int be, .int so, .int le, .int an, .ref sa])), (ce, eI G 418 fc), (gv, eZ G 30 fg), (dr, eI G 10 fd), (go, eI G 10 fo), (sa, eI G 10 ((clO fc k x fs 12).1))] A) [.ref mo, .int x].toArray s 0 0 A) (F0 m 56 ls [.int gt]) := by
                  intro gt h3 eq9 H locs hP hD hS ls hl
                  refine lv_istore (lv' := [(5, .int gt), (0, .ref mo), (1, .int x), (2, .int y2), (3, .int xj), (4, .int xi)]) hx hb dX2_closes_56 hl (by decide) rfl (fun ls hl => ?_)
                  refine lv_iload hx hb dX2_closes_58 (lv_at hl 0 rfl) ?_
                  refine lv_if_ge (tgt := 65) hx hb dX2_closes_60 (by decide) (fun c_60 => ?_) (fun c_60 => ?_)
                  · have eq8 : clR fc k x (clO fc k x fs j).1 (i + 1) = (h3, onI y2 gt, false) := by rw [eq9, if_neg (Int32.not_lt.mpr c_60)]
                    have join_79 : ∀ (z2 : Int32), (z2 = onI y2 gt) → ∀ (H : Heap) (locs : List Loc), va_P G.1 vwCl [(mo, .inr (2, [.int th, .ref ce, .ref gv, .int st, .int sk, .ref dr, .ref go, .int tk, .int be, .int so, .int le, .int an, .ref sa])), (ce, eI G 418 fc), (gv, eZ G 30 fg), (dr, eI G 10 fd), (go, eI G 10 fo), (sa, eI G 10 h3)] H → va_D A [(mo, .inr (2, [.int th, .ref ce, .ref gv, .int st, .int sk, .ref dr, .ref go, .int tk, .int be, .int so, .int le, .int an, .ref sa])), (ce, eI G 418 fc), (gv, eZ G 30 fg), (dr, eI G 10 fd), (go, eI G 10 fo), (sa, eI G 10 h3)] → va_S A s.heap H locs → ∀ ls : Array Slot, lv_has ls 6 [(5, .int gt), (0, .ref mo), (1, .int x), (2, .int y2), (3, .int xj), (4, .int xi)] → W p l e rmX2_closes s m [.ref mo, .int x].toArray below meth c H locs 0 0 (MQ below (mu_Q G (some (.int (bI (clB fc k x fs)))) [(mo, .inr (2, [.int th, .ref ce, .ref gv, .int st, .int sk, .ref dr, .ref go, .int tk, .int be, .int so, .int le, .int an, .ref sa])), (ce, eI G 418 fc), (gv, eZ G 30 fg), (dr, eI G 10 fd), (go, eI G 10 fo), (sa, eI G 10 ((clO fc k x fs 12).1))] A) [.ref mo, .int x].toArray s 0 0 A) (F0 m 79 ls [.int z2]) := by
                      intro z2 ez H locs hP hD hS ls hl
                      refine lv_istore_n (lv' := [(2, .int z2), (5, .int gt), (0, .ref mo), (1, .int x), (3, .int xj), (4, .int xi)]) hx hb dX2_closes_79 rfl hl (by decide) rfl (fun ls hl => ?_)
                      refine lv_iinc (v := xi + 1) (lv' := [(4, .int (xi + 1)), (2, .int z2), (5, .int gt), (0, .ref mo), (1, .int x), (3, .int xj)]) hx hb dX2_closes_80 hl (k := 5) rfl rfl (by decide) rfl (fun ls hl => ?_)
                      refine lv_goto (tgt := 19) hx hb dX2_closes_83 (by decide) ?_
                      exact ih_19 (i + 1) _ _ _ (by omega) (by omega) (by rw [eq8]; exact ez) (by rw [ei]; exact nI_1 i) (by rw [eq8]) (by rw [eq8]) _ _ (hP.sub [0, 1, 2, 3, 4, 5] rfl) (hD.sub [0, 1, 2, 3, 4, 5] (by decide) rfl) hS ls (lv_sub hl [3, 4, 1, 5, 0] rfl)
                    refine lv_iload_n hx hb dX2_closes_65 rfl (lv_at hl 3 rfl) ?_
                    refine lv_if_ne (tgt := 74) hx hb dX2_closes_66 (by decide) (fun c_66 => ?_) (fun c_66 => ?_)
                    · refine lv_iconst (v := 1) hx hb dX2_closes_74 (by decide) ?_
                      refine lv_goto (tgt := 79) hx hb dX2_closes_75 (by decide) ?_
                      exact join_79 _ (by unfold onI; rw [if_neg c_66]) _ _ (hP.sub [0, 1, 2, 3, 4, 5] rfl) (hD.sub [0, 1, 2, 3, 4, 5] (by decide) rfl) hS ls (lv_sub hl [0, 1, 2, 3, 4, 5] rfl)
                    · refine lv_iload hx hb dX2_closes_69 (lv_at hl 0 rfl) ?_
                      refine lv_if_le (tgt := 78) hx hb dX2_closes_71 (by decide) (fun c_71 => ?_) (fun c_71 => ?_)
                      · refine lv_iconst (v := 0) hx hb dX2_closes_78 (by decide) ?_
                        exact join_79 _ (by unfold onI; rw [if_pos c_66, if_neg (Int32.not_lt.mpr c_71)]) _ _ (hP.sub [0, 1, 2, 3, 4, 5] rfl) (hD.sub [0, 1, 2, 3, 4, 5] (by decide) rfl) hS ls (lv_sub hl [0, 1, 2, 3, 4, 5] rfl)
                      · refine lv_iconst (v := 1) hx hb dX2_closes_74 (by decide) ?_
                        refine lv_goto (tgt := 79) hx hb dX2_closes_75 (by decide) ?_
                        exact join_79 _ (by unfold onI; rw [if_pos c_66, if_pos (Int32.not_le.mp c_71)]) _ _ (hP.sub [0, 1, 2, 3, 4, 5] rfl) (hD.sub [0, 1, 2, 3, 4, 5] (by decide) rfl) hS ls (lv_sub hl [0, 1, 2, 3, 4, 5] rfl)
                  · have hq : clR fc k x (clO fc k x fs j).1 (i + 1) = (h3, y2, true) := by rw [eq9, if_pos (Int32.not_le.mp c_60)]
                    have h38 : clR fc k x (clO fc k x fs j).1 38 = (h3, y2, true) := by have h9 := clR_bad (fc := fc) (ns := k) (mo := x) (fs := (clO fc k x fs j).1) (n := i + 1) (by rw [hq]) (38 - (i + 1)); rw [show i + 1 + (38 - (i + 1)) = 38 by omega, hq] at h9; exact h9
                    have h12 : clO fc k x fs 12 = (h3, y2, true) := by have h9 := clO_stop (fc := fc) (ns := k) (mo := x) (fs := fs) (n := j + 1) (Or.inl (by rw [hstep, h38])) (12 - (j + 1)); rw [show j + 1 + (12 - (j + 1)) = 12 by omega, hstep, h38] at h9; exact h9
                    refine lv_iconst (v := 0) hx hb dX2_closes_63 (by decide) ?_
                    have hP9 := hP.sub (ws' := [(mo, .inr (2, [.int th, .ref ce, .ref gv, .int st, .int sk, .ref dr, .ref go, .int tk, .int be, .int so, .int le, .int an, .ref sa])), (ce, eI G 418 fc), (gv, eZ G 30 fg), (dr, eI G 10 fd), (go, eI G 10 fo), (sa, eI G 10 ((clO fc k x fs 12).1))]) [0, 1, 2, 3, 4, 5] (by rw [h12]; rfl)
                    have hD9 := hD.sub (ws' := [(mo, .inr (2, [.int th, .ref ce, .ref gv, .int st, .int sk, .ref dr, .ref go, .int tk, .int be, .int so, .int le, .int an, .ref sa])), (ce, eI G 418 fc), (gv, eZ G 30 fg), (dr, eI G 10 fd), (go, eI G 10 fo), (sa, eI G 10 ((clO fc k x fs 12).1))]) [0, 1, 2, 3, 4, 5] (by decide) (by rw [h12]; rfl)
                    exact W.zret (v := 0) (ty := .boolean) hx hb hr rfl (fun t ht hW => ⟨congrArg (fun z => Outcome.returned (some (Value.int z))) (by unfold clB; rw [h12]; rfl), by rw [ht]; exact hP9, hD9, hS.F ht⟩) hS.2.2 dX2_closes_64
                refine lv_iload hx hb dX2_closes_26 (lv_at hl 4 rfl) ?_
                refine lv_aload_n hx hb dX2_closes_28 rfl (lv_at hl 0 rfl) ?_
                refine va_get (D := G.1) (ci := 2) (v := .int st) (C := RX2) (T := TX2) (N := 13) hx hb hts hinX2 hown hK.1 hP 0 rfl rfl 3 (by decide) hw1 (fun _ h9 => h9) rfl dX2_closes_29 ?_
                refine lv_icmp_lt (tgt := 46) hx hb dX2_closes_32 (by decide) (fun c_32 => ?_) (fun c_32 => ?_)
                · refine lv_aload_n hx hb dX2_closes_46 rfl (lv_at hl 0 rfl) ?_
                  refine lv_iload hx hb dX2_closes_47 (lv_at hl 4 rfl) ?_
                  refine mu_call (va_runV (As := [.int xi]) (rest := []) ⟨hx, hb, hml, hown, hts⟩ (c_X2_tighten l G _ mo ce gv dr go sa th st sk tk be so le an fc fg fd fo h2 xi i ei (by omega)) (cwV 1 hts gX2_closes_X2_tighten rfl rfl rfl (by decide +kernel) ⟨Nat.le_of_ble_eq_true rfl, Nat.le_of_ble_eq_true rfl⟩) ⟨mu_blind, va_recv hK.1 hP (ci := 2) (q0 := 0) rfl rfl, mu_pre _ (hP.sub [0, 1, 2, 3, 4, 5] rfl) (hD.sub [0, 1, 2, 3, 4, 5] (by decide) rfl) hK⟩ rfl rfl hl.1 rfl (lv_room (Nat.le_of_ble_eq_true rfl)) dX2_closes_49 ⟨Nat.le_refl _, Nat.le_refl _⟩) hS (va_free hD hS hA [0, 1, 2, 3, 4, 5] rfl) (va_free hD hS hA [0, 1, 2, 3, 4, 5] rfl) (fun H1 locs hP1 hD1 hk1 hS => ?_)
                  obtain ⟨hP, hD⟩ := rp_join (ws' := [(mo, .inr (2, [.int th, .ref ce, .ref gv, .int st, .int sk, .ref dr, .ref go, .int tk, .int be, .int so, .int le, .int an, .ref sa])), (ce, eI G 418 fc), (gv, eZ G 30 fg), (dr, eI G 10 fd), (go, eI G 10 fo), (sa, eI G 10 (tgS fc h2 i))]) hP hD [0, 1, 2, 3, 4, 5] rfl hk1 hP1 (fun k q h => match k, q, h with | 0, q, h => Or.inl ⟨0, h⟩ | 1, q, h => Or.inl ⟨1, h⟩ | 2, q, h => Or.inl ⟨2, h⟩ | 3, q, h => Or.inl ⟨3, h⟩ | 4, q, h => Or.inl ⟨4, h⟩ | 5, q, h => Or.inl ⟨5, h⟩ | k + 6, q, h => nomatch h) rfl
                  generalize H1 = H at hP hS ⊢
                  have hP : va_P G.1 vwCl [(mo, .inr (2, [.int th, .ref ce, .ref gv, .int st, .int sk, .ref dr, .ref go, .int tk, .int be, .int so, .int le, .int an, .ref sa])), (ce, eI G 418 fc), (gv, eZ G 30 fg), (dr, eI G 10 fd), (go, eI G 10 fo), (sa, eI G 10 (tgS fc h2 i))] H := hP
                  have hD : va_D A [(mo, .inr (2, [.int th, .ref ce, .ref gv, .int st, .int sk, .ref dr, .ref go, .int tk, .int be, .int so, .int le, .int an, .ref sa])), (ce, eI G 418 fc), (gv, eZ G 30 fg), (dr, eI G 10 fd), (go, eI G 10 fo), (sa, eI G 10 (tgS fc h2 i))] := hD
                  refine lv_goto (tgt := 56) hx hb dX2_closes_52 (by decide) ?_
                  exact join_56 _ _ (cl_t hbb eg ey (clG_1 ei est (by omega) (by omega) c_32)) _ _ (hP.sub [0, 1, 2, 3, 4, 5] rfl) (hD.sub [0, 1, 2, 3, 4, 5] (by decide) rfl) hS ls (lv_sub hl [0, 1, 2, 3, 4] rfl)
                · refine lv_iload_n hx hb dX2_closes_35 rfl (lv_at hl 1 rfl) ?_
                  refine lv_if_eq (tgt := 55) hx hb dX2_closes_36 (by decide) (fun c_36 => ?_) (fun c_36 => ?_)
                  · refine lv_iconst (v := 0) hx hb dX2_closes_55 (by decide) ?_
                    exact join_56 _ _ (cl_n hbb eg ey (clG_3 ei est (by omega) (by omega) c_32 c_36)) _ _ (hP.sub [0, 1, 2, 3, 4, 5] rfl) (hD.sub [0, 1, 2, 3, 4, 5] (by decide) rfl) hS ls (lv_sub hl [0, 1, 2, 3, 4] rfl)
                  · refine lv_iload hx hb dX2_closes_39 (lv_at hl 4 rfl) ?_
                    refine lv_bipush (v := 37) hx hb dX2_closes_41 (by decide) ?_
                    refine lv_icmp_ne (tgt := 55) hx hb dX2_closes_43 (by decide) (fun c_43 => ?_) (fun c_43 => ?_)
                    · refine lv_iconst (v := 0) hx hb dX2_closes_55 (by decide) ?_
                      exact join_56 _ _ (cl_n hbb eg ey (clG_4 ei est (by omega) (by omega) c_32 c_43)) _ _ (hP.sub [0, 1, 2, 3, 4, 5] rfl) (hD.sub [0, 1, 2, 3, 4, 5] (by decide) rfl) hS ls (lv_sub hl [0, 1, 2, 3, 4] rfl)
                    · refine lv_aload_n hx hb dX2_closes_46 rfl (lv_at hl 0 rfl) ?_
                      refine lv_iload hx hb dX2_closes_47 (lv_at hl 4 rfl) ?_
                      refine mu_call (va_runV (As := [.int xi]) (rest := []) ⟨hx, hb, hml, hown, hts⟩ (c_X2_tighten l G _ mo ce gv dr go sa th st sk tk be so le an fc fg fd fo h2 xi i ei (by omega)) (cwV 1 hts gX2_closes_X2_tighten rfl rfl rfl (by decide +kernel) ⟨Nat.le_of_ble_eq_true rfl, Nat.le_of_ble_eq_true rfl⟩) ⟨mu_blind, va_recv hK.1 hP (ci := 2) (q0 := 0) rfl rfl, mu_pre _ (hP.sub [0, 1, 2, 3, 4, 5] rfl) (hD.sub [0, 1, 2, 3, 4, 5] (by decide) rfl) hK⟩ rfl rfl hl.1 rfl (lv_room (Nat.le_of_ble_eq_true rfl)) dX2_closes_49 ⟨Nat.le_refl _, Nat.le_refl _⟩) hS (va_free hD hS hA [0, 1, 2, 3, 4, 5] rfl) (va_free hD hS hA [0, 1, 2, 3, 4, 5] rfl) (fun H1 locs hP1 hD1 hk1 hS => ?_)
                      obtain ⟨hP, hD⟩ := rp_join (ws' := [(mo, .inr (2, [.int th, .ref ce, .ref gv, .int st, .int sk, .ref dr, .ref go, .int tk, .int be, .int so, .int le, .int an, .ref sa])), (ce, eI G 418 fc), (gv, eZ G 30 fg), (dr, eI G 10 fd), (go, eI G 10 fo), (sa, eI G 10 (tgS fc h2 i))]) hP hD [0, 1, 2, 3, 4, 5] rfl hk1 hP1 (fun k q h => match k, q, h with | 0, q, h => Or.inl ⟨0, h⟩ | 1, q, h => Or.inl ⟨1, h⟩ | 2, q, h => Or.inl ⟨2, h⟩ | 3, q, h => Or.inl ⟨3, h⟩ | 4, q, h => Or.inl ⟨4, h⟩ | 5, q, h => Or.inl ⟨5, h⟩ | k + 6, q, h => nomatch h) rfl
                      generalize H1 = H at hP hS ⊢
                      have hP : va_P G.1 vwCl [(mo, .inr (2, [.int th, .ref ce, .ref gv, .int st, .int sk, .ref dr, .ref go, .int tk, .int be, .int so, .int le, .int an, .ref sa])), (ce, eI G 418 fc), (gv, eZ G 30 fg), (dr, eI G 10 fd), (go, eI G 10 fo), (sa, eI G 10 (tgS fc h2 i))] H := hP
                      have hD : va_D A [(mo, .inr (2, [.int th, .ref ce, .ref gv, .int st, .int sk, .ref dr, .ref go, .int tk, .int be, .int so, .int le, .int an, .ref sa])), (ce, eI G 418 fc), (gv, eZ G 30 fg), (dr, eI G 10 fd), (go, eI G 10 fo), (sa, eI G 10 (tgS fc h2 i))] := hD
                      refine lv_goto (tgt := 56) hx hb dX2_closes_52 (by decide) ?_
                      exact join_56 _ _ (cl_t hbb eg ey (clG_2 c_36 ei (by omega) c_43)) _ _ (hP.sub [0, 1, 2, 3, 4, 5] rfl) (hD.sub [0, 1, 2, 3, 4, 5] (by decide) rfl) hS ls (lv_sub hl [0, 1, 2, 3, 4] rfl)
          exact loop_19 (38 + 1) 0 _ _ _ (Nat.zero_le _) (by omega) (by rfl) (by exact nI_0.symm) (by exact eh) (by rfl) _ _ (hP.sub [0, 1, 2, 3, 4, 5] rfl) (hD.sub [0, 1, 2, 3, 4, 5] (by decide) rfl) hS ls (lv_sub hl [2, 3, 1, 4, 0] rfl)
  exact loop_4 (12 + 1) 0 _ _ _ (Nat.zero_le _) (by omega) (by rfl) (by exact nI_0.symm) (by rfl) (by rfl) _ _ (hP.sub [0, 1, 2, 3, 4, 5] rfl) (hD.sub [0, 1, 2, 3, 4, 5] (by decide) rfl) hS ls (lv_sub hl [2, 3, 1, 0] rfl)
