abbrev rmX2_add : Room := { frames := 2, cells := 0, slots := 0, locals := 43 }
set_option maxHeartbeats 4000000 in
set_option maxRecDepth 100000 in
theorem c_X2_add (l : Launch) (G : Gt) (sz : Nat) (mo ce gv dr go sa : Nat) (th st sk tk be so le an : Int32) (fc fg fd fo fs : Nat → Int32) (n : Nat) (esk : sk = nI n) (hn6 : n ≤ 6) : Met l yX2_add wsX2_add rmX2_add (mu_P G sz [.ref mo] [(mo, .inr (2, [.int th, .ref ce, .ref gv, .int st, .int sk, .ref dr, .ref go, .int tk, .int be, .int so, .int le, .int an, .ref sa])), (ce, eI G 418 fc), (gv, eZ G 30 fg), (dr, eI G 10 fd), (go, eI G 10 fo), (sa, eI G 10 fs)]) (mu_Q G none [(mo, .inr (2, [.int (if thAdd sk = 0 then thAdd2 fc (11 * (29 + n)) (11 * (28 + n)) else thAdd sk), .ref ce, .ref gv, .int st, .int (if thAdd sk = 0 then (if thAdd2 fc (11 * (29 + n)) (11 * (28 + n)) = 0 then sk - 1 else sk) else sk), .ref dr, .ref go, .int tk, .int be, .int so, .int le, .int an, .ref sa])), (ce, eI G 418 (if thAdd sk = 0 then (if thAdd2 fc (11 * (29 + n)) (11 * (28 + n)) = 0 then cpy11 (adC fc (11 * (29 + n)) (11 * (28 + n))) 36 (29 + (n - 1)) else adC fc (11 * (29 + n)) (11 * (28 + n))) else fc)), (gv, eZ G 30 fg), (dr, eI G 10 fd), (go, eI G 10 fo), (sa, eI G 10 fs)] (va_A [(mo, .inr (2, [.int th, .ref ce, .ref gv, .int st, .int sk, .ref dr, .ref go, .int tk, .int be, .int so, .int le, .int an, .ref sa])), (ce, eI G 418 fc), (gv, eZ G 30 fg), (dr, eI G 10 fd), (go, eI G 10 fo), (sa, eI G 10 fs)] sz)) 0 0 (va_A [(mo, .inr (2, [.int th, .ref ce, .ref gv, .int st, .int sk, .ref dr, .ref go, .int tk, .int be, .int so, .int le, .int an, .ref sa])), (ce, eI G 418 fc), (gv, eZ G 30 fg), (dr, eI G 10 fd), (go, eI G 10 fo), (sa, eI G 10 fs)] sz) := by
  refine Met.ofW (cc := cX2_add) (maxL := 8) (ret := none) (by decide) rfl ?_
  intro p e s m args below meth c s₁ B hml hv
  obtain ⟨rfl, hsz, hP, hD0, hK⟩ := hv
  have hx := B.exec
  have hb := B.bytes
  have hr := B.returns
  have hts := atoms_spec (ws := wsX2_add) B.pre
  have hown : s.vm.findClass RX2 = some m.cls := findClass_of_methodNamed B.named
  have hlocks := B.notSynchronized
  subst hsz
  have hD := hD0.self (sz := s.heap.size)
  generalize hAe : va_A [(mo, .inr (2, [.int th, .ref ce, .ref gv, .int st, .int sk, .ref dr, .ref go, .int tk, .int be, .int so, .int le, .int an, .ref sa])), (ce, eI G 418 fc), (gv, eZ G 30 fg), (dr, eI G 10 fd), (go, eI G 10 fo), (sa, eI G 10 fs)] s.heap.size = A at hD ⊢
  have hA : ∀ q : Nat, s.heap.size ≤ q → A q := fun q h => by rw [← hAe]; exact Or.inr h
  have hS : va_S A s.heap s.heap [] := va_S.rf
  have hinX2 : ∀ w ∈ u_ws RX2 TX2 13, w ∈ wsX2_add := fun w h => List.mem_cons_of_mem _ (List.mem_append_right _ h)
  have hw1 := hts (.fieldLink RX2 7 "ChoiceBoardModel" "cell" "[I") (by decide +kernel)
  have hw2 := hts (.fieldLink RX2 74 "ChoiceBoardModel" "stacked" "I") (by decide +kernel)
  have hl := lv_entry ([.ref mo]) (n := 8) (Nat.le_of_ble_eq_true rfl)
  rw [lg_entry_eq]
  generalize (lg_sl ([.ref mo]) ++ List.replicate (8 - (lg_sl ([.ref mo])).length) Slot.unset).toArray = ls at hl ⊢
  have hl : lv_has ls 8 [(0, .ref mo)] := hl
  refine lv_aload_n hx hb dX2_add_0 rfl (lv_at hl 0 rfl) ?_
  have join_14 : ∀ (x1 : Int32), (x1 = ltI sk 2) → ∀ (H : Heap) (locs : List Loc), va_P G.1 vwCl [(mo, .inr (2, [.int th, .ref ce, .ref gv, .int st, .int sk, .ref dr, .ref go, .int tk, .int be, .int so, .int le, .int an, .ref sa])), (ce, eI G 418 fc), (gv, eZ G 30 fg), (dr, eI G 10 fd), (go, eI G 10 fo), (sa, eI G 10 fs)] H → va_D A [(mo, .inr (2, [.int th, .ref ce, .ref gv, .int st, .int sk, .ref dr, .ref go, .int tk, .int be, .int so, .int le, .int an, .ref sa])), (ce, eI G 418 fc), (gv, eZ G 30 fg), (dr, eI G 10 fd), (go, eI G 10 fo), (sa, eI G 10 fs)] → va_S A s.heap H locs → ∀ ls : Array Slot, lv_has ls 8 [(0, .ref mo)] → W p l e rmX2_add s m [.ref mo].toArray below meth c H locs 0 0 (MQ below (mu_Q G none [(mo, .inr (2, [.int (if thAdd sk = 0 then thAdd2 fc (11 * (29 + n)) (11 * (28 + n)) else thAdd sk), .ref ce, .ref gv, .int st, .int (if thAdd sk = 0 then (if thAdd2 fc (11 * (29 + n)) (11 * (28 + n)) = 0 then sk - 1 else sk) else sk), .ref dr, .ref go, .int tk, .int be, .int so, .int le, .int an, .ref sa])), (ce, eI G 418 (if thAdd sk = 0 then (if thAdd2 fc (11 * (29 + n)) (11 * (28 + n)) = 0 then cpy11 (adC fc (11 * (29 + n)) (11 * (28 + n))) 36 (29 + (n - 1)) else adC fc (11 * (29 + n)) (11 * (28 + n))) else fc)), (gv, eZ G 30 fg), (dr, eI G 10 fd), (go, eI G 10 fo), (sa, eI G 10 fs)] A) [.ref mo].toArray s 0 0 A) (F0 m 14 ls [.int x1, .ref mo]) := by
    intro x1 ex1 H locs hP hD hS ls hl
    refine lv_iconst (v := 0) hx hb dX2_add_14 (by decide) ?_
    refine lv_iconst (v := 0) hx hb dX2_add_15 (by decide) ?_
    have eT : thAdd sk = flI x1 0 0 := by unfold thAdd; rw [← ex1]
    refine mu_call (va_runV (As := [.int x1, .int 0, .int 0]) (rest := []) ⟨hx, hb, hml, hown, hts⟩ (c_X2_fails l G _ mo ce gv dr go sa th st sk tk be so le an fc fg fd fo fs x1 0 0) (cwV 3 hts gX2_add_X2_fails rfl rfl rfl (by decide +kernel) ⟨Nat.le_of_ble_eq_true rfl, Nat.le_of_ble_eq_true rfl⟩) ⟨mu_blind, va_recv hK.1 hP (ci := 2) (q0 := 0) rfl rfl, mu_pre _ (hP.sub [0, 1, 2, 3, 4, 5] rfl) (hD.sub [0, 1, 2, 3, 4, 5] (by decide) rfl) hK⟩ rfl rfl hl.1 rfl (lv_room (Nat.le_of_ble_eq_true rfl)) dX2_add_16 ⟨Nat.le_refl _, Nat.le_refl _⟩) hS (va_free hD hS hA [0, 1, 2, 3, 4, 5] rfl) (va_free hD hS hA [0, 1, 2, 3, 4, 5] rfl) (fun H1 locs hP1 hD1 hk1 hS => ?_)
    obtain ⟨hP, hD⟩ := rp_join (ws' := [(mo, .inr (2, [.int (flI x1 0 0), .ref ce, .ref gv, .int st, .int sk, .ref dr, .ref go, .int tk, .int be, .int so, .int le, .int an, .ref sa])), (ce, eI G 418 fc), (gv, eZ G 30 fg), (dr, eI G 10 fd), (go, eI G 10 fo), (sa, eI G 10 fs)]) hP hD [0, 1, 2, 3, 4, 5] rfl hk1 hP1 (fun k q h => match k, q, h with | 0, q, h => Or.inl ⟨0, h⟩ | 1, q, h => Or.inl ⟨1, h⟩ | 2, q, h => Or.inl ⟨2, h⟩ | 3, q, h => Or.inl ⟨3, h⟩ | 4, q, h => Or.inl ⟨4, h⟩ | 5, q, h => Or.inl ⟨5, h⟩ | k + 6, q, h => nomatch h) rfl
    generalize H1 = H at hP hS ⊢
    have hP : va_P G.1 vwCl [(mo, .inr (2, [.int (flI x1 0 0), .ref ce, .ref gv, .int st, .int sk, .ref dr, .ref go, .int tk, .int be, .int so, .int le, .int an, .ref sa])), (ce, eI G 418 fc), (gv, eZ G 30 fg), (dr, eI G 10 fd), (go, eI G 10 fo), (sa, eI G 10 fs)] H := hP
    have hD : va_D A [(mo, .inr (2, [.int (flI x1 0 0), .ref ce, .ref gv, .int st, .int sk, .ref dr, .ref go, .int tk, .int be, .int so, .int le, .int an, .ref sa])), (ce, eI G 418 fc), (gv, eZ G 30 fg), (dr, eI G 10 fd), (go, eI G 10 fo), (sa, eI G 10 fs)] := hD
    refine lv_if_eq (tgt := 23) hx hb dX2_add_19 (by decide) (fun c_19 => ?_) (fun c_19 => ?_)
    · have hz : thAdd sk = 0 := by rw [eT]; exact cnt0 c_19
      have hn2 : 2 ≤ n := ge_n esk (show (2 : Int32) = nI 2 from rfl) (by omega) (by decide) (ltI0 (fl0 hz).1)
      refine lv_bipush (v := 11) hx hb dX2_add_23 (by decide) ?_
      refine lv_aload_n hx hb dX2_add_25 rfl (lv_at hl 0 rfl) ?_
      refine ro_call (va_runV (As := []) (rest := [.int 11]) ⟨hx, hb, hml, hown, hts⟩ (c_X2_upper l G mo ce gv dr go sa (flI x1 0 0) st sk tk be so le an fc fg fd fo fs) (cwV 0 hts gX2_add_X2_upper rfl rfl rfl (by decide +kernel) ⟨Nat.le_of_ble_eq_true rfl, Nat.le_of_ble_eq_true rfl⟩) ⟨ro_blind, va_recv hK.1 hP (ci := 2) (q0 := 0) rfl rfl, ro_pre _ (hP.sub [0, 1, 2, 3, 4, 5] rfl) hK⟩ rfl rfl hl.1 rfl (lv_room (Nat.le_of_ble_eq_true rfl)) dX2_add_26 ⟨Nat.le_refl _, Nat.le_refl _⟩) ?_
      refine lv_imul hx hb dX2_add_29 ?_
      refine lv_istore_n (lv' := [(1, .int (11 * (30 + sk - 1))), (0, .ref mo)]) hx hb dX2_add_30 rfl hl (by decide) rfl (fun ls hl => ?_)
      refine lv_iload_n hx hb dX2_add_31 rfl (lv_at hl 0 rfl) ?_
      refine lv_bipush (v := 11) hx hb dX2_add_32 (by decide) ?_
      refine lv_isub hx hb dX2_add_34 ?_
      refine lv_istore_n (lv' := [(2, .int ((11 * (30 + sk - 1)) - 11)), (1, .int (11 * (30 + sk - 1))), (0, .ref mo)]) hx hb dX2_add_35 rfl hl (by decide) rfl (fun ls hl => ?_)
      refine lv_aload_n hx hb dX2_add_36 rfl (lv_at hl 2 rfl) ?_
      refine va_get (D := G.1) (ci := 2) (v := .ref ce) (C := RX2) (T := TX2) (N := 13) hx hb hts hinX2 hown hK.1 hP 0 rfl rfl 1 (by decide) hw1 (fun _ h9 => h9) rfl dX2_add_37 ?_
      refine lv_iload_n hx hb dX2_add_40 rfl (lv_at hl 1 rfl) ?_
      refine lv_bipush (v := 10) hx hb dX2_add_41 (by decide) ?_
      refine lv_iadd hx hb dX2_add_43 ?_
      refine ra_iald (f := fc) (v := ((11 * (29 + n)) + 10)) hx hb hK.1 hP 1 0 rfl rfl (na_add (na_mul (by decide) (na_up esk (by omega))) (by decide)) (by omega) (by decide) dX2_add_44 ?_
      refine lv_aload_n hx hb dX2_add_45 rfl (lv_at hl 2 rfl) ?_
      refine va_get (D := G.1) (ci := 2) (v := .ref ce) (C := RX2) (T := TX2) (N := 13) hx hb hts hinX2 hown hK.1 hP 0 rfl rfl 1 (by decide) hw1 (fun _ h9 => h9) rfl dX2_add_46 ?_
      refine lv_iload_n hx hb dX2_add_49 rfl (lv_at hl 0 rfl) ?_
      refine lv_bipush (v := 10) hx hb dX2_add_50 (by decide) ?_
      refine lv_iadd hx hb dX2_add_52 ?_
      refine ra_iald (f := fc) (v := ((11 * (28 + n)) + 10)) hx hb hK.1 hP 1 0 rfl rfl (na_add (na_q (na_mul (by decide) (na_up esk (by omega)))) (by decide)) (by omega) (by decide) dX2_add_53 ?_
      refine lv_iadd hx hb dX2_add_54 ?_
      refine lv_istore_n (lv' := [(3, .int ((fc ((11 * (29 + n)) + 10)) + (fc ((11 * (28 + n)) + 10)))), (2, .int ((11 * (30 + sk - 1)) - 11)), (1, .int (11 * (30 + sk - 1))), (0, .ref mo)]) hx hb dX2_add_55 rfl hl (by decide) rfl (fun ls hl => ?_)
      refine lv_iconst (v := 0) hx hb dX2_add_56 (by decide) ?_
      refine lv_istore (lv' := [(4, .int 0), (3, .int ((fc ((11 * (29 + n)) + 10)) + (fc ((11 * (28 + n)) + 10)))), (2, .int ((11 * (30 + sk - 1)) - 11)), (1, .int (11 * (30 + sk - 1))), (0, .ref mo)]) hx hb dX2_add_57 hl (by decide) rfl (fun ls hl => ?_)
      have loop_59 : ∀ (n_59 i : Nat) (xi xs : Int32), i ≤ 10 → 10 + 1 ≤ i + n_59 → (xi = nI i) → (xs = sgm (fc ((11 * (29 + n)) + 10) + fc ((11 * (28 + n)) + 10)) (adT fc (11 * (29 + n)) (11 * (28 + n))) i) → ∀ (H : Heap) (locs : List Loc), va_P G.1 vwCl [(mo, .inr (2, [.int (flI x1 0 0), .ref ce, .ref gv, .int st, .int sk, .ref dr, .ref go, .int tk, .int be, .int so, .int le, .int an, .ref sa])), (ce, eI G 418 (seg 396 i (fun v => fc ((11 * (29 + n)) + v) + fc ((11 * (28 + n)) + v)) fc)), (gv, eZ G 30 fg), (dr, eI G 10 fd), (go, eI G 10 fo), (sa, eI G 10 fs)] H → va_D A [(mo, .inr (2, [.int (flI x1 0 0), .ref ce, .ref gv, .int st, .int sk, .ref dr, .ref go, .int tk, .int be, .int so, .int le, .int an, .ref sa])), (ce, eI G 418 (seg 396 i (fun v => fc ((11 * (29 + n)) + v) + fc ((11 * (28 + n)) + v)) fc)), (gv, eZ G 30 fg), (dr, eI G 10 fd), (go, eI G 10 fo), (sa, eI G 10 fs)] → va_S A s.heap H locs → ∀ ls : Array Slot, lv_has ls 8 [(0, .ref mo), (1, .int (11 * (30 + sk - 1))), (2, .int ((11 * (30 + sk - 1)) - 11)), (3, .int xs), (4, .int xi)] → W p l e rmX2_add s m [.ref mo].toArray below meth c H locs 0 0 (MQ below (mu_Q G none [(mo, .inr (2, [.int (if thAdd sk = 0 then thAdd2 fc (11 * (29 + n)) (11 * (28 + n)) else thAdd sk), .ref ce, .ref gv, .int st, .int (if thAdd sk = 0 then (if thAdd2 fc (11 * (29 + n)) (11 * (28 + n)) = 0 then sk - 1 else sk) else sk), .ref dr, .ref go, .int tk, .int be, .int so, .int le, .int an, .ref sa])), (ce, eI G 418 (if thAdd sk = 0 then (if thAdd2 fc (11 * (29 + n)) (11 * (28 + n)) = 0 then cpy11 (adC fc (11 * (29 + n)) (11 * (28 + n))) 36 (29 + (n - 1)) else adC fc (11 * (29 + n)) (11 * (28 + n))) else fc)), (gv, eZ G 30 fg), (dr, eI G 10 fd), (go, eI G 10 fo), (sa, eI G 10 fs)] A) [.ref mo].toArray s 0 0 A) (F0 m 59 ls []) := by
        intro n_59
        induction n_59 with
        | zero => intro i xi xs h1 h2; exact absurd h2 (by omega)
        | succ n_59 ih_59 =>
          intro i xi xs hi_59 hn_59 ei es H locs hP hD hS ls hl
          refine lv_iload hx hb dX2_add_59 (lv_at hl 4 rfl) ?_
          refine lv_bipush (v := 10) hx hb dX2_add_61 (by decide) ?_
          refine lv_icmp_ge (tgt := 175) hx hb dX2_add_63 (by decide) (fun c_63 => ?_) (fun c_63 => ?_)
          · have hN : i = 10 := ge_ix ei (by decide) (by decide) c_63 hi_59
            rw [hN] at hP hD
            have es9 := es
            rw [hN] at es9
            refine lv_aload_n hx hb dX2_add_175 rfl (lv_at hl 0 rfl) ?_
            refine va_get (D := G.1) (ci := 2) (v := .ref ce) (C := RX2) (T := TX2) (N := 13) hx hb hts hinX2 hown hK.1 hP 0 rfl rfl 1 (by decide) hw1 (fun _ h9 => h9) rfl dX2_add_176 ?_
            refine lv_sipush (v := 406) hx hb dX2_add_179 (by decide) ?_
            refine lv_iload_n hx hb dX2_add_182 rfl (lv_at hl 3 rfl) ?_
            refine lv_if_ge (tgt := 190) hx hb dX2_add_183 (by decide) (fun c_183 => ?_) (fun c_183 => ?_)
            · refine lv_iload_n hx hb dX2_add_190 rfl (lv_at hl 3 rfl) ?_
              refine ra_iast (v := 406) hx hb hK.1 hP hD hS 1 0 rfl rfl (by decide) (by omega) (by decide) dX2_add_191 (fun H locs hP hD hS => ?_)
              have hP : va_P G.1 vwCl [(mo, .inr (2, [.int (flI x1 0 0), .ref ce, .ref gv, .int st, .int sk, .ref dr, .ref go, .int tk, .int be, .int so, .int le, .int an, .ref sa])), (ce, eI G 418 (upd (seg 396 10 (fun v => fc ((11 * (29 + n)) + v) + fc ((11 * (28 + n)) + v)) fc) 406 xs)), (gv, eZ G 30 fg), (dr, eI G 10 fd), (go, eI G 10 fo), (sa, eI G 10 fs)] H := hP
              have hD : va_D A [(mo, .inr (2, [.int (flI x1 0 0), .ref ce, .ref gv, .int st, .int sk, .ref dr, .ref go, .int tk, .int be, .int so, .int le, .int an, .ref sa])), (ce, eI G 418 (upd (seg 396 10 (fun v => fc ((11 * (29 + n)) + v) + fc ((11 * (28 + n)) + v)) fc) 406 xs)), (gv, eZ G 30 fg), (dr, eI G 10 fd), (go, eI G 10 fo), (sa, eI G 10 fs)] := hD
              have eA191 : upd (seg 396 10 (fun v => fc ((11 * (29 + n)) + v) + fc ((11 * (28 + n)) + v)) fc) 406 xs = adC fc (11 * (29 + n)) (11 * (28 + n)) := by unfold adC cl0; rw [← es9, if_neg (Int32.not_lt.mpr c_183)]
              rw [eA191] at hP hD
              refine lv_aload_n hx hb dX2_add_192 rfl (lv_at hl 0 rfl) ?_
              refine lv_iconst (v := 0) hx hb dX2_add_193 (by decide) ?_
              refine lv_aload_n hx hb dX2_add_194 rfl (lv_at hl 0 rfl) ?_
              refine lv_bipush (v := 36) hx hb dX2_add_195 (by decide) ?_
              refine ro_call (va_runV (As := [.int 36]) (rest := [.int 0, .ref mo]) ⟨hx, hb, hml, hown, hts⟩ (c_X2_large l G mo ce gv dr go sa (flI x1 0 0) st sk tk be so le an (adC fc (11 * (29 + n)) (11 * (28 + n))) fg fd fo fs 36 36 (by decide) (by omega)) (cwV 1 hts gX2_add_X2_large rfl rfl rfl (by decide +kernel) ⟨Nat.le_of_ble_eq_true rfl, Nat.le_of_ble_eq_true rfl⟩) ⟨ro_blind, va_recv hK.1 hP (ci := 2) (q0 := 0) rfl rfl, ro_pre _ (hP.sub [0, 1, 2, 3, 4, 5] rfl) hK⟩ rfl rfl hl.1 rfl (lv_room (Nat.le_of_ble_eq_true rfl)) dX2_add_197 ⟨Nat.le_refl _, Nat.le_refl _⟩) ?_
              refine lv_topi (fun zl ezl => ?_)
              refine lv_iconst (v := 0) hx hb dX2_add_200 (by decide) ?_
              have eT2 : thAdd2 fc (11 * (29 + n)) (11 * (28 + n)) = flI 0 zl 0 := by unfold thAdd2; rw [← ezl]
              refine mu_call (va_runV (As := [.int 0, .int zl, .int 0]) (rest := []) ⟨hx, hb, hml, hown, hts⟩ (c_X2_fails l G _ mo ce gv dr go sa (flI x1 0 0) st sk tk be so le an (adC fc (11 * (29 + n)) (11 * (28 + n))) fg fd fo fs 0 zl 0) (cwV 3 hts gX2_add_X2_fails rfl rfl rfl (by decide +kernel) ⟨Nat.le_of_ble_eq_true rfl, Nat.le_of_ble_eq_true rfl⟩) ⟨mu_blind, va_recv hK.1 hP (ci := 2) (q0 := 0) rfl rfl, mu_pre _ (hP.sub [0, 1, 2, 3, 4, 5] rfl) (hD.sub [0, 1, 2, 3, 4, 5] (by decide) rfl) hK⟩ rfl rfl hl.1 rfl (lv_room (Nat.le_of_ble_eq_true rfl)) dX2_add_201 ⟨Nat.le_refl _, Nat.le_refl _⟩) hS (va_free hD hS hA [0, 1, 2, 3, 4, 5] rfl) (va_free hD hS hA [0, 1, 2, 3, 4, 5] rfl) (fun H1 locs hP1 hD1 hk1 hS => ?_)
              obtain ⟨hP, hD⟩ := rp_join (ws' := [(mo, .inr (2, [.int (flI 0 zl 0), .ref ce, .ref gv, .int st, .int sk, .ref dr, .ref go, .int tk, .int be, .int so, .int le, .int an, .ref sa])), (ce, eI G 418 (adC fc (11 * (29 + n)) (11 * (28 + n)))), (gv, eZ G 30 fg), (dr, eI G 10 fd), (go, eI G 10 fo), (sa, eI G 10 fs)]) hP hD [0, 1, 2, 3, 4, 5] rfl hk1 hP1 (fun k q h => match k, q, h with | 0, q, h => Or.inl ⟨0, h⟩ | 1, q, h => Or.inl ⟨1, h⟩ | 2, q, h => Or.inl ⟨2, h⟩ | 3, q, h => Or.inl ⟨3, h⟩ | 4, q, h => Or.inl ⟨4, h⟩ | 5, q, h => Or.inl ⟨5, h⟩ | k + 6, q, h => nomatch h) rfl
              generalize H1 = H at hP hS ⊢
              have hP : va_P G.1 vwCl [(mo, .inr (2, [.int (flI 0 zl 0), .ref ce, .ref gv, .int st, .int sk, .ref dr, .ref go, .int tk, .int be, .int so, .int le, .int an, .ref sa])), (ce, eI G 418 (adC fc (11 * (29 + n)) (11 * (28 + n)))), (gv, eZ G 30 fg), (dr, eI G 10 fd), (go, eI G 10 fo), (sa, eI G 10 fs)] H := hP
              have hD : va_D A [(mo, .inr (2, [.int (flI 0 zl 0), .ref ce, .ref gv, .int st, .int sk, .ref dr, .ref go, .int tk, .int be, .int so, .int le, .int an, .ref sa])), (ce, eI G 418 (adC fc (11 * (29 + n)) (11 * (28 + n)))), (gv, eZ G 30 fg), (dr, eI G 10 fd), (go, eI G 10 fo), (sa, eI G 10 fs)] := hD
              refine lv_if_eq (tgt := 208) hx hb dX2_add_204 (by decide) (fun c_204 => ?_) (fun c_204 => ?_)
              · have hz2 : thAdd2 fc (11 * (29 + n)) (11 * (28 + n)) = 0 := by rw [eT2]; exact cnt0 c_204
                refine lv_aload_n hx hb dX2_add_208 rfl (lv_at hl 0 rfl) ?_
                refine lv_dup hx hb dX2_add_209 rfl ?_
                refine va_get (D := G.1) (ci := 2) (v := .int sk) (C := RX2) (T := TX2) (N := 13) hx hb hts hinX2 hown hK.1 hP 0 rfl rfl 4 (by decide) hw2 (fun _ h9 => h9) rfl dX2_add_210 ?_
                refine lv_iconst (v := 1) hx hb dX2_add_213 (by decide) ?_
                refine lv_isub hx hb dX2_add_214 ?_
                refine va_put (D := G.1) (ci := 2) (v := .int (sk - 1)) (ty := .int) (C := RX2) (T := TX2) (N := 13) hx hb hts hinX2 tyX2 tyX2_ok nmX2 hown hK.1 hP hD hS 0 rfl rfl 4 (by decide) hw2 (fun _ h9 => h9) rfl (by decide +kernel) rfl rfl (Nat.le_of_ble_eq_true rfl) dX2_add_215 (fun H locs hP hD hS => ?_)
                have hP : va_P G.1 vwCl [(mo, .inr (2, [.int (flI 0 zl 0), .ref ce, .ref gv, .int st, .int (sk - 1), .ref dr, .ref go, .int tk, .int be, .int so, .int le, .int an, .ref sa])), (ce, eI G 418 (adC fc (11 * (29 + n)) (11 * (28 + n)))), (gv, eZ G 30 fg), (dr, eI G 10 fd), (go, eI G 10 fo), (sa, eI G 10 fs)] H := hP
                have hD : va_D A [(mo, .inr (2, [.int (flI 0 zl 0), .ref ce, .ref gv, .int st, .int (sk - 1), .ref dr, .ref go, .int tk, .int be, .int so, .int le, .int an, .ref sa])), (ce, eI G 418 (adC fc (11 * (29 + n)) (11 * (28 + n)))), (gv, eZ G 30 fg), (dr, eI G 10 fd), (go, eI G 10 fo), (sa, eI G 10 fs)] := hD
                refine lv_aload_n hx hb dX2_add_218 rfl (lv_at hl 0 rfl) ?_
                refine lv_bipush (v := 36) hx hb dX2_add_219 (by decide) ?_
                refine lv_aload_n hx hb dX2_add_221 rfl (lv_at hl 0 rfl) ?_
                refine ro_call (va_runV (As := []) (rest := [.int 36, .ref mo]) ⟨hx, hb, hml, hown, hts⟩ (c_X2_upper l G mo ce gv dr go sa (flI 0 zl 0) st (sk - 1) tk be so le an (adC fc (11 * (29 + n)) (11 * (28 + n))) fg fd fo fs) (cwV 0 hts gX2_add_X2_upper rfl rfl rfl (by decide +kernel) ⟨Nat.le_of_ble_eq_true rfl, Nat.le_of_ble_eq_true rfl⟩) ⟨ro_blind, va_recv hK.1 hP (ci := 2) (q0 := 0) rfl rfl, ro_pre _ (hP.sub [0, 1, 2, 3, 4, 5] rfl) hK⟩ rfl rfl hl.1 rfl (lv_room (Nat.le_of_ble_eq_true rfl)) dX2_add_222 ⟨Nat.le_refl _, Nat.le_refl _⟩) ?_
                refine mu_call (va_runV (As := [.int 36, .int (30 + (sk - 1) - 1)]) (rest := []) ⟨hx, hb, hml, hown, hts⟩ (c_X2_copy l G _ mo ce gv dr go sa (flI 0 zl 0) st (sk - 1) tk be so le an (adC fc (11 * (29 + n)) (11 * (28 + n))) fg fd fo fs 36 36 (by decide) (by omega) (30 + (sk - 1) - 1) (29 + (n - 1)) (na_up (na_pred esk (by omega)) (by omega)) (by omega) (by omega)) (cwV 2 hts gX2_add_X2_copy rfl rfl rfl (by decide +kernel) ⟨Nat.le_of_ble_eq_true rfl, Nat.le_of_ble_eq_true rfl⟩) ⟨mu_blind, va_recv hK.1 hP (ci := 2) (q0 := 0) rfl rfl, mu_pre _ (hP.sub [0, 1, 2, 3, 4, 5] rfl) (hD.sub [0, 1, 2, 3, 4, 5] (by decide) rfl) hK⟩ rfl rfl hl.1 rfl (lv_room (Nat.le_of_ble_eq_true rfl)) dX2_add_225 ⟨Nat.le_refl _, Nat.le_refl _⟩) hS (va_free hD hS hA [0, 1, 2, 3, 4, 5] rfl) (va_free hD hS hA [0, 1, 2, 3, 4, 5] rfl) (fun H1 locs hP1 hD1 hk1 hS => ?_)
                obtain ⟨hP, hD⟩ := rp_join (ws' := [(mo, .inr (2, [.int (flI 0 zl 0), .ref ce, .ref gv, .int st, .int (sk - 1), .ref dr, .ref go, .int tk, .int be, .int so, .int le, .int an, .ref sa])), (ce, eI G 418 (cpy11 (adC fc (11 * (29 + n)) (11 * (28 + n))) 36 (29 + (n - 1)))), (gv, eZ G 30 fg), (dr, eI G 10 fd), (go, eI G 10 fo), (sa, eI G 10 fs)]) hP hD [0, 1, 2, 3, 4, 5] rfl hk1 hP1 (fun k q h => match k, q, h with | 0, q, h => Or.inl ⟨0, h⟩ | 1, q, h => Or.inl ⟨1, h⟩ | 2, q, h => Or.inl ⟨2, h⟩ | 3, q, h => Or.inl ⟨3, h⟩ | 4, q, h => Or.inl ⟨4, h⟩ | 5, q, h => Or.inl ⟨5, h⟩ | k + 6, q, h => nomatch h) rfl
                generalize H1 = H at hP hS ⊢
                have hP : va_P G.1 vwCl [(mo, .inr (2, [.int (flI 0 zl 0), .ref ce, .ref gv, .int st, .int (sk - 1), .ref dr, .ref go, .int tk, .int be, .int so, .int le, .int an, .ref sa])), (ce, eI G 418 (cpy11 (adC fc (11 * (29 + n)) (11 * (28 + n))) 36 (29 + (n - 1)))), (gv, eZ G 30 fg), (dr, eI G 10 fd), (go, eI G 10 fo), (sa, eI G 10 fs)] H := hP
                have hD : va_D A [(mo, .inr (2, [.int (flI 0 zl 0), .ref ce, .ref gv, .int st, .int (sk - 1), .ref dr, .ref go, .int tk, .int be, .int so, .int le, .int an, .ref sa])), (ce, eI G 418 (cpy11 (adC fc (11 * (29 + n)) (11 * (28 + n))) 36 (29 + (n - 1)))), (gv, eZ G 30 fg), (dr, eI G 10 fd), (go, eI G 10 fo), (sa, eI G 10 fs)] := hD
                have hP9 := hP.sub (ws' := [(mo, .inr (2, [.int (if thAdd sk = 0 then thAdd2 fc (11 * (29 + n)) (11 * (28 + n)) else thAdd sk), .ref ce, .ref gv, .int st, .int (if thAdd sk = 0 then (if thAdd2 fc (11 * (29 + n)) (11 * (28 + n)) = 0 then sk - 1 else sk) else sk), .ref dr, .ref go, .int tk, .int be, .int so, .int le, .int an, .ref sa])), (ce, eI G 418 (if thAdd sk = 0 then (if thAdd2 fc (11 * (29 + n)) (11 * (28 + n)) = 0 then cpy11 (adC fc (11 * (29 + n)) (11 * (28 + n))) 36 (29 + (n - 1)) else adC fc (11 * (29 + n)) (11 * (28 + n))) else fc)), (gv, eZ G 30 fg), (dr, eI G 10 fd), (go, eI G 10 fo), (sa, eI G 10 fs)]) [0, 1, 2, 3, 4, 5] (by simp only [if_pos hz, if_pos hz2]; rw [eT2]; rfl)
                have hD9 := hD.sub (ws' := [(mo, .inr (2, [.int (if thAdd sk = 0 then thAdd2 fc (11 * (29 + n)) (11 * (28 + n)) else thAdd sk), .ref ce, .ref gv, .int st, .int (if thAdd sk = 0 then (if thAdd2 fc (11 * (29 + n)) (11 * (28 + n)) = 0 then sk - 1 else sk) else sk), .ref dr, .ref go, .int tk, .int be, .int so, .int le, .int an, .ref sa])), (ce, eI G 418 (if thAdd sk = 0 then (if thAdd2 fc (11 * (29 + n)) (11 * (28 + n)) = 0 then cpy11 (adC fc (11 * (29 + n)) (11 * (28 + n))) 36 (29 + (n - 1)) else adC fc (11 * (29 + n)) (11 * (28 + n))) else fc)), (gv, eZ G 30 fg), (dr, eI G 10 fd), (go, eI G 10 fo), (sa, eI G 10 fs)]) [0, 1, 2, 3, 4, 5] (by decide) (by simp only [if_pos hz, if_pos hz2]; rw [eT2]; rfl)
                exact W.vret hx hb hr (fun t ht hW => ⟨rfl, by rw [ht]; exact hP9, hD9, hS.F ht⟩) hS.2.2 dX2_add_228
              · have hz2 : ¬ thAdd2 fc (11 * (29 + n)) (11 * (28 + n)) = 0 := by rw [eT2]; exact cnt1 c_204
                have hP9 := hP.sub (ws' := [(mo, .inr (2, [.int (if thAdd sk = 0 then thAdd2 fc (11 * (29 + n)) (11 * (28 + n)) else thAdd sk), .ref ce, .ref gv, .int st, .int (if thAdd sk = 0 then (if thAdd2 fc (11 * (29 + n)) (11 * (28 + n)) = 0 then sk - 1 else sk) else sk), .ref dr, .ref go, .int tk, .int be, .int so, .int le, .int an, .ref sa])), (ce, eI G 418 (if thAdd sk = 0 then (if thAdd2 fc (11 * (29 + n)) (11 * (28 + n)) = 0 then cpy11 (adC fc (11 * (29 + n)) (11 * (28 + n))) 36 (29 + (n - 1)) else adC fc (11 * (29 + n)) (11 * (28 + n))) else fc)), (gv, eZ G 30 fg), (dr, eI G 10 fd), (go, eI G 10 fo), (sa, eI G 10 fs)]) [0, 1, 2, 3, 4, 5] (by simp only [if_pos hz, if_neg hz2]; rw [eT2]; rfl)
                have hD9 := hD.sub (ws' := [(mo, .inr (2, [.int (if thAdd sk = 0 then thAdd2 fc (11 * (29 + n)) (11 * (28 + n)) else thAdd sk), .ref ce, .ref gv, .int st, .int (if thAdd sk = 0 then (if thAdd2 fc (11 * (29 + n)) (11 * (28 + n)) = 0 then sk - 1 else sk) else sk), .ref dr, .ref go, .int tk, .int be, .int so, .int le, .int an, .ref sa])), (ce, eI G 418 (if thAdd sk = 0 then (if thAdd2 fc (11 * (29 + n)) (11 * (28 + n)) = 0 then cpy11 (adC fc (11 * (29 + n)) (11 * (28 + n))) 36 (29 + (n - 1)) else adC fc (11 * (29 + n)) (11 * (28 + n))) else fc)), (gv, eZ G 30 fg), (dr, eI G 10 fd), (go, eI G 10 fo), (sa, eI G 10 fs)]) [0, 1, 2, 3, 4, 5] (by decide) (by simp only [if_pos hz, if_neg hz2]; rw [eT2]; rfl)
                exact W.vret hx hb hr (fun t ht hW => ⟨rfl, by rw [ht]; exact hP9, hD9, hS.F ht⟩) hS.2.2 dX2_add_207
            · refine lv_iconst (v := 0) hx hb dX2_add_186 (by decide) ?_
              refine lv_goto (tgt := 191) hx hb dX2_add_187 (by decide) ?_
              refine ra_iast (v := 406) hx hb hK.1 hP hD hS 1 0 rfl rfl (by decide) (by omega) (by decide) dX2_add_191 (fun H locs hP hD hS => ?_)
              have hP : va_P G.1 vwCl [(mo, .inr (2, [.int (flI x1 0 0), .ref ce, .ref gv, .int st, .int sk, .ref dr, .ref go, .int tk, .int be, .int so, .int le, .int an, .ref sa])), (ce, eI G 418 (upd (seg 396 10 (fun v => fc ((11 * (29 + n)) + v) + fc ((11 * (28 + n)) + v)) fc) 406 0)), (gv, eZ G 30 fg), (dr, eI G 10 fd), (go, eI G 10 fo), (sa, eI G 10 fs)] H := hP
              have hD : va_D A [(mo, .inr (2, [.int (flI x1 0 0), .ref ce, .ref gv, .int st, .int sk, .ref dr, .ref go, .int tk, .int be, .int so, .int le, .int an, .ref sa])), (ce, eI G 418 (upd (seg 396 10 (fun v => fc ((11 * (29 + n)) + v) + fc ((11 * (28 + n)) + v)) fc) 406 0)), (gv, eZ G 30 fg), (dr, eI G 10 fd), (go, eI G 10 fo), (sa, eI G 10 fs)] := hD
              have eA191 : upd (seg 396 10 (fun v => fc ((11 * (29 + n)) + v) + fc ((11 * (28 + n)) + v)) fc) 406 0 = adC fc (11 * (29 + n)) (11 * (28 + n)) := by unfold adC cl0; rw [← es9, if_pos (Int32.not_le.mp c_183)]
              rw [eA191] at hP hD
              refine lv_aload_n hx hb dX2_add_192 rfl (lv_at hl 0 rfl) ?_
              refine lv_iconst (v := 0) hx hb dX2_add_193 (by decide) ?_
              refine lv_aload_n hx hb dX2_add_194 rfl (lv_at hl 0 rfl) ?_
              refine lv_bipush (v := 36) hx hb dX2_add_195 (by decide) ?_
              refine ro_call (va_runV (As := [.int 36]) (rest := [.int 0, .ref mo]) ⟨hx, hb, hml, hown, hts⟩ (c_X2_large l G mo ce gv dr go sa (flI x1 0 0) st sk tk be so le an (adC fc (11 * (29 + n)) (11 * (28 + n))) fg fd fo fs 36 36 (by decide) (by omega)) (cwV 1 hts gX2_add_X2_large rfl rfl rfl (by decide +kernel) ⟨Nat.le_of_ble_eq_true rfl, Nat.le_of_ble_eq_true rfl⟩) ⟨ro_blind, va_recv hK.1 hP (ci := 2) (q0 := 0) rfl rfl, ro_pre _ (hP.sub [0, 1, 2, 3, 4, 5] rfl) hK⟩ rfl rfl hl.1 rfl (lv_room (Nat.le_of_ble_eq_true rfl)) dX2_add_197 ⟨Nat.le_refl _, Nat.le_refl _⟩) ?_
              refine lv_topi (fun zl ezl => ?_)
              refine lv_iconst (v := 0) hx hb dX2_add_200 (by decide) ?_
              have eT2 : thAdd2 fc (11 * (29 + n)) (11 * (28 + n)) = flI 0 zl 0 := by unfold thAdd2; rw [← ezl]
              refine mu_call (va_runV (As := [.int 0, .int zl, .int 0]) (rest := []) ⟨hx, hb, hml, hown, hts⟩ (c_X2_fails l G _ mo ce gv dr go sa (flI x1 0 0) st sk tk be so le an (adC fc (11 * (29 + n)) (11 * (28 + n))) fg fd fo fs 0 zl 0) (cwV 3 hts gX2_add_X2_fails rfl rfl rfl (by decide +kernel) ⟨Nat.le_of_ble_eq_true rfl, Nat.le_of_ble_eq_true rfl⟩) ⟨mu_blind, va_recv hK.1 hP (ci := 2) (q0 := 0) rfl rfl, mu_pre _ (hP.sub [0, 1, 2, 3, 4, 5] rfl) (hD.sub [0, 1, 2, 3, 4, 5] (by decide) rfl) hK⟩ rfl rfl hl.1 rfl (lv_room (Nat.le_of_ble_eq_true rfl)) dX2_add_201 ⟨Nat.le_refl _, Nat.le_refl _⟩) hS (va_free hD hS hA [0, 1, 2, 3, 4, 5] rfl) (va_free hD hS hA [0, 1, 2, 3, 4, 5] rfl) (fun H1 locs hP1 hD1 hk1 hS => ?_)
              obtain ⟨hP, hD⟩ := rp_join (ws' := [(mo, .inr (2, [.int (flI 0 zl 0), .ref ce, .ref gv, .int st, .int sk, .ref dr, .ref go, .int tk, .int be, .int so, .int le, .int an, .ref sa])), (ce, eI G 418 (adC fc (11 * (29 + n)) (11 * (28 + n)))), (gv, eZ G 30 fg), (dr, eI G 10 fd), (go, eI G 10 fo), (sa, eI G 10 fs)]) hP hD [0, 1, 2, 3, 4, 5] rfl hk1 hP1 (fun k q h => match k, q, h with | 0, q, h => Or.inl ⟨0, h⟩ | 1, q, h => Or.inl ⟨1, h⟩ | 2, q, h => Or.inl ⟨2, h⟩ | 3, q, h => Or.inl ⟨3, h⟩ | 4, q, h => Or.inl ⟨4, h⟩ | 5, q, h => Or.inl ⟨5, h⟩ | k + 6, q, h => nomatch h) rfl
              generalize H1 = H at hP hS ⊢
              have hP : va_P G.1 vwCl [(mo, .inr (2, [.int (flI 0 zl 0), .ref ce, .ref gv, .int st, .int sk, .ref dr, .ref go, .int tk, .int be, .int so, .int le, .int an, .ref sa])), (ce, eI G 418 (adC fc (11 * (29 + n)) (11 * (28 + n)))), (gv, eZ G 30 fg), (dr, eI G 10 fd), (go, eI G 10 fo), (sa, eI G 10 fs)] H := hP
              have hD : va_D A [(mo, .inr (2, [.int (flI 0 zl 0), .ref ce, .ref gv, .int st, .int sk, .ref dr, .ref go, .int tk, .int be, .int so, .int le, .int an, .ref sa])), (ce, eI G 418 (adC fc (11 * (29 + n)) (11 * (28 + n)))), (gv, eZ G 30 fg), (dr, eI G 10 fd), (go, eI G 10 fo), (sa, eI G 10 fs)] := hD
              refine lv_if_eq (tgt := 208) hx hb dX2_add_204 (by decide) (fun c_204 => ?_) (fun c_204 => ?_)
              · have hz2 : thAdd2 fc (11 * (29 + n)) (11 * (28 + n)) = 0 := by rw [eT2]; exact cnt0 c_204
                refine lv_aload_n hx hb dX2_add_208 rfl (lv_at hl 0 rfl) ?_
                refine lv_dup hx hb dX2_add_209 rfl ?_
                refine va_get (D := G.1) (ci := 2) (v := .int sk) (C := RX2) (T := TX2) (N := 13) hx hb hts hinX2 hown hK.1 hP 0 rfl rfl 4 (by decide) hw2 (fun _ h9 => h9) rfl dX2_add_210 ?_
                refine lv_iconst (v := 1) hx hb dX2_add_213 (by decide) ?_
                refine lv_isub hx hb dX2_add_214 ?_
                refine va_put (D := G.1) (ci := 2) (v := .int (sk - 1)) (ty := .int) (C := RX2) (T := TX2) (N := 13) hx hb hts hinX2 tyX2 tyX2_ok nmX2 hown hK.1 hP hD hS 0 rfl rfl 4 (by decide) hw2 (fun _ h9 => h9) rfl (by decide +kernel) rfl rfl (Nat.le_of_ble_eq_true rfl) dX2_add_215 (fun H locs hP hD hS => ?_)
                have hP : va_P G.1 vwCl [(mo, .inr (2, [.int (flI 0 zl 0), .ref ce, .ref gv, .int st, .int (sk - 1), .ref dr, .ref go, .int tk, .int be, .int so, .int le, .int an, .ref sa])), (ce, eI G 418 (adC fc (11 * (29 + n)) (11 * (28 + n)))), (gv, eZ G 30 fg), (dr, eI G 10 fd), (go, eI G 10 fo), (sa, eI G 10 fs)] H := hP
                have hD : va_D A [(mo, .inr (2, [.int (flI 0 zl 0), .ref ce, .ref gv, .int st, .int (sk - 1), .ref dr, .ref go, .int tk, .int be, .int so, .int le, .int an, .ref sa])), (ce, eI G 418 (adC fc (11 * (29 + n)) (11 * (28 + n)))), (gv, eZ G 30 fg), (dr, eI G 10 fd), (go, eI G 10 fo), (sa, eI G 10 fs)] := hD
                refine lv_aload_n hx hb dX2_add_218 rfl (lv_at hl 0 rfl) ?_
                refine lv_bipush (v := 36) hx hb dX2_add_219 (by decide) ?_
                refine lv_aload_n hx hb dX2_add_221 rfl (lv_at hl 0 rfl) ?_
                refine ro_call (va_runV (As := []) (rest := [.int 36, .ref mo]) ⟨hx, hb, hml, hown, hts⟩ (c_X2_upper l G mo ce gv dr go sa (flI 0 zl 0) st (sk - 1) tk be so le an (adC fc (11 * (29 + n)) (11 * (28 + n))) fg fd fo fs) (cwV 0 hts gX2_add_X2_upper rfl rfl rfl (by decide +kernel) ⟨Nat.le_of_ble_eq_true rfl, Nat.le_of_ble_eq_true rfl⟩) ⟨ro_blind, va_recv hK.1 hP (ci := 2) (q0 := 0) rfl rfl, ro_pre _ (hP.sub [0, 1, 2, 3, 4, 5] rfl) hK⟩ rfl rfl hl.1 rfl (lv_room (Nat.le_of_ble_eq_true rfl)) dX2_add_222 ⟨Nat.le_refl _, Nat.le_refl _⟩) ?_
                refine mu_call (va_runV (As := [.int 36, .int (30 + (sk - 1) - 1)]) (rest := []) ⟨hx, hb, hml, hown, hts⟩ (c_X2_copy l G _ mo ce gv dr go sa (flI 0 zl 0) st (sk - 1) tk be so le an (adC fc (11 * (29 + n)) (11 * (28 + n))) fg fd fo fs 36 36 (by decide) (by omega) (30 + (sk - 1) - 1) (29 + (n - 1)) (na_up (na_pred esk (by omega)) (by omega)) (by omega) (by omega)) (cwV 2 hts gX2_add_X2_copy rfl rfl rfl (by decide +kernel) ⟨Nat.le_of_ble_eq_true rfl, Nat.le_of_ble_eq_true rfl⟩) ⟨mu_blind, va_recv hK.1 hP (ci := 2) (q0 := 0) rfl rfl, mu_pre _ (hP.sub [0, 1, 2, 3, 4, 5] rfl) (hD.sub [0, 1, 2, 3, 4, 5] (by decide) rfl) hK⟩ rfl rfl hl.1 rfl (lv_room (Nat.le_of_ble_eq_true rfl)) dX2_add_225 ⟨Nat.le_refl _, Nat.le_refl _⟩) hS (va_free hD hS hA [0, 1, 2, 3, 4, 5] rfl) (va_free hD hS hA [0, 1, 2, 3, 4, 5] rfl) (fun H1 locs hP1 hD1 hk1 hS => ?_)
                obtain ⟨hP, hD⟩ := rp_join (ws' := [(mo, .inr (2, [.int (flI 0 zl 0), .ref ce, .ref gv, .int st, .int (sk - 1), .ref dr, .ref go, .int tk, .int be, .int so, .int le, .int an, .ref sa])), (ce, eI G 418 (cpy11 (adC fc (11 * (29 + n)) (11 * (28 + n))) 36 (29 + (n - 1)))), (gv, eZ G 30 fg), (dr, eI G 10 fd), (go, eI G 10 fo), (sa, eI G 10 fs)]) hP hD [0, 1, 2, 3, 4, 5] rfl hk1 hP1 (fun k q h => match k, q, h with | 0, q, h => Or.inl ⟨0, h⟩ | 1, q, h => Or.inl ⟨1, h⟩ | 2, q, h => Or.inl ⟨2, h⟩ | 3, q, h => Or.inl ⟨3, h⟩ | 4, q, h => Or.inl ⟨4, h⟩ | 5, q, h => Or.inl ⟨5, h⟩ | k + 6, q, h => nomatch h) rfl
                generalize H1 = H at hP hS ⊢
                have hP : va_P G.1 vwCl [(mo, .inr (2, [.int (flI 0 zl 0), .ref ce, .ref gv, .int st, .int (sk - 1), .ref dr, .ref go, .int tk, .int be, .int so, .int le, .int an, .ref sa])), (ce, eI G 418 (cpy11 (adC fc (11 * (29 + n)) (11 * (28 + n))) 36 (29 + (n - 1)))), (gv, eZ G 30 fg), (dr, eI G 10 fd), (go, eI G 10 fo), (sa, eI G 10 fs)] H := hP
                have hD : va_D A [(mo, .inr (2, [.int (flI 0 zl 0), .ref ce, .ref gv, .int st, .int (sk - 1), .ref dr, .ref go, .int tk, .int be, .int so, .int le, .int an, .ref sa])), (ce, eI G 418 (cpy11 (adC fc (11 * (29 + n)) (11 * (28 + n))) 36 (29 + (n - 1)))), (gv, eZ G 30 fg), (dr, eI G 10 fd), (go, eI G 10 fo), (sa, eI G 10 fs)] := hD
                have hP9 := hP.sub (ws' := [(mo, .inr (2, [.int (if thAdd sk = 0 then thAdd2 fc (11 * (29 + n)) (11 * (28 + n)) else thAdd sk), .ref ce, .ref gv, .int st, .int (if thAdd sk = 0 then (if thAdd2 fc (11 * (29 + n)) (11 * (28 + n)) = 0 then sk - 1 else sk) else sk), .ref dr, .ref go, .int tk, .int be, .int so, .int le, .int an, .ref sa])), (ce, eI G 418 (if thAdd sk = 0 then (if thAdd2 fc (11 * (29 + n)) (11 * (28 + n)) = 0 then cpy11 (adC fc (11 * (29 + n)) (11 * (28 + n))) 36 (29 + (n - 1)) else adC fc (11 * (29 + n)) (11 * (28 + n))) else fc)), (gv, eZ G 30 fg), (dr, eI G 10 fd), (go, eI G 10 fo), (sa, eI G 10 fs)]) [0, 1, 2, 3, 4, 5] (by simp only [if_pos hz, if_pos hz2]; rw [eT2]; rfl)
                have hD9 := hD.sub (ws' := [(mo, .inr (2, [.int (if thAdd sk = 0 then thAdd2 fc (11 * (29 + n)) (11 * (28 + n)) else thAdd sk), .ref ce, .ref gv, .int st, .int (if thAdd sk = 0 then (if thAdd2 fc (11 * (29 + n)) (11 * (28 + n)) = 0 then sk - 1 else sk) else sk), .ref dr, .ref go, .int tk, .int be, .int so, .int le, .int an, .ref sa])), (ce, eI G 418 (if thAdd sk = 0 then (if thAdd2 fc (11 * (29 + n)) (11 * (28 + n)) = 0 then cpy11 (adC fc (11 * (29 + n)) (11 * (28 + n))) 36 (29 + (n - 1)) else adC fc (11 * (29 + n)) (11 * (28 + n))) else fc)), (gv, eZ G 30 fg), (dr, eI G 10 fd), (go, eI G 10 fo), (sa, eI G 10 fs)]) [0, 1, 2, 3, 4, 5] (by decide) (by simp only [if_pos hz, if_pos hz2]; rw [eT2]; rfl)
                exact W.vret hx hb hr (fun t ht hW => ⟨rfl, by rw [ht]; exact hP9, hD9, hS.F ht⟩) hS.2.2 dX2_add_228
              · have hz2 : ¬ thAdd2 fc (11 * (29 + n)) (11 * (28 + n)) = 0 := by rw [eT2]; exact cnt1 c_204
                have hP9 := hP.sub (ws' := [(mo, .inr (2, [.int (if thAdd sk = 0 then thAdd2 fc (11 * (29 + n)) (11 * (28 + n)) else thAdd sk), .ref ce, .ref gv, .int st, .int (if thAdd sk = 0 then (if thAdd2 fc (11 * (29 + n)) (11 * (28 + n)) = 0 then sk - 1 else sk) else sk), .ref dr, .ref go, .int tk, .int be, .int so, .int le, .int an, .ref sa])), (ce, eI G 418 (if thAdd sk = 0 then (if thAdd2 fc (11 * (29 + n)) (11 * (28 + n)) = 0 then cpy11 (adC fc (11 * (29 + n)) (11 * (28 + n))) 36 (29 + (n - 1)) else adC fc (11 * (29 + n)) (11 * (28 + n))) else fc)), (gv, eZ G 30 fg), (dr, eI G 10 fd), (go, eI G 10 fo), (sa, eI G 10 fs)]) [0, 1, 2, 3, 4, 5] (by simp only [if_pos hz, if_neg hz2]; rw [eT2]; rfl)
                have hD9 := hD.sub (ws' := [(mo, .inr (2, [.int (if thAdd sk = 0 then thAdd2 fc (11 * (29 + n)) (11 * (28 + n)) else thAdd sk), .ref ce, .ref gv, .int st, .int (if thAdd sk = 0 then (if thAdd2 fc (11 * (29 + n)) (11 * (28 + n)) = 0 then sk - 1 else sk) else sk), .ref dr, .ref go, .int tk, .int be, .int so, .int le, .int an, .ref sa])), (ce, eI G 418 (if thAdd sk = 0 then (if thAdd2 fc (11 * (29 + n)) (11 * (28 + n)) = 0 then cpy11 (adC fc (11 * (29 + n)) (11 * (28 + n))) 36 (29 + (n - 1)) else adC fc (11 * (29 + n)) (11 * (28 + n))) else fc)), (gv, eZ G 30 fg), (dr, eI G 10 fd), (go, eI G 10 fo), (sa, eI G 10 fs)]) [0, 1, 2, 3, 4, 5] (by decide) (by simp only [if_pos hz, if_neg hz2]; rw [eT2]; rfl)
                exact W.vret hx hb hr (fun t ht hW => ⟨rfl, by rw [ht]; exact hP9, hD9, hS.F ht⟩) hS.2.2 dX2_add_207
          · have hlt : i < 10 := lt_ix ei (by decide) (by decide) c_63 hi_59
            refine lv_aload_n hx hb dX2_add_66 rfl (lv_at hl 0 rfl) ?_
            refine va_get (D := G.1) (ci := 2) (v := .ref ce) (C := RX2) (T := TX2) (N := 13) hx hb hts hinX2 hown hK.1 hP 0 rfl rfl 1 (by decide) hw1 (fun _ h9 => h9) rfl dX2_add_67 ?_
            refine lv_iload_n hx hb dX2_add_70 rfl (lv_at hl 1 rfl) ?_
            refine lv_iload hx hb dX2_add_71 (lv_at hl 4 rfl) ?_
            refine lv_iadd hx hb dX2_add_73 ?_
            refine ra_iald (f := (seg 396 i (fun v => fc ((11 * (29 + n)) + v) + fc ((11 * (28 + n)) + v)) fc)) (v := ((11 * (29 + n)) + i)) hx hb hK.1 hP 1 0 rfl rfl (na_add (na_mul (by decide) (na_up esk (by omega))) ei) (by omega) (by decide) dX2_add_74 ?_
            refine lv_topi (fun za e0za => ?_)
            have eza : za = fc ((11 * (29 + n)) + i) := e0za.trans (seg_out _ _ (by omega))
            refine lv_istore (lv' := [(5, .int za), (0, .ref mo), (1, .int (11 * (30 + sk - 1))), (2, .int ((11 * (30 + sk - 1)) - 11)), (3, .int xs), (4, .int xi)]) hx hb dX2_add_75 hl (by decide) rfl (fun ls hl => ?_)
            refine lv_aload_n hx hb dX2_add_77 rfl (lv_at hl 1 rfl) ?_
            refine va_get (D := G.1) (ci := 2) (v := .ref ce) (C := RX2) (T := TX2) (N := 13) hx hb hts hinX2 hown hK.1 hP 0 rfl rfl 1 (by decide) hw1 (fun _ h9 => h9) rfl dX2_add_78 ?_
            refine lv_iload_n hx hb dX2_add_81 rfl (lv_at hl 3 rfl) ?_
            refine lv_iload hx hb dX2_add_82 (lv_at hl 5 rfl) ?_
            refine lv_iadd hx hb dX2_add_84 ?_
            refine ra_iald (f := (seg 396 i (fun v => fc ((11 * (29 + n)) + v) + fc ((11 * (28 + n)) + v)) fc)) (v := ((11 * (28 + n)) + i)) hx hb hK.1 hP 1 0 rfl rfl (na_add (na_q (na_mul (by decide) (na_up esk (by omega)))) ei) (by omega) (by decide) dX2_add_85 ?_
            refine lv_topi (fun zb e0zb => ?_)
            have ezb : zb = fc ((11 * (28 + n)) + i) := e0zb.trans (seg_out _ _ (by omega))
            refine lv_istore (lv' := [(6, .int zb), (5, .int za), (0, .ref mo), (1, .int (11 * (30 + sk - 1))), (2, .int ((11 * (30 + sk - 1)) - 11)), (3, .int xs), (4, .int xi)]) hx hb dX2_add_86 hl (by decide) rfl (fun ls hl => ?_)
            have join_113 : ∀ (x7 : Int32), (x7 = agI za zb) → ∀ (H : Heap) (locs : List Loc), va_P G.1 vwCl [(mo, .inr (2, [.int (flI x1 0 0), .ref ce, .ref gv, .int st, .int sk, .ref dr, .ref go, .int tk, .int be, .int so, .int le, .int an, .ref sa])), (ce, eI G 418 (seg 396 i (fun v => fc ((11 * (29 + n)) + v) + fc ((11 * (28 + n)) + v)) fc)), (gv, eZ G 30 fg), (dr, eI G 10 fd), (go, eI G 10 fo), (sa, eI G 10 fs)] H → va_D A [(mo, .inr (2, [.int (flI x1 0 0), .ref ce, .ref gv, .int st, .int sk, .ref dr, .ref go, .int tk, .int be, .int so, .int le, .int an, .ref sa])), (ce, eI G 418 (seg 396 i (fun v => fc ((11 * (29 + n)) + v) + fc ((11 * (28 + n)) + v)) fc)), (gv, eZ G 30 fg), (dr, eI G 10 fd), (go, eI G 10 fo), (sa, eI G 10 fs)] → va_S A s.heap H locs → ∀ ls : Array Slot, lv_has ls 8 [(6, .int zb), (5, .int za), (0, .ref mo), (1, .int (11 * (30 + sk - 1))), (2, .int ((11 * (30 + sk - 1)) - 11)), (3, .int xs), (4, .int xi)] → W p l e rmX2_add s m [.ref mo].toArray below meth c H locs 0 0 (MQ below (mu_Q G none [(mo, .inr (2, [.int (if thAdd sk = 0 then thAdd2 fc (11 * (29 + n)) (11 * (28 + n)) else thAdd sk), .ref ce, .ref gv, .int st, .int (if thAdd sk = 0 then (if thAdd2 fc (11 * (29 + n)) (11 * (28 + n)) = 0 then sk - 1 else sk) else sk), .ref dr, .ref go, .int tk, .int be, .int so, .int le, .int an, .ref sa])), (ce, eI G 418 (if thAdd sk = 0 then (if thAdd2 fc (11 * (29 + n)) (11 * (28 + n)) = 0 then cpy11 (adC fc (11 * (29 + n)) (11 * (28 + n))) 36 (29 + (n - 1)) else adC fc (11 * (29 + n)) (11 * (28 + n))) else fc)), (gv, eZ G 30 fg), (dr, eI G 10 fd), (go, eI G 10 fo), (sa, eI G 10 fs)] A) [.ref mo].toArray s 0 0 A) (F0 m 113 ls [.int x7]) := by
              intro x7 ex7 H locs hP hD hS ls hl
              refine lv_istore (lv' := [(7, .int x7), (6, .int zb), (5, .int za), (0, .ref mo), (1, .int (11 * (30 + sk - 1))), (2, .int ((11 * (30 + sk - 1)) - 11)), (3, .int xs), (4, .int xi)]) hx hb dX2_add_113 hl (by decide) rfl (fun ls hl => ?_)
              refine lv_iload_n hx hb dX2_add_115 rfl (lv_at hl 6 rfl) ?_
              refine lv_iload hx hb dX2_add_116 (lv_at hl 0 rfl) ?_
              refine lv_if_ne (tgt := 125) hx hb dX2_add_118 (by decide) (fun c_118 => ?_) (fun c_118 => ?_)
              · refine lv_iload hx hb dX2_add_125 (lv_at hl 2 rfl) ?_
                refine ro_call (va_runS (As := [.int za]) (rest := [.int xs]) ⟨hx, hb, hml, hown, hts⟩ (c_X2_size l G za) (va_cwS 1 hts gX2_add_X2_size rfl rfl rfl (by decide +kernel) ⟨Nat.le_of_ble_eq_true rfl, Nat.le_of_ble_eq_true rfl⟩) ⟨ro_blind, ro_pre _ (hP.sub [] rfl) hK⟩ rfl rfl hl.1 rfl (lv_room (Nat.le_of_ble_eq_true rfl)) dX2_add_127 ⟨Nat.le_refl _, Nat.le_refl _⟩) ?_
                refine lv_iload hx hb dX2_add_130 (lv_at hl 1 rfl) ?_
                refine ro_call (va_runS (As := [.int zb]) (rest := [.int (szI za), .int xs]) ⟨hx, hb, hml, hown, hts⟩ (c_X2_size l G zb) (va_cwS 1 hts gX2_add_X2_size rfl rfl rfl (by decide +kernel) ⟨Nat.le_of_ble_eq_true rfl, Nat.le_of_ble_eq_true rfl⟩) ⟨ro_blind, ro_pre _ (hP.sub [] rfl) hK⟩ rfl rfl hl.1 rfl (lv_room (Nat.le_of_ble_eq_true rfl)) dX2_add_132 ⟨Nat.le_refl _, Nat.le_refl _⟩) ?_
                refine lv_icmp_ge (tgt := 146) hx hb dX2_add_135 (by decide) (fun c_135 => ?_) (fun c_135 => ?_)
                · refine lv_iload hx hb dX2_add_146 (lv_at hl 1 rfl) ?_
                  refine ro_call (va_runS (As := [.int zb]) (rest := [.int xs]) ⟨hx, hb, hml, hown, hts⟩ (c_X2_size l G zb) (va_cwS 1 hts gX2_add_X2_size rfl rfl rfl (by decide +kernel) ⟨Nat.le_of_ble_eq_true rfl, Nat.le_of_ble_eq_true rfl⟩) ⟨ro_blind, ro_pre _ (hP.sub [] rfl) hK⟩ rfl rfl hl.1 rfl (lv_room (Nat.le_of_ble_eq_true rfl)) dX2_add_148 ⟨Nat.le_refl _, Nat.le_refl _⟩) ?_
                  refine lv_isub hx hb dX2_add_151 ?_
                  refine lv_istore_n (lv' := [(3, .int (xs - (szI zb))), (7, .int x7), (6, .int zb), (5, .int za), (0, .ref mo), (1, .int (11 * (30 + sk - 1))), (2, .int ((11 * (30 + sk - 1)) - 11)), (4, .int xi)]) hx hb dX2_add_152 rfl hl (by decide) rfl (fun ls hl => ?_)
                  refine lv_aload_n hx hb dX2_add_153 rfl (lv_at hl 4 rfl) ?_
                  refine va_get (D := G.1) (ci := 2) (v := .ref ce) (C := RX2) (T := TX2) (N := 13) hx hb hts hinX2 hown hK.1 hP 0 rfl rfl 1 (by decide) hw1 (fun _ h9 => h9) rfl dX2_add_154 ?_
                  refine lv_sipush (v := 396) hx hb dX2_add_157 (by decide) ?_
                  refine lv_iload hx hb dX2_add_160 (lv_at hl 7 rfl) ?_
                  refine lv_iadd hx hb dX2_add_162 ?_
                  refine lv_iload hx hb dX2_add_163 (lv_at hl 3 rfl) ?_
                  refine lv_iload hx hb dX2_add_165 (lv_at hl 2 rfl) ?_
                  refine lv_iadd hx hb dX2_add_167 ?_
                  refine ra_iast (v := (396 + i)) hx hb hK.1 hP hD hS 1 0 rfl rfl (na_add (by decide) ei) (by omega) (by decide) dX2_add_168 (fun H locs hP hD hS => ?_)
                  have hP : va_P G.1 vwCl [(mo, .inr (2, [.int (flI x1 0 0), .ref ce, .ref gv, .int st, .int sk, .ref dr, .ref go, .int tk, .int be, .int so, .int le, .int an, .ref sa])), (ce, eI G 418 (upd (seg 396 i (fun v => fc ((11 * (29 + n)) + v) + fc ((11 * (28 + n)) + v)) fc) (396 + i) (za + zb))), (gv, eZ G 30 fg), (dr, eI G 10 fd), (go, eI G 10 fo), (sa, eI G 10 fs)] H := hP
                  have hD : va_D A [(mo, .inr (2, [.int (flI x1 0 0), .ref ce, .ref gv, .int st, .int sk, .ref dr, .ref go, .int tk, .int be, .int so, .int le, .int an, .ref sa])), (ce, eI G 418 (upd (seg 396 i (fun v => fc ((11 * (29 + n)) + v) + fc ((11 * (28 + n)) + v)) fc) (396 + i) (za + zb))), (gv, eZ G 30 fg), (dr, eI G 10 fd), (go, eI G 10 fo), (sa, eI G 10 fs)] := hD
                  have eA168 : upd (seg 396 i (fun v => fc ((11 * (29 + n)) + v) + fc ((11 * (28 + n)) + v)) fc) (396 + i) (za + zb) = seg 396 (i + 1) (fun v => fc ((11 * (29 + n)) + v) + fc ((11 * (28 + n)) + v)) fc := by rw [eza, ezb]; exact seg_s 396 i (fun v => fc ((11 * (29 + n)) + v) + fc ((11 * (28 + n)) + v)) fc
                  rw [eA168] at hP hD
                  refine lv_iinc (v := xi + 1) (lv' := [(4, .int (xi + 1)), (3, .int (xs - (szI zb))), (7, .int x7), (6, .int zb), (5, .int za), (0, .ref mo), (1, .int (11 * (30 + sk - 1))), (2, .int ((11 * (30 + sk - 1)) - 11))]) hx hb dX2_add_169 hl (k := 7) rfl rfl (by decide) rfl (fun ls hl => ?_)
                  refine lv_goto (tgt := 59) hx hb dX2_add_172 (by decide) ?_
                  exact ih_59 (i + 1) _ _ (by omega) (by omega) (by rw [ei]; exact nI_1 i) (by show _ = sgm _ (adT fc (11 * (29 + n)) (11 * (28 + n))) i - adT fc (11 * (29 + n)) (11 * (28 + n)) i; rw [es]; unfold adT adI; rw [← eza, ← ezb, ← ex7, if_neg c_118, if_neg (Int32.not_lt.mpr c_135)]) _ _ (hP.sub [0, 1, 2, 3, 4, 5] rfl) (hD.sub [0, 1, 2, 3, 4, 5] (by decide) rfl) hS ls (lv_sub hl [5, 6, 7, 1, 0] rfl)
                · refine lv_iload hx hb dX2_add_138 (lv_at hl 2 rfl) ?_
                  refine ro_call (va_runS (As := [.int za]) (rest := [.int xs]) ⟨hx, hb, hml, hown, hts⟩ (c_X2_size l G za) (va_cwS 1 hts gX2_add_X2_size rfl rfl rfl (by decide +kernel) ⟨Nat.le_of_ble_eq_true rfl, Nat.le_of_ble_eq_true rfl⟩) ⟨ro_blind, ro_pre _ (hP.sub [] rfl) hK⟩ rfl rfl hl.1 rfl (lv_room (Nat.le_of_ble_eq_true rfl)) dX2_add_140 ⟨Nat.le_refl _, Nat.le_refl _⟩) ?_
                  refine lv_goto (tgt := 151) hx hb dX2_add_143 (by decide) ?_
                  refine lv_isub hx hb dX2_add_151 ?_
                  refine lv_istore_n (lv' := [(3, .int (xs - (szI za))), (7, .int x7), (6, .int zb), (5, .int za), (0, .ref mo), (1, .int (11 * (30 + sk - 1))), (2, .int ((11 * (30 + sk - 1)) - 11)), (4, .int xi)]) hx hb dX2_add_152 rfl hl (by decide) rfl (fun ls hl => ?_)
                  refine lv_aload_n hx hb dX2_add_153 rfl (lv_at hl 4 rfl) ?_
                  refine va_get (D := G.1) (ci := 2) (v := .ref ce) (C := RX2) (T := TX2) (N := 13) hx hb hts hinX2 hown hK.1 hP 0 rfl rfl 1 (by decide) hw1 (fun _ h9 => h9) rfl dX2_add_154 ?_
                  refine lv_sipush (v := 396) hx hb dX2_add_157 (by decide) ?_
                  refine lv_iload hx hb dX2_add_160 (lv_at hl 7 rfl) ?_
                  refine lv_iadd hx hb dX2_add_162 ?_
                  refine lv_iload hx hb dX2_add_163 (lv_at hl 3 rfl) ?_
                  refine lv_iload hx hb dX2_add_165 (lv_at hl 2 rfl) ?_
                  refine lv_iadd hx hb dX2_add_167 ?_
                  refine ra_iast (v := (396 + i)) hx hb hK.1 hP hD hS 1 0 rfl rfl (na_add (by decide) ei) (by omega) (by decide) dX2_add_168 (fun H locs hP hD hS => ?_)
                  have hP : va_P G.1 vwCl [(mo, .inr (2, [.int (flI x1 0 0), .ref ce, .ref gv, .int st, .int sk, .ref dr, .ref go, .int tk, .int be, .int so, .int le, .int an, .ref sa])), (ce, eI G 418 (upd (seg 396 i (fun v => fc ((11 * (29 + n)) + v) + fc ((11 * (28 + n)) + v)) fc) (396 + i) (za + zb))), (gv, eZ G 30 fg), (dr, eI G 10 fd), (go, eI G 10 fo), (sa, eI G 10 fs)] H := hP
                  have hD : va_D A [(mo, .inr (2, [.int (flI x1 0 0), .ref ce, .ref gv, .int st, .int sk, .ref dr, .ref go, .int tk, .int be, .int so, .int le, .int an, .ref sa])), (ce, eI G 418 (upd (seg 396 i (fun v => fc ((11 * (29 + n)) + v) + fc ((11 * (28 + n)) + v)) fc) (396 + i) (za + zb))), (gv, eZ G 30 fg), (dr, eI G 10 fd), (go, eI G 10 fo), (sa, eI G 10 fs)] := hD
                  have eA168 : upd (seg 396 i (fun v => fc ((11 * (29 + n)) + v) + fc ((11 * (28 + n)) + v)) fc) (396 + i) (za + zb) = seg 396 (i + 1) (fun v => fc ((11 * (29 + n)) + v) + fc ((11 * (28 + n)) + v)) fc := by rw [eza, ezb]; exact seg_s 396 i (fun v => fc ((11 * (29 + n)) + v) + fc ((11 * (28 + n)) + v)) fc
                  rw [eA168] at hP hD
                  refine lv_iinc (v := xi + 1) (lv' := [(4, .int (xi + 1)), (3, .int (xs - (szI za))), (7, .int x7), (6, .int zb), (5, .int za), (0, .ref mo), (1, .int (11 * (30 + sk - 1))), (2, .int ((11 * (30 + sk - 1)) - 11))]) hx hb dX2_add_169 hl (k := 7) rfl rfl (by decide) rfl (fun ls hl => ?_)
                  refine lv_goto (tgt := 59) hx hb dX2_add_172 (by decide) ?_
                  exact ih_59 (i + 1) _ _ (by omega) (by omega) (by rw [ei]; exact nI_1 i) (by show _ = sgm _ (adT fc (11 * (29 + n)) (11 * (28 + n))) i - adT fc (11 * (29 + n)) (11 * (28 + n)) i; rw [es]; unfold adT adI; rw [← eza, ← ezb, ← ex7, if_neg c_118, if_pos (Int32.not_le.mp c_135)]) _ _ (hP.sub [0, 1, 2, 3, 4, 5] rfl) (hD.sub [0, 1, 2, 3, 4, 5] (by decide) rfl) hS ls (lv_sub hl [5, 6, 7, 1, 0] rfl)
              · refine lv_iconst (v := 0) hx hb dX2_add_121 (by decide) ?_
                refine lv_goto (tgt := 151) hx hb dX2_add_122 (by decide) ?_
                refine lv_isub hx hb dX2_add_151 ?_
                refine lv_istore_n (lv' := [(3, .int (xs - 0)), (7, .int x7), (6, .int zb), (5, .int za), (0, .ref mo), (1, .int (11 * (30 + sk - 1))), (2, .int ((11 * (30 + sk - 1)) - 11)), (4, .int xi)]) hx hb dX2_add_152 rfl hl (by decide) rfl (fun ls hl => ?_)
                refine lv_aload_n hx hb dX2_add_153 rfl (lv_at hl 4 rfl) ?_
                refine va_get (D := G.1) (ci := 2) (v := .ref ce) (C := RX2) (T := TX2) (N := 13) hx hb hts hinX2 hown hK.1 hP 0 rfl rfl 1 (by decide) hw1 (fun _ h9 => h9) rfl dX2_add_154 ?_
                refine lv_sipush (v := 396) hx hb dX2_add_157 (by decide) ?_
                refine lv_iload hx hb dX2_add_160 (lv_at hl 7 rfl) ?_
                refine lv_iadd hx hb dX2_add_162 ?_
                refine lv_iload hx hb dX2_add_163 (lv_at hl 3 rfl) ?_
                refine lv_iload hx hb dX2_add_165 (lv_at hl 2 rfl) ?_
                refine lv_iadd hx hb dX2_add_167 ?_
                refine ra_iast (v := (396 + i)) hx hb hK.1 hP hD hS 1 0 rfl rfl (na_add (by decide) ei) (by omega) (by decide) dX2_add_168 (fun H locs hP hD hS => ?_)
                have hP : va_P G.1 vwCl [(mo, .inr (2, [.int (flI x1 0 0), .ref ce, .ref gv, .int st, .int sk, .ref dr, .ref go, .int tk, .int be, .int so, .int le, .int an, .ref sa])), (ce, eI G 418 (upd (seg 396 i (fun v => fc ((11 * (29 + n)) + v) + fc ((11 * (28 + n)) + v)) fc) (396 + i) (za + zb))), (gv, eZ G 30 fg), (dr, eI G 10 fd), (go, eI G 10 fo), (sa, eI G 10 fs)] H := hP
                have hD : va_D A [(mo, .inr (2, [.int (flI x1 0 0), .ref ce, .ref gv, .int st, .int sk, .ref dr, .ref go, .int tk, .int be, .int so, .int le, .int an, .ref sa])), (ce, eI G 418 (upd (seg 396 i (fun v => fc ((11 * (29 + n)) + v) + fc ((11 * (28 + n)) + v)) fc) (396 + i) (za + zb))), (gv, eZ G 30 fg), (dr, eI G 10 fd), (go, eI G 10 fo), (sa, eI G 10 fs)] := hD
                have eA168 : upd (seg 396 i (fun v => fc ((11 * (29 + n)) + v) + fc ((11 * (28 + n)) + v)) fc) (396 + i) (za + zb) = seg 396 (i + 1) (fun v => fc ((11 * (29 + n)) + v) + fc ((11 * (28 + n)) + v)) fc := by rw [eza, ezb]; exact seg_s 396 i (fun v => fc ((11 * (29 + n)) + v) + fc ((11 * (28 + n)) + v)) fc
                rw [eA168] at hP hD
                refine lv_iinc (v := xi + 1) (lv' := [(4, .int (xi + 1)), (3, .int (xs - 0)), (7, .int x7), (6, .int zb), (5, .int za), (0, .ref mo), (1, .int (11 * (30 + sk - 1))), (2, .int ((11 * (30 + sk - 1)) - 11))]) hx hb dX2_add_169 hl (k := 7) rfl rfl (by decide) rfl (fun ls hl => ?_)
                refine lv_goto (tgt := 59) hx hb dX2_add_172 (by decide) ?_
                exact ih_59 (i + 1) _ _ (by omega) (by omega) (by rw [ei]; exact nI_1 i) (by show _ = sgm _ (adT fc (11 * (29 + n)) (11 * (28 + n))) i - adT fc (11 * (29 + n)) (11 * (28 + n)) i; rw [es]; unfold adT adI; rw [← eza, ← ezb, ← ex7, if_pos c_118]) _ _ (hP.sub [0, 1, 2, 3, 4, 5] rfl) (hD.sub [0, 1, 2, 3, 4, 5] (by decide) rfl) hS ls (lv_sub hl [5, 6, 7, 1, 0] rfl)
            refine lv_iload hx hb dX2_add_88 (lv_at hl 1 rfl) ?_
            refine lv_if_le (tgt := 98) hx hb dX2_add_90 (by decide) (fun c_90 => ?_) (fun c_90 => ?_)
            · refine lv_iload hx hb dX2_add_98 (lv_at hl 1 rfl) ?_
              refine lv_if_ge (tgt := 112) hx hb dX2_add_100 (by decide) (fun c_100 => ?_) (fun c_100 => ?_)
              · refine lv_iconst (v := 0) hx hb dX2_add_112 (by decide) ?_
                exact join_113 _ (by unfold agI; rw [if_neg (Int32.not_lt.mpr c_90), if_neg (Int32.not_lt.mpr c_100)]) _ _ (hP.sub [0, 1, 2, 3, 4, 5] rfl) (hD.sub [0, 1, 2, 3, 4, 5] (by decide) rfl) hS ls (lv_sub hl [0, 1, 2, 3, 4, 5, 6] rfl)
              · refine lv_iload hx hb dX2_add_103 (lv_at hl 0 rfl) ?_
                refine lv_if_le (tgt := 112) hx hb dX2_add_105 (by decide) (fun c_105 => ?_) (fun c_105 => ?_)
                · refine lv_iconst (v := 0) hx hb dX2_add_112 (by decide) ?_
                  exact join_113 _ (by unfold agI; rw [if_neg (Int32.not_lt.mpr c_90), if_pos (Int32.not_le.mp c_100), if_neg (Int32.not_lt.mpr c_105)]) _ _ (hP.sub [0, 1, 2, 3, 4, 5] rfl) (hD.sub [0, 1, 2, 3, 4, 5] (by decide) rfl) hS ls (lv_sub hl [0, 1, 2, 3, 4, 5, 6] rfl)
                · refine lv_iconst (v := 1) hx hb dX2_add_108 (by decide) ?_
                  refine lv_goto (tgt := 113) hx hb dX2_add_109 (by decide) ?_
                  exact join_113 _ (by unfold agI; rw [if_neg (Int32.not_lt.mpr c_90), if_pos (Int32.not_le.mp c_100), if_pos (Int32.not_le.mp c_105)]) _ _ (hP.sub [0, 1, 2, 3, 4, 5] rfl) (hD.sub [0, 1, 2, 3, 4, 5] (by decide) rfl) hS ls (lv_sub hl [0, 1, 2, 3, 4, 5, 6] rfl)
            · refine lv_iload hx hb dX2_add_93 (lv_at hl 0 rfl) ?_
              refine lv_if_lt (tgt := 108) hx hb dX2_add_95 (by decide) (fun c_95 => ?_) (fun c_95 => ?_)
              · refine lv_iconst (v := 1) hx hb dX2_add_108 (by decide) ?_
                refine lv_goto (tgt := 113) hx hb dX2_add_109 (by decide) ?_
                exact join_113 _ (by unfold agI; rw [if_pos (Int32.not_le.mp c_90), if_pos c_95]) _ _ (hP.sub [0, 1, 2, 3, 4, 5] rfl) (hD.sub [0, 1, 2, 3, 4, 5] (by decide) rfl) hS ls (lv_sub hl [0, 1, 2, 3, 4, 5, 6] rfl)
              · refine lv_iload hx hb dX2_add_98 (lv_at hl 1 rfl) ?_
                refine lv_if_ge (tgt := 112) hx hb dX2_add_100 (by decide) (fun c_100 => ?_) (fun c_100 => ?_)
                · refine lv_iconst (v := 0) hx hb dX2_add_112 (by decide) ?_
                  exact join_113 _ (by unfold agI; rw [if_pos (Int32.not_le.mp c_90), if_neg c_95, if_neg (Int32.not_lt.mpr c_100)]) _ _ (hP.sub [0, 1, 2, 3, 4, 5] rfl) (hD.sub [0, 1, 2, 3, 4, 5] (by decide) rfl) hS ls (lv_sub hl [0, 1, 2, 3, 4, 5, 6] rfl)
                · refine lv_iload hx hb dX2_add_103 (lv_at hl 0 rfl) ?_
                  refine lv_if_le (tgt := 112) hx hb dX2_add_105 (by decide) (fun c_105 => ?_) (fun c_105 => ?_)
                  · refine lv_iconst (v := 0) hx hb dX2_add_112 (by decide) ?_
                    exact join_113 _ (by unfold agI; rw [if_pos (Int32.not_le.mp c_90), if_neg c_95, if_pos (Int32.not_le.mp c_100), if_neg (Int32.not_lt.mpr c_105)]) _ _ (hP.sub [0, 1, 2, 3, 4, 5] rfl) (hD.sub [0, 1, 2, 3, 4, 5] (by decide) rfl) hS ls (lv_sub hl [0, 1, 2, 3, 4, 5, 6] rfl)
                  · refine lv_iconst (v := 1) hx hb dX2_add_108 (by decide) ?_
                    refine lv_goto (tgt := 113) hx hb dX2_add_109 (by decide) ?_
                    exact join_113 _ (by unfold agI; rw [if_pos (Int32.not_le.mp c_90), if_neg c_95, if_pos (Int32.not_le.mp c_100), if_pos (Int32.not_le.mp c_105)]) _ _ (hP.sub [0, 1, 2, 3, 4, 5] rfl) (hD.sub [0, 1, 2, 3, 4, 5] (by decide) rfl) hS ls (lv_sub hl [0, 1, 2, 3, 4, 5, 6] rfl)
      rw [show fc = seg 396 0 (fun v => fc ((11 * (29 + n)) + v) + fc ((11 * (28 + n)) + v)) fc from (seg_0 396 (fun v => fc ((11 * (29 + n)) + v) + fc ((11 * (28 + n)) + v)) fc).symm] at hP hD
      exact loop_59 (10 + 1) 0 _ _ (Nat.zero_le _) (by omega) (by exact nI_0.symm) (by rfl) _ _ (hP.sub [0, 1, 2, 3, 4, 5] rfl) (hD.sub [0, 1, 2, 3, 4, 5] (by decide) rfl) hS ls (lv_sub hl [4, 3, 2, 1, 0] rfl)
    · have hz : ¬ thAdd sk = 0 := by rw [eT]; exact cnt1 c_19
      have hP9 := hP.sub (ws' := [(mo, .inr (2, [.int (if thAdd sk = 0 then thAdd2 fc (11 * (29 + n)) (11 * (28 + n)) else thAdd sk), .ref ce, .ref gv, .int st, .int (if thAdd sk = 0 then (if thAdd2 fc (11 * (29 + n)) (11 * (28 + n)) = 0 then sk - 1 else sk) else sk), .ref dr, .ref go, .int tk, .int be, .int so, .int le, .int an, .ref sa])), (ce, eI G 418 (if thAdd sk = 0 then (if thAdd2 fc (11 * (29 + n)) (11 * (28 + n)) = 0 then cpy11 (adC fc (11 * (29 + n)) (11 * (28 + n))) 36 (29 + (n - 1)) else adC fc (11 * (29 + n)) (11 * (28 + n))) else fc)), (gv, eZ G 30 fg), (dr, eI G 10 fd), (go, eI G 10 fo), (sa, eI G 10 fs)]) [0, 1, 2, 3, 4, 5] (by simp only [if_neg hz]; rw [eT]; rfl)
      have hD9 := hD.sub (ws' := [(mo, .inr (2, [.int (if thAdd sk = 0 then thAdd2 fc (11 * (29 + n)) (11 * (28 + n)) else thAdd sk), .ref ce, .ref gv, .int st, .int (if thAdd sk = 0 then (if thAdd2 fc (11 * (29 + n)) (11 * (28 + n)) = 0 then sk - 1 else sk) else sk), .ref dr, .ref go, .int tk, .int be, .int so, .int le, .int an, .ref sa])), (ce, eI G 418 (if thAdd sk = 0 then (if thAdd2 fc (11 * (29 + n)) (11 * (28 + n)) = 0 then cpy11 (adC fc (11 * (29 + n)) (11 * (28 + n))) 36 (29 + (n - 1)) else adC fc (11 * (29 + n)) (11 * (28 + n))) else fc)), (gv, eZ G 30 fg), (dr, eI G 10 fd), (go, eI G 10 fo), (sa, eI G 10 fs)]) [0, 1, 2, 3, 4, 5] (by decide) (by simp only [if_neg hz]; rw [eT]; rfl)
      exact W.vret hx hb hr (fun t ht hW => ⟨rfl, by rw [ht]; exact hP9, hD9, hS.F ht⟩) hS.2.2 dX2_add_22
  refine lv_aload_n hx hb dX2_add_1 rfl (lv_at hl 0 rfl) ?_
  refine va_get (D := G.1) (ci := 2) (v := .int sk) (C := RX2) (T := TX2) (N := 13) hx hb hts hinX2 hown hK.1 hP 0 rfl rfl 4 (by decide) hw2 (fun _ h9 => h9) rfl dX2_add_2 ?_
  refine lv_iconst (v := 2) hx hb dX2_add_5 (by decide) ?_
  refine lv_icmp_ge (tgt := 13) hx hb dX2_add_6 (by decide) (fun c_6 => ?_) (fun c_6 => ?_)
  · refine lv_iconst (v := 0) hx hb dX2_add_13 (by decide) ?_
    exact join_14 _ (by unfold ltI; rw [if_neg (Int32.not_lt.mpr c_6)]) _ _ (hP.sub [0, 1, 2, 3, 4, 5] rfl) (hD.sub [0, 1, 2, 3, 4, 5] (by decide) rfl) hS ls (lv_sub hl [0] rfl)
  · refine lv_iconst (v := 1) hx hb dX2_add_9 (by decide) ?_
    refine lv_goto (tgt := 14) hx hb dX2_add_10 (by decide) ?_
    exact join_14 _ (by unfold ltI; rw [if_pos (Int32.not_le.mp c_6)]) _ _ (hP.sub [0, 1, 2, 3, 4, 5] rfl) (hD.sub [0, 1, 2, 3, 4, 5] (by decide) rfl) hS ls (lv_sub hl [0] rfl)
