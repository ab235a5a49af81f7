abbrev rmX2_solve : Room := { frames := 2, cells := 0, slots := 0, locals := 46 }
set_option maxHeartbeats 4000000 in
set_option maxRecDepth 100000 in
theorem c_X2_solve (l : Launch) (G : Gt) (sz : Nat) (mo ce gv dr go sa : Nat) (th st sk tk be so le an : Int32) (fc fg fd fo fs : Nat → Int32) (k : Nat) (est : st = nI k) (hk30 : k ≤ 30) (N : Nat) (hN24 : N = 1024) : Met l yX2_solve wsX2_solve rmX2_solve (mu_P G sz [.ref mo] [(mo, .inr (2, [.int th, .ref ce, .ref gv, .int st, .int sk, .ref dr, .ref go, .int tk, .int be, .int so, .int le, .int an, .ref sa])), (ce, eI G 418 fc), (gv, eZ G 30 fg), (dr, eI G 10 fd), (go, eI G 10 fo), (sa, eI G 10 fs)]) (mu_Q G (some (.int (if (soO fc fg fo k le an N).1 = 0 then 0 else 1))) [(mo, .inr (2, [.int 0, .ref ce, .ref gv, .int st, .int sk, .ref dr, .ref go, .int tk, .int be, .int ((soO fc fg fo k le an N).1), .int ((soO fc fg fo k le an N).2.1), .int ((soO fc fg fo k le an N).2.2), .ref sa])), (ce, eI G 418 fc), (gv, eZ G 30 fg), (dr, eI G 10 fd), (go, eI G 10 fo), (sa, eI G 10 fs)] (va_A [(mo, .inr (2, [.int th, .ref ce, .ref gv, .int st, .int sk, .ref dr, .ref go, .int tk, .int be, .int so, .int le, .int an, .ref sa])), (ce, eI G 418 fc), (gv, eZ G 30 fg), (dr, eI G 10 fd), (go, eI G 10 fo), (sa, eI G 10 fs)] sz)) 0 0 (va_A [(mo, .inr (2, [.int th, .ref ce, .ref gv, .int st, .int sk, .ref dr, .ref go, .int tk, .int be, .int so, .int le, .int an, .ref sa])), (ce, eI G 418 fc), (gv, eZ G 30 fg), (dr, eI G 10 fd), (go, eI G 10 fo), (sa, eI G 10 fs)] sz) := by
  refine Met.ofW (cc := cX2_solve) (maxL := 6) (ret := (some .int)) (by decide) rfl ?_
  intro p e s m args below meth c s₁ B hml hv
  obtain ⟨rfl, hsz, hP, hD0, hK⟩ := hv
  have hx := B.exec
  have hb := B.bytes
  have hr := B.returns
  have hts := atoms_spec (ws := wsX2_solve) B.pre
  have hown : s.vm.findClass RX2 = some m.cls := findClass_of_methodNamed B.named
  have hlocks := B.notSynchronized
  subst hsz
  have hD := hD0.self (sz := s.heap.size)
  generalize hAe : va_A [(mo, .inr (2, [.int th, .ref ce, .ref gv, .int st, .int sk, .ref dr, .ref go, .int tk, .int be, .int so, .int le, .int an, .ref sa])), (ce, eI G 418 fc), (gv, eZ G 30 fg), (dr, eI G 10 fd), (go, eI G 10 fo), (sa, eI G 10 fs)] s.heap.size = A at hD ⊢
  have hA : ∀ q : Nat, s.heap.size ≤ q → A q := fun q h => by rw [← hAe]; exact Or.inr h
  have hS : va_S A s.heap s.heap [] := va_S.rf
  have hinX2 : ∀ w ∈ u_ws RX2 TX2 13, w ∈ wsX2_solve := fun w h => List.mem_cons_of_mem _ (List.mem_append_right _ h)
  have hw1 := hts (.fieldLink RX2 26 "ChoiceBoardModel" "thrown" "I") (by decide +kernel)
  have hw2 := hts (.fieldLink RX2 107 "ChoiceBoardModel" "solved" "Z") (by decide +kernel)
  have hw3 := hts (.fieldLink RX2 45 "ChoiceBoardModel" "stored" "I") (by decide +kernel)
  have hw4 := hts (.fieldLink RX2 113 "ChoiceBoardModel" "least" "I") (by decide +kernel)
  have hw5 := hts (.fieldLink RX2 116 "ChoiceBoardModel" "answer" "I") (by decide +kernel)
  have hw6 := hts (.fieldLink RX2 13 "ChoiceBoardModel" "given" "[Z") (by decide +kernel)
  have hl := lv_entry ([.ref mo]) (n := 6) (Nat.le_of_ble_eq_true rfl)
  rw [lg_entry_eq]
  generalize (lg_sl ([.ref mo]) ++ List.replicate (6 - (lg_sl ([.ref mo])).length) Slot.unset).toArray = ls at hl ⊢
  have hl : lv_has ls 6 [(0, .ref mo)] := hl
  refine lv_aload_n hx hb dX2_solve_0 rfl (lv_at hl 0 rfl) ?_
  refine lv_iconst (v := 0) hx hb dX2_solve_1 (by decide) ?_
  refine va_put (D := G.1) (ci := 2) (v := .int 0) (ty := .int) (C := RX2) (T := TX2) (N := 13) hx hb hts hinX2 tyX2 tyX2_ok nmX2 hown hK.1 hP hD hS 0 rfl rfl 0 (by decide) hw1 (fun _ h9 => h9) rfl (by decide +kernel) rfl rfl (Nat.le_of_ble_eq_true rfl) dX2_solve_2 (fun H locs hP hD hS => ?_)
  have hP : va_P G.1 vwCl [(mo, .inr (2, [.int 0, .ref ce, .ref gv, .int st, .int sk, .ref dr, .ref go, .int tk, .int be, .int so, .int le, .int an, .ref sa])), (ce, eI G 418 fc), (gv, eZ G 30 fg), (dr, eI G 10 fd), (go, eI G 10 fo), (sa, eI G 10 fs)] H := hP
  have hD : va_D A [(mo, .inr (2, [.int 0, .ref ce, .ref gv, .int st, .int sk, .ref dr, .ref go, .int tk, .int be, .int so, .int le, .int an, .ref sa])), (ce, eI G 418 fc), (gv, eZ G 30 fg), (dr, eI G 10 fd), (go, eI G 10 fo), (sa, eI G 10 fs)] := hD
  refine lv_aload_n hx hb dX2_solve_5 rfl (lv_at hl 0 rfl) ?_
  refine lv_iconst (v := 0) hx hb dX2_solve_6 (by decide) ?_
  refine va_put (D := G.1) (ci := 2) (v := .int 0) (ty := .boolean) (C := RX2) (T := TX2) (N := 13) hx hb hts hinX2 tyX2 tyX2_ok nmX2 hown hK.1 hP hD hS 0 rfl rfl 9 (by decide) hw2 (fun _ h9 => h9) rfl (by decide +kernel) rfl rfl (Nat.le_of_ble_eq_true rfl) dX2_solve_7 (fun H locs hP hD hS => ?_)
  have hP : va_P G.1 vwCl [(mo, .inr (2, [.int 0, .ref ce, .ref gv, .int st, .int sk, .ref dr, .ref go, .int tk, .int be, .int 0, .int le, .int an, .ref sa])), (ce, eI G 418 fc), (gv, eZ G 30 fg), (dr, eI G 10 fd), (go, eI G 10 fo), (sa, eI G 10 fs)] H := hP
  have hD : va_D A [(mo, .inr (2, [.int 0, .ref ce, .ref gv, .int st, .int sk, .ref dr, .ref go, .int tk, .int be, .int 0, .int le, .int an, .ref sa])), (ce, eI G 418 fc), (gv, eZ G 30 fg), (dr, eI G 10 fd), (go, eI G 10 fo), (sa, eI G 10 fs)] := hD
  refine lv_iconst (v := 0) hx hb dX2_solve_10 (by decide) ?_
  refine lv_istore_n (lv' := [(1, .int 0), (0, .ref mo)]) hx hb dX2_solve_11 rfl hl (by decide) rfl (fun ls hl => ?_)
  have loop_12 : ∀ (n_12 n : Nat) (xn q1 q2 q3 : Int32), n ≤ 1024 → 1024 + 1 ≤ n + n_12 → (xn = nI n) → (q1 = (soO fc fg fo k le an n).1) → (q2 = (soO fc fg fo k le an n).2.1) → (q3 = (soO fc fg fo k le an n).2.2) → ∀ (H : Heap) (locs : List Loc), va_P G.1 vwCl [(mo, .inr (2, [.int 0, .ref ce, .ref gv, .int st, .int sk, .ref dr, .ref go, .int tk, .int be, .int q1, .int q2, .int q3, .ref sa])), (ce, eI G 418 fc), (gv, eZ G 30 fg), (dr, eI G 10 fd), (go, eI G 10 fo), (sa, eI G 10 fs)] H → va_D A [(mo, .inr (2, [.int 0, .ref ce, .ref gv, .int st, .int sk, .ref dr, .ref go, .int tk, .int be, .int q1, .int q2, .int q3, .ref sa])), (ce, eI G 418 fc), (gv, eZ G 30 fg), (dr, eI G 10 fd), (go, eI G 10 fo), (sa, eI G 10 fs)] → va_S A s.heap H locs → ∀ ls : Array Slot, lv_has ls 6 [(0, .ref mo), (1, .int xn)] → W p l e rmX2_solve s m [.ref mo].toArray below meth c H locs 0 0 (MQ below (mu_Q G (some (.int (if (soO fc fg fo k le an N).1 = 0 then 0 else 1))) [(mo, .inr (2, [.int 0, .ref ce, .ref gv, .int st, .int sk, .ref dr, .ref go, .int tk, .int be, .int ((soO fc fg fo k le an N).1), .int ((soO fc fg fo k le an N).2.1), .int ((soO fc fg fo k le an N).2.2), .ref sa])), (ce, eI G 418 fc), (gv, eZ G 30 fg), (dr, eI G 10 fd), (go, eI G 10 fo), (sa, eI G 10 fs)] A) [.ref mo].toArray s 0 0 A) (F0 m 12 ls []) := by
    intro n_12
    induction n_12 with
    | zero => intro n xn q1 q2 q3 h1 h2; exact absurd h2 (by omega)
    | succ n_12 ih_12 =>
      intro n xn q1 q2 q3 hi_12 hn_12 en e1 e2 e3 H locs hP hD hS ls hl
      refine lv_iload_n hx hb dX2_solve_12 rfl (lv_at hl 1 rfl) ?_
      refine lv_sipush (v := 1024) hx hb dX2_solve_13 (by decide) ?_
      refine lv_icmp_ge (tgt := 128) hx hb dX2_solve_16 (by decide) (fun c_16 => ?_) (fun c_16 => ?_)
      · have hN : n = N := (ge_ix en (by decide) (by decide) c_16 hi_12).trans hN24.symm
        rw [hN] at e1 e2 e3
        refine lv_aload_n hx hb dX2_solve_128 rfl (lv_at hl 0 rfl) ?_
        refine va_get (D := G.1) (ci := 2) (v := .int q1) (C := RX2) (T := TX2) (N := 13) hx hb hts hinX2 hown hK.1 hP 0 rfl rfl 9 (by decide) hw2 (fun _ h9 => h9) rfl dX2_solve_129 ?_
        refine lv_if_eq (tgt := 139) hx hb dX2_solve_132 (by decide) (fun c_132 => ?_) (fun c_132 => ?_)
        · refine lv_iconst (v := 0) hx hb dX2_solve_139 (by decide) ?_
          rw [e1, e2, e3] at hP hD
          have hP9 := hP.sub (ws' := [(mo, .inr (2, [.int 0, .ref ce, .ref gv, .int st, .int sk, .ref dr, .ref go, .int tk, .int be, .int ((soO fc fg fo k le an N).1), .int ((soO fc fg fo k le an N).2.1), .int ((soO fc fg fo k le an N).2.2), .ref sa])), (ce, eI G 418 fc), (gv, eZ G 30 fg), (dr, eI G 10 fd), (go, eI G 10 fo), (sa, eI G 10 fs)]) [0, 1, 2, 3, 4, 5] rfl
          have hD9 := hD.sub (ws' := [(mo, .inr (2, [.int 0, .ref ce, .ref gv, .int st, .int sk, .ref dr, .ref go, .int tk, .int be, .int ((soO fc fg fo k le an N).1), .int ((soO fc fg fo k le an N).2.1), .int ((soO fc fg fo k le an N).2.2), .ref sa])), (ce, eI G 418 fc), (gv, eZ G 30 fg), (dr, eI G 10 fd), (go, eI G 10 fo), (sa, eI G 10 fs)]) [0, 1, 2, 3, 4, 5] (by decide) rfl
          exact W.iret (v := 0) hx hb hr (fun t ht hW => ⟨congrArg (fun z => Outcome.returned (some (Value.int z))) (by rw [← e1, if_pos c_132]), by rw [ht]; exact hP9, hD9, hS.F ht⟩) hS.2.2 dX2_solve_140
        · refine lv_iconst (v := 1) hx hb dX2_solve_135 (by decide) ?_
          refine lv_goto (tgt := 140) hx hb dX2_solve_136 (by decide) ?_
          rw [e1, e2, e3] at hP hD
          have hP9 := hP.sub (ws' := [(mo, .inr (2, [.int 0, .ref ce, .ref gv, .int st, .int sk, .ref dr, .ref go, .int tk, .int be, .int ((soO fc fg fo k le an N).1), .int ((soO fc fg fo k le an N).2.1), .int ((soO fc fg fo k le an N).2.2), .ref sa])), (ce, eI G 418 fc), (gv, eZ G 30 fg), (dr, eI G 10 fd), (go, eI G 10 fo), (sa, eI G 10 fs)]) [0, 1, 2, 3, 4, 5] rfl
          have hD9 := hD.sub (ws' := [(mo, .inr (2, [.int 0, .ref ce, .ref gv, .int st, .int sk, .ref dr, .ref go, .int tk, .int be, .int ((soO fc fg fo k le an N).1), .int ((soO fc fg fo k le an N).2.1), .int ((soO fc fg fo k le an N).2.2), .ref sa])), (ce, eI G 418 fc), (gv, eZ G 30 fg), (dr, eI G 10 fd), (go, eI G 10 fo), (sa, eI G 10 fs)]) [0, 1, 2, 3, 4, 5] (by decide) rfl
          exact W.iret (v := 1) hx hb hr (fun t ht hW => ⟨congrArg (fun z => Outcome.returned (some (Value.int z))) (by rw [← e1, if_neg c_132]), by rw [ht]; exact hP9, hD9, hS.F ht⟩) hS.2.2 dX2_solve_140
      · have hltn : n < 1024 := lt_ix en (by decide) (by decide) c_16 hi_12
        refine lv_iload_n hx hb dX2_solve_19 rfl (lv_at hl 1 rfl) ?_
        refine ro_call (va_runS (As := [.int xn]) (rest := []) ⟨hx, hb, hml, hown, hts⟩ (c_X2_turned l G xn) (va_cwS 1 hts gX2_solve_X2_turned rfl rfl rfl (by decide +kernel) ⟨Nat.le_of_ble_eq_true rfl, Nat.le_of_ble_eq_true rfl⟩) ⟨ro_blind, ro_pre _ (hP.sub [] rfl) hK⟩ rfl rfl hl.1 rfl (lv_room (Nat.le_of_ble_eq_true rfl)) dX2_solve_20 ⟨Nat.le_refl _, Nat.le_refl _⟩) ?_
        refine lv_istore_n (lv' := [(2, .int (tnI xn 10)), (0, .ref mo), (1, .int xn)]) hx hb dX2_solve_23 rfl hl (by decide) rfl (fun ls hl => ?_)
        refine lv_aload_n hx hb dX2_solve_24 rfl (lv_at hl 1 rfl) ?_
        refine lv_iload_n hx hb dX2_solve_25 rfl (lv_at hl 0 rfl) ?_
        refine ro_call (va_runV (As := [.int (tnI xn 10)]) (rest := []) ⟨hx, hb, hml, hown, hts⟩ (c_X2_worth l G mo ce gv dr go sa 0 st sk tk be q1 q2 q3 fc fg fd fo fs (tnI xn 10)) (cwV 1 hts gX2_solve_X2_worth rfl rfl rfl (by decide +kernel) ⟨Nat.le_of_ble_eq_true rfl, Nat.le_of_ble_eq_true rfl⟩) ⟨ro_blind, va_recv hK.1 hP (ci := 2) (q0 := 0) rfl rfl, ro_pre _ (hP.sub [0, 1, 2, 3, 4, 5] rfl) hK⟩ rfl rfl hl.1 rfl (lv_room (Nat.le_of_ble_eq_true rfl)) dX2_solve_26 ⟨Nat.le_refl _, Nat.le_refl _⟩) ?_
        refine lv_istore_n (lv' := [(3, .int (wrM fo (tnI xn 10))), (2, .int (tnI xn 10)), (0, .ref mo), (1, .int xn)]) hx hb dX2_solve_29 rfl hl (by decide) rfl (fun ls hl => ?_)
        have join_50 : ∀ (x40 : Int32), (x40 = bI (decide (q1 = 0) || decide ((wrM fo (tnI xn 10)) < q2))) → ∀ (H : Heap) (locs : List Loc), va_P G.1 vwCl [(mo, .inr (2, [.int 0, .ref ce, .ref gv, .int st, .int sk, .ref dr, .ref go, .int tk, .int be, .int q1, .int q2, .int q3, .ref sa])), (ce, eI G 418 fc), (gv, eZ G 30 fg), (dr, eI G 10 fd), (go, eI G 10 fo), (sa, eI G 10 fs)] H → va_D A [(mo, .inr (2, [.int 0, .ref ce, .ref gv, .int st, .int sk, .ref dr, .ref go, .int tk, .int be, .int q1, .int q2, .int q3, .ref sa])), (ce, eI G 418 fc), (gv, eZ G 30 fg), (dr, eI G 10 fd), (go, eI G 10 fo), (sa, eI G 10 fs)] → va_S A s.heap H locs → ∀ ls : Array Slot, lv_has ls 6 [(3, .int (wrM fo (tnI xn 10))), (2, .int (tnI xn 10)), (0, .ref mo), (1, .int xn)] → W p l e rmX2_solve s m [.ref mo].toArray below meth c H locs 0 0 (MQ below (mu_Q G (some (.int (if (soO fc fg fo k le an N).1 = 0 then 0 else 1))) [(mo, .inr (2, [.int 0, .ref ce, .ref gv, .int st, .int sk, .ref dr, .ref go, .int tk, .int be, .int ((soO fc fg fo k le an N).1), .int ((soO fc fg fo k le an N).2.1), .int ((soO fc fg fo k le an N).2.2), .ref sa])), (ce, eI G 418 fc), (gv, eZ G 30 fg), (dr, eI G 10 fd), (go, eI G 10 fo), (sa, eI G 10 fs)] A) [.ref mo].toArray s 0 0 A) (F0 m 50 ls [.int x40]) := by
          intro x40 e40 H locs hP hD hS ls hl
          refine lv_istore (lv' := [(4, .int x40), (3, .int (wrM fo (tnI xn 10))), (2, .int (tnI xn 10)), (0, .ref mo), (1, .int xn)]) hx hb dX2_solve_50 hl (by decide) rfl (fun ls hl => ?_)
          refine lv_iconst (v := 0) hx hb dX2_solve_52 (by decide) ?_
          refine lv_istore (lv' := [(5, .int 0), (4, .int x40), (3, .int (wrM fo (tnI xn 10))), (2, .int (tnI xn 10)), (0, .ref mo), (1, .int xn)]) hx hb dX2_solve_53 hl (by decide) rfl (fun ls hl => ?_)
          have loop_55 : ∀ (n_55 i : Nat) (x4 xi : Int32), i ≤ k → k + 1 ≤ i + n_55 → (x4 = bI ((decide (q1 = 0) || decide ((wrM fo (tnI xn 10)) < q2)) && allB (gdB fc fg (tnI xn 10)) i)) → (xi = nI i) → ∀ (H : Heap) (locs : List Loc), va_P G.1 vwCl [(mo, .inr (2, [.int 0, .ref ce, .ref gv, .int st, .int sk, .ref dr, .ref go, .int tk, .int be, .int q1, .int q2, .int q3, .ref sa])), (ce, eI G 418 fc), (gv, eZ G 30 fg), (dr, eI G 10 fd), (go, eI G 10 fo), (sa, eI G 10 fs)] H → va_D A [(mo, .inr (2, [.int 0, .ref ce, .ref gv, .int st, .int sk, .ref dr, .ref go, .int tk, .int be, .int q1, .int q2, .int q3, .ref sa])), (ce, eI G 418 fc), (gv, eZ G 30 fg), (dr, eI G 10 fd), (go, eI G 10 fo), (sa, eI G 10 fs)] → va_S A s.heap H locs → ∀ ls : Array Slot, lv_has ls 6 [(0, .ref mo), (1, .int xn), (2, .int (tnI xn 10)), (3, .int (wrM fo (tnI xn 10))), (4, .int x4), (5, .int xi)] → W p l e rmX2_solve s m [.ref mo].toArray below meth c H locs 0 0 (MQ below (mu_Q G (some (.int (if (soO fc fg fo k le an N).1 = 0 then 0 else 1))) [(mo, .inr (2, [.int 0, .ref ce, .ref gv, .int st, .int sk, .ref dr, .ref go, .int tk, .int be, .int ((soO fc fg fo k le an N).1), .int ((soO fc fg fo k le an N).2.1), .int ((soO fc fg fo k le an N).2.2), .ref sa])), (ce, eI G 418 fc), (gv, eZ G 30 fg), (dr, eI G 10 fd), (go, eI G 10 fo), (sa, eI G 10 fs)] A) [.ref mo].toArray s 0 0 A) (F0 m 55 ls []) := by
            intro n_55
            induction n_55 with
            | zero => intro i x4 xi h1 h2; exact absurd h2 (by omega)
            | succ n_55 ih_55 =>
              intro i x4 xi hi_55 hn_55 e4 ei H locs hP hD hS ls hl
              refine lv_iload hx hb dX2_solve_55 (lv_at hl 5 rfl) ?_
              refine lv_aload_n hx hb dX2_solve_57 rfl (lv_at hl 0 rfl) ?_
              refine va_get (D := G.1) (ci := 2) (v := .int st) (C := RX2) (T := TX2) (N := 13) hx hb hts hinX2 hown hK.1 hP 0 rfl rfl 3 (by decide) hw3 (fun _ h9 => h9) rfl dX2_solve_58 ?_
              refine lv_icmp_ge (tgt := 102) hx hb dX2_solve_61 (by decide) (fun c_61 => ?_) (fun c_61 => ?_)
              · have hN : i = k := ge_ix ei est (by omega) c_61 hi_55
                refine lv_iload hx hb dX2_solve_102 (lv_at hl 4 rfl) ?_
                refine lv_if_eq (tgt := 122) hx hb dX2_solve_104 (by decide) (fun c_104 => ?_) (fun c_104 => ?_)
                · have hSo : soO fc fg fo k le an (n + 1) = (q1, q2, q3) := by show soS _ _ _ _ _ _ = _; unfold soS; rw [← en, ← e1, ← e2, if_neg (by rw [so_e e4 c_104 (by omega)]; decide)]; rw [e1, e2, e3]
                  refine lv_iinc (v := xn + 1) (lv' := [(1, .int (xn + 1)), (0, .ref mo), (2, .int (tnI xn 10)), (3, .int (wrM fo (tnI xn 10))), (4, .int x4), (5, .int xi)]) hx hb dX2_solve_122 hl (k := 1) rfl rfl (by decide) rfl (fun ls hl => ?_)
                  refine lv_goto (tgt := 12) hx hb dX2_solve_125 (by decide) ?_
                  exact ih_12 (n + 1) _ _ _ _ (by omega) (by omega) (by rw [en]; exact nI_1 n) (by rw [hSo]) (by rw [hSo]) (by rw [hSo]) _ _ (hP.sub [0, 1, 2, 3, 4, 5] rfl) (hD.sub [0, 1, 2, 3, 4, 5] (by decide) rfl) hS ls (lv_sub hl [1, 0] rfl)
                · have hSo : soO fc fg fo k le an (n + 1) = (1, (wrM fo (tnI xn 10)), (tnI xn 10)) := by show soS _ _ _ _ _ _ = _; unfold soS; rw [hN] at e4; rw [e4] at c_104; rw [← en, ← e1, ← e2, if_pos (bI_ne c_104)]
                  refine lv_aload_n hx hb dX2_solve_107 rfl (lv_at hl 0 rfl) ?_
                  refine lv_iconst (v := 1) hx hb dX2_solve_108 (by decide) ?_
                  refine va_put (D := G.1) (ci := 2) (v := .int 1) (ty := .boolean) (C := RX2) (T := TX2) (N := 13) hx hb hts hinX2 tyX2 tyX2_ok nmX2 hown hK.1 hP hD hS 0 rfl rfl 9 (by decide) hw2 (fun _ h9 => h9) rfl (by decide +kernel) rfl rfl (Nat.le_of_ble_eq_true rfl) dX2_solve_109 (fun H locs hP hD hS => ?_)
                  have hP : va_P G.1 vwCl [(mo, .inr (2, [.int 0, .ref ce, .ref gv, .int st, .int sk, .ref dr, .ref go, .int tk, .int be, .int 1, .int q2, .int q3, .ref sa])), (ce, eI G 418 fc), (gv, eZ G 30 fg), (dr, eI G 10 fd), (go, eI G 10 fo), (sa, eI G 10 fs)] H := hP
                  have hD : va_D A [(mo, .inr (2, [.int 0, .ref ce, .ref gv, .int st, .int sk, .ref dr, .ref go, .int tk, .int be, .int 1, .int q2, .int q3, .ref sa])), (ce, eI G 418 fc), (gv, eZ G 30 fg), (dr, eI G 10 fd), (go, eI G 10 fo), (sa, eI G 10 fs)] := hD
                  refine lv_aload_n hx hb dX2_solve_112 rfl (lv_at hl 0 rfl) ?_
                  refine lv_iload_n hx hb dX2_solve_113 rfl (lv_at hl 3 rfl) ?_
                  refine va_put (D := G.1) (ci := 2) (v := .int (wrM fo (tnI xn 10))) (ty := .int) (C := RX2) (T := TX2) (N := 13) hx hb hts hinX2 tyX2 tyX2_ok nmX2 hown hK.1 hP hD hS 0 rfl rfl 10 (by decide) hw4 (fun _ h9 => h9) rfl (by decide +kernel) rfl rfl (Nat.le_of_ble_eq_true rfl) dX2_solve_114 (fun H locs hP hD hS => ?_)
                  have hP : va_P G.1 vwCl [(mo, .inr (2, [.int 0, .ref ce, .ref gv, .int st, .int sk, .ref dr, .ref go, .int tk, .int be, .int 1, .int (wrM fo (tnI xn 10)), .int q3, .ref sa])), (ce, eI G 418 fc), (gv, eZ G 30 fg), (dr, eI G 10 fd), (go, eI G 10 fo), (sa, eI G 10 fs)] H := hP
                  have hD : va_D A [(mo, .inr (2, [.int 0, .ref ce, .ref gv, .int st, .int sk, .ref dr, .ref go, .int tk, .int be, .int 1, .int (wrM fo (tnI xn 10)), .int q3, .ref sa])), (ce, eI G 418 fc), (gv, eZ G 30 fg), (dr, eI G 10 fd), (go, eI G 10 fo), (sa, eI G 10 fs)] := hD
                  refine lv_aload_n hx hb dX2_solve_117 rfl (lv_at hl 0 rfl) ?_
                  refine lv_iload_n hx hb dX2_solve_118 rfl (lv_at hl 2 rfl) ?_
                  refine va_put (D := G.1) (ci := 2) (v := .int (tnI xn 10)) (ty := .int) (C := RX2) (T := TX2) (N := 13) hx hb hts hinX2 tyX2 tyX2_ok nmX2 hown hK.1 hP hD hS 0 rfl rfl 11 (by decide) hw5 (fun _ h9 => h9) rfl (by decide +kernel) rfl rfl (Nat.le_of_ble_eq_true rfl) dX2_solve_119 (fun H locs hP hD hS => ?_)
                  have hP : va_P G.1 vwCl [(mo, .inr (2, [.int 0, .ref ce, .ref gv, .int st, .int sk, .ref dr, .ref go, .int tk, .int be, .int 1, .int (wrM fo (tnI xn 10)), .int (tnI xn 10), .ref sa])), (ce, eI G 418 fc), (gv, eZ G 30 fg), (dr, eI G 10 fd), (go, eI G 10 fo), (sa, eI G 10 fs)] H := hP
                  have hD : va_D A [(mo, .inr (2, [.int 0, .ref ce, .ref gv, .int st, .int sk, .ref dr, .ref go, .int tk, .int be, .int 1, .int (wrM fo (tnI xn 10)), .int (tnI xn 10), .ref sa])), (ce, eI G 418 fc), (gv, eZ G 30 fg), (dr, eI G 10 fd), (go, eI G 10 fo), (sa, eI G 10 fs)] := hD
                  refine lv_iinc (v := xn + 1) (lv' := [(1, .int (xn + 1)), (0, .ref mo), (2, .int (tnI xn 10)), (3, .int (wrM fo (tnI xn 10))), (4, .int x4), (5, .int xi)]) hx hb dX2_solve_122 hl (k := 1) rfl rfl (by decide) rfl (fun ls hl => ?_)
                  refine lv_goto (tgt := 12) hx hb dX2_solve_125 (by decide) ?_
                  exact ih_12 (n + 1) _ _ _ _ (by omega) (by omega) (by rw [en]; exact nI_1 n) (by rw [hSo]) (by rw [hSo]) (by rw [hSo]) _ _ (hP.sub [0, 1, 2, 3, 4, 5] rfl) (hD.sub [0, 1, 2, 3, 4, 5] (by decide) rfl) hS ls (lv_sub hl [1, 0] rfl)
              · have hlt : i < k := lt_ix ei est (by omega) c_61 hi_55
                refine lv_iload hx hb dX2_solve_64 (lv_at hl 4 rfl) ?_
                refine lv_if_eq (tgt := 102) hx hb dX2_solve_66 (by decide) (fun c_66 => ?_) (fun c_66 => ?_)
                · refine lv_iload hx hb dX2_solve_102 (lv_at hl 4 rfl) ?_
                  refine lv_if_eq (tgt := 122) hx hb dX2_solve_104 (by decide) (fun c_104 => ?_) (fun c_104 => ?_)
                  · have hSo : soO fc fg fo k le an (n + 1) = (q1, q2, q3) := by show soS _ _ _ _ _ _ = _; unfold soS; rw [← en, ← e1, ← e2, if_neg (by rw [so_e e4 c_104 (by omega)]; decide)]; rw [e1, e2, e3]
                    refine lv_iinc (v := xn + 1) (lv' := [(1, .int (xn + 1)), (0, .ref mo), (2, .int (tnI xn 10)), (3, .int (wrM fo (tnI xn 10))), (4, .int x4), (5, .int xi)]) hx hb dX2_solve_122 hl (k := 1) rfl rfl (by decide) rfl (fun ls hl => ?_)
                    refine lv_goto (tgt := 12) hx hb dX2_solve_125 (by decide) ?_
                    exact ih_12 (n + 1) _ _ _ _ (by omega) (by omega) (by rw [en]; exact nI_1 n) (by rw [hSo]) (by rw [hSo]) (by rw [hSo]) _ _ (hP.sub [0, 1, 2, 3, 4, 5] rfl) (hD.sub [0, 1, 2, 3, 4, 5] (by decide) rfl) hS ls (lv_sub hl [1, 0] rfl)
                  · exact absurd c_66 c_104
                · have join_94 : ∀ (y4 : Int32), (y4 = bI ((decide (q1 = 0) || decide ((wrM fo (tnI xn 10)) < q2)) && allB (gdB fc fg (tnI xn 10)) (i + 1))) → ∀ (H : Heap) (locs : List Loc), va_P G.1 vwCl [(mo, .inr (2, [.int 0, .ref ce, .ref gv, .int st, .int sk, .ref dr, .ref go, .int tk, .int be, .int q1, .int q2, .int q3, .ref sa])), (ce, eI G 418 fc), (gv, eZ G 30 fg), (dr, eI G 10 fd), (go, eI G 10 fo), (sa, eI G 10 fs)] H → va_D A [(mo, .inr (2, [.int 0, .ref ce, .ref gv, .int st, .int sk, .ref dr, .ref go, .int tk, .int be, .int q1, .int q2, .int q3, .ref sa])), (ce, eI G 418 fc), (gv, eZ G 30 fg), (dr, eI G 10 fd), (go, eI G 10 fo), (sa, eI G 10 fs)] → va_S A s.heap H locs → ∀ ls : Array Slot, lv_has ls 6 [(0, .ref mo), (1, .int xn), (2, .int (tnI xn 10)), (3, .int (wrM fo (tnI xn 10))), (4, .int x4), (5, .int xi)] → W p l e rmX2_solve s m [.ref mo].toArray below meth c H locs 0 0 (MQ below (mu_Q G (some (.int (if (soO fc fg fo k le an N).1 = 0 then 0 else 1))) [(mo, .inr (2, [.int 0, .ref ce, .ref gv, .int st, .int sk, .ref dr, .ref go, .int tk, .int be, .int ((soO fc fg fo k le an N).1), .int ((soO fc fg fo k le an N).2.1), .int ((soO fc fg fo k le an N).2.2), .ref sa])), (ce, eI G 418 fc), (gv, eZ G 30 fg), (dr, eI G 10 fd), (go, eI G 10 fo), (sa, eI G 10 fs)] A) [.ref mo].toArray s 0 0 A) (F0 m 94 ls [.int y4]) := by
                    intro y4 ey H locs hP hD hS ls hl
                    refine lv_istore (lv' := [(4, .int y4), (0, .ref mo), (1, .int xn), (2, .int (tnI xn 10)), (3, .int (wrM fo (tnI xn 10))), (5, .int xi)]) hx hb dX2_solve_94 hl (by decide) rfl (fun ls hl => ?_)
                    refine lv_iinc (v := xi + 1) (lv' := [(5, .int (xi + 1)), (4, .int y4), (0, .ref mo), (1, .int xn), (2, .int (tnI xn 10)), (3, .int (wrM fo (tnI xn 10)))]) hx hb dX2_solve_96 hl (k := 5) rfl rfl (by decide) rfl (fun ls hl => ?_)
                    refine lv_goto (tgt := 55) hx hb dX2_solve_99 (by decide) ?_
                    exact ih_55 (i + 1) _ _ (by omega) (by omega) (by exact ey) (by rw [ei]; exact nI_1 i) _ _ (hP.sub [0, 1, 2, 3, 4, 5] rfl) (hD.sub [0, 1, 2, 3, 4, 5] (by decide) rfl) hS ls (lv_sub hl [2, 3, 4, 5, 1, 0] rfl)
                  refine lv_aload_n hx hb dX2_solve_69 rfl (lv_at hl 0 rfl) ?_
                  refine va_get (D := G.1) (ci := 2) (v := .ref gv) (C := RX2) (T := TX2) (N := 13) hx hb hts hinX2 hown hK.1 hP 0 rfl rfl 2 (by decide) hw6 (fun _ h9 => h9) rfl dX2_solve_70 ?_
                  refine lv_iload hx hb dX2_solve_73 (lv_at hl 5 rfl) ?_
                  refine ra_zald (f := fg) (v := i) hx hb hK.1 hP 2 1 rfl rfl ei (by omega) (by decide) dX2_solve_75 ?_
                  refine lv_if_eq (tgt := 89) hx hb dX2_solve_76 (by decide) (fun c_76 => ?_) (fun c_76 => ?_)
                  · refine lv_iconst (v := 1) hx hb dX2_solve_89 (by decide) ?_
                    refine lv_goto (tgt := 94) hx hb dX2_solve_90 (by decide) ?_
                    exact join_94 _ (so_t e4 c_66 (by unfold gdB; rw [decide_eq_true c_76]; rfl)) _ _ (hP.sub [0, 1, 2, 3, 4, 5] rfl) (hD.sub [0, 1, 2, 3, 4, 5] (by decide) rfl) hS ls (lv_sub hl [0, 1, 2, 3, 4, 5] rfl)
                  · refine lv_aload_n hx hb dX2_solve_79 rfl (lv_at hl 0 rfl) ?_
                    refine lv_iload hx hb dX2_solve_80 (lv_at hl 5 rfl) ?_
                    refine lv_iload_n hx hb dX2_solve_82 rfl (lv_at hl 2 rfl) ?_
                    refine ro_call (va_runV (As := [.int xi, .int (tnI xn 10)]) (rest := []) ⟨hx, hb, hml, hown, hts⟩ (c_X2_meets l G mo ce gv dr go sa 0 st sk tk be q1 q2 q3 fc fg fd fo fs xi i ei (by omega) (tnI xn 10)) (cwV 2 hts gX2_solve_X2_meets rfl rfl rfl (by decide +kernel) ⟨Nat.le_of_ble_eq_true rfl, Nat.le_of_ble_eq_true rfl⟩) ⟨ro_blind, va_recv hK.1 hP (ci := 2) (q0 := 0) rfl rfl, ro_pre _ (hP.sub [0, 1, 2, 3, 4, 5] rfl) hK⟩ rfl rfl hl.1 rfl (lv_room (Nat.le_of_ble_eq_true rfl)) dX2_solve_83 ⟨Nat.le_refl _, Nat.le_refl _⟩) ?_
                    refine lv_if_eq (tgt := 93) hx hb dX2_solve_86 (by decide) (fun c_86 => ?_) (fun c_86 => ?_)
                    · refine lv_iconst (v := 0) hx hb dX2_solve_93 (by decide) ?_
                      exact join_94 _ (so_f (by unfold gdB; rw [decide_eq_false c_76, decide_eq_false (fun q => q c_86)]; rfl)) _ _ (hP.sub [0, 1, 2, 3, 4, 5] rfl) (hD.sub [0, 1, 2, 3, 4, 5] (by decide) rfl) hS ls (lv_sub hl [0, 1, 2, 3, 4, 5] rfl)
                    · refine lv_iconst (v := 1) hx hb dX2_solve_89 (by decide) ?_
                      refine lv_goto (tgt := 94) hx hb dX2_solve_90 (by decide) ?_
                      exact join_94 _ (so_t e4 c_66 (by unfold gdB; rw [decide_eq_true c_86, Bool.or_true])) _ _ (hP.sub [0, 1, 2, 3, 4, 5] rfl) (hD.sub [0, 1, 2, 3, 4, 5] (by decide) rfl) hS ls (lv_sub hl [0, 1, 2, 3, 4, 5] rfl)
          exact loop_55 (k + 1) 0 _ _ (Nat.zero_le _) (by omega) (by rw [e40]; show _ = bI (_ && true); rw [Bool.and_true]) (by exact nI_0.symm) _ _ (hP.sub [0, 1, 2, 3, 4, 5] rfl) (hD.sub [0, 1, 2, 3, 4, 5] (by decide) rfl) hS ls (lv_sub hl [4, 5, 3, 2, 1, 0] rfl)
        refine lv_aload_n hx hb dX2_solve_30 rfl (lv_at hl 2 rfl) ?_
        refine va_get (D := G.1) (ci := 2) (v := .int q1) (C := RX2) (T := TX2) (N := 13) hx hb hts hinX2 hown hK.1 hP 0 rfl rfl 9 (by decide) hw2 (fun _ h9 => h9) rfl dX2_solve_31 ?_
        refine lv_if_eq (tgt := 45) hx hb dX2_solve_34 (by decide) (fun c_34 => ?_) (fun c_34 => ?_)
        · refine lv_iconst (v := 1) hx hb dX2_solve_45 (by decide) ?_
          refine lv_goto (tgt := 50) hx hb dX2_solve_46 (by decide) ?_
          exact join_50 _ (by rw [decide_eq_true c_34]; rfl) _ _ (hP.sub [0, 1, 2, 3, 4, 5] rfl) (hD.sub [0, 1, 2, 3, 4, 5] (by decide) rfl) hS ls (lv_sub hl [0, 1, 2, 3] rfl)
        · refine lv_iload_n hx hb dX2_solve_37 rfl (lv_at hl 0 rfl) ?_
          refine lv_aload_n hx hb dX2_solve_38 rfl (lv_at hl 2 rfl) ?_
          refine va_get (D := G.1) (ci := 2) (v := .int q2) (C := RX2) (T := TX2) (N := 13) hx hb hts hinX2 hown hK.1 hP 0 rfl rfl 10 (by decide) hw4 (fun _ h9 => h9) rfl dX2_solve_39 ?_
          refine lv_icmp_ge (tgt := 49) hx hb dX2_solve_42 (by decide) (fun c_42 => ?_) (fun c_42 => ?_)
          · refine lv_iconst (v := 0) hx hb dX2_solve_49 (by decide) ?_
            exact join_50 _ (by rw [decide_eq_false c_34, decide_eq_false (Int32.not_lt.mpr c_42)]; rfl) _ _ (hP.sub [0, 1, 2, 3, 4, 5] rfl) (hD.sub [0, 1, 2, 3, 4, 5] (by decide) rfl) hS ls (lv_sub hl [0, 1, 2, 3] rfl)
          · refine lv_iconst (v := 1) hx hb dX2_solve_45 (by decide) ?_
            refine lv_goto (tgt := 50) hx hb dX2_solve_46 (by decide) ?_
            exact join_50 _ (by rw [decide_eq_false c_34, decide_eq_true (Int32.not_le.mp c_42)]; rfl) _ _ (hP.sub [0, 1, 2, 3, 4, 5] rfl) (hD.sub [0, 1, 2, 3, 4, 5] (by decide) rfl) hS ls (lv_sub hl [0, 1, 2, 3] rfl)
  exact loop_12 (1024 + 1) 0 _ _ _ _ (Nat.zero_le _) (by omega) (by exact nI_0.symm) (by rfl) (by rfl) (by rfl) _ _ (hP.sub [0, 1, 2, 3, 4, 5] rfl) (hD.sub [0, 1, 2, 3, 4, 5] (by decide) rfl) hS ls (lv_sub hl [1, 0] rfl)
