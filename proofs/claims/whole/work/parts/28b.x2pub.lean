abbrev rmX2_times : Room := { frames := 2, cells := 0, slots := 0, locals := 43 }
set_option maxHeartbeats 4000000 in
set_option maxRecDepth 100000 in
theorem c_X2_times (l : Launch) (G : Gt) (sz : Nat) (mo ce gv dr go sa : Nat) (th st sk tk be so le an : Int32) (fc fg fd fo fs : Nat → Int32) (x : Int32) (n : Nat) (esk : sk = nI n) (hn6 : n ≤ 6) : Met l yX2_times wsX2_times rmX2_times (mu_P G sz [.ref mo, .int x] [(mo, .inr (2, [.int th, .ref ce, .ref gv, .int st, .int sk, .ref dr, .ref go, .int tk, .int be, .int so, .int le, .int an, .ref sa])), (ce, eI G 418 fc), (gv, eZ G 30 fg), (dr, eI G 10 fd), (go, eI G 10 fo), (sa, eI G 10 fs)]) (mu_Q G none [(mo, .inr (2, [.int (if thTim sk x = 0 then thTim2 fc (29 + n) x else thTim sk x), .ref ce, .ref gv, .int st, .int sk, .ref dr, .ref go, .int tk, .int be, .int so, .int le, .int an, .ref sa])), (ce, eI G 418 (if thTim sk x = 0 then (if thTim2 fc (29 + n) x = 0 then cpy11 (tiC fc (29 + n) x) 36 (29 + n) else tiC fc (29 + n) x) else fc)), (gv, eZ G 30 fg), (dr, eI G 10 fd), (go, eI G 10 fo), (sa, eI G 10 fs)] (va_A [(mo, .inr (2, [.int th, .ref ce, .ref gv, .int st, .int sk, .ref dr, .ref go, .int tk, .int be, .int so, .int le, .int an, .ref sa])), (ce, eI G 418 fc), (gv, eZ G 30 fg), (dr, eI G 10 fd), (go, eI G 10 fo), (sa, eI G 10 fs)] sz)) 0 0 (va_A [(mo, .inr (2, [.int th, .ref ce, .ref gv, .int st, .int sk, .ref dr, .ref go, .int tk, .int be, .int so, .int le, .int an, .ref sa])), (ce, eI G 418 fc), (gv, eZ G 30 fg), (dr, eI G 10 fd), (go, eI G 10 fo), (sa, eI G 10 fs)] sz) := by
  refine Met.ofW (cc := cX2_times) (maxL := 3) (ret := none) (by decide) rfl ?_
  intro p e s m args below meth c s₁ B hml hv
  obtain ⟨rfl, hsz, hP, hD0, hK⟩ := hv
  have hx := B.exec
  have hb := B.bytes
  have hr := B.returns
  have hts := atoms_spec (ws := wsX2_times) B.pre
  have hown : s.vm.findClass RX2 = some m.cls := findClass_of_methodNamed B.named
  have hlocks := B.notSynchronized
  subst hsz
  have hD := hD0.self (sz := s.heap.size)
  generalize hAe : va_A [(mo, .inr (2, [.int th, .ref ce, .ref gv, .int st, .int sk, .ref dr, .ref go, .int tk, .int be, .int so, .int le, .int an, .ref sa])), (ce, eI G 418 fc), (gv, eZ G 30 fg), (dr, eI G 10 fd), (go, eI G 10 fo), (sa, eI G 10 fs)] s.heap.size = A at hD ⊢
  have hA : ∀ q : Nat, s.heap.size ≤ q → A q := fun q h => by rw [← hAe]; exact Or.inr h
  have hS : va_S A s.heap s.heap [] := va_S.rf
  have hinX2 : ∀ w ∈ u_ws RX2 TX2 13, w ∈ wsX2_times := fun w h => List.mem_cons_of_mem _ (List.mem_append_right _ h)
  have hw1 := hts (.fieldLink RX2 7 "ChoiceBoardModel" "cell" "[I") (by decide +kernel)
  have hw2 := hts (.fieldLink RX2 74 "ChoiceBoardModel" "stacked" "I") (by decide +kernel)
  have hl := lv_entry ([.ref mo, .int x]) (n := 3) (Nat.le_of_ble_eq_true rfl)
  rw [lg_entry_eq]
  generalize (lg_sl ([.ref mo, .int x]) ++ List.replicate (3 - (lg_sl ([.ref mo, .int x])).length) Slot.unset).toArray = ls at hl ⊢
  have hl : lv_has ls 3 [(0, .ref mo), (1, .int x)] := hl
  refine lv_aload_n hx hb dX2_times_0 rfl (lv_at hl 0 rfl) ?_
  have join_14 : ∀ (x1 : Int32), (x1 = ltI sk 1) → ∀ (H : Heap) (locs : List Loc), va_P G.1 vwCl [(mo, .inr (2, [.int th, .ref ce, .ref gv, .int st, .int sk, .ref dr, .ref go, .int tk, .int be, .int so, .int le, .int an, .ref sa])), (ce, eI G 418 fc), (gv, eZ G 30 fg), (dr, eI G 10 fd), (go, eI G 10 fo), (sa, eI G 10 fs)] H → va_D A [(mo, .inr (2, [.int th, .ref ce, .ref gv, .int st, .int sk, .ref dr, .ref go, .int tk, .int be, .int so, .int le, .int an, .ref sa])), (ce, eI G 418 fc), (gv, eZ G 30 fg), (dr, eI G 10 fd), (go, eI G 10 fo), (sa, eI G 10 fs)] → va_S A s.heap H locs → ∀ ls : Array Slot, lv_has ls 3 [(0, .ref mo), (1, .int x)] → W p l e rmX2_times s m [.ref mo, .int x].toArray below meth c H locs 0 0 (MQ below (mu_Q G none [(mo, .inr (2, [.int (if thTim sk x = 0 then thTim2 fc (29 + n) x else thTim sk x), .ref ce, .ref gv, .int st, .int sk, .ref dr, .ref go, .int tk, .int be, .int so, .int le, .int an, .ref sa])), (ce, eI G 418 (if thTim sk x = 0 then (if thTim2 fc (29 + n) x = 0 then cpy11 (tiC fc (29 + n) x) 36 (29 + n) else tiC fc (29 + n) x) else fc)), (gv, eZ G 30 fg), (dr, eI G 10 fd), (go, eI G 10 fo), (sa, eI G 10 fs)] A) [.ref mo, .int x].toArray s 0 0 A) (F0 m 14 ls [.int x1, .ref mo]) := by
    intro x1 ex1 H locs hP hD hS ls hl
    refine lv_iload_n hx hb dX2_times_14 rfl (lv_at hl 1 rfl) ?_
    refine lv_iconst (v := 1) hx hb dX2_times_15 (by decide) ?_
    refine lv_sipush (v := 1000) hx hb dX2_times_16 (by decide) ?_
    refine ro_call (va_runS (As := [.int x, .int 1, .int 1000]) (rest := [.int x1, .ref mo]) ⟨hx, hb, hml, hown, hts⟩ (c_X2_outside l G x 1 1000) (va_cwS 3 hts gX2_times_X2_outside rfl rfl rfl (by decide +kernel) ⟨Nat.le_of_ble_eq_true rfl, Nat.le_of_ble_eq_true rfl⟩) ⟨ro_blind, ro_pre _ (hP.sub [] rfl) hK⟩ rfl rfl hl.1 rfl (lv_room (Nat.le_of_ble_eq_true rfl)) dX2_times_19 ⟨Nat.le_refl _, Nat.le_refl _⟩) ?_
    refine lv_iconst (v := 0) hx hb dX2_times_22 (by decide) ?_
    have eT : thTim sk x = flI x1 (outI x 1 1000) 0 := by unfold thTim; rw [← ex1]
    refine mu_call (va_runV (As := [.int x1, .int (outI x 1 1000), .int 0]) (rest := []) ⟨hx, hb, hml, hown, hts⟩ (c_X2_fails l G _ mo ce gv dr go sa th st sk tk be so le an fc fg fd fo fs x1 (outI x 1 1000) 0) (cwV 3 hts gX2_times_X2_fails rfl rfl rfl (by decide +kernel) ⟨Nat.le_of_ble_eq_true rfl, Nat.le_of_ble_eq_true rfl⟩) ⟨mu_blind, va_recv hK.1 hP (ci := 2) (q0 := 0) rfl rfl, mu_pre _ (hP.sub [0, 1, 2, 3, 4, 5] rfl) (hD.sub [0, 1, 2, 3, 4, 5] (by decide) rfl) hK⟩ rfl rfl hl.1 rfl (lv_room (Nat.le_of_ble_eq_true rfl)) dX2_times_23 ⟨Nat.le_refl _, Nat.le_refl _⟩) hS (va_free hD hS hA [0, 1, 2, 3, 4, 5] rfl) (va_free hD hS hA [0, 1, 2, 3, 4, 5] rfl) (fun H1 locs hP1 hD1 hk1 hS => ?_)
    obtain ⟨hP, hD⟩ := rp_join (ws' := [(mo, .inr (2, [.int (flI x1 (outI x 1 1000) 0), .ref ce, .ref gv, .int st, .int sk, .ref dr, .ref go, .int tk, .int be, .int so, .int le, .int an, .ref sa])), (ce, eI G 418 fc), (gv, eZ G 30 fg), (dr, eI G 10 fd), (go, eI G 10 fo), (sa, eI G 10 fs)]) hP hD [0, 1, 2, 3, 4, 5] rfl hk1 hP1 (fun k q h => match k, q, h with | 0, q, h => Or.inl ⟨0, h⟩ | 1, q, h => Or.inl ⟨1, h⟩ | 2, q, h => Or.inl ⟨2, h⟩ | 3, q, h => Or.inl ⟨3, h⟩ | 4, q, h => Or.inl ⟨4, h⟩ | 5, q, h => Or.inl ⟨5, h⟩ | k + 6, q, h => nomatch h) rfl
    generalize H1 = H at hP hS ⊢
    have hP : va_P G.1 vwCl [(mo, .inr (2, [.int (flI x1 (outI x 1 1000) 0), .ref ce, .ref gv, .int st, .int sk, .ref dr, .ref go, .int tk, .int be, .int so, .int le, .int an, .ref sa])), (ce, eI G 418 fc), (gv, eZ G 30 fg), (dr, eI G 10 fd), (go, eI G 10 fo), (sa, eI G 10 fs)] H := hP
    have hD : va_D A [(mo, .inr (2, [.int (flI x1 (outI x 1 1000) 0), .ref ce, .ref gv, .int st, .int sk, .ref dr, .ref go, .int tk, .int be, .int so, .int le, .int an, .ref sa])), (ce, eI G 418 fc), (gv, eZ G 30 fg), (dr, eI G 10 fd), (go, eI G 10 fo), (sa, eI G 10 fs)] := hD
    refine lv_if_eq (tgt := 30) hx hb dX2_times_26 (by decide) (fun c_26 => ?_) (fun c_26 => ?_)
    · have hz : thTim sk x = 0 := by rw [eT]; exact cnt0 c_26
      have hn1 : 1 ≤ n := ge_n esk (show (1 : Int32) = nI 1 from rfl) (by omega) (by decide) (ltI0 (fl0 hz).1)
      refine lv_iconst (v := 0) hx hb dX2_times_30 (by decide) ?_
      refine lv_istore_n (lv' := [(2, .int 0), (0, .ref mo), (1, .int x)]) hx hb dX2_times_31 rfl hl (by decide) rfl (fun ls hl => ?_)
      have loop_32 : ∀ (n_32 i : Nat) (xi : Int32), i ≤ 11 → 11 + 1 ≤ i + n_32 → (xi = nI i) → ∀ (H : Heap) (locs : List Loc), va_P G.1 vwCl [(mo, .inr (2, [.int (flI x1 (outI x 1 1000) 0), .ref ce, .ref gv, .int st, .int sk, .ref dr, .ref go, .int tk, .int be, .int so, .int le, .int an, .ref sa])), (ce, eI G 418 (seg 396 i (fun v => x * fc (11 * (29 + n) + v)) fc)), (gv, eZ G 30 fg), (dr, eI G 10 fd), (go, eI G 10 fo), (sa, eI G 10 fs)] H → va_D A [(mo, .inr (2, [.int (flI x1 (outI x 1 1000) 0), .ref ce, .ref gv, .int st, .int sk, .ref dr, .ref go, .int tk, .int be, .int so, .int le, .int an, .ref sa])), (ce, eI G 418 (seg 396 i (fun v => x * fc (11 * (29 + n) + v)) fc)), (gv, eZ G 30 fg), (dr, eI G 10 fd), (go, eI G 10 fo), (sa, eI G 10 fs)] → va_S A s.heap H locs → ∀ ls : Array Slot, lv_has ls 3 [(0, .ref mo), (1, .int x), (2, .int xi)] → W p l e rmX2_times s m [.ref mo, .int x].toArray below meth c H locs 0 0 (MQ below (mu_Q G none [(mo, .inr (2, [.int (if thTim sk x = 0 then thTim2 fc (29 + n) x else thTim sk x), .ref ce, .ref gv, .int st, .int sk, .ref dr, .ref go, .int tk, .int be, .int so, .int le, .int an, .ref sa])), (ce, eI G 418 (if thTim sk x = 0 then (if thTim2 fc (29 + n) x = 0 then cpy11 (tiC fc (29 + n) x) 36 (29 + n) else tiC fc (29 + n) x) else fc)), (gv, eZ G 30 fg), (dr, eI G 10 fd), (go, eI G 10 fo), (sa, eI G 10 fs)] A) [.ref mo, .int x].toArray s 0 0 A) (F0 m 32 ls []) := by
        intro n_32
        induction n_32 with
        | zero => intro i xi h1 h2; exact absurd h2 (by omega)
        | succ n_32 ih_32 =>
          intro i xi hi_32 hn_32 ei H locs hP hD hS ls hl
          refine lv_iload_n hx hb dX2_times_32 rfl (lv_at hl 2 rfl) ?_
          refine lv_bipush (v := 11) hx hb dX2_times_33 (by decide) ?_
          refine lv_icmp_ge (tgt := 70) hx hb dX2_times_35 (by decide) (fun c_35 => ?_) (fun c_35 => ?_)
          · have hN : i = 11 := ge_ix ei (by decide) (by decide) c_35 hi_32
            rw [hN] at hP hD
            rw [show seg 396 11 (fun v => x * fc (11 * (29 + n) + v)) fc = tiC fc (29 + n) x from rfl] at hP hD
            refine lv_aload_n hx hb dX2_times_70 rfl (lv_at hl 0 rfl) ?_
            refine lv_iconst (v := 0) hx hb dX2_times_71 (by decide) ?_
            refine lv_iconst (v := 0) hx hb dX2_times_72 (by decide) ?_
            refine lv_aload_n hx hb dX2_times_73 rfl (lv_at hl 0 rfl) ?_
            refine lv_bipush (v := 36) hx hb dX2_times_74 (by decide) ?_
            refine ro_call (va_runV (As := [.int 36]) (rest := [.int 0, .int 0, .ref mo]) ⟨hx, hb, hml, hown, hts⟩ (c_X2_large l G mo ce gv dr go sa (flI x1 (outI x 1 1000) 0) st sk tk be so le an (tiC fc (29 + n) x) fg fd fo fs 36 36 (by decide) (by omega)) (cwV 1 hts gX2_times_X2_large rfl rfl rfl (by decide +kernel) ⟨Nat.le_of_ble_eq_true rfl, Nat.le_of_ble_eq_true rfl⟩) ⟨ro_blind, va_recv hK.1 hP (ci := 2) (q0 := 0) rfl rfl, ro_pre _ (hP.sub [0, 1, 2, 3, 4, 5] rfl) hK⟩ rfl rfl hl.1 rfl (lv_room (Nat.le_of_ble_eq_true rfl)) dX2_times_76 ⟨Nat.le_refl _, Nat.le_refl _⟩) ?_
            refine lv_topi (fun zl ezl => ?_)
            have eT2 : thTim2 fc (29 + n) x = flI 0 0 zl := by unfold thTim2; rw [← ezl]
            refine mu_call (va_runV (As := [.int 0, .int 0, .int zl]) (rest := []) ⟨hx, hb, hml, hown, hts⟩ (c_X2_fails l G _ mo ce gv dr go sa (flI x1 (outI x 1 1000) 0) st sk tk be so le an (tiC fc (29 + n) x) fg fd fo fs 0 0 zl) (cwV 3 hts gX2_times_X2_fails rfl rfl rfl (by decide +kernel) ⟨Nat.le_of_ble_eq_true rfl, Nat.le_of_ble_eq_true rfl⟩) ⟨mu_blind, va_recv hK.1 hP (ci := 2) (q0 := 0) rfl rfl, mu_pre _ (hP.sub [0, 1, 2, 3, 4, 5] rfl) (hD.sub [0, 1, 2, 3, 4, 5] (by decide) rfl) hK⟩ rfl rfl hl.1 rfl (lv_room (Nat.le_of_ble_eq_true rfl)) dX2_times_79 ⟨Nat.le_refl _, Nat.le_refl _⟩) hS (va_free hD hS hA [0, 1, 2, 3, 4, 5] rfl) (va_free hD hS hA [0, 1, 2, 3, 4, 5] rfl) (fun H1 locs hP1 hD1 hk1 hS => ?_)
            obtain ⟨hP, hD⟩ := rp_join (ws' := [(mo, .inr (2, [.int (flI 0 0 zl), .ref ce, .ref gv, .int st, .int sk, .ref dr, .ref go, .int tk, .int be, .int so, .int le, .int an, .ref sa])), (ce, eI G 418 (tiC fc (29 + n) x)), (gv, eZ G 30 fg), (dr, eI G 10 fd), (go, eI G 10 fo), (sa, eI G 10 fs)]) hP hD [0, 1, 2, 3, 4, 5] rfl hk1 hP1 (fun k q h => match k, q, h with | 0, q, h => Or.inl ⟨0, h⟩ | 1, q, h => Or.inl ⟨1, h⟩ | 2, q, h => Or.inl ⟨2, h⟩ | 3, q, h => Or.inl ⟨3, h⟩ | 4, q, h => Or.inl ⟨4, h⟩ | 5, q, h => Or.inl ⟨5, h⟩ | k + 6, q, h => nomatch h) rfl
            generalize H1 = H at hP hS ⊢
            have hP : va_P G.1 vwCl [(mo, .inr (2, [.int (flI 0 0 zl), .ref ce, .ref gv, .int st, .int sk, .ref dr, .ref go, .int tk, .int be, .int so, .int le, .int an, .ref sa])), (ce, eI G 418 (tiC fc (29 + n) x)), (gv, eZ G 30 fg), (dr, eI G 10 fd), (go, eI G 10 fo), (sa, eI G 10 fs)] H := hP
            have hD : va_D A [(mo, .inr (2, [.int (flI 0 0 zl), .ref ce, .ref gv, .int st, .int sk, .ref dr, .ref go, .int tk, .int be, .int so, .int le, .int an, .ref sa])), (ce, eI G 418 (tiC fc (29 + n) x)), (gv, eZ G 30 fg), (dr, eI G 10 fd), (go, eI G 10 fo), (sa, eI G 10 fs)] := hD
            refine lv_if_eq (tgt := 86) hx hb dX2_times_82 (by decide) (fun c_82 => ?_) (fun c_82 => ?_)
            · have hz2 : thTim2 fc (29 + n) x = 0 := by rw [eT2]; exact cnt0 c_82
              refine lv_aload_n hx hb dX2_times_86 rfl (lv_at hl 0 rfl) ?_
              refine lv_bipush (v := 36) hx hb dX2_times_87 (by decide) ?_
              refine lv_aload_n hx hb dX2_times_89 rfl (lv_at hl 0 rfl) ?_
              refine ro_call (va_runV (As := []) (rest := [.int 36, .ref mo]) ⟨hx, hb, hml, hown, hts⟩ (c_X2_upper l G mo ce gv dr go sa (flI 0 0 zl) st sk tk be so le an (tiC fc (29 + n) x) fg fd fo fs) (cwV 0 hts gX2_times_X2_upper rfl rfl rfl (by decide +kernel) ⟨Nat.le_of_ble_eq_true rfl, Nat.le_of_ble_eq_true rfl⟩) ⟨ro_blind, va_recv hK.1 hP (ci := 2) (q0 := 0) rfl rfl, ro_pre _ (hP.sub [0, 1, 2, 3, 4, 5] rfl) hK⟩ rfl rfl hl.1 rfl (lv_room (Nat.le_of_ble_eq_true rfl)) dX2_times_90 ⟨Nat.le_refl _, Nat.le_refl _⟩) ?_
              refine mu_call (va_runV (As := [.int 36, .int (30 + sk - 1)]) (rest := []) ⟨hx, hb, hml, hown, hts⟩ (c_X2_copy l G _ mo ce gv dr go sa (flI 0 0 zl) st sk tk be so le an (tiC fc (29 + n) x) fg fd fo fs 36 36 (by decide) (by omega) (30 + sk - 1) (29 + n) (na_up esk (by omega)) (by omega) (by omega)) (cwV 2 hts gX2_times_X2_copy rfl rfl rfl (by decide +kernel) ⟨Nat.le_of_ble_eq_true rfl, Nat.le_of_ble_eq_true rfl⟩) ⟨mu_blind, va_recv hK.1 hP (ci := 2) (q0 := 0) rfl rfl, mu_pre _ (hP.sub [0, 1, 2, 3, 4, 5] rfl) (hD.sub [0, 1, 2, 3, 4, 5] (by decide) rfl) hK⟩ rfl rfl hl.1 rfl (lv_room (Nat.le_of_ble_eq_true rfl)) dX2_times_93 ⟨Nat.le_refl _, Nat.le_refl _⟩) hS (va_free hD hS hA [0, 1, 2, 3, 4, 5] rfl) (va_free hD hS hA [0, 1, 2, 3, 4, 5] rfl) (fun H1 locs hP1 hD1 hk1 hS => ?_)
              obtain ⟨hP, hD⟩ := rp_join (ws' := [(mo, .inr (2, [.int (flI 0 0 zl), .ref ce, .ref gv, .int st, .int sk, .ref dr, .ref go, .int tk, .int be, .int so, .int le, .int an, .ref sa])), (ce, eI G 418 (cpy11 (tiC fc (29 + n) x) 36 (29 + n))), (gv, eZ G 30 fg), (dr, eI G 10 fd), (go, eI G 10 fo), (sa, eI G 10 fs)]) hP hD [0, 1, 2, 3, 4, 5] rfl hk1 hP1 (fun k q h => match k, q, h with | 0, q, h => Or.inl ⟨0, h⟩ | 1, q, h => Or.inl ⟨1, h⟩ | 2, q, h => Or.inl ⟨2, h⟩ | 3, q, h => Or.inl ⟨3, h⟩ | 4, q, h => Or.inl ⟨4, h⟩ | 5, q, h => Or.inl ⟨5, h⟩ | k + 6, q, h => nomatch h) rfl
              generalize H1 = H at hP hS ⊢
              have hP : va_P G.1 vwCl [(mo, .inr (2, [.int (flI 0 0 zl), .ref ce, .ref gv, .int st, .int sk, .ref dr, .ref go, .int tk, .int be, .int so, .int le, .int an, .ref sa])), (ce, eI G 418 (cpy11 (tiC fc (29 + n) x) 36 (29 + n))), (gv, eZ G 30 fg), (dr, eI G 10 fd), (go, eI G 10 fo), (sa, eI G 10 fs)] H := hP
              have hD : va_D A [(mo, .inr (2, [.int (flI 0 0 zl), .ref ce, .ref gv, .int st, .int sk, .ref dr, .ref go, .int tk, .int be, .int so, .int le, .int an, .ref sa])), (ce, eI G 418 (cpy11 (tiC fc (29 + n) x) 36 (29 + n))), (gv, eZ G 30 fg), (dr, eI G 10 fd), (go, eI G 10 fo), (sa, eI G 10 fs)] := hD
              have hP9 := hP.sub (ws' := [(mo, .inr (2, [.int (if thTim sk x = 0 then thTim2 fc (29 + n) x else thTim sk x), .ref ce, .ref gv, .int st, .int sk, .ref dr, .ref go, .int tk, .int be, .int so, .int le, .int an, .ref sa])), (ce, eI G 418 (if thTim sk x = 0 then (if thTim2 fc (29 + n) x = 0 then cpy11 (tiC fc (29 + n) x) 36 (29 + n) else tiC fc (29 + n) x) else fc)), (gv, eZ G 30 fg), (dr, eI G 10 fd), (go, eI G 10 fo), (sa, eI G 10 fs)]) [0, 1, 2, 3, 4, 5] (by simp only [if_pos hz, if_pos hz2]; rw [eT2]; rfl)
              have hD9 := hD.sub (ws' := [(mo, .inr (2, [.int (if thTim sk x = 0 then thTim2 fc (29 + n) x else thTim sk x), .ref ce, .ref gv, .int st, .int sk, .ref dr, .ref go, .int tk, .int be, .int so, .int le, .int an, .ref sa])), (ce, eI G 418 (if thTim sk x = 0 then (if thTim2 fc (29 + n) x = 0 then cpy11 (tiC fc (29 + n) x) 36 (29 + n) else tiC fc (29 + n) x) else fc)), (gv, eZ G 30 fg), (dr, eI G 10 fd), (go, eI G 10 fo), (sa, eI G 10 fs)]) [0, 1, 2, 3, 4, 5] (by decide) (by simp only [if_pos hz, if_pos hz2]; rw [eT2]; rfl)
              exact W.vret hx hb hr (fun t ht hW => ⟨rfl, by rw [ht]; exact hP9, hD9, hS.F ht⟩) hS.2.2 dX2_times_96
            · have hz2 : ¬ thTim2 fc (29 + n) x = 0 := by rw [eT2]; exact cnt1 c_82
              have hP9 := hP.sub (ws' := [(mo, .inr (2, [.int (if thTim sk x = 0 then thTim2 fc (29 + n) x else thTim sk x), .ref ce, .ref gv, .int st, .int sk, .ref dr, .ref go, .int tk, .int be, .int so, .int le, .int an, .ref sa])), (ce, eI G 418 (if thTim sk x = 0 then (if thTim2 fc (29 + n) x = 0 then cpy11 (tiC fc (29 + n) x) 36 (29 + n) else tiC fc (29 + n) x) else fc)), (gv, eZ G 30 fg), (dr, eI G 10 fd), (go, eI G 10 fo), (sa, eI G 10 fs)]) [0, 1, 2, 3, 4, 5] (by simp only [if_pos hz, if_neg hz2]; rw [eT2]; rfl)
              have hD9 := hD.sub (ws' := [(mo, .inr (2, [.int (if thTim sk x = 0 then thTim2 fc (29 + n) x else thTim sk x), .ref ce, .ref gv, .int st, .int sk, .ref dr, .ref go, .int tk, .int be, .int so, .int le, .int an, .ref sa])), (ce, eI G 418 (if thTim sk x = 0 then (if thTim2 fc (29 + n) x = 0 then cpy11 (tiC fc (29 + n) x) 36 (29 + n) else tiC fc (29 + n) x) else fc)), (gv, eZ G 30 fg), (dr, eI G 10 fd), (go, eI G 10 fo), (sa, eI G 10 fs)]) [0, 1, 2, 3, 4, 5] (by decide) (by simp only [if_pos hz, if_neg hz2]; rw [eT2]; rfl)
              exact W.vret hx hb hr (fun t ht hW => ⟨rfl, by rw [ht]; exact hP9, hD9, hS.F ht⟩) hS.2.2 dX2_times_85
          · have hlt : i < 11 := lt_ix ei (by decide) (by decide) c_35 hi_32
            refine lv_aload_n hx hb dX2_times_38 rfl (lv_at hl 0 rfl) ?_
            refine va_get (D := G.1) (ci := 2) (v := .ref ce) (C := RX2) (T := TX2) (N := 13) hx hb hts hinX2 hown hK.1 hP 0 rfl rfl 1 (by decide) hw1 (fun _ h9 => h9) rfl dX2_times_39 ?_
            refine lv_sipush (v := 396) hx hb dX2_times_42 (by decide) ?_
            refine lv_iload_n hx hb dX2_times_45 rfl (lv_at hl 2 rfl) ?_
            refine lv_iadd hx hb dX2_times_46 ?_
            refine lv_iload_n hx hb dX2_times_47 rfl (lv_at hl 1 rfl) ?_
            refine lv_aload_n hx hb dX2_times_48 rfl (lv_at hl 0 rfl) ?_
            refine va_get (D := G.1) (ci := 2) (v := .ref ce) (C := RX2) (T := TX2) (N := 13) hx hb hts hinX2 hown hK.1 hP 0 rfl rfl 1 (by decide) hw1 (fun _ h9 => h9) rfl dX2_times_49 ?_
            refine lv_bipush (v := 11) hx hb dX2_times_52 (by decide) ?_
            refine lv_aload_n hx hb dX2_times_54 rfl (lv_at hl 0 rfl) ?_
            refine ro_call (va_runV (As := []) (rest := [.int 11, .ref ce, .int x, .int (396 + xi), .ref ce]) ⟨hx, hb, hml, hown, hts⟩ (c_X2_upper l G mo ce gv dr go sa (flI x1 (outI x 1 1000) 0) st sk tk be so le an (seg 396 i (fun v => x * fc (11 * (29 + n) + v)) fc) fg fd fo fs) (cwV 0 hts gX2_times_X2_upper rfl rfl rfl (by decide +kernel) ⟨Nat.le_of_ble_eq_true rfl, Nat.le_of_ble_eq_true rfl⟩) ⟨ro_blind, va_recv hK.1 hP (ci := 2) (q0 := 0) rfl rfl, ro_pre _ (hP.sub [0, 1, 2, 3, 4, 5] rfl) hK⟩ rfl rfl hl.1 rfl (lv_room (Nat.le_of_ble_eq_true rfl)) dX2_times_55 ⟨Nat.le_refl _, Nat.le_refl _⟩) ?_
            refine lv_imul hx hb dX2_times_58 ?_
            refine lv_iload_n hx hb dX2_times_59 rfl (lv_at hl 2 rfl) ?_
            refine lv_iadd hx hb dX2_times_60 ?_
            refine ra_iald (f := (seg 396 i (fun v => x * fc (11 * (29 + n) + v)) fc)) (v := ((11 * (29 + n)) + i)) hx hb hK.1 hP 1 0 rfl rfl (na_add (na_mul (by decide) (na_up esk (by omega))) ei) (by omega) (by decide) dX2_times_61 ?_
            refine lv_topi (fun za e0za => ?_)
            have eza : za = fc (11 * (29 + n) + i) := e0za.trans (seg_out _ _ (by omega))
            refine lv_imul hx hb dX2_times_62 ?_
            refine ra_iast (v := (396 + i)) hx hb hK.1 hP hD hS 1 0 rfl rfl (na_add (by decide) ei) (by omega) (by decide) dX2_times_63 (fun H locs hP hD hS => ?_)
            have hP : va_P G.1 vwCl [(mo, .inr (2, [.int (flI x1 (outI x 1 1000) 0), .ref ce, .ref gv, .int st, .int sk, .ref dr, .ref go, .int tk, .int be, .int so, .int le, .int an, .ref sa])), (ce, eI G 418 (upd (seg 396 i (fun v => x * fc (11 * (29 + n) + v)) fc) (396 + i) (x * za))), (gv, eZ G 30 fg), (dr, eI G 10 fd), (go, eI G 10 fo), (sa, eI G 10 fs)] H := hP
            have hD : va_D A [(mo, .inr (2, [.int (flI x1 (outI x 1 1000) 0), .ref ce, .ref gv, .int st, .int sk, .ref dr, .ref go, .int tk, .int be, .int so, .int le, .int an, .ref sa])), (ce, eI G 418 (upd (seg 396 i (fun v => x * fc (11 * (29 + n) + v)) fc) (396 + i) (x * za))), (gv, eZ G 30 fg), (dr, eI G 10 fd), (go, eI G 10 fo), (sa, eI G 10 fs)] := hD
            have eA63 : upd (seg 396 i (fun v => x * fc (11 * (29 + n) + v)) fc) (396 + i) (x * za) = seg 396 (i + 1) (fun v => x * fc (11 * (29 + n) + v)) fc := by rw [eza]; exact seg_s 396 i (fun v => x * fc (11 * (29 + n) + v)) fc
            rw [eA63] at hP hD
            refine lv_iinc (v := xi + 1) (lv' := [(2, .int (xi + 1)), (0, .ref mo), (1, .int x)]) hx hb dX2_times_64 hl (k := 2) rfl rfl (by decide) rfl (fun ls hl => ?_)
            refine lv_goto (tgt := 32) hx hb dX2_times_67 (by decide) ?_
            exact ih_32 (i + 1) _ (by omega) (by omega) (by rw [ei]; exact nI_1 i) _ _ (hP.sub [0, 1, 2, 3, 4, 5] rfl) (hD.sub [0, 1, 2, 3, 4, 5] (by decide) rfl) hS ls (lv_sub hl [1, 2, 0] rfl)
      rw [show fc = seg 396 0 (fun v => x * fc (11 * (29 + n) + v)) fc from (seg_0 396 (fun v => x * fc (11 * (29 + n) + v)) fc).symm] at hP hD
      exact loop_32 (11 + 1) 0 _ (Nat.zero_le _) (by omega) (by exact nI_0.symm) _ _ (hP.sub [0, 1, 2, 3, 4, 5] rfl) (hD.sub [0, 1, 2, 3, 4, 5] (by decide) rfl) hS ls (lv_sub hl [1, 2, 0] rfl)
    · have hz : ¬ thTim sk x = 0 := by rw [eT]; exact cnt1 c_26
      have hP9 := hP.sub (ws' := [(mo, .inr (2, [.int (if thTim sk x = 0 then thTim2 fc (29 + n) x else thTim sk x), .ref ce, .ref gv, .int st, .int sk, .ref dr, .ref go, .int tk, .int be, .int so, .int le, .int an, .ref sa])), (ce, eI G 418 (if thTim sk x = 0 then (if thTim2 fc (29 + n) x = 0 then cpy11 (tiC fc (29 + n) x) 36 (29 + n) else tiC fc (29 + n) x) else fc)), (gv, eZ G 30 fg), (dr, eI G 10 fd), (go, eI G 10 fo), (sa, eI G 10 fs)]) [0, 1, 2, 3, 4, 5] (by simp only [if_neg hz]; rw [eT]; rfl)
      have hD9 := hD.sub (ws' := [(mo, .inr (2, [.int (if thTim sk x = 0 then thTim2 fc (29 + n) x else thTim sk x), .ref ce, .ref gv, .int st, .int sk, .ref dr, .ref go, .int tk, .int be, .int so, .int le, .int an, .ref sa])), (ce, eI G 418 (if thTim sk x = 0 then (if thTim2 fc (29 + n) x = 0 then cpy11 (tiC fc (29 + n) x) 36 (29 + n) else tiC fc (29 + n) x) else fc)), (gv, eZ G 30 fg), (dr, eI G 10 fd), (go, eI G 10 fo), (sa, eI G 10 fs)]) [0, 1, 2, 3, 4, 5] (by decide) (by simp only [if_neg hz]; rw [eT]; rfl)
      exact W.vret hx hb hr (fun t ht hW => ⟨rfl, by rw [ht]; exact hP9, hD9, hS.F ht⟩) hS.2.2 dX2_times_29
  refine lv_aload_n hx hb dX2_times_1 rfl (lv_at hl 0 rfl) ?_
  refine va_get (D := G.1) (ci := 2) (v := .int sk) (C := RX2) (T := TX2) (N := 13) hx hb hts hinX2 hown hK.1 hP 0 rfl rfl 4 (by decide) hw2 (fun _ h9 => h9) rfl dX2_times_2 ?_
  refine lv_iconst (v := 1) hx hb dX2_times_5 (by decide) ?_
  refine lv_icmp_ge (tgt := 13) hx hb dX2_times_6 (by decide) (fun c_6 => ?_) (fun c_6 => ?_)
  · refine lv_iconst (v := 0) hx hb dX2_times_13 (by decide) ?_
    exact join_14 _ (by unfold ltI; rw [if_neg (Int32.not_lt.mpr c_6)]) _ _ (hP.sub [0, 1, 2, 3, 4, 5] rfl) (hD.sub [0, 1, 2, 3, 4, 5] (by decide) rfl) hS ls (lv_sub hl [0, 1] rfl)
  · refine lv_iconst (v := 1) hx hb dX2_times_9 (by decide) ?_
    refine lv_goto (tgt := 14) hx hb dX2_times_10 (by decide) ?_
    exact join_14 _ (by unfold ltI; rw [if_pos (Int32.not_le.mp c_6)]) _ _ (hP.sub [0, 1, 2, 3, 4, 5] rfl) (hD.sub [0, 1, 2, 3, 4, 5] (by decide) rfl) hS ls (lv_sub hl [0, 1] rfl)

abbrev rmX2_divide : Room := { frames := 1, cells := 0, slots := 0, locals := 23 }
set_option maxHeartbeats 4000000 in
set_option maxRecDepth 100000 in
theorem c_X2_divide (l : Launch) (G : Gt) (sz : Nat) (mo ce gv dr go sa : Nat) (th st sk tk be so le an : Int32) (fc fg fd fo fs : Nat → Int32) (x : Int32) (n : Nat) (esk : sk = nI n) (hn6 : n ≤ 6) : Met l yX2_divide wsX2_divide rmX2_divide (mu_P G sz [.ref mo, .int x] [(mo, .inr (2, [.int th, .ref ce, .ref gv, .int st, .int sk, .ref dr, .ref go, .int tk, .int be, .int so, .int le, .int an, .ref sa])), (ce, eI G 418 fc), (gv, eZ G 30 fg), (dr, eI G 10 fd), (go, eI G 10 fo), (sa, eI G 10 fs)]) (mu_Q G none [(mo, .inr (2, [.int (thDiv sk x), .ref ce, .ref gv, .int st, .int sk, .ref dr, .ref go, .int tk, .int be, .int so, .int le, .int an, .ref sa])), (ce, eI G 418 (if thDiv sk x = 0 then dvC fc (29 + n) x else fc)), (gv, eZ G 30 fg), (dr, eI G 10 fd), (go, eI G 10 fo), (sa, eI G 10 fs)] (va_A [(mo, .inr (2, [.int th, .ref ce, .ref gv, .int st, .int sk, .ref dr, .ref go, .int tk, .int be, .int so, .int le, .int an, .ref sa])), (ce, eI G 418 fc), (gv, eZ G 30 fg), (dr, eI G 10 fd), (go, eI G 10 fo), (sa, eI G 10 fs)] sz)) 0 0 (va_A [(mo, .inr (2, [.int th, .ref ce, .ref gv, .int st, .int sk, .ref dr, .ref go, .int tk, .int be, .int so, .int le, .int an, .ref sa])), (ce, eI G 418 fc), (gv, eZ G 30 fg), (dr, eI G 10 fd), (go, eI G 10 fo), (sa, eI G 10 fs)] sz) := by
  refine Met.ofW (cc := cX2_divide) (maxL := 4) (ret := none) (by decide) rfl ?_
  intro p e s m args below meth c s₁ B hml hv
  obtain ⟨rfl, hsz, hP, hD0, hK⟩ := hv
  have hx := B.exec
  have hb := B.bytes
  have hr := B.returns
  have hts := atoms_spec (ws := wsX2_divide) B.pre
  have hown : s.vm.findClass RX2 = some m.cls := findClass_of_methodNamed B.named
  have hlocks := B.notSynchronized
  subst hsz
  have hD := hD0.self (sz := s.heap.size)
  generalize hAe : va_A [(mo, .inr (2, [.int th, .ref ce, .ref gv, .int st, .int sk, .ref dr, .ref go, .int tk, .int be, .int so, .int le, .int an, .ref sa])), (ce, eI G 418 fc), (gv, eZ G 30 fg), (dr, eI G 10 fd), (go, eI G 10 fo), (sa, eI G 10 fs)] s.heap.size = A at hD ⊢
  have hA : ∀ q : Nat, s.heap.size ≤ q → A q := fun q h => by rw [← hAe]; exact Or.inr h
  have hS : va_S A s.heap s.heap [] := va_S.rf
  have hinX2 : ∀ w ∈ u_ws RX2 TX2 13, w ∈ wsX2_divide := fun w h => List.mem_cons_of_mem _ (List.mem_append_right _ h)
  have hw0 := hts (.constant RX2 81 (1000000)) (by decide +kernel)
  have hw2 := hts (.fieldLink RX2 7 "ChoiceBoardModel" "cell" "[I") (by decide +kernel)
  have hw3 := hts (.fieldLink RX2 74 "ChoiceBoardModel" "stacked" "I") (by decide +kernel)
  have hl := lv_entry ([.ref mo, .int x]) (n := 4) (Nat.le_of_ble_eq_true rfl)
  rw [lg_entry_eq]
  generalize (lg_sl ([.ref mo, .int x]) ++ List.replicate (4 - (lg_sl ([.ref mo, .int x])).length) Slot.unset).toArray = ls at hl ⊢
  have hl : lv_has ls 4 [(0, .ref mo), (1, .int x)] := hl
  refine lv_aload_n hx hb dX2_divide_0 rfl (lv_at hl 0 rfl) ?_
  have join_14 : ∀ (x1 : Int32), (x1 = ltI sk 1) → ∀ (H : Heap) (locs : List Loc), va_P G.1 vwCl [(mo, .inr (2, [.int th, .ref ce, .ref gv, .int st, .int sk, .ref dr, .ref go, .int tk, .int be, .int so, .int le, .int an, .ref sa])), (ce, eI G 418 fc), (gv, eZ G 30 fg), (dr, eI G 10 fd), (go, eI G 10 fo), (sa, eI G 10 fs)] H → va_D A [(mo, .inr (2, [.int th, .ref ce, .ref gv, .int st, .int sk, .ref dr, .ref go, .int tk, .int be, .int so, .int le, .int an, .ref sa])), (ce, eI G 418 fc), (gv, eZ G 30 fg), (dr, eI G 10 fd), (go, eI G 10 fo), (sa, eI G 10 fs)] → va_S A s.heap H locs → ∀ ls : Array Slot, lv_has ls 4 [(0, .ref mo), (1, .int x)] → W p l e rmX2_divide s m [.ref mo, .int x].toArray below meth c H locs 0 0 (MQ below (mu_Q G none [(mo, .inr (2, [.int (thDiv sk x), .ref ce, .ref gv, .int st, .int sk, .ref dr, .ref go, .int tk, .int be, .int so, .int le, .int an, .ref sa])), (ce, eI G 418 (if thDiv sk x = 0 then dvC fc (29 + n) x else fc)), (gv, eZ G 30 fg), (dr, eI G 10 fd), (go, eI G 10 fo), (sa, eI G 10 fs)] A) [.ref mo, .int x].toArray s 0 0 A) (F0 m 14 ls [.int x1, .ref mo]) := by
    intro x1 ex1 H locs hP hD hS ls hl
    refine lv_iload_n hx hb dX2_divide_14 rfl (lv_at hl 1 rfl) ?_
    refine lv_iconst (v := 1) hx hb dX2_divide_15 (by decide) ?_
    refine lv_ldc (v := 1000000) hx hb hown hw0 dX2_divide_16 ?_
    refine ro_call (va_runS (As := [.int x, .int 1, .int 1000000]) (rest := [.int x1, .ref mo]) ⟨hx, hb, hml, hown, hts⟩ (c_X2_outside l G x 1 1000000) (va_cwS 3 hts gX2_divide_X2_outside rfl rfl rfl (by decide +kernel) ⟨Nat.le_of_ble_eq_true rfl, Nat.le_of_ble_eq_true rfl⟩) ⟨ro_blind, ro_pre _ (hP.sub [] rfl) hK⟩ rfl rfl hl.1 rfl (lv_room (Nat.le_of_ble_eq_true rfl)) dX2_divide_18 ⟨Nat.le_refl _, Nat.le_refl _⟩) ?_
    refine lv_iconst (v := 0) hx hb dX2_divide_21 (by decide) ?_
    have eT : thDiv sk x = flI x1 (outI x 1 1000000) 0 := by unfold thDiv; rw [← ex1]
    refine mu_call (va_runV (As := [.int x1, .int (outI x 1 1000000), .int 0]) (rest := []) ⟨hx, hb, hml, hown, hts⟩ (c_X2_fails l G _ mo ce gv dr go sa th st sk tk be so le an fc fg fd fo fs x1 (outI x 1 1000000) 0) (cwV 3 hts gX2_divide_X2_fails rfl rfl rfl (by decide +kernel) ⟨Nat.le_of_ble_eq_true rfl, Nat.le_of_ble_eq_true rfl⟩) ⟨mu_blind, va_recv hK.1 hP (ci := 2) (q0 := 0) rfl rfl, mu_pre _ (hP.sub [0, 1, 2, 3, 4, 5] rfl) (hD.sub [0, 1, 2, 3, 4, 5] (by decide) rfl) hK⟩ rfl rfl hl.1 rfl (lv_room (Nat.le_of_ble_eq_true rfl)) dX2_divide_22 ⟨Nat.le_refl _, Nat.le_refl _⟩) hS (va_free hD hS hA [0, 1, 2, 3, 4, 5] rfl) (va_free hD hS hA [0, 1, 2, 3, 4, 5] rfl) (fun H1 locs hP1 hD1 hk1 hS => ?_)
    obtain ⟨hP, hD⟩ := rp_join (ws' := [(mo, .inr (2, [.int (flI x1 (outI x 1 1000000) 0), .ref ce, .ref gv, .int st, .int sk, .ref dr, .ref go, .int tk, .int be, .int so, .int le, .int an, .ref sa])), (ce, eI G 418 fc), (gv, eZ G 30 fg), (dr, eI G 10 fd), (go, eI G 10 fo), (sa, eI G 10 fs)]) hP hD [0, 1, 2, 3, 4, 5] rfl hk1 hP1 (fun k q h => match k, q, h with | 0, q, h => Or.inl ⟨0, h⟩ | 1, q, h => Or.inl ⟨1, h⟩ | 2, q, h => Or.inl ⟨2, h⟩ | 3, q, h => Or.inl ⟨3, h⟩ | 4, q, h => Or.inl ⟨4, h⟩ | 5, q, h => Or.inl ⟨5, h⟩ | k + 6, q, h => nomatch h) rfl
    generalize H1 = H at hP hS ⊢
    have hP : va_P G.1 vwCl [(mo, .inr (2, [.int (flI x1 (outI x 1 1000000) 0), .ref ce, .ref gv, .int st, .int sk, .ref dr, .ref go, .int tk, .int be, .int so, .int le, .int an, .ref sa])), (ce, eI G 418 fc), (gv, eZ G 30 fg), (dr, eI G 10 fd), (go, eI G 10 fo), (sa, eI G 10 fs)] H := hP
    have hD : va_D A [(mo, .inr (2, [.int (flI x1 (outI x 1 1000000) 0), .ref ce, .ref gv, .int st, .int sk, .ref dr, .ref go, .int tk, .int be, .int so, .int le, .int an, .ref sa])), (ce, eI G 418 fc), (gv, eZ G 30 fg), (dr, eI G 10 fd), (go, eI G 10 fo), (sa, eI G 10 fs)] := hD
    refine lv_if_eq (tgt := 29) hx hb dX2_divide_25 (by decide) (fun c_25 => ?_) (fun c_25 => ?_)
    · have hz : thDiv sk x = 0 := by rw [eT]; exact cnt0 c_25
      have hn1 : 1 ≤ n := ge_n esk (show (1 : Int32) = nI 1 from rfl) (by omega) (by decide) (ltI0 (fl0 hz).1)
      have hx0 : ¬ x = 0 := outP (fl0 hz).2.1
      refine lv_iconst (v := 0) hx hb dX2_divide_29 (by decide) ?_
      refine lv_istore_n (lv' := [(2, .int 0), (0, .ref mo), (1, .int x)]) hx hb dX2_divide_30 rfl hl (by decide) rfl (fun ls hl => ?_)
      have loop_31 : ∀ (n_31 i : Nat) (xi : Int32), i ≤ 11 → 11 + 1 ≤ i + n_31 → (xi = nI i) → ∀ (H : Heap) (locs : List Loc), va_P G.1 vwCl [(mo, .inr (2, [.int (flI x1 (outI x 1 1000000) 0), .ref ce, .ref gv, .int st, .int sk, .ref dr, .ref go, .int tk, .int be, .int so, .int le, .int an, .ref sa])), (ce, eI G 418 (seg (11 * (29 + n)) i (fun v => dvI (fc (11 * (29 + n) + v)) x) fc)), (gv, eZ G 30 fg), (dr, eI G 10 fd), (go, eI G 10 fo), (sa, eI G 10 fs)] H → va_D A [(mo, .inr (2, [.int (flI x1 (outI x 1 1000000) 0), .ref ce, .ref gv, .int st, .int sk, .ref dr, .ref go, .int tk, .int be, .int so, .int le, .int an, .ref sa])), (ce, eI G 418 (seg (11 * (29 + n)) i (fun v => dvI (fc (11 * (29 + n) + v)) x) fc)), (gv, eZ G 30 fg), (dr, eI G 10 fd), (go, eI G 10 fo), (sa, eI G 10 fs)] → va_S A s.heap H locs → ∀ ls : Array Slot, lv_has ls 4 [(0, .ref mo), (1, .int x), (2, .int xi)] → W p l e rmX2_divide s m [.ref mo, .int x].toArray below meth c H locs 0 0 (MQ below (mu_Q G none [(mo, .inr (2, [.int (thDiv sk x), .ref ce, .ref gv, .int st, .int sk, .ref dr, .ref go, .int tk, .int be, .int so, .int le, .int an, .ref sa])), (ce, eI G 418 (if thDiv sk x = 0 then dvC fc (29 + n) x else fc)), (gv, eZ G 30 fg), (dr, eI G 10 fd), (go, eI G 10 fo), (sa, eI G 10 fs)] A) [.ref mo, .int x].toArray s 0 0 A) (F0 m 31 ls []) := by
        intro n_31
        induction n_31 with
        | zero => intro i xi h1 h2; exact absurd h2 (by omega)
        | succ n_31 ih_31 =>
          intro i xi hi_31 hn_31 ei H locs hP hD hS ls hl
          refine lv_iload_n hx hb dX2_divide_31 rfl (lv_at hl 2 rfl) ?_
          refine lv_bipush (v := 11) hx hb dX2_divide_32 (by decide) ?_
          refine lv_icmp_ge (tgt := 91) hx hb dX2_divide_34 (by decide) (fun c_34 => ?_) (fun c_34 => ?_)
          · have hN : i = 11 := ge_ix ei (by decide) (by decide) c_34 hi_31
            rw [hN] at hP hD
            have hP9 := hP.sub (ws' := [(mo, .inr (2, [.int (thDiv sk x), .ref ce, .ref gv, .int st, .int sk, .ref dr, .ref go, .int tk, .int be, .int so, .int le, .int an, .ref sa])), (ce, eI G 418 (if thDiv sk x = 0 then dvC fc (29 + n) x else fc)), (gv, eZ G 30 fg), (dr, eI G 10 fd), (go, eI G 10 fo), (sa, eI G 10 fs)]) [0, 1, 2, 3, 4, 5] (by simp only [if_pos hz]; rw [eT]; rfl)
            have hD9 := hD.sub (ws' := [(mo, .inr (2, [.int (thDiv sk x), .ref ce, .ref gv, .int st, .int sk, .ref dr, .ref go, .int tk, .int be, .int so, .int le, .int an, .ref sa])), (ce, eI G 418 (if thDiv sk x = 0 then dvC fc (29 + n) x else fc)), (gv, eZ G 30 fg), (dr, eI G 10 fd), (go, eI G 10 fo), (sa, eI G 10 fs)]) [0, 1, 2, 3, 4, 5] (by decide) (by simp only [if_pos hz]; rw [eT]; rfl)
            exact W.vret hx hb hr (fun t ht hW => ⟨rfl, by rw [ht]; exact hP9, hD9, hS.F ht⟩) hS.2.2 dX2_divide_91
          · have hlt : i < 11 := lt_ix ei (by decide) (by decide) c_34 hi_31
            refine lv_aload_n hx hb dX2_divide_37 rfl (lv_at hl 0 rfl) ?_
            refine va_get (D := G.1) (ci := 2) (v := .ref ce) (C := RX2) (T := TX2) (N := 13) hx hb hts hinX2 hown hK.1 hP 0 rfl rfl 1 (by decide) hw2 (fun _ h9 => h9) rfl dX2_divide_38 ?_
            refine lv_bipush (v := 11) hx hb dX2_divide_41 (by decide) ?_
            refine lv_aload_n hx hb dX2_divide_43 rfl (lv_at hl 0 rfl) ?_
            refine ro_call (va_runV (As := []) (rest := [.int 11, .ref ce]) ⟨hx, hb, hml, hown, hts⟩ (c_X2_upper l G mo ce gv dr go sa (flI x1 (outI x 1 1000000) 0) st sk tk be so le an (seg (11 * (29 + n)) i (fun v => dvI (fc (11 * (29 + n) + v)) x) fc) fg fd fo fs) (cwV 0 hts gX2_divide_X2_upper rfl rfl rfl (by decide +kernel) ⟨Nat.le_of_ble_eq_true rfl, Nat.le_of_ble_eq_true rfl⟩) ⟨ro_blind, va_recv hK.1 hP (ci := 2) (q0 := 0) rfl rfl, ro_pre _ (hP.sub [0, 1, 2, 3, 4, 5] rfl) hK⟩ rfl rfl hl.1 rfl (lv_room (Nat.le_of_ble_eq_true rfl)) dX2_divide_44 ⟨Nat.le_refl _, Nat.le_refl _⟩) ?_
            refine lv_imul hx hb dX2_divide_47 ?_
            refine lv_iload_n hx hb dX2_divide_48 rfl (lv_at hl 2 rfl) ?_
            refine lv_iadd hx hb dX2_divide_49 ?_
            refine ra_iald (f := (seg (11 * (29 + n)) i (fun v => dvI (fc (11 * (29 + n) + v)) x) fc)) (v := ((11 * (29 + n)) + i)) hx hb hK.1 hP 1 0 rfl rfl (na_add (na_mul (by decide) (na_up esk (by omega))) ei) (by omega) (by decide) dX2_divide_50 ?_
            refine lv_topi (fun za e0za => ?_)
            have eza : za = fc (11 * (29 + n) + i) := e0za.trans (seg_out _ _ (by omega))
            refine lv_istore_n (lv' := [(3, .int za), (0, .ref mo), (1, .int x), (2, .int xi)]) hx hb dX2_divide_51 rfl hl (by decide) rfl (fun ls hl => ?_)
            refine lv_aload_n hx hb dX2_divide_52 rfl (lv_at hl 1 rfl) ?_
            refine va_get (D := G.1) (ci := 2) (v := .ref ce) (C := RX2) (T := TX2) (N := 13) hx hb hts hinX2 hown hK.1 hP 0 rfl rfl 1 (by decide) hw2 (fun _ h9 => h9) rfl dX2_divide_53 ?_
            refine lv_bipush (v := 11) hx hb dX2_divide_56 (by decide) ?_
            refine lv_aload_n hx hb dX2_divide_58 rfl (lv_at hl 1 rfl) ?_
            refine ro_call (va_runV (As := []) (rest := [.int 11, .ref ce]) ⟨hx, hb, hml, hown, hts⟩ (c_X2_upper l G mo ce gv dr go sa (flI x1 (outI x 1 1000000) 0) st sk tk be so le an (seg (11 * (29 + n)) i (fun v => dvI (fc (11 * (29 + n) + v)) x) fc) fg fd fo fs) (cwV 0 hts gX2_divide_X2_upper rfl rfl rfl (by decide +kernel) ⟨Nat.le_of_ble_eq_true rfl, Nat.le_of_ble_eq_true rfl⟩) ⟨ro_blind, va_recv hK.1 hP (ci := 2) (q0 := 0) rfl rfl, ro_pre _ (hP.sub [0, 1, 2, 3, 4, 5] rfl) hK⟩ rfl rfl hl.1 rfl (lv_room (Nat.le_of_ble_eq_true rfl)) dX2_divide_59 ⟨Nat.le_refl _, Nat.le_refl _⟩) ?_
            refine lv_imul hx hb dX2_divide_62 ?_
            refine lv_iload_n hx hb dX2_divide_63 rfl (lv_at hl 3 rfl) ?_
            refine lv_iadd hx hb dX2_divide_64 ?_
            refine lv_iload_n hx hb dX2_divide_65 rfl (lv_at hl 0 rfl) ?_
            refine lv_if_ge (tgt := 79) hx hb dX2_divide_66 (by decide) (fun c_66 => ?_) (fun c_66 => ?_)
            · refine lv_iload_n hx hb dX2_divide_79 rfl (lv_at hl 0 rfl) ?_
              refine lv_iload_n hx hb dX2_divide_80 rfl (lv_at hl 2 rfl) ?_
              refine ro_call (va_runS (As := [.int za, .int x]) (rest := [.int ((11 * (30 + sk - 1)) + xi), .ref ce]) ⟨hx, hb, hml, hown, hts⟩ (c_X2_part l G za x hx0) (va_cwS 2 hts gX2_divide_X2_part rfl rfl rfl (by decide +kernel) ⟨Nat.le_of_ble_eq_true rfl, Nat.le_of_ble_eq_true rfl⟩) ⟨ro_blind, ro_pre _ (hP.sub [] rfl) hK⟩ rfl rfl hl.1 rfl (lv_room (Nat.le_of_ble_eq_true rfl)) dX2_divide_81 ⟨Nat.le_refl _, Nat.le_refl _⟩) ?_
              refine ra_iast (v := ((11 * (29 + n)) + i)) hx hb hK.1 hP hD hS 1 0 rfl rfl (na_add (na_mul (by decide) (na_up esk (by omega))) ei) (by omega) (by decide) dX2_divide_84 (fun H locs hP hD hS => ?_)
              have hP : va_P G.1 vwCl [(mo, .inr (2, [.int (flI x1 (outI x 1 1000000) 0), .ref ce, .ref gv, .int st, .int sk, .ref dr, .ref go, .int tk, .int be, .int so, .int le, .int an, .ref sa])), (ce, eI G 418 (upd (seg (11 * (29 + n)) i (fun v => dvI (fc (11 * (29 + n) + v)) x) fc) ((11 * (29 + n)) + i) (ptI za x))), (gv, eZ G 30 fg), (dr, eI G 10 fd), (go, eI G 10 fo), (sa, eI G 10 fs)] H := hP
              have hD : va_D A [(mo, .inr (2, [.int (flI x1 (outI x 1 1000000) 0), .ref ce, .ref gv, .int st, .int sk, .ref dr, .ref go, .int tk, .int be, .int so, .int le, .int an, .ref sa])), (ce, eI G 418 (upd (seg (11 * (29 + n)) i (fun v => dvI (fc (11 * (29 + n) + v)) x) fc) ((11 * (29 + n)) + i) (ptI za x))), (gv, eZ G 30 fg), (dr, eI G 10 fd), (go, eI G 10 fo), (sa, eI G 10 fs)] := hD
              have eA84 : upd (seg (11 * (29 + n)) i (fun v => dvI (fc (11 * (29 + n) + v)) x) fc) ((11 * (29 + n)) + i) (ptI za x) = seg (11 * (29 + n)) (i + 1) (fun v => dvI (fc (11 * (29 + n) + v)) x) fc := by rw [← seg_s]; congr 1; show _ = dvI (fc (11 * (29 + n) + i)) x; unfold dvI; rw [← eza, if_neg (Int32.not_lt.mpr c_66)]
              rw [eA84] at hP hD
              refine lv_iinc (v := xi + 1) (lv' := [(2, .int (xi + 1)), (3, .int za), (0, .ref mo), (1, .int x)]) hx hb dX2_divide_85 hl (k := 3) rfl rfl (by decide) rfl (fun ls hl => ?_)
              refine lv_goto (tgt := 31) hx hb dX2_divide_88 (by decide) ?_
              exact ih_31 (i + 1) _ (by omega) (by omega) (by rw [ei]; exact nI_1 i) _ _ (hP.sub [0, 1, 2, 3, 4, 5] rfl) (hD.sub [0, 1, 2, 3, 4, 5] (by decide) rfl) hS ls (lv_sub hl [2, 3, 0] rfl)
            · refine lv_iload_n hx hb dX2_divide_69 rfl (lv_at hl 0 rfl) ?_
              refine lv_ineg hx hb dX2_divide_70 ?_
              refine lv_iload_n hx hb dX2_divide_71 rfl (lv_at hl 2 rfl) ?_
              refine ro_call (va_runS (As := [.int (-za), .int x]) (rest := [.int ((11 * (30 + sk - 1)) + xi), .ref ce]) ⟨hx, hb, hml, hown, hts⟩ (c_X2_part l G (-za) x hx0) (va_cwS 2 hts gX2_divide_X2_part rfl rfl rfl (by decide +kernel) ⟨Nat.le_of_ble_eq_true rfl, Nat.le_of_ble_eq_true rfl⟩) ⟨ro_blind, ro_pre _ (hP.sub [] rfl) hK⟩ rfl rfl hl.1 rfl (lv_room (Nat.le_of_ble_eq_true rfl)) dX2_divide_72 ⟨Nat.le_refl _, Nat.le_refl _⟩) ?_
              refine lv_ineg hx hb dX2_divide_75 ?_
              refine lv_goto (tgt := 84) hx hb dX2_divide_76 (by decide) ?_
              refine ra_iast (v := ((11 * (29 + n)) + i)) hx hb hK.1 hP hD hS 1 0 rfl rfl (na_add (na_mul (by decide) (na_up esk (by omega))) ei) (by omega) (by decide) dX2_divide_84 (fun H locs hP hD hS => ?_)
              have hP : va_P G.1 vwCl [(mo, .inr (2, [.int (flI x1 (outI x 1 1000000) 0), .ref ce, .ref gv, .int st, .int sk, .ref dr, .ref go, .int tk, .int be, .int so, .int le, .int an, .ref sa])), (ce, eI G 418 (upd (seg (11 * (29 + n)) i (fun v => dvI (fc (11 * (29 + n) + v)) x) fc) ((11 * (29 + n)) + i) (-(ptI (-za) x)))), (gv, eZ G 30 fg), (dr, eI G 10 fd), (go, eI G 10 fo), (sa, eI G 10 fs)] H := hP
              have hD : va_D A [(mo, .inr (2, [.int (flI x1 (outI x 1 1000000) 0), .ref ce, .ref gv, .int st, .int sk, .ref dr, .ref go, .int tk, .int be, .int so, .int le, .int an, .ref sa])), (ce, eI G 418 (upd (seg (11 * (29 + n)) i (fun v => dvI (fc (11 * (29 + n) + v)) x) fc) ((11 * (29 + n)) + i) (-(ptI (-za) x)))), (gv, eZ G 30 fg), (dr, eI G 10 fd), (go, eI G 10 fo), (sa, eI G 10 fs)] := hD
              have eA84 : upd (seg (11 * (29 + n)) i (fun v => dvI (fc (11 * (29 + n) + v)) x) fc) ((11 * (29 + n)) + i) (-(ptI (-za) x)) = seg (11 * (29 + n)) (i + 1) (fun v => dvI (fc (11 * (29 + n) + v)) x) fc := by rw [← seg_s]; congr 1; show _ = dvI (fc (11 * (29 + n) + i)) x; unfold dvI; rw [← eza, if_pos (Int32.not_le.mp c_66)]
              rw [eA84] at hP hD
              refine lv_iinc (v := xi + 1) (lv' := [(2, .int (xi + 1)), (3, .int za), (0, .ref mo), (1, .int x)]) hx hb dX2_divide_85 hl (k := 3) rfl rfl (by decide) rfl (fun ls hl => ?_)
              refine lv_goto (tgt := 31) hx hb dX2_divide_88 (by decide) ?_
              exact ih_31 (i + 1) _ (by omega) (by omega) (by rw [ei]; exact nI_1 i) _ _ (hP.sub [0, 1, 2, 3, 4, 5] rfl) (hD.sub [0, 1, 2, 3, 4, 5] (by decide) rfl) hS ls (lv_sub hl [2, 3, 0] rfl)
      rw [show fc = seg (11 * (29 + n)) 0 (fun v => dvI (fc (11 * (29 + n) + v)) x) fc from (seg_0 (11 * (29 + n)) (fun v => dvI (fc (11 * (29 + n) + v)) x) fc).symm] at hP hD
      exact loop_31 (11 + 1) 0 _ (Nat.zero_le _) (by omega) (by exact nI_0.symm) _ _ (hP.sub [0, 1, 2, 3, 4, 5] rfl) (hD.sub [0, 1, 2, 3, 4, 5] (by decide) rfl) hS ls (lv_sub hl [1, 2, 0] rfl)
    · have hz : ¬ thDiv sk x = 0 := by rw [eT]; exact cnt1 c_25
      have hP9 := hP.sub (ws' := [(mo, .inr (2, [.int (thDiv sk x), .ref ce, .ref gv, .int st, .int sk, .ref dr, .ref go, .int tk, .int be, .int so, .int le, .int an, .ref sa])), (ce, eI G 418 (if thDiv sk x = 0 then dvC fc (29 + n) x else fc)), (gv, eZ G 30 fg), (dr, eI G 10 fd), (go, eI G 10 fo), (sa, eI G 10 fs)]) [0, 1, 2, 3, 4, 5] (by simp only [if_neg hz]; rw [eT]; rfl)
      have hD9 := hD.sub (ws' := [(mo, .inr (2, [.int (thDiv sk x), .ref ce, .ref gv, .int st, .int sk, .ref dr, .ref go, .int tk, .int be, .int so, .int le, .int an, .ref sa])), (ce, eI G 418 (if thDiv sk x = 0 then dvC fc (29 + n) x else fc)), (gv, eZ G 30 fg), (dr, eI G 10 fd), (go, eI G 10 fo), (sa, eI G 10 fs)]) [0, 1, 2, 3, 4, 5] (by decide) (by simp only [if_neg hz]; rw [eT]; rfl)
      exact W.vret hx hb hr (fun t ht hW => ⟨rfl, by rw [ht]; exact hP9, hD9, hS.F ht⟩) hS.2.2 dX2_divide_28
  refine lv_aload_n hx hb dX2_divide_1 rfl (lv_at hl 0 rfl) ?_
  refine va_get (D := G.1) (ci := 2) (v := .int sk) (C := RX2) (T := TX2) (N := 13) hx hb hts hinX2 hown hK.1 hP 0 rfl rfl 4 (by decide) hw3 (fun _ h9 => h9) rfl dX2_divide_2 ?_
  refine lv_iconst (v := 1) hx hb dX2_divide_5 (by decide) ?_
  refine lv_icmp_ge (tgt := 13) hx hb dX2_divide_6 (by decide) (fun c_6 => ?_) (fun c_6 => ?_)
  · refine lv_iconst (v := 0) hx hb dX2_divide_13 (by decide) ?_
    exact join_14 _ (by unfold ltI; rw [if_neg (Int32.not_lt.mpr c_6)]) _ _ (hP.sub [0, 1, 2, 3, 4, 5] rfl) (hD.sub [0, 1, 2, 3, 4, 5] (by decide) rfl) hS ls (lv_sub hl [0, 1] rfl)
  · refine lv_iconst (v := 1) hx hb dX2_divide_9 (by decide) ?_
    refine lv_goto (tgt := 14) hx hb dX2_divide_10 (by decide) ?_
    exact join_14 _ (by unfold ltI; rw [if_pos (Int32.not_le.mp c_6)]) _ _ (hP.sub [0, 1, 2, 3, 4, 5] rfl) (hD.sub [0, 1, 2, 3, 4, 5] (by decide) rfl) hS ls (lv_sub hl [0, 1] rfl)

abbrev rmX2_saturate : Room := { frames := 1, cells := 0, slots := 0, locals := 23 }
set_option maxHeartbeats 4000000 in
set_option maxRecDepth 100000 in
theorem c_X2_saturate (l : Launch) (G : Gt) (sz : Nat) (mo ce gv dr go sa : Nat) (th st sk tk be so le an : Int32) (fc fg fd fo fs : Nat → Int32) (n : Nat) (esk : sk = nI n) (hn6 : n ≤ 6) : Met l yX2_saturate wsX2_saturate rmX2_saturate (mu_P G sz [.ref mo] [(mo, .inr (2, [.int th, .ref ce, .ref gv, .int st, .int sk, .ref dr, .ref go, .int tk, .int be, .int so, .int le, .int an, .ref sa])), (ce, eI G 418 fc), (gv, eZ G 30 fg), (dr, eI G 10 fd), (go, eI G 10 fo), (sa, eI G 10 fs)]) (mu_Q G none [(mo, .inr (2, [.int (thSat sk), .ref ce, .ref gv, .int st, .int sk, .ref dr, .ref go, .int tk, .int be, .int so, .int le, .int an, .ref sa])), (ce, eI G 418 (if thSat sk = 0 then saC fc (29 + n) else fc)), (gv, eZ G 30 fg), (dr, eI G 10 fd), (go, eI G 10 fo), (sa, eI G 10 fs)] (va_A [(mo, .inr (2, [.int th, .ref ce, .ref gv, .int st, .int sk, .ref dr, .ref go, .int tk, .int be, .int so, .int le, .int an, .ref sa])), (ce, eI G 418 fc), (gv, eZ G 30 fg), (dr, eI G 10 fd), (go, eI G 10 fo), (sa, eI G 10 fs)] sz)) 0 0 (va_A [(mo, .inr (2, [.int th, .ref ce, .ref gv, .int st, .int sk, .ref dr, .ref go, .int tk, .int be, .int so, .int le, .int an, .ref sa])), (ce, eI G 418 fc), (gv, eZ G 30 fg), (dr, eI G 10 fd), (go, eI G 10 fo), (sa, eI G 10 fs)] sz) := by
  refine Met.ofW (cc := cX2_saturate) (maxL := 4) (ret := none) (by decide) rfl ?_
  intro p e s m args below meth c s₁ B hml hv
  obtain ⟨rfl, hsz, hP, hD0, hK⟩ := hv
  have hx := B.exec
  have hb := B.bytes
  have hr := B.returns
  have hts := atoms_spec (ws := wsX2_saturate) B.pre
  have hown : s.vm.findClass RX2 = some m.cls := findClass_of_methodNamed B.named
  have hlocks := B.notSynchronized
  subst hsz
  have hD := hD0.self (sz := s.heap.size)
  generalize hAe : va_A [(mo, .inr (2, [.int th, .ref ce, .ref gv, .int st, .int sk, .ref dr, .ref go, .int tk, .int be, .int so, .int le, .int an, .ref sa])), (ce, eI G 418 fc), (gv, eZ G 30 fg), (dr, eI G 10 fd), (go, eI G 10 fo), (sa, eI G 10 fs)] s.heap.size = A at hD ⊢
  have hA : ∀ q : Nat, s.heap.size ≤ q → A q := fun q h => by rw [← hAe]; exact Or.inr h
  have hS : va_S A s.heap s.heap [] := va_S.rf
  have hinX2 : ∀ w ∈ u_ws RX2 TX2 13, w ∈ wsX2_saturate := fun w h => List.mem_cons_of_mem _ (List.mem_append_right _ h)
  have hw1 := hts (.fieldLink RX2 7 "ChoiceBoardModel" "cell" "[I") (by decide +kernel)
  have hw2 := hts (.fieldLink RX2 74 "ChoiceBoardModel" "stacked" "I") (by decide +kernel)
  have hl := lv_entry ([.ref mo]) (n := 4) (Nat.le_of_ble_eq_true rfl)
  rw [lg_entry_eq]
  generalize (lg_sl ([.ref mo]) ++ List.replicate (4 - (lg_sl ([.ref mo])).length) Slot.unset).toArray = ls at hl ⊢
  have hl : lv_has ls 4 [(0, .ref mo)] := hl
  refine lv_aload_n hx hb dX2_saturate_0 rfl (lv_at hl 0 rfl) ?_
  have join_14 : ∀ (x1 : Int32), (x1 = ltI sk 1) → ∀ (H : Heap) (locs : List Loc), va_P G.1 vwCl [(mo, .inr (2, [.int th, .ref ce, .ref gv, .int st, .int sk, .ref dr, .ref go, .int tk, .int be, .int so, .int le, .int an, .ref sa])), (ce, eI G 418 fc), (gv, eZ G 30 fg), (dr, eI G 10 fd), (go, eI G 10 fo), (sa, eI G 10 fs)] H → va_D A [(mo, .inr (2, [.int th, .ref ce, .ref gv, .int st, .int sk, .ref dr, .ref go, .int tk, .int be, .int so, .int le, .int an, .ref sa])), (ce, eI G 418 fc), (gv, eZ G 30 fg), (dr, eI G 10 fd), (go, eI G 10 fo), (sa, eI G 10 fs)] → va_S A s.heap H locs → ∀ ls : Array Slot, lv_has ls 4 [(0, .ref mo)] → W p l e rmX2_saturate s m [.ref mo].toArray below meth c H locs 0 0 (MQ below (mu_Q G none [(mo, .inr (2, [.int (thSat sk), .ref ce, .ref gv, .int st, .int sk, .ref dr, .ref go, .int tk, .int be, .int so, .int le, .int an, .ref sa])), (ce, eI G 418 (if thSat sk = 0 then saC fc (29 + n) else fc)), (gv, eZ G 30 fg), (dr, eI G 10 fd), (go, eI G 10 fo), (sa, eI G 10 fs)] A) [.ref mo].toArray s 0 0 A) (F0 m 14 ls [.int x1, .ref mo]) := by
    intro x1 ex1 H locs hP hD hS ls hl
    refine lv_iconst (v := 0) hx hb dX2_saturate_14 (by decide) ?_
    refine lv_iconst (v := 0) hx hb dX2_saturate_15 (by decide) ?_
    have eT : thSat sk = flI x1 0 0 := by unfold thSat; rw [← ex1]
    refine mu_call (va_runV (As := [.int x1, .int 0, .int 0]) (rest := []) ⟨hx, hb, hml, hown, hts⟩ (c_X2_fails l G _ mo ce gv dr go sa th st sk tk be so le an fc fg fd fo fs x1 0 0) (cwV 3 hts gX2_saturate_X2_fails rfl rfl rfl (by decide +kernel) ⟨Nat.le_of_ble_eq_true rfl, Nat.le_of_ble_eq_true rfl⟩) ⟨mu_blind, va_recv hK.1 hP (ci := 2) (q0 := 0) rfl rfl, mu_pre _ (hP.sub [0, 1, 2, 3, 4, 5] rfl) (hD.sub [0, 1, 2, 3, 4, 5] (by decide) rfl) hK⟩ rfl rfl hl.1 rfl (lv_room (Nat.le_of_ble_eq_true rfl)) dX2_saturate_16 ⟨Nat.le_refl _, Nat.le_refl _⟩) hS (va_free hD hS hA [0, 1, 2, 3, 4, 5] rfl) (va_free hD hS hA [0, 1, 2, 3, 4, 5] rfl) (fun H1 locs hP1 hD1 hk1 hS => ?_)
    obtain ⟨hP, hD⟩ := rp_join (ws' := [(mo, .inr (2, [.int (flI x1 0 0), .ref ce, .ref gv, .int st, .int sk, .ref dr, .ref go, .int tk, .int be, .int so, .int le, .int an, .ref sa])), (ce, eI G 418 fc), (gv, eZ G 30 fg), (dr, eI G 10 fd), (go, eI G 10 fo), (sa, eI G 10 fs)]) hP hD [0, 1, 2, 3, 4, 5] rfl hk1 hP1 (fun k q h => match k, q, h with | 0, q, h => Or.inl ⟨0, h⟩ | 1, q, h => Or.inl ⟨1, h⟩ | 2, q, h => Or.inl ⟨2, h⟩ | 3, q, h => Or.inl ⟨3, h⟩ | 4, q, h => Or.inl ⟨4, h⟩ | 5, q, h => Or.inl ⟨5, h⟩ | k + 6, q, h => nomatch h) rfl
    generalize H1 = H at hP hS ⊢
    have hP : va_P G.1 vwCl [(mo, .inr (2, [.int (flI x1 0 0), .ref ce, .ref gv, .int st, .int sk, .ref dr, .ref go, .int tk, .int be, .int so, .int le, .int an, .ref sa])), (ce, eI G 418 fc), (gv, eZ G 30 fg), (dr, eI G 10 fd), (go, eI G 10 fo), (sa, eI G 10 fs)] H := hP
    have hD : va_D A [(mo, .inr (2, [.int (flI x1 0 0), .ref ce, .ref gv, .int st, .int sk, .ref dr, .ref go, .int tk, .int be, .int so, .int le, .int an, .ref sa])), (ce, eI G 418 fc), (gv, eZ G 30 fg), (dr, eI G 10 fd), (go, eI G 10 fo), (sa, eI G 10 fs)] := hD
    refine lv_if_eq (tgt := 23) hx hb dX2_saturate_19 (by decide) (fun c_19 => ?_) (fun c_19 => ?_)
    · have hz : thSat sk = 0 := by rw [eT]; exact cnt0 c_19
      have hn1 : 1 ≤ n := ge_n esk (show (1 : Int32) = nI 1 from rfl) (by omega) (by decide) (ltI0 (fl0 hz).1)
      refine lv_aload_n hx hb dX2_saturate_23 rfl (lv_at hl 0 rfl) ?_
      refine va_get (D := G.1) (ci := 2) (v := .ref ce) (C := RX2) (T := TX2) (N := 13) hx hb hts hinX2 hown hK.1 hP 0 rfl rfl 1 (by decide) hw1 (fun _ h9 => h9) rfl dX2_saturate_24 ?_
      refine lv_bipush (v := 11) hx hb dX2_saturate_27 (by decide) ?_
      refine lv_aload_n hx hb dX2_saturate_29 rfl (lv_at hl 0 rfl) ?_
      refine ro_call (va_runV (As := []) (rest := [.int 11, .ref ce]) ⟨hx, hb, hml, hown, hts⟩ (c_X2_upper l G mo ce gv dr go sa (flI x1 0 0) st sk tk be so le an fc fg fd fo fs) (cwV 0 hts gX2_saturate_X2_upper rfl rfl rfl (by decide +kernel) ⟨Nat.le_of_ble_eq_true rfl, Nat.le_of_ble_eq_true rfl⟩) ⟨ro_blind, va_recv hK.1 hP (ci := 2) (q0 := 0) rfl rfl, ro_pre _ (hP.sub [0, 1, 2, 3, 4, 5] rfl) hK⟩ rfl rfl hl.1 rfl (lv_room (Nat.le_of_ble_eq_true rfl)) dX2_saturate_30 ⟨Nat.le_refl _, Nat.le_refl _⟩) ?_
      refine lv_imul hx hb dX2_saturate_33 ?_
      refine lv_bipush (v := 10) hx hb dX2_saturate_34 (by decide) ?_
      refine lv_iadd hx hb dX2_saturate_36 ?_
      refine ra_iald (f := fc) (v := ((11 * (29 + n)) + 10)) hx hb hK.1 hP 1 0 rfl rfl (na_add (na_mul (by decide) (na_up esk (by omega))) (by decide)) (by omega) (by decide) dX2_saturate_37 ?_
      refine lv_istore_n (lv' := [(1, .int (fc ((11 * (29 + n)) + 10))), (0, .ref mo)]) hx hb dX2_saturate_38 rfl hl (by decide) rfl (fun ls hl => ?_)
      refine lv_iconst (v := 0) hx hb dX2_saturate_39 (by decide) ?_
      refine lv_istore_n (lv' := [(2, .int 0), (1, .int (fc ((11 * (29 + n)) + 10))), (0, .ref mo)]) hx hb dX2_saturate_40 rfl hl (by decide) rfl (fun ls hl => ?_)
      have loop_41 : ∀ (n_41 i : Nat) (xi : Int32), i ≤ 10 → 10 + 1 ≤ i + n_41 → (xi = nI i) → ∀ (H : Heap) (locs : List Loc), va_P G.1 vwCl [(mo, .inr (2, [.int (flI x1 0 0), .ref ce, .ref gv, .int st, .int sk, .ref dr, .ref go, .int tk, .int be, .int so, .int le, .int an, .ref sa])), (ce, eI G 418 (seg (11 * (29 + n)) i (fun v => saI (fc (11 * (29 + n) + v)) (fc (11 * (29 + n) + 10))) fc)), (gv, eZ G 30 fg), (dr, eI G 10 fd), (go, eI G 10 fo), (sa, eI G 10 fs)] H → va_D A [(mo, .inr (2, [.int (flI x1 0 0), .ref ce, .ref gv, .int st, .int sk, .ref dr, .ref go, .int tk, .int be, .int so, .int le, .int an, .ref sa])), (ce, eI G 418 (seg (11 * (29 + n)) i (fun v => saI (fc (11 * (29 + n) + v)) (fc (11 * (29 + n) + 10))) fc)), (gv, eZ G 30 fg), (dr, eI G 10 fd), (go, eI G 10 fo), (sa, eI G 10 fs)] → va_S A s.heap H locs → ∀ ls : Array Slot, lv_has ls 4 [(0, .ref mo), (1, .int (fc ((11 * (29 + n)) + 10))), (2, .int xi)] → W p l e rmX2_saturate s m [.ref mo].toArray below meth c H locs 0 0 (MQ below (mu_Q G none [(mo, .inr (2, [.int (thSat sk), .ref ce, .ref gv, .int st, .int sk, .ref dr, .ref go, .int tk, .int be, .int so, .int le, .int an, .ref sa])), (ce, eI G 418 (if thSat sk = 0 then saC fc (29 + n) else fc)), (gv, eZ G 30 fg), (dr, eI G 10 fd), (go, eI G 10 fo), (sa, eI G 10 fs)] A) [.ref mo].toArray s 0 0 A) (F0 m 41 ls []) := by
        intro n_41
        induction n_41 with
        | zero => intro i xi h1 h2; exact absurd h2 (by omega)
        | succ n_41 ih_41 =>
          intro i xi hi_41 hn_41 ei H locs hP hD hS ls hl
          refine lv_iload_n hx hb dX2_saturate_41 rfl (lv_at hl 2 rfl) ?_
          refine lv_bipush (v := 10) hx hb dX2_saturate_42 (by decide) ?_
          refine lv_icmp_ge (tgt := 100) hx hb dX2_saturate_44 (by decide) (fun c_44 => ?_) (fun c_44 => ?_)
          · have hN : i = 10 := ge_ix ei (by decide) (by decide) c_44 hi_41
            rw [hN] at hP hD
            have hP9 := hP.sub (ws' := [(mo, .inr (2, [.int (thSat sk), .ref ce, .ref gv, .int st, .int sk, .ref dr, .ref go, .int tk, .int be, .int so, .int le, .int an, .ref sa])), (ce, eI G 418 (if thSat sk = 0 then saC fc (29 + n) else fc)), (gv, eZ G 30 fg), (dr, eI G 10 fd), (go, eI G 10 fo), (sa, eI G 10 fs)]) [0, 1, 2, 3, 4, 5] (by simp only [if_pos hz]; rw [eT]; rfl)
            have hD9 := hD.sub (ws' := [(mo, .inr (2, [.int (thSat sk), .ref ce, .ref gv, .int st, .int sk, .ref dr, .ref go, .int tk, .int be, .int so, .int le, .int an, .ref sa])), (ce, eI G 418 (if thSat sk = 0 then saC fc (29 + n) else fc)), (gv, eZ G 30 fg), (dr, eI G 10 fd), (go, eI G 10 fo), (sa, eI G 10 fs)]) [0, 1, 2, 3, 4, 5] (by decide) (by simp only [if_pos hz]; rw [eT]; rfl)
            exact W.vret hx hb hr (fun t ht hW => ⟨rfl, by rw [ht]; exact hP9, hD9, hS.F ht⟩) hS.2.2 dX2_saturate_100
          · have hlt : i < 10 := lt_ix ei (by decide) (by decide) c_44 hi_41
            refine lv_aload_n hx hb dX2_saturate_47 rfl (lv_at hl 0 rfl) ?_
            refine va_get (D := G.1) (ci := 2) (v := .ref ce) (C := RX2) (T := TX2) (N := 13) hx hb hts hinX2 hown hK.1 hP 0 rfl rfl 1 (by decide) hw1 (fun _ h9 => h9) rfl dX2_saturate_48 ?_
            refine lv_bipush (v := 11) hx hb dX2_saturate_51 (by decide) ?_
            refine lv_aload_n hx hb dX2_saturate_53 rfl (lv_at hl 0 rfl) ?_
            refine ro_call (va_runV (As := []) (rest := [.int 11, .ref ce]) ⟨hx, hb, hml, hown, hts⟩ (c_X2_upper l G mo ce gv dr go sa (flI x1 0 0) st sk tk be so le an (seg (11 * (29 + n)) i (fun v => saI (fc (11 * (29 + n) + v)) (fc (11 * (29 + n) + 10))) fc) fg fd fo fs) (cwV 0 hts gX2_saturate_X2_upper rfl rfl rfl (by decide +kernel) ⟨Nat.le_of_ble_eq_true rfl, Nat.le_of_ble_eq_true rfl⟩) ⟨ro_blind, va_recv hK.1 hP (ci := 2) (q0 := 0) rfl rfl, ro_pre _ (hP.sub [0, 1, 2, 3, 4, 5] rfl) hK⟩ rfl rfl hl.1 rfl (lv_room (Nat.le_of_ble_eq_true rfl)) dX2_saturate_54 ⟨Nat.le_refl _, Nat.le_refl _⟩) ?_
            refine lv_imul hx hb dX2_saturate_57 ?_
            refine lv_iload_n hx hb dX2_saturate_58 rfl (lv_at hl 2 rfl) ?_
            refine lv_iadd hx hb dX2_saturate_59 ?_
            refine ra_iald (f := (seg (11 * (29 + n)) i (fun v => saI (fc (11 * (29 + n) + v)) (fc (11 * (29 + n) + 10))) fc)) (v := ((11 * (29 + n)) + i)) hx hb hK.1 hP 1 0 rfl rfl (na_add (na_mul (by decide) (na_up esk (by omega))) ei) (by omega) (by decide) dX2_saturate_60 ?_
            refine lv_topi (fun za e0za => ?_)
            have eza : za = fc (11 * (29 + n) + i) := e0za.trans (seg_out _ _ (by omega))
            refine lv_istore_n (lv' := [(3, .int za), (0, .ref mo), (1, .int (fc ((11 * (29 + n)) + 10))), (2, .int xi)]) hx hb dX2_saturate_61 rfl hl (by decide) rfl (fun ls hl => ?_)
            refine lv_iload_n hx hb dX2_saturate_62 rfl (lv_at hl 0 rfl) ?_
            refine ro_call (va_runS (As := [.int za]) (rest := []) ⟨hx, hb, hml, hown, hts⟩ (c_X2_size l G za) (va_cwS 1 hts gX2_saturate_X2_size rfl rfl rfl (by decide +kernel) ⟨Nat.le_of_ble_eq_true rfl, Nat.le_of_ble_eq_true rfl⟩) ⟨ro_blind, ro_pre _ (hP.sub [] rfl) hK⟩ rfl rfl hl.1 rfl (lv_room (Nat.le_of_ble_eq_true rfl)) dX2_saturate_63 ⟨Nat.le_refl _, Nat.le_refl _⟩) ?_
            refine lv_iload_n hx hb dX2_saturate_66 rfl (lv_at hl 2 rfl) ?_
            refine lv_icmp_le (tgt := 94) hx hb dX2_saturate_67 (by decide) (fun c_67 => ?_) (fun c_67 => ?_)
            · have eS : seg (11 * (29 + n)) (i + 1) (fun v => saI (fc (11 * (29 + n) + v)) (fc (11 * (29 + n) + 10))) fc = seg (11 * (29 + n)) i (fun v => saI (fc (11 * (29 + n) + v)) (fc (11 * (29 + n) + 10))) fc := seg_skip (by show saI (fc (11 * (29 + n) + i)) (fc (11 * (29 + n) + 10)) = _; unfold saI; rw [← eza, if_neg (Int32.not_lt.mpr c_67)])
              rw [← eS] at hP hD
              refine lv_iinc (v := xi + 1) (lv' := [(2, .int (xi + 1)), (3, .int za), (0, .ref mo), (1, .int (fc ((11 * (29 + n)) + 10)))]) hx hb dX2_saturate_94 hl (k := 3) rfl rfl (by decide) rfl (fun ls hl => ?_)
              refine lv_goto (tgt := 41) hx hb dX2_saturate_97 (by decide) ?_
              exact ih_41 (i + 1) _ (by omega) (by omega) (by rw [ei]; exact nI_1 i) _ _ (hP.sub [0, 1, 2, 3, 4, 5] rfl) (hD.sub [0, 1, 2, 3, 4, 5] (by decide) rfl) hS ls (lv_sub hl [2, 3, 0] rfl)
            · refine lv_aload_n hx hb dX2_saturate_70 rfl (lv_at hl 1 rfl) ?_
              refine va_get (D := G.1) (ci := 2) (v := .ref ce) (C := RX2) (T := TX2) (N := 13) hx hb hts hinX2 hown hK.1 hP 0 rfl rfl 1 (by decide) hw1 (fun _ h9 => h9) rfl dX2_saturate_71 ?_
              refine lv_bipush (v := 11) hx hb dX2_saturate_74 (by decide) ?_
              refine lv_aload_n hx hb dX2_saturate_76 rfl (lv_at hl 1 rfl) ?_
              refine ro_call (va_runV (As := []) (rest := [.int 11, .ref ce]) ⟨hx, hb, hml, hown, hts⟩ (c_X2_upper l G mo ce gv dr go sa (flI x1 0 0) st sk tk be so le an (seg (11 * (29 + n)) i (fun v => saI (fc (11 * (29 + n) + v)) (fc (11 * (29 + n) + 10))) fc) fg fd fo fs) (cwV 0 hts gX2_saturate_X2_upper rfl rfl rfl (by decide +kernel) ⟨Nat.le_of_ble_eq_true rfl, Nat.le_of_ble_eq_true rfl⟩) ⟨ro_blind, va_recv hK.1 hP (ci := 2) (q0 := 0) rfl rfl, ro_pre _ (hP.sub [0, 1, 2, 3, 4, 5] rfl) hK⟩ rfl rfl hl.1 rfl (lv_room (Nat.le_of_ble_eq_true rfl)) dX2_saturate_77 ⟨Nat.le_refl _, Nat.le_refl _⟩) ?_
              refine lv_imul hx hb dX2_saturate_80 ?_
              refine lv_iload_n hx hb dX2_saturate_81 rfl (lv_at hl 3 rfl) ?_
              refine lv_iadd hx hb dX2_saturate_82 ?_
              refine lv_iload_n hx hb dX2_saturate_83 rfl (lv_at hl 0 rfl) ?_
              refine lv_if_ge (tgt := 92) hx hb dX2_saturate_84 (by decide) (fun c_84 => ?_) (fun c_84 => ?_)
              · refine lv_iload_n hx hb dX2_saturate_92 rfl (lv_at hl 2 rfl) ?_
                refine ra_iast (v := ((11 * (29 + n)) + i)) hx hb hK.1 hP hD hS 1 0 rfl rfl (na_add (na_mul (by decide) (na_up esk (by omega))) ei) (by omega) (by decide) dX2_saturate_93 (fun H locs hP hD hS => ?_)
                have hP : va_P G.1 vwCl [(mo, .inr (2, [.int (flI x1 0 0), .ref ce, .ref gv, .int st, .int sk, .ref dr, .ref go, .int tk, .int be, .int so, .int le, .int an, .ref sa])), (ce, eI G 418 (upd (seg (11 * (29 + n)) i (fun v => saI (fc (11 * (29 + n) + v)) (fc (11 * (29 + n) + 10))) fc) ((11 * (29 + n)) + i) (fc ((11 * (29 + n)) + 10)))), (gv, eZ G 30 fg), (dr, eI G 10 fd), (go, eI G 10 fo), (sa, eI G 10 fs)] H := hP
                have hD : va_D A [(mo, .inr (2, [.int (flI x1 0 0), .ref ce, .ref gv, .int st, .int sk, .ref dr, .ref go, .int tk, .int be, .int so, .int le, .int an, .ref sa])), (ce, eI G 418 (upd (seg (11 * (29 + n)) i (fun v => saI (fc (11 * (29 + n) + v)) (fc (11 * (29 + n) + 10))) fc) ((11 * (29 + n)) + i) (fc ((11 * (29 + n)) + 10)))), (gv, eZ G 30 fg), (dr, eI G 10 fd), (go, eI G 10 fo), (sa, eI G 10 fs)] := hD
                have eA93 : upd (seg (11 * (29 + n)) i (fun v => saI (fc (11 * (29 + n) + v)) (fc (11 * (29 + n) + 10))) fc) ((11 * (29 + n)) + i) (fc ((11 * (29 + n)) + 10)) = seg (11 * (29 + n)) (i + 1) (fun v => saI (fc (11 * (29 + n) + v)) (fc (11 * (29 + n) + 10))) fc := by rw [← seg_s]; congr 1; show _ = saI (fc (11 * (29 + n) + i)) (fc (11 * (29 + n) + 10)); unfold saI; rw [← eza, if_pos (Int32.not_le.mp c_67), if_neg (Int32.not_lt.mpr c_84)]
                rw [eA93] at hP hD
                refine lv_iinc (v := xi + 1) (lv' := [(2, .int (xi + 1)), (3, .int za), (0, .ref mo), (1, .int (fc ((11 * (29 + n)) + 10)))]) hx hb dX2_saturate_94 hl (k := 3) rfl rfl (by decide) rfl (fun ls hl => ?_)
                refine lv_goto (tgt := 41) hx hb dX2_saturate_97 (by decide) ?_
                exact ih_41 (i + 1) _ (by omega) (by omega) (by rw [ei]; exact nI_1 i) _ _ (hP.sub [0, 1, 2, 3, 4, 5] rfl) (hD.sub [0, 1, 2, 3, 4, 5] (by decide) rfl) hS ls (lv_sub hl [2, 3, 0] rfl)
              · refine lv_iload_n hx hb dX2_saturate_87 rfl (lv_at hl 2 rfl) ?_
                refine lv_ineg hx hb dX2_saturate_88 ?_
                refine lv_goto (tgt := 93) hx hb dX2_saturate_89 (by decide) ?_
                refine ra_iast (v := ((11 * (29 + n)) + i)) hx hb hK.1 hP hD hS 1 0 rfl rfl (na_add (na_mul (by decide) (na_up esk (by omega))) ei) (by omega) (by decide) dX2_saturate_93 (fun H locs hP hD hS => ?_)
                have hP : va_P G.1 vwCl [(mo, .inr (2, [.int (flI x1 0 0), .ref ce, .ref gv, .int st, .int sk, .ref dr, .ref go, .int tk, .int be, .int so, .int le, .int an, .ref sa])), (ce, eI G 418 (upd (seg (11 * (29 + n)) i (fun v => saI (fc (11 * (29 + n) + v)) (fc (11 * (29 + n) + 10))) fc) ((11 * (29 + n)) + i) (-(fc ((11 * (29 + n)) + 10))))), (gv, eZ G 30 fg), (dr, eI G 10 fd), (go, eI G 10 fo), (sa, eI G 10 fs)] H := hP
                have hD : va_D A [(mo, .inr (2, [.int (flI x1 0 0), .ref ce, .ref gv, .int st, .int sk, .ref dr, .ref go, .int tk, .int be, .int so, .int le, .int an, .ref sa])), (ce, eI G 418 (upd (seg (11 * (29 + n)) i (fun v => saI (fc (11 * (29 + n) + v)) (fc (11 * (29 + n) + 10))) fc) ((11 * (29 + n)) + i) (-(fc ((11 * (29 + n)) + 10))))), (gv, eZ G 30 fg), (dr, eI G 10 fd), (go, eI G 10 fo), (sa, eI G 10 fs)] := hD
                have eA93 : upd (seg (11 * (29 + n)) i (fun v => saI (fc (11 * (29 + n) + v)) (fc (11 * (29 + n) + 10))) fc) ((11 * (29 + n)) + i) (-(fc ((11 * (29 + n)) + 10))) = seg (11 * (29 + n)) (i + 1) (fun v => saI (fc (11 * (29 + n) + v)) (fc (11 * (29 + n) + 10))) fc := by rw [← seg_s]; congr 1; show _ = saI (fc (11 * (29 + n) + i)) (fc (11 * (29 + n) + 10)); unfold saI; rw [← eza, if_pos (Int32.not_le.mp c_67), if_pos (Int32.not_le.mp c_84)]
                rw [eA93] at hP hD
                refine lv_iinc (v := xi + 1) (lv' := [(2, .int (xi + 1)), (3, .int za), (0, .ref mo), (1, .int (fc ((11 * (29 + n)) + 10)))]) hx hb dX2_saturate_94 hl (k := 3) rfl rfl (by decide) rfl (fun ls hl => ?_)
                refine lv_goto (tgt := 41) hx hb dX2_saturate_97 (by decide) ?_
                exact ih_41 (i + 1) _ (by omega) (by omega) (by rw [ei]; exact nI_1 i) _ _ (hP.sub [0, 1, 2, 3, 4, 5] rfl) (hD.sub [0, 1, 2, 3, 4, 5] (by decide) rfl) hS ls (lv_sub hl [2, 3, 0] rfl)
      rw [show fc = seg (11 * (29 + n)) 0 (fun v => saI (fc (11 * (29 + n) + v)) (fc (11 * (29 + n) + 10))) fc from (seg_0 (11 * (29 + n)) (fun v => saI (fc (11 * (29 + n) + v)) (fc (11 * (29 + n) + 10))) fc).symm] at hP hD
      exact loop_41 (10 + 1) 0 _ (Nat.zero_le _) (by omega) (by exact nI_0.symm) _ _ (hP.sub [0, 1, 2, 3, 4, 5] rfl) (hD.sub [0, 1, 2, 3, 4, 5] (by decide) rfl) hS ls (lv_sub hl [2, 1, 0] rfl)
    · have hz : ¬ thSat sk = 0 := by rw [eT]; exact cnt1 c_19
      have hP9 := hP.sub (ws' := [(mo, .inr (2, [.int (thSat sk), .ref ce, .ref gv, .int st, .int sk, .ref dr, .ref go, .int tk, .int be, .int so, .int le, .int an, .ref sa])), (ce, eI G 418 (if thSat sk = 0 then saC fc (29 + n) else fc)), (gv, eZ G 30 fg), (dr, eI G 10 fd), (go, eI G 10 fo), (sa, eI G 10 fs)]) [0, 1, 2, 3, 4, 5] (by simp only [if_neg hz]; rw [eT]; rfl)
      have hD9 := hD.sub (ws' := [(mo, .inr (2, [.int (thSat sk), .ref ce, .ref gv, .int st, .int sk, .ref dr, .ref go, .int tk, .int be, .int so, .int le, .int an, .ref sa])), (ce, eI G 418 (if thSat sk = 0 then saC fc (29 + n) else fc)), (gv, eZ G 30 fg), (dr, eI G 10 fd), (go, eI G 10 fo), (sa, eI G 10 fs)]) [0, 1, 2, 3, 4, 5] (by decide) (by simp only [if_neg hz]; rw [eT]; rfl)
      exact W.vret hx hb hr (fun t ht hW => ⟨rfl, by rw [ht]; exact hP9, hD9, hS.F ht⟩) hS.2.2 dX2_saturate_22
  refine lv_aload_n hx hb dX2_saturate_1 rfl (lv_at hl 0 rfl) ?_
  refine va_get (D := G.1) (ci := 2) (v := .int sk) (C := RX2) (T := TX2) (N := 13) hx hb hts hinX2 hown hK.1 hP 0 rfl rfl 4 (by decide) hw2 (fun _ h9 => h9) rfl dX2_saturate_2 ?_
  refine lv_iconst (v := 1) hx hb dX2_saturate_5 (by decide) ?_
  refine lv_icmp_ge (tgt := 13) hx hb dX2_saturate_6 (by decide) (fun c_6 => ?_) (fun c_6 => ?_)
  · refine lv_iconst (v := 0) hx hb dX2_saturate_13 (by decide) ?_
    exact join_14 _ (by unfold ltI; rw [if_neg (Int32.not_lt.mpr c_6)]) _ _ (hP.sub [0, 1, 2, 3, 4, 5] rfl) (hD.sub [0, 1, 2, 3, 4, 5] (by decide) rfl) hS ls (lv_sub hl [0] rfl)
  · refine lv_iconst (v := 1) hx hb dX2_saturate_9 (by decide) ?_
    refine lv_goto (tgt := 14) hx hb dX2_saturate_10 (by decide) ?_
    exact join_14 _ (by unfold ltI; rw [if_pos (Int32.not_le.mp c_6)]) _ _ (hP.sub [0, 1, 2, 3, 4, 5] rfl) (hD.sub [0, 1, 2, 3, 4, 5] (by decide) rfl) hS ls (lv_sub hl [0] rfl)

abbrev rmX2_weaken : Room := { frames := 1, cells := 0, slots := 0, locals := 23 }
set_option maxHeartbeats 4000000 in
set_option maxRecDepth 100000 in
theorem c_X2_weaken (l : Launch) (G : Gt) (sz : Nat) (mo ce gv dr go sa : Nat) (th st sk tk be so le an : Int32) (fc fg fd fo fs : Nat → Int32) (x : Int32) (n : Nat) (esk : sk = nI n) (hn6 : n ≤ 6) : Met l yX2_weaken wsX2_weaken rmX2_weaken (mu_P G sz [.ref mo, .int x] [(mo, .inr (2, [.int th, .ref ce, .ref gv, .int st, .int sk, .ref dr, .ref go, .int tk, .int be, .int so, .int le, .int an, .ref sa])), (ce, eI G 418 fc), (gv, eZ G 30 fg), (dr, eI G 10 fd), (go, eI G 10 fo), (sa, eI G 10 fs)]) (mu_Q G none [(mo, .inr (2, [.int (thWea sk x), .ref ce, .ref gv, .int st, .int sk, .ref dr, .ref go, .int tk, .int be, .int so, .int le, .int an, .ref sa])), (ce, eI G 418 (if thWea sk x = 0 then weC fc (29 + n) x.toNatClampNeg else fc)), (gv, eZ G 30 fg), (dr, eI G 10 fd), (go, eI G 10 fo), (sa, eI G 10 fs)] (va_A [(mo, .inr (2, [.int th, .ref ce, .ref gv, .int st, .int sk, .ref dr, .ref go, .int tk, .int be, .int so, .int le, .int an, .ref sa])), (ce, eI G 418 fc), (gv, eZ G 30 fg), (dr, eI G 10 fd), (go, eI G 10 fo), (sa, eI G 10 fs)] sz)) 0 0 (va_A [(mo, .inr (2, [.int th, .ref ce, .ref gv, .int st, .int sk, .ref dr, .ref go, .int tk, .int be, .int so, .int le, .int an, .ref sa])), (ce, eI G 418 fc), (gv, eZ G 30 fg), (dr, eI G 10 fd), (go, eI G 10 fo), (sa, eI G 10 fs)] sz) := by
  refine Met.ofW (cc := cX2_weaken) (maxL := 3) (ret := none) (by decide) rfl ?_
  intro p e s m args below meth c s₁ B hml hv
  obtain ⟨rfl, hsz, hP, hD0, hK⟩ := hv
  have hx := B.exec
  have hb := B.bytes
  have hr := B.returns
  have hts := atoms_spec (ws := wsX2_weaken) B.pre
  have hown : s.vm.findClass RX2 = some m.cls := findClass_of_methodNamed B.named
  have hlocks := B.notSynchronized
  subst hsz
  have hD := hD0.self (sz := s.heap.size)
  generalize hAe : va_A [(mo, .inr (2, [.int th, .ref ce, .ref gv, .int st, .int sk, .ref dr, .ref go, .int tk, .int be, .int so, .int le, .int an, .ref sa])), (ce, eI G 418 fc), (gv, eZ G 30 fg), (dr, eI G 10 fd), (go, eI G 10 fo), (sa, eI G 10 fs)] s.heap.size = A at hD ⊢
  have hA : ∀ q : Nat, s.heap.size ≤ q → A q := fun q h => by rw [← hAe]; exact Or.inr h
  have hS : va_S A s.heap s.heap [] := va_S.rf
  have hinX2 : ∀ w ∈ u_ws RX2 TX2 13, w ∈ wsX2_weaken := fun w h => List.mem_cons_of_mem _ (List.mem_append_right _ h)
  have hw1 := hts (.fieldLink RX2 7 "ChoiceBoardModel" "cell" "[I") (by decide +kernel)
  have hw2 := hts (.fieldLink RX2 74 "ChoiceBoardModel" "stacked" "I") (by decide +kernel)
  have hl := lv_entry ([.ref mo, .int x]) (n := 3) (Nat.le_of_ble_eq_true rfl)
  rw [lg_entry_eq]
  generalize (lg_sl ([.ref mo, .int x]) ++ List.replicate (3 - (lg_sl ([.ref mo, .int x])).length) Slot.unset).toArray = ls at hl ⊢
  have hl : lv_has ls 3 [(0, .ref mo), (1, .int x)] := hl
  refine lv_aload_n hx hb dX2_weaken_0 rfl (lv_at hl 0 rfl) ?_
  have join_14 : ∀ (x1 : Int32), (x1 = ltI sk 1) → ∀ (H : Heap) (locs : List Loc), va_P G.1 vwCl [(mo, .inr (2, [.int th, .ref ce, .ref gv, .int st, .int sk, .ref dr, .ref go, .int tk, .int be, .int so, .int le, .int an, .ref sa])), (ce, eI G 418 fc), (gv, eZ G 30 fg), (dr, eI G 10 fd), (go, eI G 10 fo), (sa, eI G 10 fs)] H → va_D A [(mo, .inr (2, [.int th, .ref ce, .ref gv, .int st, .int sk, .ref dr, .ref go, .int tk, .int be, .int so, .int le, .int an, .ref sa])), (ce, eI G 418 fc), (gv, eZ G 30 fg), (dr, eI G 10 fd), (go, eI G 10 fo), (sa, eI G 10 fs)] → va_S A s.heap H locs → ∀ ls : Array Slot, lv_has ls 3 [(0, .ref mo), (1, .int x)] → W p l e rmX2_weaken s m [.ref mo, .int x].toArray below meth c H locs 0 0 (MQ below (mu_Q G none [(mo, .inr (2, [.int (thWea sk x), .ref ce, .ref gv, .int st, .int sk, .ref dr, .ref go, .int tk, .int be, .int so, .int le, .int an, .ref sa])), (ce, eI G 418 (if thWea sk x = 0 then weC fc (29 + n) x.toNatClampNeg else fc)), (gv, eZ G 30 fg), (dr, eI G 10 fd), (go, eI G 10 fo), (sa, eI G 10 fs)] A) [.ref mo, .int x].toArray s 0 0 A) (F0 m 14 ls [.int x1, .ref mo]) := by
    intro x1 ex1 H locs hP hD hS ls hl
    refine lv_iload_n hx hb dX2_weaken_14 rfl (lv_at hl 1 rfl) ?_
    refine lv_iconst (v := 0) hx hb dX2_weaken_15 (by decide) ?_
    refine lv_bipush (v := 9) hx hb dX2_weaken_16 (by decide) ?_
    refine ro_call (va_runS (As := [.int x, .int 0, .int 9]) (rest := [.int x1, .ref mo]) ⟨hx, hb, hml, hown, hts⟩ (c_X2_outside l G x 0 9) (va_cwS 3 hts gX2_weaken_X2_outside rfl rfl rfl (by decide +kernel) ⟨Nat.le_of_ble_eq_true rfl, Nat.le_of_ble_eq_true rfl⟩) ⟨ro_blind, ro_pre _ (hP.sub [] rfl) hK⟩ rfl rfl hl.1 rfl (lv_room (Nat.le_of_ble_eq_true rfl)) dX2_weaken_18 ⟨Nat.le_refl _, Nat.le_refl _⟩) ?_
    refine lv_iconst (v := 0) hx hb dX2_weaken_21 (by decide) ?_
    have eT : thWea sk x = flI x1 (outI x 0 9) 0 := by unfold thWea; rw [← ex1]
    refine mu_call (va_runV (As := [.int x1, .int (outI x 0 9), .int 0]) (rest := []) ⟨hx, hb, hml, hown, hts⟩ (c_X2_fails l G _ mo ce gv dr go sa th st sk tk be so le an fc fg fd fo fs x1 (outI x 0 9) 0) (cwV 3 hts gX2_weaken_X2_fails rfl rfl rfl (by decide +kernel) ⟨Nat.le_of_ble_eq_true rfl, Nat.le_of_ble_eq_true rfl⟩) ⟨mu_blind, va_recv hK.1 hP (ci := 2) (q0 := 0) rfl rfl, mu_pre _ (hP.sub [0, 1, 2, 3, 4, 5] rfl) (hD.sub [0, 1, 2, 3, 4, 5] (by decide) rfl) hK⟩ rfl rfl hl.1 rfl (lv_room (Nat.le_of_ble_eq_true rfl)) dX2_weaken_22 ⟨Nat.le_refl _, Nat.le_refl _⟩) hS (va_free hD hS hA [0, 1, 2, 3, 4, 5] rfl) (va_free hD hS hA [0, 1, 2, 3, 4, 5] rfl) (fun H1 locs hP1 hD1 hk1 hS => ?_)
    obtain ⟨hP, hD⟩ := rp_join (ws' := [(mo, .inr (2, [.int (flI x1 (outI x 0 9) 0), .ref ce, .ref gv, .int st, .int sk, .ref dr, .ref go, .int tk, .int be, .int so, .int le, .int an, .ref sa])), (ce, eI G 418 fc), (gv, eZ G 30 fg), (dr, eI G 10 fd), (go, eI G 10 fo), (sa, eI G 10 fs)]) hP hD [0, 1, 2, 3, 4, 5] rfl hk1 hP1 (fun k q h => match k, q, h with | 0, q, h => Or.inl ⟨0, h⟩ | 1, q, h => Or.inl ⟨1, h⟩ | 2, q, h => Or.inl ⟨2, h⟩ | 3, q, h => Or.inl ⟨3, h⟩ | 4, q, h => Or.inl ⟨4, h⟩ | 5, q, h => Or.inl ⟨5, h⟩ | k + 6, q, h => nomatch h) rfl
    generalize H1 = H at hP hS ⊢
    have hP : va_P G.1 vwCl [(mo, .inr (2, [.int (flI x1 (outI x 0 9) 0), .ref ce, .ref gv, .int st, .int sk, .ref dr, .ref go, .int tk, .int be, .int so, .int le, .int an, .ref sa])), (ce, eI G 418 fc), (gv, eZ G 30 fg), (dr, eI G 10 fd), (go, eI G 10 fo), (sa, eI G 10 fs)] H := hP
    have hD : va_D A [(mo, .inr (2, [.int (flI x1 (outI x 0 9) 0), .ref ce, .ref gv, .int st, .int sk, .ref dr, .ref go, .int tk, .int be, .int so, .int le, .int an, .ref sa])), (ce, eI G 418 fc), (gv, eZ G 30 fg), (dr, eI G 10 fd), (go, eI G 10 fo), (sa, eI G 10 fs)] := hD
    refine lv_if_eq (tgt := 29) hx hb dX2_weaken_25 (by decide) (fun c_25 => ?_) (fun c_25 => ?_)
    · have hz : thWea sk x = 0 := by rw [eT]; exact cnt0 c_25
      have hn1 : 1 ≤ n := ge_n esk (show (1 : Int32) = nI 1 from rfl) (by omega) (by decide) (ltI0 (fl0 hz).1)
      obtain ⟨exn, hxn⟩ := out0 (N := 9) rfl (by decide) (fl0 hz).2.1
      refine lv_aload_n hx hb dX2_weaken_29 rfl (lv_at hl 0 rfl) ?_
      refine va_get (D := G.1) (ci := 2) (v := .ref ce) (C := RX2) (T := TX2) (N := 13) hx hb hts hinX2 hown hK.1 hP 0 rfl rfl 1 (by decide) hw1 (fun _ h9 => h9) rfl dX2_weaken_30 ?_
      refine lv_bipush (v := 11) hx hb dX2_weaken_33 (by decide) ?_
      refine lv_aload_n hx hb dX2_weaken_35 rfl (lv_at hl 0 rfl) ?_
      refine ro_call (va_runV (As := []) (rest := [.int 11, .ref ce]) ⟨hx, hb, hml, hown, hts⟩ (c_X2_upper l G mo ce gv dr go sa (flI x1 (outI x 0 9) 0) st sk tk be so le an fc fg fd fo fs) (cwV 0 hts gX2_weaken_X2_upper rfl rfl rfl (by decide +kernel) ⟨Nat.le_of_ble_eq_true rfl, Nat.le_of_ble_eq_true rfl⟩) ⟨ro_blind, va_recv hK.1 hP (ci := 2) (q0 := 0) rfl rfl, ro_pre _ (hP.sub [0, 1, 2, 3, 4, 5] rfl) hK⟩ rfl rfl hl.1 rfl (lv_room (Nat.le_of_ble_eq_true rfl)) dX2_weaken_36 ⟨Nat.le_refl _, Nat.le_refl _⟩) ?_
      refine lv_imul hx hb dX2_weaken_39 ?_
      refine lv_bipush (v := 10) hx hb dX2_weaken_40 (by decide) ?_
      refine lv_iadd hx hb dX2_weaken_42 ?_
      refine ra_iald (f := fc) (v := ((11 * (29 + n)) + 10)) hx hb hK.1 hP 1 0 rfl rfl (na_add (na_mul (by decide) (na_up esk (by omega))) (by decide)) (by omega) (by decide) dX2_weaken_43 ?_
      refine lv_aload_n hx hb dX2_weaken_44 rfl (lv_at hl 0 rfl) ?_
      refine va_get (D := G.1) (ci := 2) (v := .ref ce) (C := RX2) (T := TX2) (N := 13) hx hb hts hinX2 hown hK.1 hP 0 rfl rfl 1 (by decide) hw1 (fun _ h9 => h9) rfl dX2_weaken_45 ?_
      refine lv_bipush (v := 11) hx hb dX2_weaken_48 (by decide) ?_
      refine lv_aload_n hx hb dX2_weaken_50 rfl (lv_at hl 0 rfl) ?_
      refine ro_call (va_runV (As := []) (rest := [.int 11, .ref ce, .int (fc ((11 * (29 + n)) + 10))]) ⟨hx, hb, hml, hown, hts⟩ (c_X2_upper l G mo ce gv dr go sa (flI x1 (outI x 0 9) 0) st sk tk be so le an fc fg fd fo fs) (cwV 0 hts gX2_weaken_X2_upper rfl rfl rfl (by decide +kernel) ⟨Nat.le_of_ble_eq_true rfl, Nat.le_of_ble_eq_true rfl⟩) ⟨ro_blind, va_recv hK.1 hP (ci := 2) (q0 := 0) rfl rfl, ro_pre _ (hP.sub [0, 1, 2, 3, 4, 5] rfl) hK⟩ rfl rfl hl.1 rfl (lv_room (Nat.le_of_ble_eq_true rfl)) dX2_weaken_51 ⟨Nat.le_refl _, Nat.le_refl _⟩) ?_
      refine lv_imul hx hb dX2_weaken_54 ?_
      refine lv_iload_n hx hb dX2_weaken_55 rfl (lv_at hl 1 rfl) ?_
      refine lv_iadd hx hb dX2_weaken_56 ?_
      refine ra_iald (f := fc) (v := (11 * (29 + n) + x.toNatClampNeg)) hx hb hK.1 hP 1 0 rfl rfl (na_add (na_mul (by decide) (na_up esk (by omega))) exn) (by omega) (by decide) dX2_weaken_57 ?_
      refine ro_call (va_runS (As := [.int (fc (11 * (29 + n) + x.toNatClampNeg))]) (rest := [.int (fc ((11 * (29 + n)) + 10))]) ⟨hx, hb, hml, hown, hts⟩ (c_X2_size l G (fc (11 * (29 + n) + x.toNatClampNeg))) (va_cwS 1 hts gX2_weaken_X2_size rfl rfl rfl (by decide +kernel) ⟨Nat.le_of_ble_eq_true rfl, Nat.le_of_ble_eq_true rfl⟩) ⟨ro_blind, ro_pre _ (hP.sub [] rfl) hK⟩ rfl rfl hl.1 rfl (lv_room (Nat.le_of_ble_eq_true rfl)) dX2_weaken_58 ⟨Nat.le_refl _, Nat.le_refl _⟩) ?_
      refine lv_isub hx hb dX2_weaken_61 ?_
      refine lv_istore_n (lv' := [(2, .int ((fc ((11 * (29 + n)) + 10)) - (szI (fc (11 * (29 + n) + x.toNatClampNeg))))), (0, .ref mo), (1, .int x)]) hx hb dX2_weaken_62 rfl hl (by decide) rfl (fun ls hl => ?_)
      refine lv_aload_n hx hb dX2_weaken_63 rfl (lv_at hl 1 rfl) ?_
      refine va_get (D := G.1) (ci := 2) (v := .ref ce) (C := RX2) (T := TX2) (N := 13) hx hb hts hinX2 hown hK.1 hP 0 rfl rfl 1 (by decide) hw1 (fun _ h9 => h9) rfl dX2_weaken_64 ?_
      refine lv_bipush (v := 11) hx hb dX2_weaken_67 (by decide) ?_
      refine lv_aload_n hx hb dX2_weaken_69 rfl (lv_at hl 1 rfl) ?_
      refine ro_call (va_runV (As := []) (rest := [.int 11, .ref ce]) ⟨hx, hb, hml, hown, hts⟩ (c_X2_upper l G mo ce gv dr go sa (flI x1 (outI x 0 9) 0) st sk tk be so le an fc fg fd fo fs) (cwV 0 hts gX2_weaken_X2_upper rfl rfl rfl (by decide +kernel) ⟨Nat.le_of_ble_eq_true rfl, Nat.le_of_ble_eq_true rfl⟩) ⟨ro_blind, va_recv hK.1 hP (ci := 2) (q0 := 0) rfl rfl, ro_pre _ (hP.sub [0, 1, 2, 3, 4, 5] rfl) hK⟩ rfl rfl hl.1 rfl (lv_room (Nat.le_of_ble_eq_true rfl)) dX2_weaken_70 ⟨Nat.le_refl _, Nat.le_refl _⟩) ?_
      refine lv_imul hx hb dX2_weaken_73 ?_
      refine lv_bipush (v := 10) hx hb dX2_weaken_74 (by decide) ?_
      refine lv_iadd hx hb dX2_weaken_76 ?_
      refine lv_iload_n hx hb dX2_weaken_77 rfl (lv_at hl 0 rfl) ?_
      refine lv_if_ge (tgt := 85) hx hb dX2_weaken_78 (by decide) (fun c_78 => ?_) (fun c_78 => ?_)
      · refine lv_iload_n hx hb dX2_weaken_85 rfl (lv_at hl 0 rfl) ?_
        refine ra_iast (v := ((11 * (29 + n)) + 10)) hx hb hK.1 hP hD hS 1 0 rfl rfl (na_add (na_mul (by decide) (na_up esk (by omega))) (by decide)) (by omega) (by decide) dX2_weaken_86 (fun H locs hP hD hS => ?_)
        have hP : va_P G.1 vwCl [(mo, .inr (2, [.int (flI x1 (outI x 0 9) 0), .ref ce, .ref gv, .int st, .int sk, .ref dr, .ref go, .int tk, .int be, .int so, .int le, .int an, .ref sa])), (ce, eI G 418 (upd fc ((11 * (29 + n)) + 10) ((fc ((11 * (29 + n)) + 10)) - (szI (fc (11 * (29 + n) + x.toNatClampNeg)))))), (gv, eZ G 30 fg), (dr, eI G 10 fd), (go, eI G 10 fo), (sa, eI G 10 fs)] H := hP
        have hD : va_D A [(mo, .inr (2, [.int (flI x1 (outI x 0 9) 0), .ref ce, .ref gv, .int st, .int sk, .ref dr, .ref go, .int tk, .int be, .int so, .int le, .int an, .ref sa])), (ce, eI G 418 (upd fc ((11 * (29 + n)) + 10) ((fc ((11 * (29 + n)) + 10)) - (szI (fc (11 * (29 + n) + x.toNatClampNeg)))))), (gv, eZ G 30 fg), (dr, eI G 10 fd), (go, eI G 10 fo), (sa, eI G 10 fs)] := hD
        have eA86 : upd fc ((11 * (29 + n)) + 10) ((fc ((11 * (29 + n)) + 10)) - (szI (fc (11 * (29 + n) + x.toNatClampNeg)))) = upd fc (11 * (29 + n) + 10) (cl0 (fc (11 * (29 + n) + 10) - szI (fc (11 * (29 + n) + x.toNatClampNeg)))) := by unfold cl0; rw [if_neg (Int32.not_lt.mpr c_78)]
        rw [eA86] at hP hD
        refine lv_aload_n hx hb dX2_weaken_87 rfl (lv_at hl 1 rfl) ?_
        refine va_get (D := G.1) (ci := 2) (v := .ref ce) (C := RX2) (T := TX2) (N := 13) hx hb hts hinX2 hown hK.1 hP 0 rfl rfl 1 (by decide) hw1 (fun _ h9 => h9) rfl dX2_weaken_88 ?_
        refine lv_bipush (v := 11) hx hb dX2_weaken_91 (by decide) ?_
        refine lv_aload_n hx hb dX2_weaken_93 rfl (lv_at hl 1 rfl) ?_
        refine ro_call (va_runV (As := []) (rest := [.int 11, .ref ce]) ⟨hx, hb, hml, hown, hts⟩ (c_X2_upper l G mo ce gv dr go sa (flI x1 (outI x 0 9) 0) st sk tk be so le an (upd fc (11 * (29 + n) + 10) (cl0 (fc (11 * (29 + n) + 10) - szI (fc (11 * (29 + n) + x.toNatClampNeg))))) fg fd fo fs) (cwV 0 hts gX2_weaken_X2_upper rfl rfl rfl (by decide +kernel) ⟨Nat.le_of_ble_eq_true rfl, Nat.le_of_ble_eq_true rfl⟩) ⟨ro_blind, va_recv hK.1 hP (ci := 2) (q0 := 0) rfl rfl, ro_pre _ (hP.sub [0, 1, 2, 3, 4, 5] rfl) hK⟩ rfl rfl hl.1 rfl (lv_room (Nat.le_of_ble_eq_true rfl)) dX2_weaken_94 ⟨Nat.le_refl _, Nat.le_refl _⟩) ?_
        refine lv_imul hx hb dX2_weaken_97 ?_
        refine lv_iload_n hx hb dX2_weaken_98 rfl (lv_at hl 2 rfl) ?_
        refine lv_iadd hx hb dX2_weaken_99 ?_
        refine lv_iconst (v := 0) hx hb dX2_weaken_100 (by decide) ?_
        refine ra_iast (v := (11 * (29 + n) + x.toNatClampNeg)) hx hb hK.1 hP hD hS 1 0 rfl rfl (na_add (na_mul (by decide) (na_up esk (by omega))) exn) (by omega) (by decide) dX2_weaken_101 (fun H locs hP hD hS => ?_)
        have hP : va_P G.1 vwCl [(mo, .inr (2, [.int (flI x1 (outI x 0 9) 0), .ref ce, .ref gv, .int st, .int sk, .ref dr, .ref go, .int tk, .int be, .int so, .int le, .int an, .ref sa])), (ce, eI G 418 (upd (upd fc (11 * (29 + n) + 10) (cl0 (fc (11 * (29 + n) + 10) - szI (fc (11 * (29 + n) + x.toNatClampNeg))))) (11 * (29 + n) + x.toNatClampNeg) 0)), (gv, eZ G 30 fg), (dr, eI G 10 fd), (go, eI G 10 fo), (sa, eI G 10 fs)] H := hP
        have hD : va_D A [(mo, .inr (2, [.int (flI x1 (outI x 0 9) 0), .ref ce, .ref gv, .int st, .int sk, .ref dr, .ref go, .int tk, .int be, .int so, .int le, .int an, .ref sa])), (ce, eI G 418 (upd (upd fc (11 * (29 + n) + 10) (cl0 (fc (11 * (29 + n) + 10) - szI (fc (11 * (29 + n) + x.toNatClampNeg))))) (11 * (29 + n) + x.toNatClampNeg) 0)), (gv, eZ G 30 fg), (dr, eI G 10 fd), (go, eI G 10 fo), (sa, eI G 10 fs)] := hD
        have eA101 : upd (upd fc (11 * (29 + n) + 10) (cl0 (fc (11 * (29 + n) + 10) - szI (fc (11 * (29 + n) + x.toNatClampNeg))))) (11 * (29 + n) + x.toNatClampNeg) 0 = weC fc (29 + n) x.toNatClampNeg := rfl
        rw [eA101] at hP hD
        have hP9 := hP.sub (ws' := [(mo, .inr (2, [.int (thWea sk x), .ref ce, .ref gv, .int st, .int sk, .ref dr, .ref go, .int tk, .int be, .int so, .int le, .int an, .ref sa])), (ce, eI G 418 (if thWea sk x = 0 then weC fc (29 + n) x.toNatClampNeg else fc)), (gv, eZ G 30 fg), (dr, eI G 10 fd), (go, eI G 10 fo), (sa, eI G 10 fs)]) [0, 1, 2, 3, 4, 5] (by simp only [if_pos hz]; rw [eT]; rfl)
        have hD9 := hD.sub (ws' := [(mo, .inr (2, [.int (thWea sk x), .ref ce, .ref gv, .int st, .int sk, .ref dr, .ref go, .int tk, .int be, .int so, .int le, .int an, .ref sa])), (ce, eI G 418 (if thWea sk x = 0 then weC fc (29 + n) x.toNatClampNeg else fc)), (gv, eZ G 30 fg), (dr, eI G 10 fd), (go, eI G 10 fo), (sa, eI G 10 fs)]) [0, 1, 2, 3, 4, 5] (by decide) (by simp only [if_pos hz]; rw [eT]; rfl)
        exact W.vret hx hb hr (fun t ht hW => ⟨rfl, by rw [ht]; exact hP9, hD9, hS.F ht⟩) hS.2.2 dX2_weaken_102
      · refine lv_iconst (v := 0) hx hb dX2_weaken_81 (by decide) ?_
        refine lv_goto (tgt := 86) hx hb dX2_weaken_82 (by decide) ?_
        refine ra_iast (v := ((11 * (29 + n)) + 10)) hx hb hK.1 hP hD hS 1 0 rfl rfl (na_add (na_mul (by decide) (na_up esk (by omega))) (by decide)) (by omega) (by decide) dX2_weaken_86 (fun H locs hP hD hS => ?_)
        have hP : va_P G.1 vwCl [(mo, .inr (2, [.int (flI x1 (outI x 0 9) 0), .ref ce, .ref gv, .int st, .int sk, .ref dr, .ref go, .int tk, .int be, .int so, .int le, .int an, .ref sa])), (ce, eI G 418 (upd fc ((11 * (29 + n)) + 10) 0)), (gv, eZ G 30 fg), (dr, eI G 10 fd), (go, eI G 10 fo), (sa, eI G 10 fs)] H := hP
        have hD : va_D A [(mo, .inr (2, [.int (flI x1 (outI x 0 9) 0), .ref ce, .ref gv, .int st, .int sk, .ref dr, .ref go, .int tk, .int be, .int so, .int le, .int an, .ref sa])), (ce, eI G 418 (upd fc ((11 * (29 + n)) + 10) 0)), (gv, eZ G 30 fg), (dr, eI G 10 fd), (go, eI G 10 fo), (sa, eI G 10 fs)] := hD
        have eA86 : upd fc ((11 * (29 + n)) + 10) 0 = upd fc (11 * (29 + n) + 10) (cl0 (fc (11 * (29 + n) + 10) - szI (fc (11 * (29 + n) + x.toNatClampNeg)))) := by unfold cl0; rw [if_pos (Int32.not_le.mp c_78)]
        rw [eA86] at hP hD
        refine lv_aload_n hx hb dX2_weaken_87 rfl (lv_at hl 1 rfl) ?_
        refine va_get (D := G.1) (ci := 2) (v := .ref ce) (C := RX2) (T := TX2) (N := 13) hx hb hts hinX2 hown hK.1 hP 0 rfl rfl 1 (by decide) hw1 (fun _ h9 => h9) rfl dX2_weaken_88 ?_
        refine lv_bipush (v := 11) hx hb dX2_weaken_91 (by decide) ?_
        refine lv_aload_n hx hb dX2_weaken_93 rfl (lv_at hl 1 rfl) ?_
        refine ro_call (va_runV (As := []) (rest := [.int 11, .ref ce]) ⟨hx, hb, hml, hown, hts⟩ (c_X2_upper l G mo ce gv dr go sa (flI x1 (outI x 0 9) 0) st sk tk be so le an (upd fc (11 * (29 + n) + 10) (cl0 (fc (11 * (29 + n) + 10) - szI (fc (11 * (29 + n) + x.toNatClampNeg))))) fg fd fo fs) (cwV 0 hts gX2_weaken_X2_upper rfl rfl rfl (by decide +kernel) ⟨Nat.le_of_ble_eq_true rfl, Nat.le_of_ble_eq_true rfl⟩) ⟨ro_blind, va_recv hK.1 hP (ci := 2) (q0 := 0) rfl rfl, ro_pre _ (hP.sub [0, 1, 2, 3, 4, 5] rfl) hK⟩ rfl rfl hl.1 rfl (lv_room (Nat.le_of_ble_eq_true rfl)) dX2_weaken_94 ⟨Nat.le_refl _, Nat.le_refl _⟩) ?_
        refine lv_imul hx hb dX2_weaken_97 ?_
        refine lv_iload_n hx hb dX2_weaken_98 rfl (lv_at hl 2 rfl) ?_
        refine lv_iadd hx hb dX2_weaken_99 ?_
        refine lv_iconst (v := 0) hx hb dX2_weaken_100 (by decide) ?_
        refine ra_iast (v := (11 * (29 + n) + x.toNatClampNeg)) hx hb hK.1 hP hD hS 1 0 rfl rfl (na_add (na_mul (by decide) (na_up esk (by omega))) exn) (by omega) (by decide) dX2_weaken_101 (fun H locs hP hD hS => ?_)
        have hP : va_P G.1 vwCl [(mo, .inr (2, [.int (flI x1 (outI x 0 9) 0), .ref ce, .ref gv, .int st, .int sk, .ref dr, .ref go, .int tk, .int be, .int so, .int le, .int an, .ref sa])), (ce, eI G 418 (upd (upd fc (11 * (29 + n) + 10) (cl0 (fc (11 * (29 + n) + 10) - szI (fc (11 * (29 + n) + x.toNatClampNeg))))) (11 * (29 + n) + x.toNatClampNeg) 0)), (gv, eZ G 30 fg), (dr, eI G 10 fd), (go, eI G 10 fo), (sa, eI G 10 fs)] H := hP
        have hD : va_D A [(mo, .inr (2, [.int (flI x1 (outI x 0 9) 0), .ref ce, .ref gv, .int st, .int sk, .ref dr, .ref go, .int tk, .int be, .int so, .int le, .int an, .ref sa])), (ce, eI G 418 (upd (upd fc (11 * (29 + n) + 10) (cl0 (fc (11 * (29 + n) + 10) - szI (fc (11 * (29 + n) + x.toNatClampNeg))))) (11 * (29 + n) + x.toNatClampNeg) 0)), (gv, eZ G 30 fg), (dr, eI G 10 fd), (go, eI G 10 fo), (sa, eI G 10 fs)] := hD
        have eA101 : upd (upd fc (11 * (29 + n) + 10) (cl0 (fc (11 * (29 + n) + 10) - szI (fc (11 * (29 + n) + x.toNatClampNeg))))) (11 * (29 + n) + x.toNatClampNeg) 0 = weC fc (29 + n) x.toNatClampNeg := rfl
        rw [eA101] at hP hD
        have hP9 := hP.sub (ws' := [(mo, .inr (2, [.int (thWea sk x), .ref ce, .ref gv, .int st, .int sk, .ref dr, .ref go, .int tk, .int be, .int so, .int le, .int an, .ref sa])), (ce, eI G 418 (if thWea sk x = 0 then weC fc (29 + n) x.toNatClampNeg else fc)), (gv, eZ G 30 fg), (dr, eI G 10 fd), (go, eI G 10 fo), (sa, eI G 10 fs)]) [0, 1, 2, 3, 4, 5] (by simp only [if_pos hz]; rw [eT]; rfl)
        have hD9 := hD.sub (ws' := [(mo, .inr (2, [.int (thWea sk x), .ref ce, .ref gv, .int st, .int sk, .ref dr, .ref go, .int tk, .int be, .int so, .int le, .int an, .ref sa])), (ce, eI G 418 (if thWea sk x = 0 then weC fc (29 + n) x.toNatClampNeg else fc)), (gv, eZ G 30 fg), (dr, eI G 10 fd), (go, eI G 10 fo), (sa, eI G 10 fs)]) [0, 1, 2, 3, 4, 5] (by decide) (by simp only [if_pos hz]; rw [eT]; rfl)
        exact W.vret hx hb hr (fun t ht hW => ⟨rfl, by rw [ht]; exact hP9, hD9, hS.F ht⟩) hS.2.2 dX2_weaken_102
    · have hz : ¬ thWea sk x = 0 := by rw [eT]; exact cnt1 c_25
      have hP9 := hP.sub (ws' := [(mo, .inr (2, [.int (thWea sk x), .ref ce, .ref gv, .int st, .int sk, .ref dr, .ref go, .int tk, .int be, .int so, .int le, .int an, .ref sa])), (ce, eI G 418 (if thWea sk x = 0 then weC fc (29 + n) x.toNatClampNeg else fc)), (gv, eZ G 30 fg), (dr, eI G 10 fd), (go, eI G 10 fo), (sa, eI G 10 fs)]) [0, 1, 2, 3, 4, 5] (by simp only [if_neg hz]; rw [eT]; rfl)
      have hD9 := hD.sub (ws' := [(mo, .inr (2, [.int (thWea sk x), .ref ce, .ref gv, .int st, .int sk, .ref dr, .ref go, .int tk, .int be, .int so, .int le, .int an, .ref sa])), (ce, eI G 418 (if thWea sk x = 0 then weC fc (29 + n) x.toNatClampNeg else fc)), (gv, eZ G 30 fg), (dr, eI G 10 fd), (go, eI G 10 fo), (sa, eI G 10 fs)]) [0, 1, 2, 3, 4, 5] (by decide) (by simp only [if_neg hz]; rw [eT]; rfl)
      exact W.vret hx hb hr (fun t ht hW => ⟨rfl, by rw [ht]; exact hP9, hD9, hS.F ht⟩) hS.2.2 dX2_weaken_28
  refine lv_aload_n hx hb dX2_weaken_1 rfl (lv_at hl 0 rfl) ?_
  refine va_get (D := G.1) (ci := 2) (v := .int sk) (C := RX2) (T := TX2) (N := 13) hx hb hts hinX2 hown hK.1 hP 0 rfl rfl 4 (by decide) hw2 (fun _ h9 => h9) rfl dX2_weaken_2 ?_
  refine lv_iconst (v := 1) hx hb dX2_weaken_5 (by decide) ?_
  refine lv_icmp_ge (tgt := 13) hx hb dX2_weaken_6 (by decide) (fun c_6 => ?_) (fun c_6 => ?_)
  · refine lv_iconst (v := 0) hx hb dX2_weaken_13 (by decide) ?_
    exact join_14 _ (by unfold ltI; rw [if_neg (Int32.not_lt.mpr c_6)]) _ _ (hP.sub [0, 1, 2, 3, 4, 5] rfl) (hD.sub [0, 1, 2, 3, 4, 5] (by decide) rfl) hS ls (lv_sub hl [0, 1] rfl)
  · refine lv_iconst (v := 1) hx hb dX2_weaken_9 (by decide) ?_
    refine lv_goto (tgt := 14) hx hb dX2_weaken_10 (by decide) ?_
    exact join_14 _ (by unfold ltI; rw [if_pos (Int32.not_le.mp c_6)]) _ _ (hP.sub [0, 1, 2, 3, 4, 5] rfl) (hD.sub [0, 1, 2, 3, 4, 5] (by decide) rfl) hS ls (lv_sub hl [0, 1] rfl)

abbrev rmX2_drop : Room := { frames := 1, cells := 0, slots := 0, locals := 23 }
set_option maxHeartbeats 4000000 in
set_option maxRecDepth 100000 in
theorem c_X2_drop (l : Launch) (G : Gt) (sz : Nat) (mo ce gv dr go sa : Nat) (th st sk tk be so le an : Int32) (fc fg fd fo fs : Nat → Int32) (n : Nat) (esk : sk = nI n) (hn6 : n ≤ 6) : Met l yX2_drop wsX2_drop rmX2_drop (mu_P G sz [.ref mo] [(mo, .inr (2, [.int th, .ref ce, .ref gv, .int st, .int sk, .ref dr, .ref go, .int tk, .int be, .int so, .int le, .int an, .ref sa])), (ce, eI G 418 fc), (gv, eZ G 30 fg), (dr, eI G 10 fd), (go, eI G 10 fo), (sa, eI G 10 fs)]) (mu_Q G none [(mo, .inr (2, [.int (thSat sk), .ref ce, .ref gv, .int st, .int (if thSat sk = 0 then sk - 1 else sk), .ref dr, .ref go, .int tk, .int be, .int so, .int le, .int an, .ref sa])), (ce, eI G 418 fc), (gv, eZ G 30 fg), (dr, eI G 10 fd), (go, eI G 10 fo), (sa, eI G 10 fs)] (va_A [(mo, .inr (2, [.int th, .ref ce, .ref gv, .int st, .int sk, .ref dr, .ref go, .int tk, .int be, .int so, .int le, .int an, .ref sa])), (ce, eI G 418 fc), (gv, eZ G 30 fg), (dr, eI G 10 fd), (go, eI G 10 fo), (sa, eI G 10 fs)] sz)) 0 0 (va_A [(mo, .inr (2, [.int th, .ref ce, .ref gv, .int st, .int sk, .ref dr, .ref go, .int tk, .int be, .int so, .int le, .int an, .ref sa])), (ce, eI G 418 fc), (gv, eZ G 30 fg), (dr, eI G 10 fd), (go, eI G 10 fo), (sa, eI G 10 fs)] sz) := by
  refine Met.ofW (cc := cX2_drop) (maxL := 1) (ret := none) (by decide) rfl ?_
  intro p e s m args below meth c s₁ B hml hv
  obtain ⟨rfl, hsz, hP, hD0, hK⟩ := hv
  have hx := B.exec
  have hb := B.bytes
  have hr := B.returns
  have hts := atoms_spec (ws := wsX2_drop) B.pre
  have hown : s.vm.findClass RX2 = some m.cls := findClass_of_methodNamed B.named
  have hlocks := B.notSynchronized
  subst hsz
  have hD := hD0.self (sz := s.heap.size)
  generalize hAe : va_A [(mo, .inr (2, [.int th, .ref ce, .ref gv, .int st, .int sk, .ref dr, .ref go, .int tk, .int be, .int so, .int le, .int an, .ref sa])), (ce, eI G 418 fc), (gv, eZ G 30 fg), (dr, eI G 10 fd), (go, eI G 10 fo), (sa, eI G 10 fs)] s.heap.size = A at hD ⊢
  have hA : ∀ q : Nat, s.heap.size ≤ q → A q := fun q h => by rw [← hAe]; exact Or.inr h
  have hS : va_S A s.heap s.heap [] := va_S.rf
  have hinX2 : ∀ w ∈ u_ws RX2 TX2 13, w ∈ wsX2_drop := fun w h => List.mem_cons_of_mem _ (List.mem_append_right _ h)
  have hw1 := hts (.fieldLink RX2 74 "ChoiceBoardModel" "stacked" "I") (by decide +kernel)
  have hl := lv_entry ([.ref mo]) (n := 1) (Nat.le_of_ble_eq_true rfl)
  rw [lg_entry_eq]
  generalize (lg_sl ([.ref mo]) ++ List.replicate (1 - (lg_sl ([.ref mo])).length) Slot.unset).toArray = ls at hl ⊢
  have hl : lv_has ls 1 [(0, .ref mo)] := hl
  refine lv_aload_n hx hb dX2_drop_0 rfl (lv_at hl 0 rfl) ?_
  have join_14 : ∀ (x1 : Int32), (x1 = ltI sk 1) → ∀ (H : Heap) (locs : List Loc), va_P G.1 vwCl [(mo, .inr (2, [.int th, .ref ce, .ref gv, .int st, .int sk, .ref dr, .ref go, .int tk, .int be, .int so, .int le, .int an, .ref sa])), (ce, eI G 418 fc), (gv, eZ G 30 fg), (dr, eI G 10 fd), (go, eI G 10 fo), (sa, eI G 10 fs)] H → va_D A [(mo, .inr (2, [.int th, .ref ce, .ref gv, .int st, .int sk, .ref dr, .ref go, .int tk, .int be, .int so, .int le, .int an, .ref sa])), (ce, eI G 418 fc), (gv, eZ G 30 fg), (dr, eI G 10 fd), (go, eI G 10 fo), (sa, eI G 10 fs)] → va_S A s.heap H locs → ∀ ls : Array Slot, lv_has ls 1 [(0, .ref mo)] → W p l e rmX2_drop s m [.ref mo].toArray below meth c H locs 0 0 (MQ below (mu_Q G none [(mo, .inr (2, [.int (thSat sk), .ref ce, .ref gv, .int st, .int (if thSat sk = 0 then sk - 1 else sk), .ref dr, .ref go, .int tk, .int be, .int so, .int le, .int an, .ref sa])), (ce, eI G 418 fc), (gv, eZ G 30 fg), (dr, eI G 10 fd), (go, eI G 10 fo), (sa, eI G 10 fs)] A) [.ref mo].toArray s 0 0 A) (F0 m 14 ls [.int x1, .ref mo]) := by
    intro x1 ex1 H locs hP hD hS ls hl
    refine lv_iconst (v := 0) hx hb dX2_drop_14 (by decide) ?_
    refine lv_iconst (v := 0) hx hb dX2_drop_15 (by decide) ?_
    have eT : thSat sk = flI x1 0 0 := by unfold thSat; rw [← ex1]
    refine mu_call (va_runV (As := [.int x1, .int 0, .int 0]) (rest := []) ⟨hx, hb, hml, hown, hts⟩ (c_X2_fails l G _ mo ce gv dr go sa th st sk tk be so le an fc fg fd fo fs x1 0 0) (cwV 3 hts gX2_drop_X2_fails rfl rfl rfl (by decide +kernel) ⟨Nat.le_of_ble_eq_true rfl, Nat.le_of_ble_eq_true rfl⟩) ⟨mu_blind, va_recv hK.1 hP (ci := 2) (q0 := 0) rfl rfl, mu_pre _ (hP.sub [0, 1, 2, 3, 4, 5] rfl) (hD.sub [0, 1, 2, 3, 4, 5] (by decide) rfl) hK⟩ rfl rfl hl.1 rfl (lv_room (Nat.le_of_ble_eq_true rfl)) dX2_drop_16 ⟨Nat.le_refl _, Nat.le_refl _⟩) hS (va_free hD hS hA [0, 1, 2, 3, 4, 5] rfl) (va_free hD hS hA [0, 1, 2, 3, 4, 5] rfl) (fun H1 locs hP1 hD1 hk1 hS => ?_)
    obtain ⟨hP, hD⟩ := rp_join (ws' := [(mo, .inr (2, [.int (flI x1 0 0), .ref ce, .ref gv, .int st, .int sk, .ref dr, .ref go, .int tk, .int be, .int so, .int le, .int an, .ref sa])), (ce, eI G 418 fc), (gv, eZ G 30 fg), (dr, eI G 10 fd), (go, eI G 10 fo), (sa, eI G 10 fs)]) hP hD [0, 1, 2, 3, 4, 5] rfl hk1 hP1 (fun k q h => match k, q, h with | 0, q, h => Or.inl ⟨0, h⟩ | 1, q, h => Or.inl ⟨1, h⟩ | 2, q, h => Or.inl ⟨2, h⟩ | 3, q, h => Or.inl ⟨3, h⟩ | 4, q, h => Or.inl ⟨4, h⟩ | 5, q, h => Or.inl ⟨5, h⟩ | k + 6, q, h => nomatch h) rfl
    generalize H1 = H at hP hS ⊢
    have hP : va_P G.1 vwCl [(mo, .inr (2, [.int (flI x1 0 0), .ref ce, .ref gv, .int st, .int sk, .ref dr, .ref go, .int tk, .int be, .int so, .int le, .int an, .ref sa])), (ce, eI G 418 fc), (gv, eZ G 30 fg), (dr, eI G 10 fd), (go, eI G 10 fo), (sa, eI G 10 fs)] H := hP
    have hD : va_D A [(mo, .inr (2, [.int (flI x1 0 0), .ref ce, .ref gv, .int st, .int sk, .ref dr, .ref go, .int tk, .int be, .int so, .int le, .int an, .ref sa])), (ce, eI G 418 fc), (gv, eZ G 30 fg), (dr, eI G 10 fd), (go, eI G 10 fo), (sa, eI G 10 fs)] := hD
    refine lv_if_ne (tgt := 32) hx hb dX2_drop_19 (by decide) (fun c_19 => ?_) (fun c_19 => ?_)
    · have hz : ¬ thSat sk = 0 := by rw [eT]; exact cnt1 c_19
      have hP9 := hP.sub (ws' := [(mo, .inr (2, [.int (thSat sk), .ref ce, .ref gv, .int st, .int (if thSat sk = 0 then sk - 1 else sk), .ref dr, .ref go, .int tk, .int be, .int so, .int le, .int an, .ref sa])), (ce, eI G 418 fc), (gv, eZ G 30 fg), (dr, eI G 10 fd), (go, eI G 10 fo), (sa, eI G 10 fs)]) [0, 1, 2, 3, 4, 5] (by simp only [if_neg hz]; rw [eT]; rfl)
      have hD9 := hD.sub (ws' := [(mo, .inr (2, [.int (thSat sk), .ref ce, .ref gv, .int st, .int (if thSat sk = 0 then sk - 1 else sk), .ref dr, .ref go, .int tk, .int be, .int so, .int le, .int an, .ref sa])), (ce, eI G 418 fc), (gv, eZ G 30 fg), (dr, eI G 10 fd), (go, eI G 10 fo), (sa, eI G 10 fs)]) [0, 1, 2, 3, 4, 5] (by decide) (by simp only [if_neg hz]; rw [eT]; rfl)
      exact W.vret hx hb hr (fun t ht hW => ⟨rfl, by rw [ht]; exact hP9, hD9, hS.F ht⟩) hS.2.2 dX2_drop_32
    · have hz : thSat sk = 0 := by rw [eT]; exact cnt0 c_19
      refine lv_aload_n hx hb dX2_drop_22 rfl (lv_at hl 0 rfl) ?_
      refine lv_dup hx hb dX2_drop_23 rfl ?_
      refine va_get (D := G.1) (ci := 2) (v := .int sk) (C := RX2) (T := TX2) (N := 13) hx hb hts hinX2 hown hK.1 hP 0 rfl rfl 4 (by decide) hw1 (fun _ h9 => h9) rfl dX2_drop_24 ?_
      refine lv_iconst (v := 1) hx hb dX2_drop_27 (by decide) ?_
      refine lv_isub hx hb dX2_drop_28 ?_
      refine va_put (D := G.1) (ci := 2) (v := .int (sk - 1)) (ty := .int) (C := RX2) (T := TX2) (N := 13) hx hb hts hinX2 tyX2 tyX2_ok nmX2 hown hK.1 hP hD hS 0 rfl rfl 4 (by decide) hw1 (fun _ h9 => h9) rfl (by decide +kernel) rfl rfl (Nat.le_of_ble_eq_true rfl) dX2_drop_29 (fun H locs hP hD hS => ?_)
      have hP : va_P G.1 vwCl [(mo, .inr (2, [.int (flI x1 0 0), .ref ce, .ref gv, .int st, .int (sk - 1), .ref dr, .ref go, .int tk, .int be, .int so, .int le, .int an, .ref sa])), (ce, eI G 418 fc), (gv, eZ G 30 fg), (dr, eI G 10 fd), (go, eI G 10 fo), (sa, eI G 10 fs)] H := hP
      have hD : va_D A [(mo, .inr (2, [.int (flI x1 0 0), .ref ce, .ref gv, .int st, .int (sk - 1), .ref dr, .ref go, .int tk, .int be, .int so, .int le, .int an, .ref sa])), (ce, eI G 418 fc), (gv, eZ G 30 fg), (dr, eI G 10 fd), (go, eI G 10 fo), (sa, eI G 10 fs)] := hD
      have hP9 := hP.sub (ws' := [(mo, .inr (2, [.int (thSat sk), .ref ce, .ref gv, .int st, .int (if thSat sk = 0 then sk - 1 else sk), .ref dr, .ref go, .int tk, .int be, .int so, .int le, .int an, .ref sa])), (ce, eI G 418 fc), (gv, eZ G 30 fg), (dr, eI G 10 fd), (go, eI G 10 fo), (sa, eI G 10 fs)]) [0, 1, 2, 3, 4, 5] (by simp only [if_pos hz]; rw [eT]; rfl)
      have hD9 := hD.sub (ws' := [(mo, .inr (2, [.int (thSat sk), .ref ce, .ref gv, .int st, .int (if thSat sk = 0 then sk - 1 else sk), .ref dr, .ref go, .int tk, .int be, .int so, .int le, .int an, .ref sa])), (ce, eI G 418 fc), (gv, eZ G 30 fg), (dr, eI G 10 fd), (go, eI G 10 fo), (sa, eI G 10 fs)]) [0, 1, 2, 3, 4, 5] (by decide) (by simp only [if_pos hz]; rw [eT]; rfl)
      exact W.vret hx hb hr (fun t ht hW => ⟨rfl, by rw [ht]; exact hP9, hD9, hS.F ht⟩) hS.2.2 dX2_drop_32
  refine lv_aload_n hx hb dX2_drop_1 rfl (lv_at hl 0 rfl) ?_
  refine va_get (D := G.1) (ci := 2) (v := .int sk) (C := RX2) (T := TX2) (N := 13) hx hb hts hinX2 hown hK.1 hP 0 rfl rfl 4 (by decide) hw1 (fun _ h9 => h9) rfl dX2_drop_2 ?_
  refine lv_iconst (v := 1) hx hb dX2_drop_5 (by decide) ?_
  refine lv_icmp_ge (tgt := 13) hx hb dX2_drop_6 (by decide) (fun c_6 => ?_) (fun c_6 => ?_)
  · refine lv_iconst (v := 0) hx hb dX2_drop_13 (by decide) ?_
    exact join_14 _ (by unfold ltI; rw [if_neg (Int32.not_lt.mpr c_6)]) _ _ (hP.sub [0, 1, 2, 3, 4, 5] rfl) (hD.sub [0, 1, 2, 3, 4, 5] (by decide) rfl) hS ls (lv_sub hl [0] rfl)
  · refine lv_iconst (v := 1) hx hb dX2_drop_9 (by decide) ?_
    refine lv_goto (tgt := 14) hx hb dX2_drop_10 (by decide) ?_
    exact join_14 _ (by unfold ltI; rw [if_pos (Int32.not_le.mp c_6)]) _ _ (hP.sub [0, 1, 2, 3, 4, 5] rfl) (hD.sub [0, 1, 2, 3, 4, 5] (by decide) rfl) hS ls (lv_sub hl [0] rfl)

abbrev rmX2_top : Room := { frames := 1, cells := 0, slots := 0, locals := 23 }
set_option maxHeartbeats 4000000 in
set_option maxRecDepth 100000 in
theorem c_X2_top (l : Launch) (G : Gt) (sz : Nat) (mo ce gv dr go sa : Nat) (th st sk tk be so le an : Int32) (fc fg fd fo fs : Nat → Int32) (x : Int32) (n : Nat) (esk : sk = nI n) (hn6 : n ≤ 6) : Met l yX2_top wsX2_top rmX2_top (mu_P G sz [.ref mo, .int x] [(mo, .inr (2, [.int th, .ref ce, .ref gv, .int st, .int sk, .ref dr, .ref go, .int tk, .int be, .int so, .int le, .int an, .ref sa])), (ce, eI G 418 fc), (gv, eZ G 30 fg), (dr, eI G 10 fd), (go, eI G 10 fo), (sa, eI G 10 fs)]) (mu_Q G (some (.int (if thTop sk x = 0 then tpR fc (29 + n) sk x else 0))) [(mo, .inr (2, [.int (thTop sk x), .ref ce, .ref gv, .int st, .int sk, .ref dr, .ref go, .int tk, .int be, .int so, .int le, .int an, .ref sa])), (ce, eI G 418 fc), (gv, eZ G 30 fg), (dr, eI G 10 fd), (go, eI G 10 fo), (sa, eI G 10 fs)] (va_A [(mo, .inr (2, [.int th, .ref ce, .ref gv, .int st, .int sk, .ref dr, .ref go, .int tk, .int be, .int so, .int le, .int an, .ref sa])), (ce, eI G 418 fc), (gv, eZ G 30 fg), (dr, eI G 10 fd), (go, eI G 10 fo), (sa, eI G 10 fs)] sz)) 0 0 (va_A [(mo, .inr (2, [.int th, .ref ce, .ref gv, .int st, .int sk, .ref dr, .ref go, .int tk, .int be, .int so, .int le, .int an, .ref sa])), (ce, eI G 418 fc), (gv, eZ G 30 fg), (dr, eI G 10 fd), (go, eI G 10 fo), (sa, eI G 10 fs)] sz) := by
  refine Met.ofW (cc := cX2_top) (maxL := 2) (ret := (some .int)) (by decide) rfl ?_
  intro p e s m args below meth c s₁ B hml hv
  obtain ⟨rfl, hsz, hP, hD0, hK⟩ := hv
  have hx := B.exec
  have hb := B.bytes
  have hr := B.returns
  have hts := atoms_spec (ws := wsX2_top) B.pre
  have hown : s.vm.findClass RX2 = some m.cls := findClass_of_methodNamed B.named
  have hlocks := B.notSynchronized
  subst hsz
  have hD := hD0.self (sz := s.heap.size)
  generalize hAe : va_A [(mo, .inr (2, [.int th, .ref ce, .ref gv, .int st, .int sk, .ref dr, .ref go, .int tk, .int be, .int so, .int le, .int an, .ref sa])), (ce, eI G 418 fc), (gv, eZ G 30 fg), (dr, eI G 10 fd), (go, eI G 10 fo), (sa, eI G 10 fs)] s.heap.size = A at hD ⊢
  have hA : ∀ q : Nat, s.heap.size ≤ q → A q := fun q h => by rw [← hAe]; exact Or.inr h
  have hS : va_S A s.heap s.heap [] := va_S.rf
  have hinX2 : ∀ w ∈ u_ws RX2 TX2 13, w ∈ wsX2_top := fun w h => List.mem_cons_of_mem _ (List.mem_append_right _ h)
  have hw1 := hts (.fieldLink RX2 7 "ChoiceBoardModel" "cell" "[I") (by decide +kernel)
  have hw2 := hts (.fieldLink RX2 74 "ChoiceBoardModel" "stacked" "I") (by decide +kernel)
  have hl := lv_entry ([.ref mo, .int x]) (n := 2) (Nat.le_of_ble_eq_true rfl)
  rw [lg_entry_eq]
  generalize (lg_sl ([.ref mo, .int x]) ++ List.replicate (2 - (lg_sl ([.ref mo, .int x])).length) Slot.unset).toArray = ls at hl ⊢
  have hl : lv_has ls 2 [(0, .ref mo), (1, .int x)] := hl
  refine lv_aload_n hx hb dX2_top_0 rfl (lv_at hl 0 rfl) ?_
  refine lv_iload_n hx hb dX2_top_1 rfl (lv_at hl 1 rfl) ?_
  refine lv_bipush (v := (-2)) hx hb dX2_top_2 (by decide) ?_
  refine lv_bipush (v := 9) hx hb dX2_top_4 (by decide) ?_
  refine ro_call (va_runS (As := [.int x, .int (-2), .int 9]) (rest := [.ref mo]) ⟨hx, hb, hml, hown, hts⟩ (c_X2_outside l G x (-2) 9) (va_cwS 3 hts gX2_top_X2_outside rfl rfl rfl (by decide +kernel) ⟨Nat.le_of_ble_eq_true rfl, Nat.le_of_ble_eq_true rfl⟩) ⟨ro_blind, ro_pre _ (hP.sub [] rfl) hK⟩ rfl rfl hl.1 rfl (lv_room (Nat.le_of_ble_eq_true rfl)) dX2_top_6 ⟨Nat.le_refl _, Nat.le_refl _⟩) ?_
  have join_28 : ∀ (x2 : Int32), (x2 = tpI x sk) → ∀ (H : Heap) (locs : List Loc), va_P G.1 vwCl [(mo, .inr (2, [.int th, .ref ce, .ref gv, .int st, .int sk, .ref dr, .ref go, .int tk, .int be, .int so, .int le, .int an, .ref sa])), (ce, eI G 418 fc), (gv, eZ G 30 fg), (dr, eI G 10 fd), (go, eI G 10 fo), (sa, eI G 10 fs)] H → va_D A [(mo, .inr (2, [.int th, .ref ce, .ref gv, .int st, .int sk, .ref dr, .ref go, .int tk, .int be, .int so, .int le, .int an, .ref sa])), (ce, eI G 418 fc), (gv, eZ G 30 fg), (dr, eI G 10 fd), (go, eI G 10 fo), (sa, eI G 10 fs)] → va_S A s.heap H locs → ∀ ls : Array Slot, lv_has ls 2 [(0, .ref mo), (1, .int x)] → W p l e rmX2_top s m [.ref mo, .int x].toArray below meth c H locs 0 0 (MQ below (mu_Q G (some (.int (if thTop sk x = 0 then tpR fc (29 + n) sk x else 0))) [(mo, .inr (2, [.int (thTop sk x), .ref ce, .ref gv, .int st, .int sk, .ref dr, .ref go, .int tk, .int be, .int so, .int le, .int an, .ref sa])), (ce, eI G 418 fc), (gv, eZ G 30 fg), (dr, eI G 10 fd), (go, eI G 10 fo), (sa, eI G 10 fs)] A) [.ref mo, .int x].toArray s 0 0 A) (F0 m 28 ls [.int x2, .int (outI x (-2) 9), .ref mo]) := by
    intro x2 ex2 H locs hP hD hS ls hl
    refine lv_iconst (v := 0) hx hb dX2_top_28 (by decide) ?_
    have eT : thTop sk x = flI (outI x (-2) 9) x2 0 := by unfold thTop; rw [← ex2]
    refine mu_call (va_runV (As := [.int (outI x (-2) 9), .int x2, .int 0]) (rest := []) ⟨hx, hb, hml, hown, hts⟩ (c_X2_fails l G _ mo ce gv dr go sa th st sk tk be so le an fc fg fd fo fs (outI x (-2) 9) x2 0) (cwV 3 hts gX2_top_X2_fails rfl rfl rfl (by decide +kernel) ⟨Nat.le_of_ble_eq_true rfl, Nat.le_of_ble_eq_true rfl⟩) ⟨mu_blind, va_recv hK.1 hP (ci := 2) (q0 := 0) rfl rfl, mu_pre _ (hP.sub [0, 1, 2, 3, 4, 5] rfl) (hD.sub [0, 1, 2, 3, 4, 5] (by decide) rfl) hK⟩ rfl rfl hl.1 rfl (lv_room (Nat.le_of_ble_eq_true rfl)) dX2_top_29 ⟨Nat.le_refl _, Nat.le_refl _⟩) hS (va_free hD hS hA [0, 1, 2, 3, 4, 5] rfl) (va_free hD hS hA [0, 1, 2, 3, 4, 5] rfl) (fun H1 locs hP1 hD1 hk1 hS => ?_)
    obtain ⟨hP, hD⟩ := rp_join (ws' := [(mo, .inr (2, [.int (flI (outI x (-2) 9) x2 0), .ref ce, .ref gv, .int st, .int sk, .ref dr, .ref go, .int tk, .int be, .int so, .int le, .int an, .ref sa])), (ce, eI G 418 fc), (gv, eZ G 30 fg), (dr, eI G 10 fd), (go, eI G 10 fo), (sa, eI G 10 fs)]) hP hD [0, 1, 2, 3, 4, 5] rfl hk1 hP1 (fun k q h => match k, q, h with | 0, q, h => Or.inl ⟨0, h⟩ | 1, q, h => Or.inl ⟨1, h⟩ | 2, q, h => Or.inl ⟨2, h⟩ | 3, q, h => Or.inl ⟨3, h⟩ | 4, q, h => Or.inl ⟨4, h⟩ | 5, q, h => Or.inl ⟨5, h⟩ | k + 6, q, h => nomatch h) rfl
    generalize H1 = H at hP hS ⊢
    have hP : va_P G.1 vwCl [(mo, .inr (2, [.int (flI (outI x (-2) 9) x2 0), .ref ce, .ref gv, .int st, .int sk, .ref dr, .ref go, .int tk, .int be, .int so, .int le, .int an, .ref sa])), (ce, eI G 418 fc), (gv, eZ G 30 fg), (dr, eI G 10 fd), (go, eI G 10 fo), (sa, eI G 10 fs)] H := hP
    have hD : va_D A [(mo, .inr (2, [.int (flI (outI x (-2) 9) x2 0), .ref ce, .ref gv, .int st, .int sk, .ref dr, .ref go, .int tk, .int be, .int so, .int le, .int an, .ref sa])), (ce, eI G 418 fc), (gv, eZ G 30 fg), (dr, eI G 10 fd), (go, eI G 10 fo), (sa, eI G 10 fs)] := hD
    refine lv_if_eq (tgt := 37) hx hb dX2_top_32 (by decide) (fun c_32 => ?_) (fun c_32 => ?_)
    · have hz : thTop sk x = 0 := by rw [eT]; exact cnt0 c_32
      refine lv_iload_n hx hb dX2_top_37 rfl (lv_at hl 1 rfl) ?_
      refine lv_bipush (v := (-2)) hx hb dX2_top_38 (by decide) ?_
      refine lv_icmp_ne (tgt := 50) hx hb dX2_top_40 (by decide) (fun c_40 => ?_) (fun c_40 => ?_)
      · have hn1 : 1 ≤ n := ge_n esk (show (1 : Int32) = nI 1 from rfl) (by omega) (by decide) (tpI0 (fl0 hz).2.1 c_40)
        refine lv_aload_n hx hb dX2_top_50 rfl (lv_at hl 0 rfl) ?_
        refine va_get (D := G.1) (ci := 2) (v := .ref ce) (C := RX2) (T := TX2) (N := 13) hx hb hts hinX2 hown hK.1 hP 0 rfl rfl 1 (by decide) hw1 (fun _ h9 => h9) rfl dX2_top_51 ?_
        refine lv_bipush (v := 11) hx hb dX2_top_54 (by decide) ?_
        refine lv_aload_n hx hb dX2_top_56 rfl (lv_at hl 0 rfl) ?_
        refine ro_call (va_runV (As := []) (rest := [.int 11, .ref ce]) ⟨hx, hb, hml, hown, hts⟩ (c_X2_upper l G mo ce gv dr go sa (flI (outI x (-2) 9) x2 0) st sk tk be so le an fc fg fd fo fs) (cwV 0 hts gX2_top_X2_upper rfl rfl rfl (by decide +kernel) ⟨Nat.le_of_ble_eq_true rfl, Nat.le_of_ble_eq_true rfl⟩) ⟨ro_blind, va_recv hK.1 hP (ci := 2) (q0 := 0) rfl rfl, ro_pre _ (hP.sub [0, 1, 2, 3, 4, 5] rfl) hK⟩ rfl rfl hl.1 rfl (lv_room (Nat.le_of_ble_eq_true rfl)) dX2_top_57 ⟨Nat.le_refl _, Nat.le_refl _⟩) ?_
        refine lv_imul hx hb dX2_top_60 ?_
        refine lv_iload_n hx hb dX2_top_61 rfl (lv_at hl 1 rfl) ?_
        refine lv_iconst (v := (-1)) hx hb dX2_top_62 (by decide) ?_
        refine lv_icmp_ne (tgt := 71) hx hb dX2_top_63 (by decide) (fun c_63 => ?_) (fun c_63 => ?_)
        · obtain ⟨exn, hxn⟩ := outV (fl0 hz).1 c_40 c_63
          refine lv_iload_n hx hb dX2_top_71 rfl (lv_at hl 1 rfl) ?_
          refine lv_iadd hx hb dX2_top_72 ?_
          refine ra_iald (f := fc) (v := (11 * (29 + n) + x.toNatClampNeg)) hx hb hK.1 hP 1 0 rfl rfl (na_add (na_mul (by decide) (na_up esk (by omega))) exn) (by omega) (by decide) dX2_top_73 ?_
          have hP9 := hP.sub (ws' := [(mo, .inr (2, [.int (thTop sk x), .ref ce, .ref gv, .int st, .int sk, .ref dr, .ref go, .int tk, .int be, .int so, .int le, .int an, .ref sa])), (ce, eI G 418 fc), (gv, eZ G 30 fg), (dr, eI G 10 fd), (go, eI G 10 fo), (sa, eI G 10 fs)]) [0, 1, 2, 3, 4, 5] (by rw [eT]; rfl)
          have hD9 := hD.sub (ws' := [(mo, .inr (2, [.int (thTop sk x), .ref ce, .ref gv, .int st, .int sk, .ref dr, .ref go, .int tk, .int be, .int so, .int le, .int an, .ref sa])), (ce, eI G 418 fc), (gv, eZ G 30 fg), (dr, eI G 10 fd), (go, eI G 10 fo), (sa, eI G 10 fs)]) [0, 1, 2, 3, 4, 5] (by decide) (by rw [eT]; rfl)
          exact W.iret (v := fc (11 * (29 + n) + x.toNatClampNeg)) hx hb hr (fun t ht hW => ⟨congrArg (fun z => Outcome.returned (some (Value.int z))) (by rw [if_pos hz]; unfold tpR; rw [if_neg c_40, if_neg c_63]), by rw [ht]; exact hP9, hD9, hS.F ht⟩) hS.2.2 dX2_top_74
        · refine lv_bipush (v := 10) hx hb dX2_top_66 (by decide) ?_
          refine lv_goto (tgt := 72) hx hb dX2_top_68 (by decide) ?_
          refine lv_iadd hx hb dX2_top_72 ?_
          refine ra_iald (f := fc) (v := (11 * (29 + n) + 10)) hx hb hK.1 hP 1 0 rfl rfl (na_add (na_mul (by decide) (na_up esk (by omega))) (by decide)) (by omega) (by decide) dX2_top_73 ?_
          have hP9 := hP.sub (ws' := [(mo, .inr (2, [.int (thTop sk x), .ref ce, .ref gv, .int st, .int sk, .ref dr, .ref go, .int tk, .int be, .int so, .int le, .int an, .ref sa])), (ce, eI G 418 fc), (gv, eZ G 30 fg), (dr, eI G 10 fd), (go, eI G 10 fo), (sa, eI G 10 fs)]) [0, 1, 2, 3, 4, 5] (by rw [eT]; rfl)
          have hD9 := hD.sub (ws' := [(mo, .inr (2, [.int (thTop sk x), .ref ce, .ref gv, .int st, .int sk, .ref dr, .ref go, .int tk, .int be, .int so, .int le, .int an, .ref sa])), (ce, eI G 418 fc), (gv, eZ G 30 fg), (dr, eI G 10 fd), (go, eI G 10 fo), (sa, eI G 10 fs)]) [0, 1, 2, 3, 4, 5] (by decide) (by rw [eT]; rfl)
          exact W.iret (v := fc (11 * (29 + n) + 10)) hx hb hr (fun t ht hW => ⟨congrArg (fun z => Outcome.returned (some (Value.int z))) (by rw [if_pos hz]; unfold tpR; rw [if_neg c_40, if_pos c_63]), by rw [ht]; exact hP9, hD9, hS.F ht⟩) hS.2.2 dX2_top_74
      · refine lv_aload_n hx hb dX2_top_43 rfl (lv_at hl 0 rfl) ?_
        refine va_get (D := G.1) (ci := 2) (v := .int sk) (C := RX2) (T := TX2) (N := 13) hx hb hts hinX2 hown hK.1 hP 0 rfl rfl 4 (by decide) hw2 (fun _ h9 => h9) rfl dX2_top_44 ?_
        refine lv_goto (tgt := 74) hx hb dX2_top_47 (by decide) ?_
        have hP9 := hP.sub (ws' := [(mo, .inr (2, [.int (thTop sk x), .ref ce, .ref gv, .int st, .int sk, .ref dr, .ref go, .int tk, .int be, .int so, .int le, .int an, .ref sa])), (ce, eI G 418 fc), (gv, eZ G 30 fg), (dr, eI G 10 fd), (go, eI G 10 fo), (sa, eI G 10 fs)]) [0, 1, 2, 3, 4, 5] (by rw [eT]; rfl)
        have hD9 := hD.sub (ws' := [(mo, .inr (2, [.int (thTop sk x), .ref ce, .ref gv, .int st, .int sk, .ref dr, .ref go, .int tk, .int be, .int so, .int le, .int an, .ref sa])), (ce, eI G 418 fc), (gv, eZ G 30 fg), (dr, eI G 10 fd), (go, eI G 10 fo), (sa, eI G 10 fs)]) [0, 1, 2, 3, 4, 5] (by decide) (by rw [eT]; rfl)
        exact W.iret (v := sk) hx hb hr (fun t ht hW => ⟨congrArg (fun z => Outcome.returned (some (Value.int z))) (by rw [if_pos hz]; unfold tpR; rw [if_pos c_40]), by rw [ht]; exact hP9, hD9, hS.F ht⟩) hS.2.2 dX2_top_74
    · have hz : ¬ thTop sk x = 0 := by rw [eT]; exact cnt1 c_32
      refine lv_iconst (v := 0) hx hb dX2_top_35 (by decide) ?_
      have hP9 := hP.sub (ws' := [(mo, .inr (2, [.int (thTop sk x), .ref ce, .ref gv, .int st, .int sk, .ref dr, .ref go, .int tk, .int be, .int so, .int le, .int an, .ref sa])), (ce, eI G 418 fc), (gv, eZ G 30 fg), (dr, eI G 10 fd), (go, eI G 10 fo), (sa, eI G 10 fs)]) [0, 1, 2, 3, 4, 5] (by rw [eT]; rfl)
      have hD9 := hD.sub (ws' := [(mo, .inr (2, [.int (thTop sk x), .ref ce, .ref gv, .int st, .int sk, .ref dr, .ref go, .int tk, .int be, .int so, .int le, .int an, .ref sa])), (ce, eI G 418 fc), (gv, eZ G 30 fg), (dr, eI G 10 fd), (go, eI G 10 fo), (sa, eI G 10 fs)]) [0, 1, 2, 3, 4, 5] (by decide) (by rw [eT]; rfl)
      exact W.iret (v := 0) hx hb hr (fun t ht hW => ⟨congrArg (fun z => Outcome.returned (some (Value.int z))) ((if_neg hz).symm), by rw [ht]; exact hP9, hD9, hS.F ht⟩) hS.2.2 dX2_top_36
  refine lv_iload_n hx hb dX2_top_9 rfl (lv_at hl 1 rfl) ?_
  refine lv_bipush (v := (-2)) hx hb dX2_top_10 (by decide) ?_
  refine lv_icmp_eq (tgt := 27) hx hb dX2_top_12 (by decide) (fun c_12 => ?_) (fun c_12 => ?_)
  · refine lv_iconst (v := 0) hx hb dX2_top_27 (by decide) ?_
    exact join_28 _ (by unfold tpI; rw [if_pos c_12]) _ _ (hP.sub [0, 1, 2, 3, 4, 5] rfl) (hD.sub [0, 1, 2, 3, 4, 5] (by decide) rfl) hS ls (lv_sub hl [0, 1] rfl)
  · refine lv_aload_n hx hb dX2_top_15 rfl (lv_at hl 0 rfl) ?_
    refine va_get (D := G.1) (ci := 2) (v := .int sk) (C := RX2) (T := TX2) (N := 13) hx hb hts hinX2 hown hK.1 hP 0 rfl rfl 4 (by decide) hw2 (fun _ h9 => h9) rfl dX2_top_16 ?_
    refine lv_iconst (v := 1) hx hb dX2_top_19 (by decide) ?_
    refine lv_icmp_ge (tgt := 27) hx hb dX2_top_20 (by decide) (fun c_20 => ?_) (fun c_20 => ?_)
    · refine lv_iconst (v := 0) hx hb dX2_top_27 (by decide) ?_
      exact join_28 _ (by unfold tpI; rw [if_neg c_12, if_neg (Int32.not_lt.mpr c_20)]) _ _ (hP.sub [0, 1, 2, 3, 4, 5] rfl) (hD.sub [0, 1, 2, 3, 4, 5] (by decide) rfl) hS ls (lv_sub hl [0, 1] rfl)
    · refine lv_iconst (v := 1) hx hb dX2_top_23 (by decide) ?_
      refine lv_goto (tgt := 28) hx hb dX2_top_24 (by decide) ?_
      exact join_28 _ (by unfold tpI; rw [if_neg c_12, if_pos (Int32.not_le.mp c_20)]) _ _ (hP.sub [0, 1, 2, 3, 4, 5] rfl) (hD.sub [0, 1, 2, 3, 4, 5] (by decide) rfl) hS ls (lv_sub hl [0, 1] rfl)

abbrev rmX2_learn : Room := { frames := 2, cells := 0, slots := 0, locals := 45 }
set_option maxHeartbeats 4000000 in
set_option maxRecDepth 100000 in
theorem c_X2_learn (l : Launch) (G : Gt) (sz : Nat) (mo ce gv dr go sa : Nat) (th st sk tk be so le an : Int32) (fc fg fd fo fs : Nat → Int32) (k : Nat) (est : st = nI k) (hk30 : k ≤ 30) (n : Nat) (esk : sk = nI n) (hn6 : n ≤ 6) : Met l yX2_learn wsX2_learn rmX2_learn (mu_P G sz [.ref mo] [(mo, .inr (2, [.int th, .ref ce, .ref gv, .int st, .int sk, .ref dr, .ref go, .int tk, .int be, .int so, .int le, .int an, .ref sa])), (ce, eI G 418 fc), (gv, eZ G 30 fg), (dr, eI G 10 fd), (go, eI G 10 fo), (sa, eI G 10 fs)]) (mu_Q G (some (.int (if thLea sk st = 0 then st + 1 - 1 else 0))) [(mo, .inr (2, [.int (thLea sk st), .ref ce, .ref gv, .int (if thLea sk st = 0 then st + 1 else st), .int (if thLea sk st = 0 then sk - 1 else sk), .ref dr, .ref go, .int tk, .int be, .int so, .int le, .int an, .ref sa])), (ce, eI G 418 (if thLea sk st = 0 then cpy11 fc (29 + n) k else fc)), (gv, eZ G 30 (if thLea sk st = 0 then upd fg k 0 else fg)), (dr, eI G 10 fd), (go, eI G 10 fo), (sa, eI G 10 fs)] (va_A [(mo, .inr (2, [.int th, .ref ce, .ref gv, .int st, .int sk, .ref dr, .ref go, .int tk, .int be, .int so, .int le, .int an, .ref sa])), (ce, eI G 418 fc), (gv, eZ G 30 fg), (dr, eI G 10 fd), (go, eI G 10 fo), (sa, eI G 10 fs)] sz)) 0 0 (va_A [(mo, .inr (2, [.int th, .ref ce, .ref gv, .int st, .int sk, .ref dr, .ref go, .int tk, .int be, .int so, .int le, .int an, .ref sa])), (ce, eI G 418 fc), (gv, eZ G 30 fg), (dr, eI G 10 fd), (go, eI G 10 fo), (sa, eI G 10 fs)] sz) := by
  refine Met.ofW (cc := cX2_learn) (maxL := 2) (ret := (some .int)) (by decide) rfl ?_
  intro p e s m args below meth c s₁ B hml hv
  obtain ⟨rfl, hsz, hP, hD0, hK⟩ := hv
  have hx := B.exec
  have hb := B.bytes
  have hr := B.returns
  have hts := atoms_spec (ws := wsX2_learn) B.pre
  have hown : s.vm.findClass RX2 = some m.cls := findClass_of_methodNamed B.named
  have hlocks := B.notSynchronized
  subst hsz
  have hD := hD0.self (sz := s.heap.size)
  generalize hAe : va_A [(mo, .inr (2, [.int th, .ref ce, .ref gv, .int st, .int sk, .ref dr, .ref go, .int tk, .int be, .int so, .int le, .int an, .ref sa])), (ce, eI G 418 fc), (gv, eZ G 30 fg), (dr, eI G 10 fd), (go, eI G 10 fo), (sa, eI G 10 fs)] s.heap.size = A at hD ⊢
  have hA : ∀ q : Nat, s.heap.size ≤ q → A q := fun q h => by rw [← hAe]; exact Or.inr h
  have hS : va_S A s.heap s.heap [] := va_S.rf
  have hinX2 : ∀ w ∈ u_ws RX2 TX2 13, w ∈ wsX2_learn := fun w h => List.mem_cons_of_mem _ (List.mem_append_right _ h)
  have hw1 := hts (.fieldLink RX2 74 "ChoiceBoardModel" "stacked" "I") (by decide +kernel)
  have hw2 := hts (.fieldLink RX2 45 "ChoiceBoardModel" "stored" "I") (by decide +kernel)
  have hl := lv_entry ([.ref mo]) (n := 2) (Nat.le_of_ble_eq_true rfl)
  rw [lg_entry_eq]
  generalize (lg_sl ([.ref mo]) ++ List.replicate (2 - (lg_sl ([.ref mo])).length) Slot.unset).toArray = ls at hl ⊢
  have hl : lv_has ls 2 [(0, .ref mo)] := hl
  refine lv_aload_n hx hb dX2_learn_0 rfl (lv_at hl 0 rfl) ?_
  have join_23 : ∀ (x1 : Int32), (x1 = lrI sk st) → ∀ (H : Heap) (locs : List Loc), va_P G.1 vwCl [(mo, .inr (2, [.int th, .ref ce, .ref gv, .int st, .int sk, .ref dr, .ref go, .int tk, .int be, .int so, .int le, .int an, .ref sa])), (ce, eI G 418 fc), (gv, eZ G 30 fg), (dr, eI G 10 fd), (go, eI G 10 fo), (sa, eI G 10 fs)] H → va_D A [(mo, .inr (2, [.int th, .ref ce, .ref gv, .int st, .int sk, .ref dr, .ref go, .int tk, .int be, .int so, .int le, .int an, .ref sa])), (ce, eI G 418 fc), (gv, eZ G 30 fg), (dr, eI G 10 fd), (go, eI G 10 fo), (sa, eI G 10 fs)] → va_S A s.heap H locs → ∀ ls : Array Slot, lv_has ls 2 [(0, .ref mo)] → W p l e rmX2_learn s m [.ref mo].toArray below meth c H locs 0 0 (MQ below (mu_Q G (some (.int (if thLea sk st = 0 then st + 1 - 1 else 0))) [(mo, .inr (2, [.int (thLea sk st), .ref ce, .ref gv, .int (if thLea sk st = 0 then st + 1 else st), .int (if thLea sk st = 0 then sk - 1 else sk), .ref dr, .ref go, .int tk, .int be, .int so, .int le, .int an, .ref sa])), (ce, eI G 418 (if thLea sk st = 0 then cpy11 fc (29 + n) k else fc)), (gv, eZ G 30 (if thLea sk st = 0 then upd fg k 0 else fg)), (dr, eI G 10 fd), (go, eI G 10 fo), (sa, eI G 10 fs)] A) [.ref mo].toArray s 0 0 A) (F0 m 23 ls [.int x1, .ref mo]) := by
    intro x1 ex1 H locs hP hD hS ls hl
    refine lv_iconst (v := 0) hx hb dX2_learn_23 (by decide) ?_
    refine lv_iconst (v := 0) hx hb dX2_learn_24 (by decide) ?_
    have eT : thLea sk st = flI x1 0 0 := by unfold thLea; rw [← ex1]
    refine mu_call (va_runV (As := [.int x1, .int 0, .int 0]) (rest := []) ⟨hx, hb, hml, hown, hts⟩ (c_X2_fails l G _ mo ce gv dr go sa th st sk tk be so le an fc fg fd fo fs x1 0 0) (cwV 3 hts gX2_learn_X2_fails rfl rfl rfl (by decide +kernel) ⟨Nat.le_of_ble_eq_true rfl, Nat.le_of_ble_eq_true rfl⟩) ⟨mu_blind, va_recv hK.1 hP (ci := 2) (q0 := 0) rfl rfl, mu_pre _ (hP.sub [0, 1, 2, 3, 4, 5] rfl) (hD.sub [0, 1, 2, 3, 4, 5] (by decide) rfl) hK⟩ rfl rfl hl.1 rfl (lv_room (Nat.le_of_ble_eq_true rfl)) dX2_learn_25 ⟨Nat.le_refl _, Nat.le_refl _⟩) hS (va_free hD hS hA [0, 1, 2, 3, 4, 5] rfl) (va_free hD hS hA [0, 1, 2, 3, 4, 5] rfl) (fun H1 locs hP1 hD1 hk1 hS => ?_)
    obtain ⟨hP, hD⟩ := rp_join (ws' := [(mo, .inr (2, [.int (flI x1 0 0), .ref ce, .ref gv, .int st, .int sk, .ref dr, .ref go, .int tk, .int be, .int so, .int le, .int an, .ref sa])), (ce, eI G 418 fc), (gv, eZ G 30 fg), (dr, eI G 10 fd), (go, eI G 10 fo), (sa, eI G 10 fs)]) hP hD [0, 1, 2, 3, 4, 5] rfl hk1 hP1 (fun k q h => match k, q, h with | 0, q, h => Or.inl ⟨0, h⟩ | 1, q, h => Or.inl ⟨1, h⟩ | 2, q, h => Or.inl ⟨2, h⟩ | 3, q, h => Or.inl ⟨3, h⟩ | 4, q, h => Or.inl ⟨4, h⟩ | 5, q, h => Or.inl ⟨5, h⟩ | k + 6, q, h => nomatch h) rfl
    generalize H1 = H at hP hS ⊢
    have hP : va_P G.1 vwCl [(mo, .inr (2, [.int (flI x1 0 0), .ref ce, .ref gv, .int st, .int sk, .ref dr, .ref go, .int tk, .int be, .int so, .int le, .int an, .ref sa])), (ce, eI G 418 fc), (gv, eZ G 30 fg), (dr, eI G 10 fd), (go, eI G 10 fo), (sa, eI G 10 fs)] H := hP
    have hD : va_D A [(mo, .inr (2, [.int (flI x1 0 0), .ref ce, .ref gv, .int st, .int sk, .ref dr, .ref go, .int tk, .int be, .int so, .int le, .int an, .ref sa])), (ce, eI G 418 fc), (gv, eZ G 30 fg), (dr, eI G 10 fd), (go, eI G 10 fo), (sa, eI G 10 fs)] := hD
    refine lv_if_eq (tgt := 33) hx hb dX2_learn_28 (by decide) (fun c_28 => ?_) (fun c_28 => ?_)
    · have hz : thLea sk st = 0 := by rw [eT]; exact cnt0 c_28
      have hn1 : 1 ≤ n := ge_n esk (show (1 : Int32) = nI 1 from rfl) (by omega) (by decide) (lrI0 (fl0 hz).1).1
      have hk : k < 30 := lt30 est hk30 (lrI0 (fl0 hz).1).2
      refine lv_aload_n hx hb dX2_learn_33 rfl (lv_at hl 0 rfl) ?_
      refine lv_aload_n hx hb dX2_learn_34 rfl (lv_at hl 0 rfl) ?_
      refine ro_call (va_runV (As := []) (rest := [.ref mo]) ⟨hx, hb, hml, hown, hts⟩ (c_X2_upper l G mo ce gv dr go sa (flI x1 0 0) st sk tk be so le an fc fg fd fo fs) (cwV 0 hts gX2_learn_X2_upper rfl rfl rfl (by decide +kernel) ⟨Nat.le_of_ble_eq_true rfl, Nat.le_of_ble_eq_true rfl⟩) ⟨ro_blind, va_recv hK.1 hP (ci := 2) (q0 := 0) rfl rfl, ro_pre _ (hP.sub [0, 1, 2, 3, 4, 5] rfl) hK⟩ rfl rfl hl.1 rfl (lv_room (Nat.le_of_ble_eq_true rfl)) dX2_learn_35 ⟨Nat.le_refl _, Nat.le_refl _⟩) ?_
      refine lv_iconst (v := 0) hx hb dX2_learn_38 (by decide) ?_
      refine mu_call (va_runV (As := [.int (30 + sk - 1), .int 0]) (rest := []) ⟨hx, hb, hml, hown, hts⟩ (c_X2_keep l G _ mo ce gv dr go sa (flI x1 0 0) st sk tk be so le an fc fg fd fo fs (30 + sk - 1) (29 + n) (na_up esk (by omega)) (by omega) 0 rfl k est (by omega) (by omega)) (cwV 2 hts gX2_learn_X2_keep rfl rfl rfl (by decide +kernel) ⟨Nat.le_of_ble_eq_true rfl, Nat.le_of_ble_eq_true rfl⟩) ⟨mu_blind, va_recv hK.1 hP (ci := 2) (q0 := 0) rfl rfl, mu_pre _ (hP.sub [0, 1, 2, 3, 4, 5] rfl) (hD.sub [0, 1, 2, 3, 4, 5] (by decide) rfl) hK⟩ rfl rfl hl.1 rfl (lv_room (Nat.le_of_ble_eq_true rfl)) dX2_learn_39 ⟨Nat.le_refl _, Nat.le_refl _⟩) hS (va_free hD hS hA [0, 1, 2, 3, 4, 5] rfl) (va_free hD hS hA [0, 1, 2, 3, 4, 5] rfl) (fun H1 locs hP1 hD1 hk1 hS => ?_)
      obtain ⟨hP, hD⟩ := rp_join (ws' := [(mo, .inr (2, [.int (flI x1 0 0), .ref ce, .ref gv, .int (st + 1), .int sk, .ref dr, .ref go, .int tk, .int be, .int so, .int le, .int an, .ref sa])), (ce, eI G 418 (cpy11 fc (29 + n) k)), (gv, eZ G 30 (upd fg k 0)), (dr, eI G 10 fd), (go, eI G 10 fo), (sa, eI G 10 fs)]) hP hD [0, 1, 2, 3, 4, 5] rfl hk1 hP1 (fun k q h => match k, q, h with | 0, q, h => Or.inl ⟨0, h⟩ | 1, q, h => Or.inl ⟨1, h⟩ | 2, q, h => Or.inl ⟨2, h⟩ | 3, q, h => Or.inl ⟨3, h⟩ | 4, q, h => Or.inl ⟨4, h⟩ | 5, q, h => Or.inl ⟨5, h⟩ | k + 6, q, h => nomatch h) rfl
      generalize H1 = H at hP hS ⊢
      have hP : va_P G.1 vwCl [(mo, .inr (2, [.int (flI x1 0 0), .ref ce, .ref gv, .int (st + 1), .int sk, .ref dr, .ref go, .int tk, .int be, .int so, .int le, .int an, .ref sa])), (ce, eI G 418 (cpy11 fc (29 + n) k)), (gv, eZ G 30 (upd fg k 0)), (dr, eI G 10 fd), (go, eI G 10 fo), (sa, eI G 10 fs)] H := hP
      have hD : va_D A [(mo, .inr (2, [.int (flI x1 0 0), .ref ce, .ref gv, .int (st + 1), .int sk, .ref dr, .ref go, .int tk, .int be, .int so, .int le, .int an, .ref sa])), (ce, eI G 418 (cpy11 fc (29 + n) k)), (gv, eZ G 30 (upd fg k 0)), (dr, eI G 10 fd), (go, eI G 10 fo), (sa, eI G 10 fs)] := hD
      refine lv_istore_n (lv' := [(1, .int (st + 1 - 1)), (0, .ref mo)]) hx hb dX2_learn_42 rfl hl (by decide) rfl (fun ls hl => ?_)
      refine lv_aload_n hx hb dX2_learn_43 rfl (lv_at hl 1 rfl) ?_
      refine lv_dup hx hb dX2_learn_44 rfl ?_
      refine va_get (D := G.1) (ci := 2) (v := .int sk) (C := RX2) (T := TX2) (N := 13) hx hb hts hinX2 hown hK.1 hP 0 rfl rfl 4 (by decide) hw1 (fun _ h9 => h9) rfl dX2_learn_45 ?_
      refine lv_iconst (v := 1) hx hb dX2_learn_48 (by decide) ?_
      refine lv_isub hx hb dX2_learn_49 ?_
      refine va_put (D := G.1) (ci := 2) (v := .int (sk - 1)) (ty := .int) (C := RX2) (T := TX2) (N := 13) hx hb hts hinX2 tyX2 tyX2_ok nmX2 hown hK.1 hP hD hS 0 rfl rfl 4 (by decide) hw1 (fun _ h9 => h9) rfl (by decide +kernel) rfl rfl (Nat.le_of_ble_eq_true rfl) dX2_learn_50 (fun H locs hP hD hS => ?_)
      have hP : va_P G.1 vwCl [(mo, .inr (2, [.int (flI x1 0 0), .ref ce, .ref gv, .int (st + 1), .int (sk - 1), .ref dr, .ref go, .int tk, .int be, .int so, .int le, .int an, .ref sa])), (ce, eI G 418 (cpy11 fc (29 + n) k)), (gv, eZ G 30 (upd fg k 0)), (dr, eI G 10 fd), (go, eI G 10 fo), (sa, eI G 10 fs)] H := hP
      have hD : va_D A [(mo, .inr (2, [.int (flI x1 0 0), .ref ce, .ref gv, .int (st + 1), .int (sk - 1), .ref dr, .ref go, .int tk, .int be, .int so, .int le, .int an, .ref sa])), (ce, eI G 418 (cpy11 fc (29 + n) k)), (gv, eZ G 30 (upd fg k 0)), (dr, eI G 10 fd), (go, eI G 10 fo), (sa, eI G 10 fs)] := hD
      refine lv_iload_n hx hb dX2_learn_53 rfl (lv_at hl 0 rfl) ?_
      have hP9 := hP.sub (ws' := [(mo, .inr (2, [.int (thLea sk st), .ref ce, .ref gv, .int (if thLea sk st = 0 then st + 1 else st), .int (if thLea sk st = 0 then sk - 1 else sk), .ref dr, .ref go, .int tk, .int be, .int so, .int le, .int an, .ref sa])), (ce, eI G 418 (if thLea sk st = 0 then cpy11 fc (29 + n) k else fc)), (gv, eZ G 30 (if thLea sk st = 0 then upd fg k 0 else fg)), (dr, eI G 10 fd), (go, eI G 10 fo), (sa, eI G 10 fs)]) [0, 1, 2, 3, 4, 5] (by simp only [if_pos hz]; rw [eT]; rfl)
      have hD9 := hD.sub (ws' := [(mo, .inr (2, [.int (thLea sk st), .ref ce, .ref gv, .int (if thLea sk st = 0 then st + 1 else st), .int (if thLea sk st = 0 then sk - 1 else sk), .ref dr, .ref go, .int tk, .int be, .int so, .int le, .int an, .ref sa])), (ce, eI G 418 (if thLea sk st = 0 then cpy11 fc (29 + n) k else fc)), (gv, eZ G 30 (if thLea sk st = 0 then upd fg k 0 else fg)), (dr, eI G 10 fd), (go, eI G 10 fo), (sa, eI G 10 fs)]) [0, 1, 2, 3, 4, 5] (by decide) (by simp only [if_pos hz]; rw [eT]; rfl)
      exact W.iret (v := st + 1 - 1) hx hb hr (fun t ht hW => ⟨congrArg (fun z => Outcome.returned (some (Value.int z))) ((if_pos hz).symm), by rw [ht]; exact hP9, hD9, hS.F ht⟩) hS.2.2 dX2_learn_54
    · have hz : ¬ thLea sk st = 0 := by rw [eT]; exact cnt1 c_28
      refine lv_iconst (v := 0) hx hb dX2_learn_31 (by decide) ?_
      have hP9 := hP.sub (ws' := [(mo, .inr (2, [.int (thLea sk st), .ref ce, .ref gv, .int (if thLea sk st = 0 then st + 1 else st), .int (if thLea sk st = 0 then sk - 1 else sk), .ref dr, .ref go, .int tk, .int be, .int so, .int le, .int an, .ref sa])), (ce, eI G 418 (if thLea sk st = 0 then cpy11 fc (29 + n) k else fc)), (gv, eZ G 30 (if thLea sk st = 0 then upd fg k 0 else fg)), (dr, eI G 10 fd), (go, eI G 10 fo), (sa, eI G 10 fs)]) [0, 1, 2, 3, 4, 5] (by simp only [if_neg hz]; rw [eT]; rfl)
      have hD9 := hD.sub (ws' := [(mo, .inr (2, [.int (thLea sk st), .ref ce, .ref gv, .int (if thLea sk st = 0 then st + 1 else st), .int (if thLea sk st = 0 then sk - 1 else sk), .ref dr, .ref go, .int tk, .int be, .int so, .int le, .int an, .ref sa])), (ce, eI G 418 (if thLea sk st = 0 then cpy11 fc (29 + n) k else fc)), (gv, eZ G 30 (if thLea sk st = 0 then upd fg k 0 else fg)), (dr, eI G 10 fd), (go, eI G 10 fo), (sa, eI G 10 fs)]) [0, 1, 2, 3, 4, 5] (by decide) (by simp only [if_neg hz]; rw [eT]; rfl)
      exact W.iret (v := 0) hx hb hr (fun t ht hW => ⟨congrArg (fun z => Outcome.returned (some (Value.int z))) ((if_neg hz).symm), by rw [ht]; exact hP9, hD9, hS.F ht⟩) hS.2.2 dX2_learn_32
  refine lv_aload_n hx hb dX2_learn_1 rfl (lv_at hl 0 rfl) ?_
  refine va_get (D := G.1) (ci := 2) (v := .int sk) (C := RX2) (T := TX2) (N := 13) hx hb hts hinX2 hown hK.1 hP 0 rfl rfl 4 (by decide) hw1 (fun _ h9 => h9) rfl dX2_learn_2 ?_
  refine lv_iconst (v := 1) hx hb dX2_learn_5 (by decide) ?_
  refine lv_icmp_lt (tgt := 18) hx hb dX2_learn_6 (by decide) (fun c_6 => ?_) (fun c_6 => ?_)
  · refine lv_iconst (v := 1) hx hb dX2_learn_18 (by decide) ?_
    refine lv_goto (tgt := 23) hx hb dX2_learn_19 (by decide) ?_
    exact join_23 _ (by unfold lrI; rw [if_pos c_6]) _ _ (hP.sub [0, 1, 2, 3, 4, 5] rfl) (hD.sub [0, 1, 2, 3, 4, 5] (by decide) rfl) hS ls (lv_sub hl [0] rfl)
  · refine lv_aload_n hx hb dX2_learn_9 rfl (lv_at hl 0 rfl) ?_
    refine va_get (D := G.1) (ci := 2) (v := .int st) (C := RX2) (T := TX2) (N := 13) hx hb hts hinX2 hown hK.1 hP 0 rfl rfl 3 (by decide) hw2 (fun _ h9 => h9) rfl dX2_learn_10 ?_
    refine lv_bipush (v := 30) hx hb dX2_learn_13 (by decide) ?_
    refine lv_icmp_ne (tgt := 22) hx hb dX2_learn_15 (by decide) (fun c_15 => ?_) (fun c_15 => ?_)
    · refine lv_iconst (v := 0) hx hb dX2_learn_22 (by decide) ?_
      exact join_23 _ (by unfold lrI; rw [if_neg c_6, if_neg c_15]) _ _ (hP.sub [0, 1, 2, 3, 4, 5] rfl) (hD.sub [0, 1, 2, 3, 4, 5] (by decide) rfl) hS ls (lv_sub hl [0] rfl)
    · refine lv_iconst (v := 1) hx hb dX2_learn_18 (by decide) ?_
      refine lv_goto (tgt := 23) hx hb dX2_learn_19 (by decide) ?_
      exact join_23 _ (by unfold lrI; rw [if_neg c_6, if_pos c_15]) _ _ (hP.sub [0, 1, 2, 3, 4, 5] rfl) (hD.sub [0, 1, 2, 3, 4, 5] (by decide) rfl) hS ls (lv_sub hl [0] rfl)
