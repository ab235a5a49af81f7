abbrev rmX2_found : Room := { frames := 2, cells := 0, slots := 0, locals := 46 }
set_option maxHeartbeats 4000000 in
set_option maxRecDepth 100000 in
theorem c_X2_found (l : Launch) (G : Gt) (sz : Nat) (mo ce gv dr go sa : Nat) (th st sk tk be so le an : Int32) (fc fg fd fo fs : Nat → Int32) (x : Int32) (k : Nat) (est : st = nI k) (hk30 : k ≤ 30) : Met l yX2_found wsX2_found rmX2_found (mu_P G sz [.ref mo, .int x] [(mo, .inr (2, [.int th, .ref ce, .ref gv, .int st, .int sk, .ref dr, .ref go, .int tk, .int be, .int so, .int le, .int an, .ref sa])), (ce, eI G 418 fc), (gv, eZ G 30 fg), (dr, eI G 10 fd), (go, eI G 10 fo), (sa, eI G 10 fs)]) (mu_Q G (some (.int (if thFou st x = 0 then (if mtA fc x k = true then (if ngM fo = true then 1 else 1) else 0) else 0))) [(mo, .inr (2, [.int (thFou st x), .ref ce, .ref gv, .int (if thFou st x = 0 then (if mtA fc x k = true then (if ngM fo = true then st else st + 1) else st) else st), .int sk, .ref dr, .ref go, .int (if thFou st x = 0 then (if mtA fc x k = true then (if ngM fo = true then 1 else 1) else tk) else tk), .int (if thFou st x = 0 then (if mtA fc x k = true then (if ngM fo = true then wrM fo x else wrM fo x) else be) else be), .int so, .int le, .int an, .ref sa])), (ce, eI G 418 (if thFou st x = 0 then (if mtA fc x k = true then (if ngM fo = true then fc else cpy11 (nmC fc fo (-1) (1 - wrM fo x)) 36 k) else fc) else fc)), (gv, eZ G 30 (if thFou st x = 0 then (if mtA fc x k = true then (if ngM fo = true then fg else upd fg k 0) else fg) else fg)), (dr, eI G 10 fd), (go, eI G 10 fo), (sa, eI G 10 fs)] (va_A [(mo, .inr (2, [.int th, .ref ce, .ref gv, .int st, .int sk, .ref dr, .ref go, .int tk, .int be, .int so, .int le, .int an, .ref sa])), (ce, eI G 418 fc), (gv, eZ G 30 fg), (dr, eI G 10 fd), (go, eI G 10 fo), (sa, eI G 10 fs)] sz)) 0 0 (va_A [(mo, .inr (2, [.int th, .ref ce, .ref gv, .int st, .int sk, .ref dr, .ref go, .int tk, .int be, .int so, .int le, .int an, .ref sa])), (ce, eI G 418 fc), (gv, eZ G 30 fg), (dr, eI G 10 fd), (go, eI G 10 fo), (sa, eI G 10 fs)] sz) := by
  refine Met.ofW (cc := cX2_found) (maxL := 3) (ret := (some .boolean)) (by decide) rfl ?_
  intro p e s m args below meth c s₁ B hml hv
  obtain ⟨rfl, hsz, hP, hD0, hK⟩ := hv
  have hx := B.exec
  have hb := B.bytes
  have hr := B.returns
  have hts := atoms_spec (ws := wsX2_found) B.pre
  have hown : s.vm.findClass RX2 = some m.cls := findClass_of_methodNamed B.named
  have hlocks := B.notSynchronized
  subst hsz
  have hD := hD0.self (sz := s.heap.size)
  generalize hAe : va_A [(mo, .inr (2, [.int th, .ref ce, .ref gv, .int st, .int sk, .ref dr, .ref go, .int tk, .int be, .int so, .int le, .int an, .ref sa])), (ce, eI G 418 fc), (gv, eZ G 30 fg), (dr, eI G 10 fd), (go, eI G 10 fo), (sa, eI G 10 fs)] s.heap.size = A at hD ⊢
  have hA : ∀ q : Nat, s.heap.size ≤ q → A q := fun q h => by rw [← hAe]; exact Or.inr h
  have hS : va_S A s.heap s.heap [] := va_S.rf
  have hinX2 : ∀ w ∈ u_ws RX2 TX2 13, w ∈ wsX2_found := fun w h => List.mem_cons_of_mem _ (List.mem_append_right _ h)
  have hw1 := hts (.fieldLink RX2 45 "ChoiceBoardModel" "stored" "I") (by decide +kernel)
  have hw2 := hts (.fieldLink RX2 52 "ChoiceBoardModel" "taken" "Z") (by decide +kernel)
  have hw3 := hts (.fieldLink RX2 100 "ChoiceBoardModel" "best" "I") (by decide +kernel)
  have hl := lv_entry ([.ref mo, .int x]) (n := 3) (Nat.le_of_ble_eq_true rfl)
  rw [lg_entry_eq]
  generalize (lg_sl ([.ref mo, .int x]) ++ List.replicate (3 - (lg_sl ([.ref mo, .int x])).length) Slot.unset).toArray = ls at hl ⊢
  have hl : lv_has ls 3 [(0, .ref mo), (1, .int x)] := hl
  refine lv_aload_n hx hb dX2_found_0 rfl (lv_at hl 0 rfl) ?_
  refine lv_iload_n hx hb dX2_found_1 rfl (lv_at hl 1 rfl) ?_
  refine lv_iconst (v := 0) hx hb dX2_found_2 (by decide) ?_
  refine lv_sipush (v := 1023) hx hb dX2_found_3 (by decide) ?_
  refine ro_call (va_runS (As := [.int x, .int 0, .int 1023]) (rest := [.ref mo]) ⟨hx, hb, hml, hown, hts⟩ (c_X2_outside l G x 0 1023) (va_cwS 3 hts gX2_found_X2_outside rfl rfl rfl (by decide +kernel) ⟨Nat.le_of_ble_eq_true rfl, Nat.le_of_ble_eq_true rfl⟩) ⟨ro_blind, ro_pre _ (hP.sub [] rfl) hK⟩ rfl rfl hl.1 rfl (lv_room (Nat.le_of_ble_eq_true rfl)) dX2_found_6 ⟨Nat.le_refl _, Nat.le_refl _⟩) ?_
  have join_23 : ∀ (x2 : Int32), (x2 = eqI st 30) → ∀ (H : Heap) (locs : List Loc), va_P G.1 vwCl [(mo, .inr (2, [.int th, .ref ce, .ref gv, .int st, .int sk, .ref dr, .ref go, .int tk, .int be, .int so, .int le, .int an, .ref sa])), (ce, eI G 418 fc), (gv, eZ G 30 fg), (dr, eI G 10 fd), (go, eI G 10 fo), (sa, eI G 10 fs)] H → va_D A [(mo, .inr (2, [.int th, .ref ce, .ref gv, .int st, .int sk, .ref dr, .ref go, .int tk, .int be, .int so, .int le, .int an, .ref sa])), (ce, eI G 418 fc), (gv, eZ G 30 fg), (dr, eI G 10 fd), (go, eI G 10 fo), (sa, eI G 10 fs)] → va_S A s.heap H locs → ∀ ls : Array Slot, lv_has ls 3 [(0, .ref mo), (1, .int x)] → W p l e rmX2_found s m [.ref mo, .int x].toArray below meth c H locs 0 0 (MQ below (mu_Q G (some (.int (if thFou st x = 0 then (if mtA fc x k = true then (if ngM fo = true then 1 else 1) else 0) else 0))) [(mo, .inr (2, [.int (thFou st x), .ref ce, .ref gv, .int (if thFou st x = 0 then (if mtA fc x k = true then (if ngM fo = true then st else st + 1) else st) else st), .int sk, .ref dr, .ref go, .int (if thFou st x = 0 then (if mtA fc x k = true then (if ngM fo = true then 1 else 1) else tk) else tk), .int (if thFou st x = 0 then (if mtA fc x k = true then (if ngM fo = true then wrM fo x else wrM fo x) else be) else be), .int so, .int le, .int an, .ref sa])), (ce, eI G 418 (if thFou st x = 0 then (if mtA fc x k = true then (if ngM fo = true then fc else cpy11 (nmC fc fo (-1) (1 - wrM fo x)) 36 k) else fc) else fc)), (gv, eZ G 30 (if thFou st x = 0 then (if mtA fc x k = true then (if ngM fo = true then fg else upd fg k 0) else fg) else fg)), (dr, eI G 10 fd), (go, eI G 10 fo), (sa, eI G 10 fs)] A) [.ref mo, .int x].toArray s 0 0 A) (F0 m 23 ls [.int x2, .int (outI x 0 1023), .ref mo]) := by
    intro x2 ex2 H locs hP hD hS ls hl
    refine lv_iconst (v := 0) hx hb dX2_found_23 (by decide) ?_
    have eT : thFou st x = flI (outI x 0 1023) x2 0 := by unfold thFou; rw [← ex2]
    refine mu_call (va_runV (As := [.int (outI x 0 1023), .int x2, .int 0]) (rest := []) ⟨hx, hb, hml, hown, hts⟩ (c_X2_fails l G _ mo ce gv dr go sa th st sk tk be so le an fc fg fd fo fs (outI x 0 1023) x2 0) (cwV 3 hts gX2_found_X2_fails rfl rfl rfl (by decide +kernel) ⟨Nat.le_of_ble_eq_true rfl, Nat.le_of_ble_eq_true rfl⟩) ⟨mu_blind, va_recv hK.1 hP (ci := 2) (q0 := 0) rfl rfl, mu_pre _ (hP.sub [0, 1, 2, 3, 4, 5] rfl) (hD.sub [0, 1, 2, 3, 4, 5] (by decide) rfl) hK⟩ rfl rfl hl.1 rfl (lv_room (Nat.le_of_ble_eq_true rfl)) dX2_found_24 ⟨Nat.le_refl _, Nat.le_refl _⟩) hS (va_free hD hS hA [0, 1, 2, 3, 4, 5] rfl) (va_free hD hS hA [0, 1, 2, 3, 4, 5] rfl) (fun H1 locs hP1 hD1 hk1 hS => ?_)
    obtain ⟨hP, hD⟩ := rp_join (ws' := [(mo, .inr (2, [.int (flI (outI x 0 1023) x2 0), .ref ce, .ref gv, .int st, .int sk, .ref dr, .ref go, .int tk, .int be, .int so, .int le, .int an, .ref sa])), (ce, eI G 418 fc), (gv, eZ G 30 fg), (dr, eI G 10 fd), (go, eI G 10 fo), (sa, eI G 10 fs)]) hP hD [0, 1, 2, 3, 4, 5] rfl hk1 hP1 (fun k q h => match k, q, h with | 0, q, h => Or.inl ⟨0, h⟩ | 1, q, h => Or.inl ⟨1, h⟩ | 2, q, h => Or.inl ⟨2, h⟩ | 3, q, h => Or.inl ⟨3, h⟩ | 4, q, h => Or.inl ⟨4, h⟩ | 5, q, h => Or.inl ⟨5, h⟩ | k + 6, q, h => nomatch h) rfl
    generalize H1 = H at hP hS ⊢
    have hP : va_P G.1 vwCl [(mo, .inr (2, [.int (flI (outI x 0 1023) x2 0), .ref ce, .ref gv, .int st, .int sk, .ref dr, .ref go, .int tk, .int be, .int so, .int le, .int an, .ref sa])), (ce, eI G 418 fc), (gv, eZ G 30 fg), (dr, eI G 10 fd), (go, eI G 10 fo), (sa, eI G 10 fs)] H := hP
    have hD : va_D A [(mo, .inr (2, [.int (flI (outI x 0 1023) x2 0), .ref ce, .ref gv, .int st, .int sk, .ref dr, .ref go, .int tk, .int be, .int so, .int le, .int an, .ref sa])), (ce, eI G 418 fc), (gv, eZ G 30 fg), (dr, eI G 10 fd), (go, eI G 10 fo), (sa, eI G 10 fs)] := hD
    refine lv_if_eq (tgt := 32) hx hb dX2_found_27 (by decide) (fun c_27 => ?_) (fun c_27 => ?_)
    · have hz : thFou st x = 0 := by rw [eT]; exact cnt0 c_27
      have hk : k < 30 := lt30 est hk30 (eqI0 (fl0 hz).2.1)
      refine lv_iconst (v := 0) hx hb dX2_found_32 (by decide) ?_
      refine lv_istore_n (lv' := [(2, .int 0), (0, .ref mo), (1, .int x)]) hx hb dX2_found_33 rfl hl (by decide) rfl (fun ls hl => ?_)
      have loop_34 : ∀ (n_34 i : Nat) (xi : Int32), i ≤ k → k + 1 ≤ i + n_34 → (xi = nI i) → (mtA fc x i = true) → ∀ (H : Heap) (locs : List Loc), va_P G.1 vwCl [(mo, .inr (2, [.int (flI (outI x 0 1023) x2 0), .ref ce, .ref gv, .int st, .int sk, .ref dr, .ref go, .int tk, .int be, .int so, .int le, .int an, .ref sa])), (ce, eI G 418 fc), (gv, eZ G 30 fg), (dr, eI G 10 fd), (go, eI G 10 fo), (sa, eI G 10 fs)] H → va_D A [(mo, .inr (2, [.int (flI (outI x 0 1023) x2 0), .ref ce, .ref gv, .int st, .int sk, .ref dr, .ref go, .int tk, .int be, .int so, .int le, .int an, .ref sa])), (ce, eI G 418 fc), (gv, eZ G 30 fg), (dr, eI G 10 fd), (go, eI G 10 fo), (sa, eI G 10 fs)] → va_S A s.heap H locs → ∀ ls : Array Slot, lv_has ls 3 [(0, .ref mo), (1, .int x), (2, .int xi)] → W p l e rmX2_found s m [.ref mo, .int x].toArray below meth c H locs 0 0 (MQ below (mu_Q G (some (.int (if thFou st x = 0 then (if mtA fc x k = true then (if ngM fo = true then 1 else 1) else 0) else 0))) [(mo, .inr (2, [.int (thFou st x), .ref ce, .ref gv, .int (if thFou st x = 0 then (if mtA fc x k = true then (if ngM fo = true then st else st + 1) else st) else st), .int sk, .ref dr, .ref go, .int (if thFou st x = 0 then (if mtA fc x k = true then (if ngM fo = true then 1 else 1) else tk) else tk), .int (if thFou st x = 0 then (if mtA fc x k = true then (if ngM fo = true then wrM fo x else wrM fo x) else be) else be), .int so, .int le, .int an, .ref sa])), (ce, eI G 418 (if thFou st x = 0 then (if mtA fc x k = true then (if ngM fo = true then fc else cpy11 (nmC fc fo (-1) (1 - wrM fo x)) 36 k) else fc) else fc)), (gv, eZ G 30 (if thFou st x = 0 then (if mtA fc x k = true then (if ngM fo = true then fg else upd fg k 0) else fg) else fg)), (dr, eI G 10 fd), (go, eI G 10 fo), (sa, eI G 10 fs)] A) [.ref mo, .int x].toArray s 0 0 A) (F0 m 34 ls []) := by
        intro n_34
        induction n_34 with
        | zero => intro i xi h1 h2; exact absurd h2 (by omega)
        | succ n_34 ih_34 =>
          intro i xi hi_34 hn_34 ei ea H locs hP hD hS ls hl
          refine lv_iload_n hx hb dX2_found_34 rfl (lv_at hl 2 rfl) ?_
          refine lv_aload_n hx hb dX2_found_35 rfl (lv_at hl 0 rfl) ?_
          refine va_get (D := G.1) (ci := 2) (v := .int st) (C := RX2) (T := TX2) (N := 13) hx hb hts hinX2 hown hK.1 hP 0 rfl rfl 3 (by decide) hw1 (fun _ h9 => h9) rfl dX2_found_36 ?_
          refine lv_icmp_ge (tgt := 59) hx hb dX2_found_39 (by decide) (fun c_39 => ?_) (fun c_39 => ?_)
          · have hN : i = k := ge_ix ei est (by omega) c_39 hi_34
            have hm : mtA fc x k = true := by rw [← hN]; exact ea
            refine lv_aload_n hx hb dX2_found_59 rfl (lv_at hl 0 rfl) ?_
            refine lv_iconst (v := 1) hx hb dX2_found_60 (by decide) ?_
            refine va_put (D := G.1) (ci := 2) (v := .int 1) (ty := .boolean) (C := RX2) (T := TX2) (N := 13) hx hb hts hinX2 tyX2 tyX2_ok nmX2 hown hK.1 hP hD hS 0 rfl rfl 7 (by decide) hw2 (fun _ h9 => h9) rfl (by decide +kernel) rfl rfl (Nat.le_of_ble_eq_true rfl) dX2_found_61 (fun H locs hP hD hS => ?_)
            have hP : va_P G.1 vwCl [(mo, .inr (2, [.int (flI (outI x 0 1023) x2 0), .ref ce, .ref gv, .int st, .int sk, .ref dr, .ref go, .int 1, .int be, .int so, .int le, .int an, .ref sa])), (ce, eI G 418 fc), (gv, eZ G 30 fg), (dr, eI G 10 fd), (go, eI G 10 fo), (sa, eI G 10 fs)] H := hP
            have hD : va_D A [(mo, .inr (2, [.int (flI (outI x 0 1023) x2 0), .ref ce, .ref gv, .int st, .int sk, .ref dr, .ref go, .int 1, .int be, .int so, .int le, .int an, .ref sa])), (ce, eI G 418 fc), (gv, eZ G 30 fg), (dr, eI G 10 fd), (go, eI G 10 fo), (sa, eI G 10 fs)] := hD
            refine lv_aload_n hx hb dX2_found_64 rfl (lv_at hl 0 rfl) ?_
            refine lv_aload_n hx hb dX2_found_65 rfl (lv_at hl 0 rfl) ?_
            refine lv_iload_n hx hb dX2_found_66 rfl (lv_at hl 1 rfl) ?_
            refine ro_call (va_runV (As := [.int x]) (rest := [.ref mo]) ⟨hx, hb, hml, hown, hts⟩ (c_X2_worth l G mo ce gv dr go sa (flI (outI x 0 1023) x2 0) st sk 1 be so le an fc fg fd fo fs x) (cwV 1 hts gX2_found_X2_worth rfl rfl rfl (by decide +kernel) ⟨Nat.le_of_ble_eq_true rfl, Nat.le_of_ble_eq_true rfl⟩) ⟨ro_blind, va_recv hK.1 hP (ci := 2) (q0 := 0) rfl rfl, ro_pre _ (hP.sub [0, 1, 2, 3, 4, 5] rfl) hK⟩ rfl rfl hl.1 rfl (lv_room (Nat.le_of_ble_eq_true rfl)) dX2_found_67 ⟨Nat.le_refl _, Nat.le_refl _⟩) ?_
            refine va_put (D := G.1) (ci := 2) (v := .int (wrM fo x)) (ty := .int) (C := RX2) (T := TX2) (N := 13) hx hb hts hinX2 tyX2 tyX2_ok nmX2 hown hK.1 hP hD hS 0 rfl rfl 8 (by decide) hw3 (fun _ h9 => h9) rfl (by decide +kernel) rfl rfl (Nat.le_of_ble_eq_true rfl) dX2_found_70 (fun H locs hP hD hS => ?_)
            have hP : va_P G.1 vwCl [(mo, .inr (2, [.int (flI (outI x 0 1023) x2 0), .ref ce, .ref gv, .int st, .int sk, .ref dr, .ref go, .int 1, .int (wrM fo x), .int so, .int le, .int an, .ref sa])), (ce, eI G 418 fc), (gv, eZ G 30 fg), (dr, eI G 10 fd), (go, eI G 10 fo), (sa, eI G 10 fs)] H := hP
            have hD : va_D A [(mo, .inr (2, [.int (flI (outI x 0 1023) x2 0), .ref ce, .ref gv, .int st, .int sk, .ref dr, .ref go, .int 1, .int (wrM fo x), .int so, .int le, .int an, .ref sa])), (ce, eI G 418 fc), (gv, eZ G 30 fg), (dr, eI G 10 fd), (go, eI G 10 fo), (sa, eI G 10 fs)] := hD
            refine lv_aload_n hx hb dX2_found_73 rfl (lv_at hl 0 rfl) ?_
            refine ro_call (va_runV (As := []) (rest := []) ⟨hx, hb, hml, hown, hts⟩ (c_X2_noGoal l G mo ce gv dr go sa (flI (outI x 0 1023) x2 0) st sk 1 (wrM fo x) so le an fc fg fd fo fs) (cwV 0 hts gX2_found_X2_noGoal rfl rfl rfl (by decide +kernel) ⟨Nat.le_of_ble_eq_true rfl, Nat.le_of_ble_eq_true rfl⟩) ⟨ro_blind, va_recv hK.1 hP (ci := 2) (q0 := 0) rfl rfl, ro_pre _ (hP.sub [0, 1, 2, 3, 4, 5] rfl) hK⟩ rfl rfl hl.1 rfl (lv_room (Nat.le_of_ble_eq_true rfl)) dX2_found_74 ⟨Nat.le_refl _, Nat.le_refl _⟩) ?_
            refine lv_if_eq (tgt := 82) hx hb dX2_found_77 (by decide) (fun c_77 => ?_) (fun c_77 => ?_)
            · have hg := bI_eq c_77
              refine lv_aload_n hx hb dX2_found_82 rfl (lv_at hl 0 rfl) ?_
              refine lv_iconst (v := 1) hx hb dX2_found_83 (by decide) ?_
              refine lv_iconst (v := (-1)) hx hb dX2_found_84 (by decide) ?_
              refine lv_iconst (v := 1) hx hb dX2_found_85 (by decide) ?_
              refine lv_aload_n hx hb dX2_found_86 rfl (lv_at hl 0 rfl) ?_
              refine va_get (D := G.1) (ci := 2) (v := .int (wrM fo x)) (C := RX2) (T := TX2) (N := 13) hx hb hts hinX2 hown hK.1 hP 0 rfl rfl 8 (by decide) hw3 (fun _ h9 => h9) rfl dX2_found_87 ?_
              refine lv_isub hx hb dX2_found_90 ?_
              refine mu_call (va_runV (As := [.int 1, .int (-1), .int (1 - (wrM fo x))]) (rest := []) ⟨hx, hb, hml, hown, hts⟩ (c_X2_normalize_g l G _ mo ce gv dr go sa (flI (outI x 0 1023) x2 0) st sk 1 (wrM fo x) so le an fc fg fd fo fs 1 (-1) (1 - (wrM fo x)) (by decide)) (cwV 3 hts gX2_found_X2_normalize rfl rfl rfl (by decide +kernel) ⟨Nat.le_of_ble_eq_true rfl, Nat.le_of_ble_eq_true rfl⟩) ⟨mu_blind, va_recv hK.1 hP (ci := 2) (q0 := 0) rfl rfl, mu_pre _ (hP.sub [0, 1, 2, 3, 4, 5] rfl) (hD.sub [0, 1, 2, 3, 4, 5] (by decide) rfl) hK⟩ rfl rfl hl.1 rfl (lv_room (Nat.le_of_ble_eq_true rfl)) dX2_found_91 ⟨Nat.le_refl _, Nat.le_refl _⟩) hS (va_free hD hS hA [0, 1, 2, 3, 4, 5] rfl) (va_free hD hS hA [0, 1, 2, 3, 4, 5] rfl) (fun H1 locs hP1 hD1 hk1 hS => ?_)
              obtain ⟨hP, hD⟩ := rp_join (ws' := [(mo, .inr (2, [.int (flI (outI x 0 1023) x2 0), .ref ce, .ref gv, .int st, .int sk, .ref dr, .ref go, .int 1, .int (wrM fo x), .int so, .int le, .int an, .ref sa])), (ce, eI G 418 (nmC fc fo (-1) (1 - (wrM fo x)))), (gv, eZ G 30 fg), (dr, eI G 10 fd), (go, eI G 10 fo), (sa, eI G 10 fs)]) hP hD [0, 1, 2, 3, 4, 5] rfl hk1 hP1 (fun k q h => match k, q, h with | 0, q, h => Or.inl ⟨0, h⟩ | 1, q, h => Or.inl ⟨1, h⟩ | 2, q, h => Or.inl ⟨2, h⟩ | 3, q, h => Or.inl ⟨3, h⟩ | 4, q, h => Or.inl ⟨4, h⟩ | 5, q, h => Or.inl ⟨5, h⟩ | k + 6, q, h => nomatch h) rfl
              generalize H1 = H at hP hS ⊢
              have hP : va_P G.1 vwCl [(mo, .inr (2, [.int (flI (outI x 0 1023) x2 0), .ref ce, .ref gv, .int st, .int sk, .ref dr, .ref go, .int 1, .int (wrM fo x), .int so, .int le, .int an, .ref sa])), (ce, eI G 418 (nmC fc fo (-1) (1 - (wrM fo x)))), (gv, eZ G 30 fg), (dr, eI G 10 fd), (go, eI G 10 fo), (sa, eI G 10 fs)] H := hP
              have hD : va_D A [(mo, .inr (2, [.int (flI (outI x 0 1023) x2 0), .ref ce, .ref gv, .int st, .int sk, .ref dr, .ref go, .int 1, .int (wrM fo x), .int so, .int le, .int an, .ref sa])), (ce, eI G 418 (nmC fc fo (-1) (1 - (wrM fo x)))), (gv, eZ G 30 fg), (dr, eI G 10 fd), (go, eI G 10 fo), (sa, eI G 10 fs)] := hD
              refine lv_aload_n hx hb dX2_found_94 rfl (lv_at hl 0 rfl) ?_
              refine lv_bipush (v := 36) hx hb dX2_found_95 (by decide) ?_
              refine lv_iconst (v := 0) hx hb dX2_found_97 (by decide) ?_
              refine mu_call (va_runV (As := [.int 36, .int 0]) (rest := []) ⟨hx, hb, hml, hown, hts⟩ (c_X2_keep l G _ mo ce gv dr go sa (flI (outI x 0 1023) x2 0) st sk 1 (wrM fo x) so le an (nmC fc fo (-1) (1 - (wrM fo x))) fg fd fo fs 36 36 (by decide) (by omega) 0 rfl k est (by omega) (by omega)) (cwV 2 hts gX2_found_X2_keep rfl rfl rfl (by decide +kernel) ⟨Nat.le_of_ble_eq_true rfl, Nat.le_of_ble_eq_true rfl⟩) ⟨mu_blind, va_recv hK.1 hP (ci := 2) (q0 := 0) rfl rfl, mu_pre _ (hP.sub [0, 1, 2, 3, 4, 5] rfl) (hD.sub [0, 1, 2, 3, 4, 5] (by decide) rfl) hK⟩ rfl rfl hl.1 rfl (lv_room (Nat.le_of_ble_eq_true rfl)) dX2_found_98 ⟨Nat.le_refl _, Nat.le_refl _⟩) hS (va_free hD hS hA [0, 1, 2, 3, 4, 5] rfl) (va_free hD hS hA [0, 1, 2, 3, 4, 5] rfl) (fun H1 locs hP1 hD1 hk1 hS => ?_)
              obtain ⟨hP, hD⟩ := rp_join (ws' := [(mo, .inr (2, [.int (flI (outI x 0 1023) x2 0), .ref ce, .ref gv, .int (st + 1), .int sk, .ref dr, .ref go, .int 1, .int (wrM fo x), .int so, .int le, .int an, .ref sa])), (ce, eI G 418 (cpy11 (nmC fc fo (-1) (1 - (wrM fo x))) 36 k)), (gv, eZ G 30 (upd fg k 0)), (dr, eI G 10 fd), (go, eI G 10 fo), (sa, eI G 10 fs)]) hP hD [0, 1, 2, 3, 4, 5] rfl hk1 hP1 (fun k q h => match k, q, h with | 0, q, h => Or.inl ⟨0, h⟩ | 1, q, h => Or.inl ⟨1, h⟩ | 2, q, h => Or.inl ⟨2, h⟩ | 3, q, h => Or.inl ⟨3, h⟩ | 4, q, h => Or.inl ⟨4, h⟩ | 5, q, h => Or.inl ⟨5, h⟩ | k + 6, q, h => nomatch h) rfl
              generalize H1 = H at hP hS ⊢
              have hP : va_P G.1 vwCl [(mo, .inr (2, [.int (flI (outI x 0 1023) x2 0), .ref ce, .ref gv, .int (st + 1), .int sk, .ref dr, .ref go, .int 1, .int (wrM fo x), .int so, .int le, .int an, .ref sa])), (ce, eI G 418 (cpy11 (nmC fc fo (-1) (1 - (wrM fo x))) 36 k)), (gv, eZ G 30 (upd fg k 0)), (dr, eI G 10 fd), (go, eI G 10 fo), (sa, eI G 10 fs)] H := hP
              have hD : va_D A [(mo, .inr (2, [.int (flI (outI x 0 1023) x2 0), .ref ce, .ref gv, .int (st + 1), .int sk, .ref dr, .ref go, .int 1, .int (wrM fo x), .int so, .int le, .int an, .ref sa])), (ce, eI G 418 (cpy11 (nmC fc fo (-1) (1 - (wrM fo x))) 36 k)), (gv, eZ G 30 (upd fg k 0)), (dr, eI G 10 fd), (go, eI G 10 fo), (sa, eI G 10 fs)] := hD
              refine lv_pop hx hb dX2_found_101 rfl ?_
              refine lv_iconst (v := 1) hx hb dX2_found_102 (by decide) ?_
              have hP9 := hP.sub (ws' := [(mo, .inr (2, [.int (thFou st x), .ref ce, .ref gv, .int (if thFou st x = 0 then (if mtA fc x k = true then (if ngM fo = true then st else st + 1) else st) else st), .int sk, .ref dr, .ref go, .int (if thFou st x = 0 then (if mtA fc x k = true then (if ngM fo = true then 1 else 1) else tk) else tk), .int (if thFou st x = 0 then (if mtA fc x k = true then (if ngM fo = true then wrM fo x else wrM fo x) else be) else be), .int so, .int le, .int an, .ref sa])), (ce, eI G 418 (if thFou st x = 0 then (if mtA fc x k = true then (if ngM fo = true then fc else cpy11 (nmC fc fo (-1) (1 - wrM fo x)) 36 k) else fc) else fc)), (gv, eZ G 30 (if thFou st x = 0 then (if mtA fc x k = true then (if ngM fo = true then fg else upd fg k 0) else fg) else fg)), (dr, eI G 10 fd), (go, eI G 10 fo), (sa, eI G 10 fs)]) [0, 1, 2, 3, 4, 5] (by simp only [if_pos hz, if_pos hm, if_neg (show ¬ ngM fo = true by rw [hg]; decide)]; rw [eT]; rfl)
              have hD9 := hD.sub (ws' := [(mo, .inr (2, [.int (thFou st x), .ref ce, .ref gv, .int (if thFou st x = 0 then (if mtA fc x k = true then (if ngM fo = true then st else st + 1) else st) else st), .int sk, .ref dr, .ref go, .int (if thFou st x = 0 then (if mtA fc x k = true then (if ngM fo = true then 1 else 1) else tk) else tk), .int (if thFou st x = 0 then (if mtA fc x k = true then (if ngM fo = true then wrM fo x else wrM fo x) else be) else be), .int so, .int le, .int an, .ref sa])), (ce, eI G 418 (if thFou st x = 0 then (if mtA fc x k = true then (if ngM fo = true then fc else cpy11 (nmC fc fo (-1) (1 - wrM fo x)) 36 k) else fc) else fc)), (gv, eZ G 30 (if thFou st x = 0 then (if mtA fc x k = true then (if ngM fo = true then fg else upd fg k 0) else fg) else fg)), (dr, eI G 10 fd), (go, eI G 10 fo), (sa, eI G 10 fs)]) [0, 1, 2, 3, 4, 5] (by decide) (by simp only [if_pos hz, if_pos hm, if_neg (show ¬ ngM fo = true by rw [hg]; decide)]; rw [eT]; rfl)
              exact W.zret (v := 1) (ty := .boolean) hx hb hr rfl (fun t ht hW => ⟨congrArg (fun z => Outcome.returned (some (Value.int z))) (by rw [if_pos hz, if_pos hm, if_neg (by rw [hg]; decide)]), by rw [ht]; exact hP9, hD9, hS.F ht⟩) hS.2.2 dX2_found_103
            · have hg := bI_ne c_77
              refine lv_iconst (v := 1) hx hb dX2_found_80 (by decide) ?_
              have hP9 := hP.sub (ws' := [(mo, .inr (2, [.int (thFou st x), .ref ce, .ref gv, .int (if thFou st x = 0 then (if mtA fc x k = true then (if ngM fo = true then st else st + 1) else st) else st), .int sk, .ref dr, .ref go, .int (if thFou st x = 0 then (if mtA fc x k = true then (if ngM fo = true then 1 else 1) else tk) else tk), .int (if thFou st x = 0 then (if mtA fc x k = true then (if ngM fo = true then wrM fo x else wrM fo x) else be) else be), .int so, .int le, .int an, .ref sa])), (ce, eI G 418 (if thFou st x = 0 then (if mtA fc x k = true then (if ngM fo = true then fc else cpy11 (nmC fc fo (-1) (1 - wrM fo x)) 36 k) else fc) else fc)), (gv, eZ G 30 (if thFou st x = 0 then (if mtA fc x k = true then (if ngM fo = true then fg else upd fg k 0) else fg) else fg)), (dr, eI G 10 fd), (go, eI G 10 fo), (sa, eI G 10 fs)]) [0, 1, 2, 3, 4, 5] (by simp only [if_pos hz, if_pos hm, if_pos hg]; rw [eT]; rfl)
              have hD9 := hD.sub (ws' := [(mo, .inr (2, [.int (thFou st x), .ref ce, .ref gv, .int (if thFou st x = 0 then (if mtA fc x k = true then (if ngM fo = true then st else st + 1) else st) else st), .int sk, .ref dr, .ref go, .int (if thFou st x = 0 then (if mtA fc x k = true then (if ngM fo = true then 1 else 1) else tk) else tk), .int (if thFou st x = 0 then (if mtA fc x k = true then (if ngM fo = true then wrM fo x else wrM fo x) else be) else be), .int so, .int le, .int an, .ref sa])), (ce, eI G 418 (if thFou st x = 0 then (if mtA fc x k = true then (if ngM fo = true then fc else cpy11 (nmC fc fo (-1) (1 - wrM fo x)) 36 k) else fc) else fc)), (gv, eZ G 30 (if thFou st x = 0 then (if mtA fc x k = true then (if ngM fo = true then fg else upd fg k 0) else fg) else fg)), (dr, eI G 10 fd), (go, eI G 10 fo), (sa, eI G 10 fs)]) [0, 1, 2, 3, 4, 5] (by decide) (by simp only [if_pos hz, if_pos hm, if_pos hg]; rw [eT]; rfl)
              exact W.zret (v := 1) (ty := .boolean) hx hb hr rfl (fun t ht hW => ⟨congrArg (fun z => Outcome.returned (some (Value.int z))) (by rw [if_pos hz, if_pos hm, if_pos hg]), by rw [ht]; exact hP9, hD9, hS.F ht⟩) hS.2.2 dX2_found_81
          · have hlt : i < k := lt_ix ei est (by omega) c_39 hi_34
            refine lv_aload_n hx hb dX2_found_42 rfl (lv_at hl 0 rfl) ?_
            refine lv_iload_n hx hb dX2_found_43 rfl (lv_at hl 2 rfl) ?_
            refine lv_iload_n hx hb dX2_found_44 rfl (lv_at hl 1 rfl) ?_
            refine ro_call (va_runV (As := [.int xi, .int x]) (rest := []) ⟨hx, hb, hml, hown, hts⟩ (c_X2_meets l G mo ce gv dr go sa (flI (outI x 0 1023) x2 0) st sk tk be so le an fc fg fd fo fs xi i ei (by omega) x) (cwV 2 hts gX2_found_X2_meets rfl rfl rfl (by decide +kernel) ⟨Nat.le_of_ble_eq_true rfl, Nat.le_of_ble_eq_true rfl⟩) ⟨ro_blind, va_recv hK.1 hP (ci := 2) (q0 := 0) rfl rfl, ro_pre _ (hP.sub [0, 1, 2, 3, 4, 5] rfl) hK⟩ rfl rfl hl.1 rfl (lv_room (Nat.le_of_ble_eq_true rfl)) dX2_found_45 ⟨Nat.le_refl _, Nat.le_refl _⟩) ?_
            refine lv_if_ne (tgt := 53) hx hb dX2_found_48 (by decide) (fun c_48 => ?_) (fun c_48 => ?_)
            · refine lv_iinc (v := xi + 1) (lv' := [(2, .int (xi + 1)), (0, .ref mo), (1, .int x)]) hx hb dX2_found_53 hl (k := 2) rfl rfl (by decide) rfl (fun ls hl => ?_)
              refine lv_goto (tgt := 34) hx hb dX2_found_56 (by decide) ?_
              exact ih_34 (i + 1) _ (by omega) (by omega) (by rw [ei]; exact nI_1 i) (by unfold mtA at ea ⊢; rw [allB_t (decide_eq_true c_48)]; exact ea) _ _ (hP.sub [0, 1, 2, 3, 4, 5] rfl) (hD.sub [0, 1, 2, 3, 4, 5] (by decide) rfl) hS ls (lv_sub hl [1, 2, 0] rfl)
            · have hm : ¬ mtA fc x k = true := by unfold mtA; rw [allB_false (i := i) (decide_eq_false (fun q => q c_48)) k hlt]; decide
              refine lv_iconst (v := 0) hx hb dX2_found_51 (by decide) ?_
              have hP9 := hP.sub (ws' := [(mo, .inr (2, [.int (thFou st x), .ref ce, .ref gv, .int (if thFou st x = 0 then (if mtA fc x k = true then (if ngM fo = true then st else st + 1) else st) else st), .int sk, .ref dr, .ref go, .int (if thFou st x = 0 then (if mtA fc x k = true then (if ngM fo = true then 1 else 1) else tk) else tk), .int (if thFou st x = 0 then (if mtA fc x k = true then (if ngM fo = true then wrM fo x else wrM fo x) else be) else be), .int so, .int le, .int an, .ref sa])), (ce, eI G 418 (if thFou st x = 0 then (if mtA fc x k = true then (if ngM fo = true then fc else cpy11 (nmC fc fo (-1) (1 - wrM fo x)) 36 k) else fc) else fc)), (gv, eZ G 30 (if thFou st x = 0 then (if mtA fc x k = true then (if ngM fo = true then fg else upd fg k 0) else fg) else fg)), (dr, eI G 10 fd), (go, eI G 10 fo), (sa, eI G 10 fs)]) [0, 1, 2, 3, 4, 5] (by simp only [if_pos hz, if_neg hm]; rw [eT]; rfl)
              have hD9 := hD.sub (ws' := [(mo, .inr (2, [.int (thFou st x), .ref ce, .ref gv, .int (if thFou st x = 0 then (if mtA fc x k = true then (if ngM fo = true then st else st + 1) else st) else st), .int sk, .ref dr, .ref go, .int (if thFou st x = 0 then (if mtA fc x k = true then (if ngM fo = true then 1 else 1) else tk) else tk), .int (if thFou st x = 0 then (if mtA fc x k = true then (if ngM fo = true then wrM fo x else wrM fo x) else be) else be), .int so, .int le, .int an, .ref sa])), (ce, eI G 418 (if thFou st x = 0 then (if mtA fc x k = true then (if ngM fo = true then fc else cpy11 (nmC fc fo (-1) (1 - wrM fo x)) 36 k) else fc) else fc)), (gv, eZ G 30 (if thFou st x = 0 then (if mtA fc x k = true then (if ngM fo = true then fg else upd fg k 0) else fg) else fg)), (dr, eI G 10 fd), (go, eI G 10 fo), (sa, eI G 10 fs)]) [0, 1, 2, 3, 4, 5] (by decide) (by simp only [if_pos hz, if_neg hm]; rw [eT]; rfl)
              exact W.zret (v := 0) (ty := .boolean) hx hb hr rfl (fun t ht hW => ⟨congrArg (fun z => Outcome.returned (some (Value.int z))) (by rw [if_pos hz, if_neg hm]), by rw [ht]; exact hP9, hD9, hS.F ht⟩) hS.2.2 dX2_found_52
      exact loop_34 (k + 1) 0 _ (Nat.zero_le _) (by omega) (by exact nI_0.symm) (by rfl) _ _ (hP.sub [0, 1, 2, 3, 4, 5] rfl) (hD.sub [0, 1, 2, 3, 4, 5] (by decide) rfl) hS ls (lv_sub hl [1, 2, 0] rfl)
    · have hz : ¬ thFou st x = 0 := by rw [eT]; exact cnt1 c_27
      refine lv_iconst (v := 0) hx hb dX2_found_30 (by decide) ?_
      have hP9 := hP.sub (ws' := [(mo, .inr (2, [.int (thFou st x), .ref ce, .ref gv, .int (if thFou st x = 0 then (if mtA fc x k = true then (if ngM fo = true then st else st + 1) else st) else st), .int sk, .ref dr, .ref go, .int (if thFou st x = 0 then (if mtA fc x k = true then (if ngM fo = true then 1 else 1) else tk) else tk), .int (if thFou st x = 0 then (if mtA fc x k = true then (if ngM fo = true then wrM fo x else wrM fo x) else be) else be), .int so, .int le, .int an, .ref sa])), (ce, eI G 418 (if thFou st x = 0 then (if mtA fc x k = true then (if ngM fo = true then fc else cpy11 (nmC fc fo (-1) (1 - wrM fo x)) 36 k) else fc) else fc)), (gv, eZ G 30 (if thFou st x = 0 then (if mtA fc x k = true then (if ngM fo = true then fg else upd fg k 0) else fg) else fg)), (dr, eI G 10 fd), (go, eI G 10 fo), (sa, eI G 10 fs)]) [0, 1, 2, 3, 4, 5] (by simp only [if_neg hz]; rw [eT]; rfl)
      have hD9 := hD.sub (ws' := [(mo, .inr (2, [.int (thFou st x), .ref ce, .ref gv, .int (if thFou st x = 0 then (if mtA fc x k = true then (if ngM fo = true then st else st + 1) else st) else st), .int sk, .ref dr, .ref go, .int (if thFou st x = 0 then (if mtA fc x k = true then (if ngM fo = true then 1 else 1) else tk) else tk), .int (if thFou st x = 0 then (if mtA fc x k = true then (if ngM fo = true then wrM fo x else wrM fo x) else be) else be), .int so, .int le, .int an, .ref sa])), (ce, eI G 418 (if thFou st x = 0 then (if mtA fc x k = true then (if ngM fo = true then fc else cpy11 (nmC fc fo (-1) (1 - wrM fo x)) 36 k) else fc) else fc)), (gv, eZ G 30 (if thFou st x = 0 then (if mtA fc x k = true then (if ngM fo = true then fg else upd fg k 0) else fg) else fg)), (dr, eI G 10 fd), (go, eI G 10 fo), (sa, eI G 10 fs)]) [0, 1, 2, 3, 4, 5] (by decide) (by simp only [if_neg hz]; rw [eT]; rfl)
      exact W.zret (v := 0) (ty := .boolean) hx hb hr rfl (fun t ht hW => ⟨congrArg (fun z => Outcome.returned (some (Value.int z))) ((if_neg hz).symm), by rw [ht]; exact hP9, hD9, hS.F ht⟩) hS.2.2 dX2_found_31
  refine lv_aload_n hx hb dX2_found_9 rfl (lv_at hl 0 rfl) ?_
  refine va_get (D := G.1) (ci := 2) (v := .int st) (C := RX2) (T := TX2) (N := 13) hx hb hts hinX2 hown hK.1 hP 0 rfl rfl 3 (by decide) hw1 (fun _ h9 => h9) rfl dX2_found_10 ?_
  refine lv_bipush (v := 30) hx hb dX2_found_13 (by decide) ?_
  refine lv_icmp_ne (tgt := 22) hx hb dX2_found_15 (by decide) (fun c_15 => ?_) (fun c_15 => ?_)
  · refine lv_iconst (v := 0) hx hb dX2_found_22 (by decide) ?_
    exact join_23 _ (by unfold eqI; rw [if_neg c_15]) _ _ (hP.sub [0, 1, 2, 3, 4, 5] rfl) (hD.sub [0, 1, 2, 3, 4, 5] (by decide) rfl) hS ls (lv_sub hl [0, 1] rfl)
  · refine lv_iconst (v := 1) hx hb dX2_found_18 (by decide) ?_
    refine lv_goto (tgt := 23) hx hb dX2_found_19 (by decide) ?_
    exact join_23 _ (by unfold eqI; rw [if_pos c_15]) _ _ (hP.sub [0, 1, 2, 3, 4, 5] rfl) (hD.sub [0, 1, 2, 3, 4, 5] (by decide) rfl) hS ls (lv_sub hl [0, 1] rfl)

abbrev rmX2_verdict : Room := { frames := 2, cells := 0, slots := 0, locals := 43 }
set_option maxHeartbeats 4000000 in
set_option maxRecDepth 100000 in
theorem c_X2_verdict (l : Launch) (G : Gt) (sz : Nat) (mo ce gv dr go sa : Nat) (th st sk tk be so le an : Int32) (fc fg fd fo fs : Nat → Int32) (k : Nat) (est : st = nI k) (hk30 : k ≤ 30) : Met l yX2_verdict wsX2_verdict rmX2_verdict (mu_P G sz [.ref mo] [(mo, .inr (2, [.int th, .ref ce, .ref gv, .int st, .int sk, .ref dr, .ref go, .int tk, .int be, .int so, .int le, .int an, .ref sa])), (ce, eI G 418 fc), (gv, eZ G 30 fg), (dr, eI G 10 fd), (go, eI G 10 fo), (sa, eI G 10 fs)]) (mu_Q G (some (.int (veR fc fo k tk))) [(mo, .inr (2, [.int 0, .ref ce, .ref gv, .int st, .int sk, .ref dr, .ref go, .int tk, .int be, .int so, .int le, .int an, .ref sa])), (ce, eI G 418 fc), (gv, eZ G 30 fg), (dr, eI G 10 fd), (go, eI G 10 fo), (sa, eI G 10 fs)] (va_A [(mo, .inr (2, [.int th, .ref ce, .ref gv, .int st, .int sk, .ref dr, .ref go, .int tk, .int be, .int so, .int le, .int an, .ref sa])), (ce, eI G 418 fc), (gv, eZ G 30 fg), (dr, eI G 10 fd), (go, eI G 10 fo), (sa, eI G 10 fs)] sz)) 0 0 (va_A [(mo, .inr (2, [.int th, .ref ce, .ref gv, .int st, .int sk, .ref dr, .ref go, .int tk, .int be, .int so, .int le, .int an, .ref sa])), (ce, eI G 418 fc), (gv, eZ G 30 fg), (dr, eI G 10 fd), (go, eI G 10 fo), (sa, eI G 10 fs)] sz) := by
  refine Met.ofW (cc := cX2_verdict) (maxL := 2) (ret := (some .int)) (by decide) rfl ?_
  intro p e s m args below meth c s₁ B hml hv
  obtain ⟨rfl, hsz, hP, hD0, hK⟩ := hv
  have hx := B.exec
  have hb := B.bytes
  have hr := B.returns
  have hts := atoms_spec (ws := wsX2_verdict) B.pre
  have hown : s.vm.findClass RX2 = some m.cls := findClass_of_methodNamed B.named
  have hlocks := B.notSynchronized
  subst hsz
  have hD := hD0.self (sz := s.heap.size)
  generalize hAe : va_A [(mo, .inr (2, [.int th, .ref ce, .ref gv, .int st, .int sk, .ref dr, .ref go, .int tk, .int be, .int so, .int le, .int an, .ref sa])), (ce, eI G 418 fc), (gv, eZ G 30 fg), (dr, eI G 10 fd), (go, eI G 10 fo), (sa, eI G 10 fs)] s.heap.size = A at hD ⊢
  have hA : ∀ q : Nat, s.heap.size ≤ q → A q := fun q h => by rw [← hAe]; exact Or.inr h
  have hS : va_S A s.heap s.heap [] := va_S.rf
  have hinX2 : ∀ w ∈ u_ws RX2 TX2 13, w ∈ wsX2_verdict := fun w h => List.mem_cons_of_mem _ (List.mem_append_right _ h)
  have hw1 := hts (.fieldLink RX2 26 "ChoiceBoardModel" "thrown" "I") (by decide +kernel)
  have hw2 := hts (.fieldLink RX2 45 "ChoiceBoardModel" "stored" "I") (by decide +kernel)
  have hw3 := hts (.fieldLink RX2 52 "ChoiceBoardModel" "taken" "Z") (by decide +kernel)
  have hw4 := hts (.fieldLink RX2 7 "ChoiceBoardModel" "cell" "[I") (by decide +kernel)
  have hl := lv_entry ([.ref mo]) (n := 2) (Nat.le_of_ble_eq_true rfl)
  rw [lg_entry_eq]
  generalize (lg_sl ([.ref mo]) ++ List.replicate (2 - (lg_sl ([.ref mo])).length) Slot.unset).toArray = ls at hl ⊢
  have hl : lv_has ls 2 [(0, .ref mo)] := hl
  refine lv_aload_n hx hb dX2_verdict_0 rfl (lv_at hl 0 rfl) ?_
  refine lv_iconst (v := 0) hx hb dX2_verdict_1 (by decide) ?_
  refine va_put (D := G.1) (ci := 2) (v := .int 0) (ty := .int) (C := RX2) (T := TX2) (N := 13) hx hb hts hinX2 tyX2 tyX2_ok nmX2 hown hK.1 hP hD hS 0 rfl rfl 0 (by decide) hw1 (fun _ h9 => h9) rfl (by decide +kernel) rfl rfl (Nat.le_of_ble_eq_true rfl) dX2_verdict_2 (fun H locs hP hD hS => ?_)
  have hP : va_P G.1 vwCl [(mo, .inr (2, [.int 0, .ref ce, .ref gv, .int st, .int sk, .ref dr, .ref go, .int tk, .int be, .int so, .int le, .int an, .ref sa])), (ce, eI G 418 fc), (gv, eZ G 30 fg), (dr, eI G 10 fd), (go, eI G 10 fo), (sa, eI G 10 fs)] H := hP
  have hD : va_D A [(mo, .inr (2, [.int 0, .ref ce, .ref gv, .int st, .int sk, .ref dr, .ref go, .int tk, .int be, .int so, .int le, .int an, .ref sa])), (ce, eI G 418 fc), (gv, eZ G 30 fg), (dr, eI G 10 fd), (go, eI G 10 fo), (sa, eI G 10 fs)] := hD
  refine lv_iconst (v := 0) hx hb dX2_verdict_5 (by decide) ?_
  refine lv_istore_n (lv' := [(1, .int 0), (0, .ref mo)]) hx hb dX2_verdict_6 rfl hl (by decide) rfl (fun ls hl => ?_)
  have loop_7 : ∀ (n_7 i : Nat) (xi : Int32), i ≤ k → k + 1 ≤ i + n_7 → (xi = nI i) → (anyB (fun r => decide (szM fc r < fc (11 * r + 10))) i = false) → ∀ (H : Heap) (locs : List Loc), va_P G.1 vwCl [(mo, .inr (2, [.int 0, .ref ce, .ref gv, .int st, .int sk, .ref dr, .ref go, .int tk, .int be, .int so, .int le, .int an, .ref sa])), (ce, eI G 418 fc), (gv, eZ G 30 fg), (dr, eI G 10 fd), (go, eI G 10 fo), (sa, eI G 10 fs)] H → va_D A [(mo, .inr (2, [.int 0, .ref ce, .ref gv, .int st, .int sk, .ref dr, .ref go, .int tk, .int be, .int so, .int le, .int an, .ref sa])), (ce, eI G 418 fc), (gv, eZ G 30 fg), (dr, eI G 10 fd), (go, eI G 10 fo), (sa, eI G 10 fs)] → va_S A s.heap H locs → ∀ ls : Array Slot, lv_has ls 2 [(0, .ref mo), (1, .int xi)] → W p l e rmX2_verdict s m [.ref mo].toArray below meth c H locs 0 0 (MQ below (mu_Q G (some (.int (veR fc fo k tk))) [(mo, .inr (2, [.int 0, .ref ce, .ref gv, .int st, .int sk, .ref dr, .ref go, .int tk, .int be, .int so, .int le, .int an, .ref sa])), (ce, eI G 418 fc), (gv, eZ G 30 fg), (dr, eI G 10 fd), (go, eI G 10 fo), (sa, eI G 10 fs)] A) [.ref mo].toArray s 0 0 A) (F0 m 7 ls []) := by
    intro n_7
    induction n_7 with
    | zero => intro i xi h1 h2; exact absurd h2 (by omega)
    | succ n_7 ih_7 =>
      intro i xi hi_7 hn_7 ei ea H locs hP hD hS ls hl
      refine lv_iload_n hx hb dX2_verdict_7 rfl (lv_at hl 1 rfl) ?_
      refine lv_aload_n hx hb dX2_verdict_8 rfl (lv_at hl 0 rfl) ?_
      refine va_get (D := G.1) (ci := 2) (v := .int st) (C := RX2) (T := TX2) (N := 13) hx hb hts hinX2 hown hK.1 hP 0 rfl rfl 3 (by decide) hw2 (fun _ h9 => h9) rfl dX2_verdict_9 ?_
      refine lv_icmp_ge (tgt := 54) hx hb dX2_verdict_12 (by decide) (fun c_12 => ?_) (fun c_12 => ?_)
      · have hN : i = k := ge_ix ei est (by omega) c_12 hi_7
        rw [hN] at ea
        refine lv_aload_n hx hb dX2_verdict_54 rfl (lv_at hl 0 rfl) ?_
        refine va_get (D := G.1) (ci := 2) (v := .int tk) (C := RX2) (T := TX2) (N := 13) hx hb hts hinX2 hown hK.1 hP 0 rfl rfl 7 (by decide) hw3 (fun _ h9 => h9) rfl dX2_verdict_55 ?_
        refine lv_if_eq (tgt := 72) hx hb dX2_verdict_58 (by decide) (fun c_58 => ?_) (fun c_58 => ?_)
        · refine lv_iconst (v := 0) hx hb dX2_verdict_72 (by decide) ?_
          have hP9 := hP.sub (ws' := [(mo, .inr (2, [.int 0, .ref ce, .ref gv, .int st, .int sk, .ref dr, .ref go, .int tk, .int be, .int so, .int le, .int an, .ref sa])), (ce, eI G 418 fc), (gv, eZ G 30 fg), (dr, eI G 10 fd), (go, eI G 10 fo), (sa, eI G 10 fs)]) [0, 1, 2, 3, 4, 5] rfl
          have hD9 := hD.sub (ws' := [(mo, .inr (2, [.int 0, .ref ce, .ref gv, .int st, .int sk, .ref dr, .ref go, .int tk, .int be, .int so, .int le, .int an, .ref sa])), (ce, eI G 418 fc), (gv, eZ G 30 fg), (dr, eI G 10 fd), (go, eI G 10 fo), (sa, eI G 10 fs)]) [0, 1, 2, 3, 4, 5] (by decide) rfl
          exact W.iret (v := 0) hx hb hr (fun t ht hW => ⟨congrArg (fun z => Outcome.returned (some (Value.int z))) (by unfold veR; rw [if_neg (by rw [ea]; decide), if_pos c_58]), by rw [ht]; exact hP9, hD9, hS.F ht⟩) hS.2.2 dX2_verdict_73
        · refine lv_aload_n hx hb dX2_verdict_61 rfl (lv_at hl 0 rfl) ?_
          refine ro_call (va_runV (As := []) (rest := []) ⟨hx, hb, hml, hown, hts⟩ (c_X2_noGoal l G mo ce gv dr go sa 0 st sk tk be so le an fc fg fd fo fs) (cwV 0 hts gX2_verdict_X2_noGoal rfl rfl rfl (by decide +kernel) ⟨Nat.le_of_ble_eq_true rfl, Nat.le_of_ble_eq_true rfl⟩) ⟨ro_blind, va_recv hK.1 hP (ci := 2) (q0 := 0) rfl rfl, ro_pre _ (hP.sub [0, 1, 2, 3, 4, 5] rfl) hK⟩ rfl rfl hl.1 rfl (lv_room (Nat.le_of_ble_eq_true rfl)) dX2_verdict_62 ⟨Nat.le_refl _, Nat.le_refl _⟩) ?_
          refine lv_if_eq (tgt := 72) hx hb dX2_verdict_65 (by decide) (fun c_65 => ?_) (fun c_65 => ?_)
          · refine lv_iconst (v := 0) hx hb dX2_verdict_72 (by decide) ?_
            have hP9 := hP.sub (ws' := [(mo, .inr (2, [.int 0, .ref ce, .ref gv, .int st, .int sk, .ref dr, .ref go, .int tk, .int be, .int so, .int le, .int an, .ref sa])), (ce, eI G 418 fc), (gv, eZ G 30 fg), (dr, eI G 10 fd), (go, eI G 10 fo), (sa, eI G 10 fs)]) [0, 1, 2, 3, 4, 5] rfl
            have hD9 := hD.sub (ws' := [(mo, .inr (2, [.int 0, .ref ce, .ref gv, .int st, .int sk, .ref dr, .ref go, .int tk, .int be, .int so, .int le, .int an, .ref sa])), (ce, eI G 418 fc), (gv, eZ G 30 fg), (dr, eI G 10 fd), (go, eI G 10 fo), (sa, eI G 10 fs)]) [0, 1, 2, 3, 4, 5] (by decide) rfl
            exact W.iret (v := 0) hx hb hr (fun t ht hW => ⟨congrArg (fun z => Outcome.returned (some (Value.int z))) (by unfold veR; rw [if_neg (by rw [ea]; decide), if_neg c_58, if_pos c_65]), by rw [ht]; exact hP9, hD9, hS.F ht⟩) hS.2.2 dX2_verdict_73
          · refine lv_iconst (v := 3) hx hb dX2_verdict_68 (by decide) ?_
            refine lv_goto (tgt := 73) hx hb dX2_verdict_69 (by decide) ?_
            have hP9 := hP.sub (ws' := [(mo, .inr (2, [.int 0, .ref ce, .ref gv, .int st, .int sk, .ref dr, .ref go, .int tk, .int be, .int so, .int le, .int an, .ref sa])), (ce, eI G 418 fc), (gv, eZ G 30 fg), (dr, eI G 10 fd), (go, eI G 10 fo), (sa, eI G 10 fs)]) [0, 1, 2, 3, 4, 5] rfl
            have hD9 := hD.sub (ws' := [(mo, .inr (2, [.int 0, .ref ce, .ref gv, .int st, .int sk, .ref dr, .ref go, .int tk, .int be, .int so, .int le, .int an, .ref sa])), (ce, eI G 418 fc), (gv, eZ G 30 fg), (dr, eI G 10 fd), (go, eI G 10 fo), (sa, eI G 10 fs)]) [0, 1, 2, 3, 4, 5] (by decide) rfl
            exact W.iret (v := 3) hx hb hr (fun t ht hW => ⟨congrArg (fun z => Outcome.returned (some (Value.int z))) (by unfold veR; rw [if_neg (by rw [ea]; decide), if_neg c_58, if_neg c_65]), by rw [ht]; exact hP9, hD9, hS.F ht⟩) hS.2.2 dX2_verdict_73
      · have hlt : i < k := lt_ix ei est (by omega) c_12 hi_7
        refine lv_aload_n hx hb dX2_verdict_15 rfl (lv_at hl 0 rfl) ?_
        refine lv_iload_n hx hb dX2_verdict_16 rfl (lv_at hl 1 rfl) ?_
        refine ro_call (va_runV (As := [.int xi]) (rest := []) ⟨hx, hb, hml, hown, hts⟩ (c_X2_sizes l G mo ce gv dr go sa 0 st sk tk be so le an fc fg fd fo fs xi i ei (by omega)) (cwV 1 hts gX2_verdict_X2_sizes rfl rfl rfl (by decide +kernel) ⟨Nat.le_of_ble_eq_true rfl, Nat.le_of_ble_eq_true rfl⟩) ⟨ro_blind, va_recv hK.1 hP (ci := 2) (q0 := 0) rfl rfl, ro_pre _ (hP.sub [0, 1, 2, 3, 4, 5] rfl) hK⟩ rfl rfl hl.1 rfl (lv_room (Nat.le_of_ble_eq_true rfl)) dX2_verdict_17 ⟨Nat.le_refl _, Nat.le_refl _⟩) ?_
        refine lv_aload_n hx hb dX2_verdict_20 rfl (lv_at hl 0 rfl) ?_
        refine va_get (D := G.1) (ci := 2) (v := .ref ce) (C := RX2) (T := TX2) (N := 13) hx hb hts hinX2 hown hK.1 hP 0 rfl rfl 1 (by decide) hw4 (fun _ h9 => h9) rfl dX2_verdict_21 ?_
        refine lv_bipush (v := 11) hx hb dX2_verdict_24 (by decide) ?_
        refine lv_iload_n hx hb dX2_verdict_26 rfl (lv_at hl 1 rfl) ?_
        refine lv_imul hx hb dX2_verdict_27 ?_
        refine lv_bipush (v := 10) hx hb dX2_verdict_28 (by decide) ?_
        refine lv_iadd hx hb dX2_verdict_30 ?_
        refine ra_iald (f := fc) (v := ((11 * i) + 10)) hx hb hK.1 hP 1 0 rfl rfl (na_add (na_mul (by decide) ei) (by decide)) (by omega) (by decide) dX2_verdict_31 ?_
        refine lv_icmp_ge (tgt := 48) hx hb dX2_verdict_32 (by decide) (fun c_32 => ?_) (fun c_32 => ?_)
        · refine lv_iinc (v := xi + 1) (lv' := [(1, .int (xi + 1)), (0, .ref mo)]) hx hb dX2_verdict_48 hl (k := 1) rfl rfl (by decide) rfl (fun ls hl => ?_)
          refine lv_goto (tgt := 7) hx hb dX2_verdict_51 (by decide) ?_
          exact ih_7 (i + 1) _ (by omega) (by omega) (by rw [ei]; exact nI_1 i) (by rw [anyB_f (decide_eq_false (Int32.not_lt.mpr c_32))]; exact ea) _ _ (hP.sub [0, 1, 2, 3, 4, 5] rfl) (hD.sub [0, 1, 2, 3, 4, 5] (by decide) rfl) hS ls (lv_sub hl [1, 0] rfl)
        · refine lv_aload_n hx hb dX2_verdict_35 rfl (lv_at hl 0 rfl) ?_
          refine va_get (D := G.1) (ci := 2) (v := .int tk) (C := RX2) (T := TX2) (N := 13) hx hb hts hinX2 hown hK.1 hP 0 rfl rfl 7 (by decide) hw3 (fun _ h9 => h9) rfl dX2_verdict_36 ?_
          refine lv_if_eq (tgt := 46) hx hb dX2_verdict_39 (by decide) (fun c_39 => ?_) (fun c_39 => ?_)
          · refine lv_iconst (v := 1) hx hb dX2_verdict_46 (by decide) ?_
            have hP9 := hP.sub (ws' := [(mo, .inr (2, [.int 0, .ref ce, .ref gv, .int st, .int sk, .ref dr, .ref go, .int tk, .int be, .int so, .int le, .int an, .ref sa])), (ce, eI G 418 fc), (gv, eZ G 30 fg), (dr, eI G 10 fd), (go, eI G 10 fo), (sa, eI G 10 fs)]) [0, 1, 2, 3, 4, 5] rfl
            have hD9 := hD.sub (ws' := [(mo, .inr (2, [.int 0, .ref ce, .ref gv, .int st, .int sk, .ref dr, .ref go, .int tk, .int be, .int so, .int le, .int an, .ref sa])), (ce, eI G 418 fc), (gv, eZ G 30 fg), (dr, eI G 10 fd), (go, eI G 10 fo), (sa, eI G 10 fs)]) [0, 1, 2, 3, 4, 5] (by decide) rfl
            exact W.iret (v := 1) hx hb hr (fun t ht hW => ⟨congrArg (fun z => Outcome.returned (some (Value.int z))) (by unfold veR; rw [if_pos (anyB_true (i := i) (decide_eq_true (Int32.not_le.mp c_32)) k hlt), if_pos c_39]), by rw [ht]; exact hP9, hD9, hS.F ht⟩) hS.2.2 dX2_verdict_47
          · refine lv_iconst (v := 2) hx hb dX2_verdict_42 (by decide) ?_
            refine lv_goto (tgt := 47) hx hb dX2_verdict_43 (by decide) ?_
            have hP9 := hP.sub (ws' := [(mo, .inr (2, [.int 0, .ref ce, .ref gv, .int st, .int sk, .ref dr, .ref go, .int tk, .int be, .int so, .int le, .int an, .ref sa])), (ce, eI G 418 fc), (gv, eZ G 30 fg), (dr, eI G 10 fd), (go, eI G 10 fo), (sa, eI G 10 fs)]) [0, 1, 2, 3, 4, 5] rfl
            have hD9 := hD.sub (ws' := [(mo, .inr (2, [.int 0, .ref ce, .ref gv, .int st, .int sk, .ref dr, .ref go, .int tk, .int be, .int so, .int le, .int an, .ref sa])), (ce, eI G 418 fc), (gv, eZ G 30 fg), (dr, eI G 10 fd), (go, eI G 10 fo), (sa, eI G 10 fs)]) [0, 1, 2, 3, 4, 5] (by decide) rfl
            exact W.iret (v := 2) hx hb hr (fun t ht hW => ⟨congrArg (fun z => Outcome.returned (some (Value.int z))) (by unfold veR; rw [if_pos (anyB_true (i := i) (decide_eq_true (Int32.not_le.mp c_32)) k hlt), if_neg c_39]), by rw [ht]; exact hP9, hD9, hS.F ht⟩) hS.2.2 dX2_verdict_47
  exact loop_7 (k + 1) 0 _ (Nat.zero_le _) (by omega) (by exact nI_0.symm) (by rfl) _ _ (hP.sub [0, 1, 2, 3, 4, 5] rfl) (hD.sub [0, 1, 2, 3, 4, 5] (by decide) rfl) hS ls (lv_sub hl [1, 0] rfl)

abbrev rmX2_best : Room := { frames := 1, cells := 0, slots := 0, locals := 23 }
set_option maxHeartbeats 4000000 in
set_option maxRecDepth 100000 in
theorem c_X2_best (l : Launch) (G : Gt) (sz : Nat) (mo ce gv dr go sa : Nat) (th st sk tk be so le an : Int32) (fc fg fd fo fs : Nat → Int32) : Met l yX2_best wsX2_best rmX2_best (mu_P G sz [.ref mo] [(mo, .inr (2, [.int th, .ref ce, .ref gv, .int st, .int sk, .ref dr, .ref go, .int tk, .int be, .int so, .int le, .int an, .ref sa])), (ce, eI G 418 fc), (gv, eZ G 30 fg), (dr, eI G 10 fd), (go, eI G 10 fo), (sa, eI G 10 fs)]) (mu_Q G (some (.int (if thBst tk = 0 then be else 0))) [(mo, .inr (2, [.int (thBst tk), .ref ce, .ref gv, .int st, .int sk, .ref dr, .ref go, .int tk, .int be, .int so, .int le, .int an, .ref sa])), (ce, eI G 418 fc), (gv, eZ G 30 fg), (dr, eI G 10 fd), (go, eI G 10 fo), (sa, eI G 10 fs)] (va_A [(mo, .inr (2, [.int th, .ref ce, .ref gv, .int st, .int sk, .ref dr, .ref go, .int tk, .int be, .int so, .int le, .int an, .ref sa])), (ce, eI G 418 fc), (gv, eZ G 30 fg), (dr, eI G 10 fd), (go, eI G 10 fo), (sa, eI G 10 fs)] sz)) 0 0 (va_A [(mo, .inr (2, [.int th, .ref ce, .ref gv, .int st, .int sk, .ref dr, .ref go, .int tk, .int be, .int so, .int le, .int an, .ref sa])), (ce, eI G 418 fc), (gv, eZ G 30 fg), (dr, eI G 10 fd), (go, eI G 10 fo), (sa, eI G 10 fs)] sz) := by
  refine Met.ofW (cc := cX2_best) (maxL := 1) (ret := (some .int)) (by decide) rfl ?_
  intro p e s m args below meth c s₁ B hml hv
  obtain ⟨rfl, hsz, hP, hD0, hK⟩ := hv
  have hx := B.exec
  have hb := B.bytes
  have hr := B.returns
  have hts := atoms_spec (ws := wsX2_best) B.pre
  have hown : s.vm.findClass RX2 = some m.cls := findClass_of_methodNamed B.named
  have hlocks := B.notSynchronized
  subst hsz
  have hD := hD0.self (sz := s.heap.size)
  generalize hAe : va_A [(mo, .inr (2, [.int th, .ref ce, .ref gv, .int st, .int sk, .ref dr, .ref go, .int tk, .int be, .int so, .int le, .int an, .ref sa])), (ce, eI G 418 fc), (gv, eZ G 30 fg), (dr, eI G 10 fd), (go, eI G 10 fo), (sa, eI G 10 fs)] s.heap.size = A at hD ⊢
  have hA : ∀ q : Nat, s.heap.size ≤ q → A q := fun q h => by rw [← hAe]; exact Or.inr h
  have hS : va_S A s.heap s.heap [] := va_S.rf
  have hinX2 : ∀ w ∈ u_ws RX2 TX2 13, w ∈ wsX2_best := fun w h => List.mem_cons_of_mem _ (List.mem_append_right _ h)
  have hw1 := hts (.fieldLink RX2 100 "ChoiceBoardModel" "best" "I") (by decide +kernel)
  have hw2 := hts (.fieldLink RX2 52 "ChoiceBoardModel" "taken" "Z") (by decide +kernel)
  have hl := lv_entry ([.ref mo]) (n := 1) (Nat.le_of_ble_eq_true rfl)
  rw [lg_entry_eq]
  generalize (lg_sl ([.ref mo]) ++ List.replicate (1 - (lg_sl ([.ref mo])).length) Slot.unset).toArray = ls at hl ⊢
  have hl : lv_has ls 1 [(0, .ref mo)] := hl
  refine lv_aload_n hx hb dX2_best_0 rfl (lv_at hl 0 rfl) ?_
  have join_13 : ∀ (x1 : Int32), (x1 = ntI tk) → ∀ (H : Heap) (locs : List Loc), va_P G.1 vwCl [(mo, .inr (2, [.int th, .ref ce, .ref gv, .int st, .int sk, .ref dr, .ref go, .int tk, .int be, .int so, .int le, .int an, .ref sa])), (ce, eI G 418 fc), (gv, eZ G 30 fg), (dr, eI G 10 fd), (go, eI G 10 fo), (sa, eI G 10 fs)] H → va_D A [(mo, .inr (2, [.int th, .ref ce, .ref gv, .int st, .int sk, .ref dr, .ref go, .int tk, .int be, .int so, .int le, .int an, .ref sa])), (ce, eI G 418 fc), (gv, eZ G 30 fg), (dr, eI G 10 fd), (go, eI G 10 fo), (sa, eI G 10 fs)] → va_S A s.heap H locs → ∀ ls : Array Slot, lv_has ls 1 [(0, .ref mo)] → W p l e rmX2_best s m [.ref mo].toArray below meth c H locs 0 0 (MQ below (mu_Q G (some (.int (if thBst tk = 0 then be else 0))) [(mo, .inr (2, [.int (thBst tk), .ref ce, .ref gv, .int st, .int sk, .ref dr, .ref go, .int tk, .int be, .int so, .int le, .int an, .ref sa])), (ce, eI G 418 fc), (gv, eZ G 30 fg), (dr, eI G 10 fd), (go, eI G 10 fo), (sa, eI G 10 fs)] A) [.ref mo].toArray s 0 0 A) (F0 m 13 ls [.int x1, .ref mo]) := by
    intro x1 ex1 H locs hP hD hS ls hl
    refine lv_iconst (v := 0) hx hb dX2_best_13 (by decide) ?_
    refine lv_iconst (v := 0) hx hb dX2_best_14 (by decide) ?_
    have eT : thBst tk = flI x1 0 0 := by unfold thBst; rw [← ex1]
    refine mu_call (va_runV (As := [.int x1, .int 0, .int 0]) (rest := []) ⟨hx, hb, hml, hown, hts⟩ (c_X2_fails l G _ mo ce gv dr go sa th st sk tk be so le an fc fg fd fo fs x1 0 0) (cwV 3 hts gX2_best_X2_fails rfl rfl rfl (by decide +kernel) ⟨Nat.le_of_ble_eq_true rfl, Nat.le_of_ble_eq_true rfl⟩) ⟨mu_blind, va_recv hK.1 hP (ci := 2) (q0 := 0) rfl rfl, mu_pre _ (hP.sub [0, 1, 2, 3, 4, 5] rfl) (hD.sub [0, 1, 2, 3, 4, 5] (by decide) rfl) hK⟩ rfl rfl hl.1 rfl (lv_room (Nat.le_of_ble_eq_true rfl)) dX2_best_15 ⟨Nat.le_refl _, Nat.le_refl _⟩) hS (va_free hD hS hA [0, 1, 2, 3, 4, 5] rfl) (va_free hD hS hA [0, 1, 2, 3, 4, 5] rfl) (fun H1 locs hP1 hD1 hk1 hS => ?_)
    obtain ⟨hP, hD⟩ := rp_join (ws' := [(mo, .inr (2, [.int (flI x1 0 0), .ref ce, .ref gv, .int st, .int sk, .ref dr, .ref go, .int tk, .int be, .int so, .int le, .int an, .ref sa])), (ce, eI G 418 fc), (gv, eZ G 30 fg), (dr, eI G 10 fd), (go, eI G 10 fo), (sa, eI G 10 fs)]) hP hD [0, 1, 2, 3, 4, 5] rfl hk1 hP1 (fun k q h => match k, q, h with | 0, q, h => Or.inl ⟨0, h⟩ | 1, q, h => Or.inl ⟨1, h⟩ | 2, q, h => Or.inl ⟨2, h⟩ | 3, q, h => Or.inl ⟨3, h⟩ | 4, q, h => Or.inl ⟨4, h⟩ | 5, q, h => Or.inl ⟨5, h⟩ | k + 6, q, h => nomatch h) rfl
    generalize H1 = H at hP hS ⊢
    have hP : va_P G.1 vwCl [(mo, .inr (2, [.int (flI x1 0 0), .ref ce, .ref gv, .int st, .int sk, .ref dr, .ref go, .int tk, .int be, .int so, .int le, .int an, .ref sa])), (ce, eI G 418 fc), (gv, eZ G 30 fg), (dr, eI G 10 fd), (go, eI G 10 fo), (sa, eI G 10 fs)] H := hP
    have hD : va_D A [(mo, .inr (2, [.int (flI x1 0 0), .ref ce, .ref gv, .int st, .int sk, .ref dr, .ref go, .int tk, .int be, .int so, .int le, .int an, .ref sa])), (ce, eI G 418 fc), (gv, eZ G 30 fg), (dr, eI G 10 fd), (go, eI G 10 fo), (sa, eI G 10 fs)] := hD
    refine lv_if_eq (tgt := 25) hx hb dX2_best_18 (by decide) (fun c_18 => ?_) (fun c_18 => ?_)
    · have hz : thBst tk = 0 := by rw [eT]; exact cnt0 c_18
      refine lv_aload_n hx hb dX2_best_25 rfl (lv_at hl 0 rfl) ?_
      refine va_get (D := G.1) (ci := 2) (v := .int be) (C := RX2) (T := TX2) (N := 13) hx hb hts hinX2 hown hK.1 hP 0 rfl rfl 8 (by decide) hw1 (fun _ h9 => h9) rfl dX2_best_26 ?_
      have hP9 := hP.sub (ws' := [(mo, .inr (2, [.int (thBst tk), .ref ce, .ref gv, .int st, .int sk, .ref dr, .ref go, .int tk, .int be, .int so, .int le, .int an, .ref sa])), (ce, eI G 418 fc), (gv, eZ G 30 fg), (dr, eI G 10 fd), (go, eI G 10 fo), (sa, eI G 10 fs)]) [0, 1, 2, 3, 4, 5] (by rw [eT]; rfl)
      have hD9 := hD.sub (ws' := [(mo, .inr (2, [.int (thBst tk), .ref ce, .ref gv, .int st, .int sk, .ref dr, .ref go, .int tk, .int be, .int so, .int le, .int an, .ref sa])), (ce, eI G 418 fc), (gv, eZ G 30 fg), (dr, eI G 10 fd), (go, eI G 10 fo), (sa, eI G 10 fs)]) [0, 1, 2, 3, 4, 5] (by decide) (by rw [eT]; rfl)
      exact W.iret (v := be) hx hb hr (fun t ht hW => ⟨congrArg (fun z => Outcome.returned (some (Value.int z))) ((if_pos hz).symm), by rw [ht]; exact hP9, hD9, hS.F ht⟩) hS.2.2 dX2_best_29
    · have hz : ¬ thBst tk = 0 := by rw [eT]; exact cnt1 c_18
      refine lv_iconst (v := 0) hx hb dX2_best_21 (by decide) ?_
      refine lv_goto (tgt := 29) hx hb dX2_best_22 (by decide) ?_
      have hP9 := hP.sub (ws' := [(mo, .inr (2, [.int (thBst tk), .ref ce, .ref gv, .int st, .int sk, .ref dr, .ref go, .int tk, .int be, .int so, .int le, .int an, .ref sa])), (ce, eI G 418 fc), (gv, eZ G 30 fg), (dr, eI G 10 fd), (go, eI G 10 fo), (sa, eI G 10 fs)]) [0, 1, 2, 3, 4, 5] (by rw [eT]; rfl)
      have hD9 := hD.sub (ws' := [(mo, .inr (2, [.int (thBst tk), .ref ce, .ref gv, .int st, .int sk, .ref dr, .ref go, .int tk, .int be, .int so, .int le, .int an, .ref sa])), (ce, eI G 418 fc), (gv, eZ G 30 fg), (dr, eI G 10 fd), (go, eI G 10 fo), (sa, eI G 10 fs)]) [0, 1, 2, 3, 4, 5] (by decide) (by rw [eT]; rfl)
      exact W.iret (v := 0) hx hb hr (fun t ht hW => ⟨congrArg (fun z => Outcome.returned (some (Value.int z))) ((if_neg hz).symm), by rw [ht]; exact hP9, hD9, hS.F ht⟩) hS.2.2 dX2_best_29
  refine lv_aload_n hx hb dX2_best_1 rfl (lv_at hl 0 rfl) ?_
  refine va_get (D := G.1) (ci := 2) (v := .int tk) (C := RX2) (T := TX2) (N := 13) hx hb hts hinX2 hown hK.1 hP 0 rfl rfl 7 (by decide) hw2 (fun _ h9 => h9) rfl dX2_best_2 ?_
  refine lv_if_ne (tgt := 12) hx hb dX2_best_5 (by decide) (fun c_5 => ?_) (fun c_5 => ?_)
  · refine lv_iconst (v := 0) hx hb dX2_best_12 (by decide) ?_
    exact join_13 _ (by unfold ntI; rw [if_neg c_5]) _ _ (hP.sub [0, 1, 2, 3, 4, 5] rfl) (hD.sub [0, 1, 2, 3, 4, 5] (by decide) rfl) hS ls (lv_sub hl [0] rfl)
  · refine lv_iconst (v := 1) hx hb dX2_best_8 (by decide) ?_
    refine lv_goto (tgt := 13) hx hb dX2_best_9 (by decide) ?_
    exact join_13 _ (by unfold ntI; rw [if_pos c_5]) _ _ (hP.sub [0, 1, 2, 3, 4, 5] rfl) (hD.sub [0, 1, 2, 3, 4, 5] (by decide) rfl) hS ls (lv_sub hl [0] rfl)

abbrev rmX2_least : Room := { frames := 1, cells := 0, slots := 0, locals := 23 }
set_option maxHeartbeats 4000000 in
set_option maxRecDepth 100000 in
theorem c_X2_least (l : Launch) (G : Gt) (sz : Nat) (mo ce gv dr go sa : Nat) (th st sk tk be so le an : Int32) (fc fg fd fo fs : Nat → Int32) : Met l yX2_least wsX2_least rmX2_least (mu_P G sz [.ref mo] [(mo, .inr (2, [.int th, .ref ce, .ref gv, .int st, .int sk, .ref dr, .ref go, .int tk, .int be, .int so, .int le, .int an, .ref sa])), (ce, eI G 418 fc), (gv, eZ G 30 fg), (dr, eI G 10 fd), (go, eI G 10 fo), (sa, eI G 10 fs)]) (mu_Q G (some (.int (if thBst so = 0 then le else 0))) [(mo, .inr (2, [.int (thBst so), .ref ce, .ref gv, .int st, .int sk, .ref dr, .ref go, .int tk, .int be, .int so, .int le, .int an, .ref sa])), (ce, eI G 418 fc), (gv, eZ G 30 fg), (dr, eI G 10 fd), (go, eI G 10 fo), (sa, eI G 10 fs)] (va_A [(mo, .inr (2, [.int th, .ref ce, .ref gv, .int st, .int sk, .ref dr, .ref go, .int tk, .int be, .int so, .int le, .int an, .ref sa])), (ce, eI G 418 fc), (gv, eZ G 30 fg), (dr, eI G 10 fd), (go, eI G 10 fo), (sa, eI G 10 fs)] sz)) 0 0 (va_A [(mo, .inr (2, [.int th, .ref ce, .ref gv, .int st, .int sk, .ref dr, .ref go, .int tk, .int be, .int so, .int le, .int an, .ref sa])), (ce, eI G 418 fc), (gv, eZ G 30 fg), (dr, eI G 10 fd), (go, eI G 10 fo), (sa, eI G 10 fs)] sz) := by
  refine Met.ofW (cc := cX2_least) (maxL := 1) (ret := (some .int)) (by decide) rfl ?_
  intro p e s m args below meth c s₁ B hml hv
  obtain ⟨rfl, hsz, hP, hD0, hK⟩ := hv
  have hx := B.exec
  have hb := B.bytes
  have hr := B.returns
  have hts := atoms_spec (ws := wsX2_least) B.pre
  have hown : s.vm.findClass RX2 = some m.cls := findClass_of_methodNamed B.named
  have hlocks := B.notSynchronized
  subst hsz
  have hD := hD0.self (sz := s.heap.size)
  generalize hAe : va_A [(mo, .inr (2, [.int th, .ref ce, .ref gv, .int st, .int sk, .ref dr, .ref go, .int tk, .int be, .int so, .int le, .int an, .ref sa])), (ce, eI G 418 fc), (gv, eZ G 30 fg), (dr, eI G 10 fd), (go, eI G 10 fo), (sa, eI G 10 fs)] s.heap.size = A at hD ⊢
  have hA : ∀ q : Nat, s.heap.size ≤ q → A q := fun q h => by rw [← hAe]; exact Or.inr h
  have hS : va_S A s.heap s.heap [] := va_S.rf
  have hinX2 : ∀ w ∈ u_ws RX2 TX2 13, w ∈ wsX2_least := fun w h => List.mem_cons_of_mem _ (List.mem_append_right _ h)
  have hw1 := hts (.fieldLink RX2 113 "ChoiceBoardModel" "least" "I") (by decide +kernel)
  have hw2 := hts (.fieldLink RX2 107 "ChoiceBoardModel" "solved" "Z") (by decide +kernel)
  have hl := lv_entry ([.ref mo]) (n := 1) (Nat.le_of_ble_eq_true rfl)
  rw [lg_entry_eq]
  generalize (lg_sl ([.ref mo]) ++ List.replicate (1 - (lg_sl ([.ref mo])).length) Slot.unset).toArray = ls at hl ⊢
  have hl : lv_has ls 1 [(0, .ref mo)] := hl
  refine lv_aload_n hx hb dX2_least_0 rfl (lv_at hl 0 rfl) ?_
  have join_13 : ∀ (x1 : Int32), (x1 = ntI so) → ∀ (H : Heap) (locs : List Loc), va_P G.1 vwCl [(mo, .inr (2, [.int th, .ref ce, .ref gv, .int st, .int sk, .ref dr, .ref go, .int tk, .int be, .int so, .int le, .int an, .ref sa])), (ce, eI G 418 fc), (gv, eZ G 30 fg), (dr, eI G 10 fd), (go, eI G 10 fo), (sa, eI G 10 fs)] H → va_D A [(mo, .inr (2, [.int th, .ref ce, .ref gv, .int st, .int sk, .ref dr, .ref go, .int tk, .int be, .int so, .int le, .int an, .ref sa])), (ce, eI G 418 fc), (gv, eZ G 30 fg), (dr, eI G 10 fd), (go, eI G 10 fo), (sa, eI G 10 fs)] → va_S A s.heap H locs → ∀ ls : Array Slot, lv_has ls 1 [(0, .ref mo)] → W p l e rmX2_least s m [.ref mo].toArray below meth c H locs 0 0 (MQ below (mu_Q G (some (.int (if thBst so = 0 then le else 0))) [(mo, .inr (2, [.int (thBst so), .ref ce, .ref gv, .int st, .int sk, .ref dr, .ref go, .int tk, .int be, .int so, .int le, .int an, .ref sa])), (ce, eI G 418 fc), (gv, eZ G 30 fg), (dr, eI G 10 fd), (go, eI G 10 fo), (sa, eI G 10 fs)] A) [.ref mo].toArray s 0 0 A) (F0 m 13 ls [.int x1, .ref mo]) := by
    intro x1 ex1 H locs hP hD hS ls hl
    refine lv_iconst (v := 0) hx hb dX2_least_13 (by decide) ?_
    refine lv_iconst (v := 0) hx hb dX2_least_14 (by decide) ?_
    have eT : thBst so = flI x1 0 0 := by unfold thBst; rw [← ex1]
    refine mu_call (va_runV (As := [.int x1, .int 0, .int 0]) (rest := []) ⟨hx, hb, hml, hown, hts⟩ (c_X2_fails l G _ mo ce gv dr go sa th st sk tk be so le an fc fg fd fo fs x1 0 0) (cwV 3 hts gX2_least_X2_fails rfl rfl rfl (by decide +kernel) ⟨Nat.le_of_ble_eq_true rfl, Nat.le_of_ble_eq_true rfl⟩) ⟨mu_blind, va_recv hK.1 hP (ci := 2) (q0 := 0) rfl rfl, mu_pre _ (hP.sub [0, 1, 2, 3, 4, 5] rfl) (hD.sub [0, 1, 2, 3, 4, 5] (by decide) rfl) hK⟩ rfl rfl hl.1 rfl (lv_room (Nat.le_of_ble_eq_true rfl)) dX2_least_15 ⟨Nat.le_refl _, Nat.le_refl _⟩) hS (va_free hD hS hA [0, 1, 2, 3, 4, 5] rfl) (va_free hD hS hA [0, 1, 2, 3, 4, 5] rfl) (fun H1 locs hP1 hD1 hk1 hS => ?_)
    obtain ⟨hP, hD⟩ := rp_join (ws' := [(mo, .inr (2, [.int (flI x1 0 0), .ref ce, .ref gv, .int st, .int sk, .ref dr, .ref go, .int tk, .int be, .int so, .int le, .int an, .ref sa])), (ce, eI G 418 fc), (gv, eZ G 30 fg), (dr, eI G 10 fd), (go, eI G 10 fo), (sa, eI G 10 fs)]) hP hD [0, 1, 2, 3, 4, 5] rfl hk1 hP1 (fun k q h => match k, q, h with | 0, q, h => Or.inl ⟨0, h⟩ | 1, q, h => Or.inl ⟨1, h⟩ | 2, q, h => Or.inl ⟨2, h⟩ | 3, q, h => Or.inl ⟨3, h⟩ | 4, q, h => Or.inl ⟨4, h⟩ | 5, q, h => Or.inl ⟨5, h⟩ | k + 6, q, h => nomatch h) rfl
    generalize H1 = H at hP hS ⊢
    have hP : va_P G.1 vwCl [(mo, .inr (2, [.int (flI x1 0 0), .ref ce, .ref gv, .int st, .int sk, .ref dr, .ref go, .int tk, .int be, .int so, .int le, .int an, .ref sa])), (ce, eI G 418 fc), (gv, eZ G 30 fg), (dr, eI G 10 fd), (go, eI G 10 fo), (sa, eI G 10 fs)] H := hP
    have hD : va_D A [(mo, .inr (2, [.int (flI x1 0 0), .ref ce, .ref gv, .int st, .int sk, .ref dr, .ref go, .int tk, .int be, .int so, .int le, .int an, .ref sa])), (ce, eI G 418 fc), (gv, eZ G 30 fg), (dr, eI G 10 fd), (go, eI G 10 fo), (sa, eI G 10 fs)] := hD
    refine lv_if_eq (tgt := 25) hx hb dX2_least_18 (by decide) (fun c_18 => ?_) (fun c_18 => ?_)
    · have hz : thBst so = 0 := by rw [eT]; exact cnt0 c_18
      refine lv_aload_n hx hb dX2_least_25 rfl (lv_at hl 0 rfl) ?_
      refine va_get (D := G.1) (ci := 2) (v := .int le) (C := RX2) (T := TX2) (N := 13) hx hb hts hinX2 hown hK.1 hP 0 rfl rfl 10 (by decide) hw1 (fun _ h9 => h9) rfl dX2_least_26 ?_
      have hP9 := hP.sub (ws' := [(mo, .inr (2, [.int (thBst so), .ref ce, .ref gv, .int st, .int sk, .ref dr, .ref go, .int tk, .int be, .int so, .int le, .int an, .ref sa])), (ce, eI G 418 fc), (gv, eZ G 30 fg), (dr, eI G 10 fd), (go, eI G 10 fo), (sa, eI G 10 fs)]) [0, 1, 2, 3, 4, 5] (by rw [eT]; rfl)
      have hD9 := hD.sub (ws' := [(mo, .inr (2, [.int (thBst so), .ref ce, .ref gv, .int st, .int sk, .ref dr, .ref go, .int tk, .int be, .int so, .int le, .int an, .ref sa])), (ce, eI G 418 fc), (gv, eZ G 30 fg), (dr, eI G 10 fd), (go, eI G 10 fo), (sa, eI G 10 fs)]) [0, 1, 2, 3, 4, 5] (by decide) (by rw [eT]; rfl)
      exact W.iret (v := le) hx hb hr (fun t ht hW => ⟨congrArg (fun z => Outcome.returned (some (Value.int z))) ((if_pos hz).symm), by rw [ht]; exact hP9, hD9, hS.F ht⟩) hS.2.2 dX2_least_29
    · have hz : ¬ thBst so = 0 := by rw [eT]; exact cnt1 c_18
      refine lv_iconst (v := 0) hx hb dX2_least_21 (by decide) ?_
      refine lv_goto (tgt := 29) hx hb dX2_least_22 (by decide) ?_
      have hP9 := hP.sub (ws' := [(mo, .inr (2, [.int (thBst so), .ref ce, .ref gv, .int st, .int sk, .ref dr, .ref go, .int tk, .int be, .int so, .int le, .int an, .ref sa])), (ce, eI G 418 fc), (gv, eZ G 30 fg), (dr, eI G 10 fd), (go, eI G 10 fo), (sa, eI G 10 fs)]) [0, 1, 2, 3, 4, 5] (by rw [eT]; rfl)
      have hD9 := hD.sub (ws' := [(mo, .inr (2, [.int (thBst so), .ref ce, .ref gv, .int st, .int sk, .ref dr, .ref go, .int tk, .int be, .int so, .int le, .int an, .ref sa])), (ce, eI G 418 fc), (gv, eZ G 30 fg), (dr, eI G 10 fd), (go, eI G 10 fo), (sa, eI G 10 fs)]) [0, 1, 2, 3, 4, 5] (by decide) (by rw [eT]; rfl)
      exact W.iret (v := 0) hx hb hr (fun t ht hW => ⟨congrArg (fun z => Outcome.returned (some (Value.int z))) ((if_neg hz).symm), by rw [ht]; exact hP9, hD9, hS.F ht⟩) hS.2.2 dX2_least_29
  refine lv_aload_n hx hb dX2_least_1 rfl (lv_at hl 0 rfl) ?_
  refine va_get (D := G.1) (ci := 2) (v := .int so) (C := RX2) (T := TX2) (N := 13) hx hb hts hinX2 hown hK.1 hP 0 rfl rfl 9 (by decide) hw2 (fun _ h9 => h9) rfl dX2_least_2 ?_
  refine lv_if_ne (tgt := 12) hx hb dX2_least_5 (by decide) (fun c_5 => ?_) (fun c_5 => ?_)
  · refine lv_iconst (v := 0) hx hb dX2_least_12 (by decide) ?_
    exact join_13 _ (by unfold ntI; rw [if_neg c_5]) _ _ (hP.sub [0, 1, 2, 3, 4, 5] rfl) (hD.sub [0, 1, 2, 3, 4, 5] (by decide) rfl) hS ls (lv_sub hl [0] rfl)
  · refine lv_iconst (v := 1) hx hb dX2_least_8 (by decide) ?_
    refine lv_goto (tgt := 13) hx hb dX2_least_9 (by decide) ?_
    exact join_13 _ (by unfold ntI; rw [if_pos c_5]) _ _ (hP.sub [0, 1, 2, 3, 4, 5] rfl) (hD.sub [0, 1, 2, 3, 4, 5] (by decide) rfl) hS ls (lv_sub hl [0] rfl)

abbrev rmX2_value : Room := { frames := 1, cells := 0, slots := 0, locals := 23 }
set_option maxHeartbeats 4000000 in
set_option maxRecDepth 100000 in
theorem c_X2_value (l : Launch) (G : Gt) (sz : Nat) (mo ce gv dr go sa : Nat) (th st sk tk be so le an : Int32) (fc fg fd fo fs : Nat → Int32) (x : Int32) : Met l yX2_value wsX2_value rmX2_value (mu_P G sz [.ref mo, .int x] [(mo, .inr (2, [.int th, .ref ce, .ref gv, .int st, .int sk, .ref dr, .ref go, .int tk, .int be, .int so, .int le, .int an, .ref sa])), (ce, eI G 418 fc), (gv, eZ G 30 fg), (dr, eI G 10 fd), (go, eI G 10 fo), (sa, eI G 10 fs)]) (mu_Q G (some (.int (if thVal so x = 0 then bitI an x else 0))) [(mo, .inr (2, [.int (thVal so x), .ref ce, .ref gv, .int st, .int sk, .ref dr, .ref go, .int tk, .int be, .int so, .int le, .int an, .ref sa])), (ce, eI G 418 fc), (gv, eZ G 30 fg), (dr, eI G 10 fd), (go, eI G 10 fo), (sa, eI G 10 fs)] (va_A [(mo, .inr (2, [.int th, .ref ce, .ref gv, .int st, .int sk, .ref dr, .ref go, .int tk, .int be, .int so, .int le, .int an, .ref sa])), (ce, eI G 418 fc), (gv, eZ G 30 fg), (dr, eI G 10 fd), (go, eI G 10 fo), (sa, eI G 10 fs)] sz)) 0 0 (va_A [(mo, .inr (2, [.int th, .ref ce, .ref gv, .int st, .int sk, .ref dr, .ref go, .int tk, .int be, .int so, .int le, .int an, .ref sa])), (ce, eI G 418 fc), (gv, eZ G 30 fg), (dr, eI G 10 fd), (go, eI G 10 fo), (sa, eI G 10 fs)] sz) := by
  refine Met.ofW (cc := cX2_value) (maxL := 2) (ret := (some .int)) (by decide) rfl ?_
  intro p e s m args below meth c s₁ B hml hv
  obtain ⟨rfl, hsz, hP, hD0, hK⟩ := hv
  have hx := B.exec
  have hb := B.bytes
  have hr := B.returns
  have hts := atoms_spec (ws := wsX2_value) B.pre
  have hown : s.vm.findClass RX2 = some m.cls := findClass_of_methodNamed B.named
  have hlocks := B.notSynchronized
  subst hsz
  have hD := hD0.self (sz := s.heap.size)
  generalize hAe : va_A [(mo, .inr (2, [.int th, .ref ce, .ref gv, .int st, .int sk, .ref dr, .ref go, .int tk, .int be, .int so, .int le, .int an, .ref sa])), (ce, eI G 418 fc), (gv, eZ G 30 fg), (dr, eI G 10 fd), (go, eI G 10 fo), (sa, eI G 10 fs)] s.heap.size = A at hD ⊢
  have hA : ∀ q : Nat, s.heap.size ≤ q → A q := fun q h => by rw [← hAe]; exact Or.inr h
  have hS : va_S A s.heap s.heap [] := va_S.rf
  have hinX2 : ∀ w ∈ u_ws RX2 TX2 13, w ∈ wsX2_value := fun w h => List.mem_cons_of_mem _ (List.mem_append_right _ h)
  have hw1 := hts (.fieldLink RX2 116 "ChoiceBoardModel" "answer" "I") (by decide +kernel)
  have hw2 := hts (.fieldLink RX2 107 "ChoiceBoardModel" "solved" "Z") (by decide +kernel)
  have hl := lv_entry ([.ref mo, .int x]) (n := 2) (Nat.le_of_ble_eq_true rfl)
  rw [lg_entry_eq]
  generalize (lg_sl ([.ref mo, .int x]) ++ List.replicate (2 - (lg_sl ([.ref mo, .int x])).length) Slot.unset).toArray = ls at hl ⊢
  have hl : lv_has ls 2 [(0, .ref mo), (1, .int x)] := hl
  refine lv_aload_n hx hb dX2_value_0 rfl (lv_at hl 0 rfl) ?_
  have join_13 : ∀ (x1 : Int32), (x1 = ntI so) → ∀ (H : Heap) (locs : List Loc), va_P G.1 vwCl [(mo, .inr (2, [.int th, .ref ce, .ref gv, .int st, .int sk, .ref dr, .ref go, .int tk, .int be, .int so, .int le, .int an, .ref sa])), (ce, eI G 418 fc), (gv, eZ G 30 fg), (dr, eI G 10 fd), (go, eI G 10 fo), (sa, eI G 10 fs)] H → va_D A [(mo, .inr (2, [.int th, .ref ce, .ref gv, .int st, .int sk, .ref dr, .ref go, .int tk, .int be, .int so, .int le, .int an, .ref sa])), (ce, eI G 418 fc), (gv, eZ G 30 fg), (dr, eI G 10 fd), (go, eI G 10 fo), (sa, eI G 10 fs)] → va_S A s.heap H locs → ∀ ls : Array Slot, lv_has ls 2 [(0, .ref mo), (1, .int x)] → W p l e rmX2_value s m [.ref mo, .int x].toArray below meth c H locs 0 0 (MQ below (mu_Q G (some (.int (if thVal so x = 0 then bitI an x else 0))) [(mo, .inr (2, [.int (thVal so x), .ref ce, .ref gv, .int st, .int sk, .ref dr, .ref go, .int tk, .int be, .int so, .int le, .int an, .ref sa])), (ce, eI G 418 fc), (gv, eZ G 30 fg), (dr, eI G 10 fd), (go, eI G 10 fo), (sa, eI G 10 fs)] A) [.ref mo, .int x].toArray s 0 0 A) (F0 m 13 ls [.int x1, .ref mo]) := by
    intro x1 ex1 H locs hP hD hS ls hl
    refine lv_iload_n hx hb dX2_value_13 rfl (lv_at hl 1 rfl) ?_
    refine lv_iconst (v := 0) hx hb dX2_value_14 (by decide) ?_
    refine lv_bipush (v := 9) hx hb dX2_value_15 (by decide) ?_
    refine ro_call (va_runS (As := [.int x, .int 0, .int 9]) (rest := [.int x1, .ref mo]) ⟨hx, hb, hml, hown, hts⟩ (c_X2_outside l G x 0 9) (va_cwS 3 hts gX2_value_X2_outside rfl rfl rfl (by decide +kernel) ⟨Nat.le_of_ble_eq_true rfl, Nat.le_of_ble_eq_true rfl⟩) ⟨ro_blind, ro_pre _ (hP.sub [] rfl) hK⟩ rfl rfl hl.1 rfl (lv_room (Nat.le_of_ble_eq_true rfl)) dX2_value_17 ⟨Nat.le_refl _, Nat.le_refl _⟩) ?_
    refine lv_iconst (v := 0) hx hb dX2_value_20 (by decide) ?_
    have eT : thVal so x = flI x1 (outI x 0 9) 0 := by unfold thVal; rw [← ex1]
    refine mu_call (va_runV (As := [.int x1, .int (outI x 0 9), .int 0]) (rest := []) ⟨hx, hb, hml, hown, hts⟩ (c_X2_fails l G _ mo ce gv dr go sa th st sk tk be so le an fc fg fd fo fs x1 (outI x 0 9) 0) (cwV 3 hts gX2_value_X2_fails rfl rfl rfl (by decide +kernel) ⟨Nat.le_of_ble_eq_true rfl, Nat.le_of_ble_eq_true rfl⟩) ⟨mu_blind, va_recv hK.1 hP (ci := 2) (q0 := 0) rfl rfl, mu_pre _ (hP.sub [0, 1, 2, 3, 4, 5] rfl) (hD.sub [0, 1, 2, 3, 4, 5] (by decide) rfl) hK⟩ rfl rfl hl.1 rfl (lv_room (Nat.le_of_ble_eq_true rfl)) dX2_value_21 ⟨Nat.le_refl _, Nat.le_refl _⟩) hS (va_free hD hS hA [0, 1, 2, 3, 4, 5] rfl) (va_free hD hS hA [0, 1, 2, 3, 4, 5] rfl) (fun H1 locs hP1 hD1 hk1 hS => ?_)
    obtain ⟨hP, hD⟩ := rp_join (ws' := [(mo, .inr (2, [.int (flI x1 (outI x 0 9) 0), .ref ce, .ref gv, .int st, .int sk, .ref dr, .ref go, .int tk, .int be, .int so, .int le, .int an, .ref sa])), (ce, eI G 418 fc), (gv, eZ G 30 fg), (dr, eI G 10 fd), (go, eI G 10 fo), (sa, eI G 10 fs)]) hP hD [0, 1, 2, 3, 4, 5] rfl hk1 hP1 (fun k q h => match k, q, h with | 0, q, h => Or.inl ⟨0, h⟩ | 1, q, h => Or.inl ⟨1, h⟩ | 2, q, h => Or.inl ⟨2, h⟩ | 3, q, h => Or.inl ⟨3, h⟩ | 4, q, h => Or.inl ⟨4, h⟩ | 5, q, h => Or.inl ⟨5, h⟩ | k + 6, q, h => nomatch h) rfl
    generalize H1 = H at hP hS ⊢
    have hP : va_P G.1 vwCl [(mo, .inr (2, [.int (flI x1 (outI x 0 9) 0), .ref ce, .ref gv, .int st, .int sk, .ref dr, .ref go, .int tk, .int be, .int so, .int le, .int an, .ref sa])), (ce, eI G 418 fc), (gv, eZ G 30 fg), (dr, eI G 10 fd), (go, eI G 10 fo), (sa, eI G 10 fs)] H := hP
    have hD : va_D A [(mo, .inr (2, [.int (flI x1 (outI x 0 9) 0), .ref ce, .ref gv, .int st, .int sk, .ref dr, .ref go, .int tk, .int be, .int so, .int le, .int an, .ref sa])), (ce, eI G 418 fc), (gv, eZ G 30 fg), (dr, eI G 10 fd), (go, eI G 10 fo), (sa, eI G 10 fs)] := hD
    refine lv_if_eq (tgt := 31) hx hb dX2_value_24 (by decide) (fun c_24 => ?_) (fun c_24 => ?_)
    · have hz : thVal so x = 0 := by rw [eT]; exact cnt0 c_24
      refine lv_aload_n hx hb dX2_value_31 rfl (lv_at hl 0 rfl) ?_
      refine va_get (D := G.1) (ci := 2) (v := .int an) (C := RX2) (T := TX2) (N := 13) hx hb hts hinX2 hown hK.1 hP 0 rfl rfl 11 (by decide) hw1 (fun _ h9 => h9) rfl dX2_value_32 ?_
      refine lv_iload_n hx hb dX2_value_35 rfl (lv_at hl 1 rfl) ?_
      refine lv_ishr hx hb dX2_value_36 ?_
      refine lv_iconst (v := 1) hx hb dX2_value_37 (by decide) ?_
      refine lv_iand hx hb dX2_value_38 ?_
      have hP9 := hP.sub (ws' := [(mo, .inr (2, [.int (thVal so x), .ref ce, .ref gv, .int st, .int sk, .ref dr, .ref go, .int tk, .int be, .int so, .int le, .int an, .ref sa])), (ce, eI G 418 fc), (gv, eZ G 30 fg), (dr, eI G 10 fd), (go, eI G 10 fo), (sa, eI G 10 fs)]) [0, 1, 2, 3, 4, 5] (by rw [eT]; rfl)
      have hD9 := hD.sub (ws' := [(mo, .inr (2, [.int (thVal so x), .ref ce, .ref gv, .int st, .int sk, .ref dr, .ref go, .int tk, .int be, .int so, .int le, .int an, .ref sa])), (ce, eI G 418 fc), (gv, eZ G 30 fg), (dr, eI G 10 fd), (go, eI G 10 fo), (sa, eI G 10 fs)]) [0, 1, 2, 3, 4, 5] (by decide) (by rw [eT]; rfl)
      exact W.iret (v := (an >>> (x &&& 31)) &&& 1) hx hb hr (fun t ht hW => ⟨congrArg (fun z => Outcome.returned (some (Value.int z))) ((if_pos hz).symm), by rw [ht]; exact hP9, hD9, hS.F ht⟩) hS.2.2 dX2_value_39
    · have hz : ¬ thVal so x = 0 := by rw [eT]; exact cnt1 c_24
      refine lv_iconst (v := 0) hx hb dX2_value_27 (by decide) ?_
      refine lv_goto (tgt := 39) hx hb dX2_value_28 (by decide) ?_
      have hP9 := hP.sub (ws' := [(mo, .inr (2, [.int (thVal so x), .ref ce, .ref gv, .int st, .int sk, .ref dr, .ref go, .int tk, .int be, .int so, .int le, .int an, .ref sa])), (ce, eI G 418 fc), (gv, eZ G 30 fg), (dr, eI G 10 fd), (go, eI G 10 fo), (sa, eI G 10 fs)]) [0, 1, 2, 3, 4, 5] (by rw [eT]; rfl)
      have hD9 := hD.sub (ws' := [(mo, .inr (2, [.int (thVal so x), .ref ce, .ref gv, .int st, .int sk, .ref dr, .ref go, .int tk, .int be, .int so, .int le, .int an, .ref sa])), (ce, eI G 418 fc), (gv, eZ G 30 fg), (dr, eI G 10 fd), (go, eI G 10 fo), (sa, eI G 10 fs)]) [0, 1, 2, 3, 4, 5] (by decide) (by rw [eT]; rfl)
      exact W.iret (v := 0) hx hb hr (fun t ht hW => ⟨congrArg (fun z => Outcome.returned (some (Value.int z))) ((if_neg hz).symm), by rw [ht]; exact hP9, hD9, hS.F ht⟩) hS.2.2 dX2_value_39
  refine lv_aload_n hx hb dX2_value_1 rfl (lv_at hl 0 rfl) ?_
  refine va_get (D := G.1) (ci := 2) (v := .int so) (C := RX2) (T := TX2) (N := 13) hx hb hts hinX2 hown hK.1 hP 0 rfl rfl 9 (by decide) hw2 (fun _ h9 => h9) rfl dX2_value_2 ?_
  refine lv_if_ne (tgt := 12) hx hb dX2_value_5 (by decide) (fun c_5 => ?_) (fun c_5 => ?_)
  · refine lv_iconst (v := 0) hx hb dX2_value_12 (by decide) ?_
    exact join_13 _ (by unfold ntI; rw [if_neg c_5]) _ _ (hP.sub [0, 1, 2, 3, 4, 5] rfl) (hD.sub [0, 1, 2, 3, 4, 5] (by decide) rfl) hS ls (lv_sub hl [0, 1] rfl)
  · refine lv_iconst (v := 1) hx hb dX2_value_8 (by decide) ?_
    refine lv_goto (tgt := 13) hx hb dX2_value_9 (by decide) ?_
    exact join_13 _ (by unfold ntI; rw [if_pos c_5]) _ _ (hP.sub [0, 1, 2, 3, 4, 5] rfl) (hD.sub [0, 1, 2, 3, 4, 5] (by decide) rfl) hS ls (lv_sub hl [0, 1] rfl)
