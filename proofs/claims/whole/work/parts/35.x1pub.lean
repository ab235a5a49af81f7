abbrev rmX1_contradict : Room := { frames := 5, cells := 0, slots := 0, locals := 117 }
set_option maxHeartbeats 4000000 in
set_option maxRecDepth 100000 in
theorem c_X1_contradict (l : Launch) (G : Gt) (sz : Nat) (bx bd bo bs bk : Nat) (ca wa : Nat → Nat) (st sk tk be so le an : Int32) (fd fo : Nat → Int32) (ro : Nat → Nat → Int32) (dg gv : Nat → Int32) (x : Int32) (k : Nat) (est : st = nI k) (hk : k < 30) (h1 : outI x (-9999) 9999 = 0) (r : Int32) (hr9 : r = cxO (va_up ro k (mixf 10 (fun v => -((mixf 10 (nrW fd 1) (ro k)) v)) (mixf 10 (nrW fd 1) (ro k)))) (va_up dg k (maxI (szs (mixf 10 (nrW fd 1) (ro k)) + 1 - (nrD fd 1 x)) 0)) (k + 1) 0 11) : Met l yX1_contradict wsX1_contradict rmX1_contradict (mu_P G sz [.ref bx, .int x] ([(bx, .inr (1, [.ref bd, .ref bo, .ref bs, .int st, .ref bk, .int sk, .ref (ca 36), .int tk, .int be, .int so, .int le, .int an])), (bd, eI G 10 fd), (bo, eI G 10 fo), (bs, eR G 30 (fun k => some (ca k))), (bk, eR G 6 (fun k => some (ca (30 + k))))] ++ pool G ca wa ro dg gv)) (mu_Q G (some (.int (if r = -1 then st + 1 - 1 else -1))) ([(bx, .inr (1, [.ref bd, .ref bo, .ref bs, .int (if r = -1 then st + 1 else st), .ref bk, .int sk, .ref (ca 36), .int tk, .int be, .int so, .int le, .int an])), (bd, eI G 10 (if r = -1 then mixf 10 (fun _ => 0) fd else fd)), (bo, eI G 10 fo), (bs, eR G 30 (fun k => some (ca k))), (bk, eR G 6 (fun k => some (ca (30 + k))))] ++ pool G ca wa (va_up ro k (if r = -1 then mixf 10 (nrW fd 1) (mixf 10 (fun v => -((mixf 10 (nrW fd 1) (ro k)) v)) (mixf 10 (nrW fd 1) (ro k))) else (mixf 10 (fun v => -((mixf 10 (nrW fd 1) (ro k)) v)) (mixf 10 (nrW fd 1) (ro k))))) (va_up dg k (if r = -1 then (nrD fd 1 x) else (maxI (szs (mixf 10 (nrW fd 1) (ro k)) + 1 - (nrD fd 1 x)) 0))) (if r = -1 then va_up gv k 0 else gv)) (va_A ([(bx, .inr (1, [.ref bd, .ref bo, .ref bs, .int st, .ref bk, .int sk, .ref (ca 36), .int tk, .int be, .int so, .int le, .int an])), (bd, eI G 10 fd), (bo, eI G 10 fo), (bs, eR G 30 (fun k => some (ca k))), (bk, eR G 6 (fun k => some (ca (30 + k))))] ++ pool G ca wa ro dg gv) sz)) 0 0 (va_A ([(bx, .inr (1, [.ref bd, .ref bo, .ref bs, .int st, .ref bk, .int sk, .ref (ca 36), .int tk, .int be, .int so, .int le, .int an])), (bd, eI G 10 fd), (bo, eI G 10 fo), (bs, eR G 30 (fun k => some (ca k))), (bk, eR G 6 (fun k => some (ca (30 + k))))] ++ pool G ca wa ro dg gv) sz) := by
  refine Met.ofW (cc := cX1_contradict) (maxL := 2) (ret := (some .int)) (by decide) rfl ?_
  intro p e s m args below meth c s₁ B hml hv
  obtain ⟨rfl, hsz, hP, hD0, hK⟩ := hv
  have hx := B.exec
  have hb := B.bytes
  have hr := B.returns
  have hts := atoms_spec (ws := wsX1_contradict) B.pre
  have hown : s.vm.findClass RX1 = some m.cls := findClass_of_methodNamed B.named
  have hlocks := B.notSynchronized
  subst hsz
  have hD := hD0.self (sz := s.heap.size)
  generalize hAe : va_A ([(bx, .inr (1, [.ref bd, .ref bo, .ref bs, .int st, .ref bk, .int sk, .ref (ca 36), .int tk, .int be, .int so, .int le, .int an])), (bd, eI G 10 fd), (bo, eI G 10 fo), (bs, eR G 30 (fun k => some (ca k))), (bk, eR G 6 (fun k => some (ca (30 + k))))] ++ pool G ca wa ro dg gv) s.heap.size = A at hD ⊢
  have hA : ∀ q : Nat, s.heap.size ≤ q → A q := fun q h => by rw [← hAe]; exact Or.inr h
  have hS : va_S A s.heap s.heap [] := va_S.rf
  have hinX1 : ∀ w ∈ u_ws RX1 TX1 12, w ∈ wsX1_contradict := fun w h => List.mem_cons_of_mem _ (List.mem_append_left _ (List.mem_append_left _ (List.mem_append_left _ (List.mem_append_right _ h))))
  have hw1 := hts (.fieldLink RX1 18 "ChoiceBoard" "store" "[LChoiceBoard$Constraint;") (by decide +kernel)
  have hw2 := hts (.fieldLink RX1 22 "ChoiceBoard" "stored" "I") (by decide +kernel)
  have hw3 := hts (.fieldLink RX1 9 "ChoiceBoard" "draft" "[I") (by decide +kernel)
  have hl := lv_entry ([.ref bx, .int x]) (n := 2) (Nat.le_of_ble_eq_true rfl)
  rw [lg_entry_eq]
  generalize (lg_sl ([.ref bx, .int x]) ++ List.replicate (2 - (lg_sl ([.ref bx, .int x])).length) Slot.unset).toArray = ls at hl ⊢
  have hl : lv_has ls 2 [(0, .ref bx), (1, .int x)] := hl
  refine lv_iload_n hx hb dX1_contradict_0 rfl (lv_at hl 1 rfl) ?_
  refine lv_sipush (v := (-9999)) hx hb dX1_contradict_1 (by decide) ?_
  refine lv_sipush (v := 9999) hx hb dX1_contradict_4 (by decide) ?_
  refine ro_call (va_runS (As := [.int x, .int (-9999), .int 9999]) (rest := []) ⟨hx, hb, hml, hown, hts⟩ (c_X1_isWithin l G x (-9999) 9999) (va_cwS 3 hts gX1_contradict_X1_isWithin rfl rfl rfl (by decide +kernel) ⟨Nat.le_of_ble_eq_true rfl, Nat.le_of_ble_eq_true rfl⟩) ⟨ro_blind, ro_pre _ (hP.sub [] rfl) hK⟩ rfl rfl hl.1 rfl (lv_room (Nat.le_of_ble_eq_true rfl)) dX1_contradict_7 ⟨Nat.le_refl _, Nat.le_refl _⟩) ?_
  refine lv_if_ne (tgt := 21) hx hb dX1_contradict_10 (by decide) (fun c_10 => ?_) (fun c_10 => ?_)
  · refine lv_aload_n hx hb dX1_contradict_21 rfl (lv_at hl 0 rfl) ?_
    refine ro_callv (va_runV (As := []) (rest := []) ⟨hx, hb, hml, hown, hts⟩ (c_X1_refuseFullStore l G bx bd bo bs bk (ca 36) st sk tk be so le an k est (by omega)) (cwV 0 hts gX1_contradict_X1_refuseFullStore rfl rfl rfl (by decide +kernel) ⟨Nat.le_of_ble_eq_true rfl, Nat.le_of_ble_eq_true rfl⟩) ⟨ro_blind, va_recv hK.1 hP (ci := 1) (q0 := 0) rfl rfl, ro_pre _ (hP.sub [0] rfl) hK⟩ rfl rfl hl.1 rfl (lv_room (Nat.le_of_ble_eq_true rfl)) dX1_contradict_22 ⟨Nat.le_refl _, Nat.le_refl _⟩) ?_
    refine lv_aload_n hx hb dX1_contradict_25 rfl (lv_at hl 0 rfl) ?_
    refine va_get (D := G.1) (ci := 1) (v := .ref bs) (C := RX1) (T := TX1) (N := 12) hx hb hts hinX1 hown hK.1 hP 0 rfl rfl 2 (by decide) hw1 (fun _ h9 => h9) rfl dX1_contradict_26 ?_
    refine lv_aload_n hx hb dX1_contradict_29 rfl (lv_at hl 0 rfl) ?_
    refine va_get (D := G.1) (ci := 1) (v := .int st) (C := RX1) (T := TX1) (N := 12) hx hb hts hinX1 hown hK.1 hP 0 rfl rfl 3 (by decide) hw2 (fun _ h9 => h9) rfl dX1_contradict_30 ?_
    refine ra_aald (v := k) (b := ca k) hx hb hK.1 hP 3 2 rfl rfl est (by omega) (by decide) rfl dX1_contradict_33 ?_
    refine lv_aload_n hx hb dX1_contradict_34 rfl (lv_at hl 0 rfl) ?_
    refine va_get (D := G.1) (ci := 1) (v := .ref bd) (C := RX1) (T := TX1) (N := 12) hx hb hts hinX1 hown hK.1 hP 0 rfl rfl 0 (by decide) hw3 (fun _ h9 => h9) rfl dX1_contradict_35 ?_
    refine lv_iload_n hx hb dX1_contradict_38 rfl (lv_at hl 1 rfl) ?_
    refine mu_call (va_runV (As := [.ref bd, .int x]) (rest := []) ⟨hx, hb, hml, hown, hts⟩ (c_X0_becomeAtLeast l G _ (ca k) (wa k) (dg k) (gv k) (ro k) bd fd x) (cwV 2 hts gX1_contradict_X0_becomeAtLeast rfl rfl rfl (by decide +kernel) ⟨Nat.le_of_ble_eq_true rfl, Nat.le_of_ble_eq_true rfl⟩) ⟨mu_blind, va_recv hK.1 hP (ci := 0) (q0 := 5 + k) rfl (pool_c rfl (by omega)), mu_pre _ (lcP [5 + k, 42 + k, 1] hP (lc (pool_c rfl (by omega)) (lc (pool_w rfl (by omega)) (lc rfl rfl)))) (hD.sub [5 + k, 42 + k, 1] (nd3 k 1 (by decide)) (lc (pool_c rfl (by omega)) (lc (pool_w rfl (by omega)) (lc rfl rfl)))) hK⟩ rfl rfl hl.1 rfl (lv_room (Nat.le_of_ble_eq_true rfl)) dX1_contradict_39 ⟨Nat.le_refl _, Nat.le_refl _⟩) hS (va_free hD hS hA [5 + k, 42 + k, 1] (lc (pool_c rfl (by omega)) (lc (pool_w rfl (by omega)) (lc rfl rfl)))) (va_free hD hS hA [5 + k, 42 + k, 1] (lc (pool_c rfl (by omega)) (lc (pool_w rfl (by omega)) (lc rfl rfl)))) (fun H1 locs hP1 hD1 hk1 hS => ?_)
    obtain ⟨hP, hD⟩ := pj (k := k) (is' := [1]) (wc := [(ca k, .inr (0, [.ref (wa k), .int (dg k), .int (gv k)])), (wa k, eI G 10 (ro k)), (bd, eI G 10 fd)]) rfl (by omega) hP hD (lc (pool_c rfl (by omega)) (lc (pool_w rfl (by omega)) (lc rfl rfl))) hk1 hP1 rfl rfl (fun j q h => ⟨j + 2, h⟩)
    rw [upS gv k] at hP hD
    generalize H1 = H at hP hS ⊢
    have hP : va_P G.1 vwCl ([(bx, .inr (1, [.ref bd, .ref bo, .ref bs, .int st, .ref bk, .int sk, .ref (ca 36), .int tk, .int be, .int so, .int le, .int an])), (bd, eI G 10 fd), (bo, eI G 10 fo), (bs, eR G 30 (fun k => some (ca k))), (bk, eR G 6 (fun k => some (ca (30 + k))))] ++ pool G ca wa (va_up ro k (mixf 10 (nrW fd 1) (ro k))) (va_up dg k (nrD fd 1 x)) gv) H := hP
    have hD : va_D A ([(bx, .inr (1, [.ref bd, .ref bo, .ref bs, .int st, .ref bk, .int sk, .ref (ca 36), .int tk, .int be, .int so, .int le, .int an])), (bd, eI G 10 fd), (bo, eI G 10 fo), (bs, eR G 30 (fun k => some (ca k))), (bk, eR G 6 (fun k => some (ca (30 + k))))] ++ pool G ca wa (va_up ro k (mixf 10 (nrW fd 1) (ro k))) (va_up dg k (nrD fd 1 x)) gv) := hD
    refine lv_aload_n hx hb dX1_contradict_42 rfl (lv_at hl 0 rfl) ?_
    refine va_get (D := G.1) (ci := 1) (v := .ref bs) (C := RX1) (T := TX1) (N := 12) hx hb hts hinX1 hown hK.1 hP 0 rfl rfl 2 (by decide) hw1 (fun _ h9 => h9) rfl dX1_contradict_43 ?_
    refine lv_aload_n hx hb dX1_contradict_46 rfl (lv_at hl 0 rfl) ?_
    refine va_get (D := G.1) (ci := 1) (v := .int st) (C := RX1) (T := TX1) (N := 12) hx hb hts hinX1 hown hK.1 hP 0 rfl rfl 3 (by decide) hw2 (fun _ h9 => h9) rfl dX1_contradict_47 ?_
    refine ra_aald (v := k) (b := ca k) hx hb hK.1 hP 3 2 rfl rfl est (by omega) (by decide) rfl dX1_contradict_50 ?_
    refine mu_call (va_runV (As := []) (rest := []) ⟨hx, hb, hml, hown, hts⟩ (c_X0_turnToContrary l G _ (ca k) (wa k) ((va_up dg k (nrD fd 1 x)) k) (gv k) ((va_up ro k (mixf 10 (nrW fd 1) (ro k))) k)) (cwV 0 hts gX1_contradict_X0_turnToContrary rfl rfl rfl (by decide +kernel) ⟨Nat.le_of_ble_eq_true rfl, Nat.le_of_ble_eq_true rfl⟩) ⟨mu_blind, va_recv hK.1 hP (ci := 0) (q0 := 5 + k) rfl (pool_c rfl (by omega)), mu_pre _ (lcP [5 + k, 42 + k] hP (lc (pool_c rfl (by omega)) (lc (pool_w rfl (by omega)) rfl))) (hD.sub [5 + k, 42 + k] (nd2 k) (lc (pool_c rfl (by omega)) (lc (pool_w rfl (by omega)) rfl))) hK⟩ rfl rfl hl.1 rfl (lv_room (Nat.le_of_ble_eq_true rfl)) dX1_contradict_51 ⟨Nat.le_refl _, Nat.le_refl _⟩) hS (va_free hD hS hA [5 + k, 42 + k] (lc (pool_c rfl (by omega)) (lc (pool_w rfl (by omega)) rfl))) (va_free hD hS hA [5 + k, 42 + k] (lc (pool_c rfl (by omega)) (lc (pool_w rfl (by omega)) rfl))) (fun H1 locs hP1 hD1 hk1 hS => ?_)
    obtain ⟨hP, hD⟩ := pj (k := k) (is' := []) (wc := [(ca k, .inr (0, [.ref (wa k), .int ((va_up dg k (nrD fd 1 x)) k), .int (gv k)])), (wa k, eI G 10 ((va_up ro k (mixf 10 (nrW fd 1) (ro k))) k))]) rfl (by omega) hP hD (lc (pool_c rfl (by omega)) (lc (pool_w rfl (by omega)) rfl)) hk1 hP1 rfl rfl (fun j q h => ⟨j + 2, h⟩)
    rw [upS gv k] at hP hD
    generalize H1 = H at hP hS ⊢
    have hP : va_P G.1 vwCl ([(bx, .inr (1, [.ref bd, .ref bo, .ref bs, .int st, .ref bk, .int sk, .ref (ca 36), .int tk, .int be, .int so, .int le, .int an])), (bd, eI G 10 fd), (bo, eI G 10 fo), (bs, eR G 30 (fun k => some (ca k))), (bk, eR G 6 (fun k => some (ca (30 + k))))] ++ pool G ca wa (va_up (va_up ro k (mixf 10 (nrW fd 1) (ro k))) k (mixf 10 (fun v => -(((va_up ro k (mixf 10 (nrW fd 1) (ro k))) k) v)) ((va_up ro k (mixf 10 (nrW fd 1) (ro k))) k))) (va_up (va_up dg k (nrD fd 1 x)) k (maxI (szs ((va_up ro k (mixf 10 (nrW fd 1) (ro k))) k) + 1 - ((va_up dg k (nrD fd 1 x)) k)) 0)) gv) H := hP
    have hD : va_D A ([(bx, .inr (1, [.ref bd, .ref bo, .ref bs, .int st, .ref bk, .int sk, .ref (ca 36), .int tk, .int be, .int so, .int le, .int an])), (bd, eI G 10 fd), (bo, eI G 10 fo), (bs, eR G 30 (fun k => some (ca k))), (bk, eR G 6 (fun k => some (ca (30 + k))))] ++ pool G ca wa (va_up (va_up ro k (mixf 10 (nrW fd 1) (ro k))) k (mixf 10 (fun v => -(((va_up ro k (mixf 10 (nrW fd 1) (ro k))) k) v)) ((va_up ro k (mixf 10 (nrW fd 1) (ro k))) k))) (va_up (va_up dg k (nrD fd 1 x)) k (maxI (szs ((va_up ro k (mixf 10 (nrW fd 1) (ro k))) k) + 1 - ((va_up dg k (nrD fd 1 x)) k)) 0)) gv) := hD
    refine lv_aload_n hx hb dX1_contradict_54 rfl (lv_at hl 0 rfl) ?_
    refine lv_iconst (v := 0) hx hb dX1_contradict_55 (by decide) ?_
    refine lv_aload_n hx hb dX1_contradict_56 rfl (lv_at hl 0 rfl) ?_
    refine va_get (D := G.1) (ci := 1) (v := .int st) (C := RX1) (T := TX1) (N := 12) hx hb hts hinX1 hown hK.1 hP 0 rfl rfl 3 (by decide) hw2 (fun _ h9 => h9) rfl dX1_contradict_57 ?_
    refine lv_iconst (v := 1) hx hb dX1_contradict_60 (by decide) ?_
    refine lv_iadd hx hb dX1_contradict_61 ?_
    refine ro_call (va_runV (As := [.int 0, .int (st + 1)]) (rest := []) ⟨hx, hb, hml, hown, hts⟩ (c_X1_closed l G bx bd bo bs bk ca wa st sk tk be so le an fd fo (va_up (va_up ro k (mixf 10 (nrW fd 1) (ro k))) k (mixf 10 (fun v => -(((va_up ro k (mixf 10 (nrW fd 1) (ro k))) k) v)) ((va_up ro k (mixf 10 (nrW fd 1) (ro k))) k))) (va_up (va_up dg k (nrD fd 1 x)) k (maxI (szs ((va_up ro k (mixf 10 (nrW fd 1) (ro k))) k) + 1 - ((va_up dg k (nrD fd 1 x)) k)) 0)) gv 0 (by decide) (st + 1) (k + 1) (na_add est (by decide)) (by omega)) (cwV 2 hts gX1_contradict_X1_closed rfl rfl rfl (by decide +kernel) ⟨Nat.le_of_ble_eq_true rfl, Nat.le_of_ble_eq_true rfl⟩) ⟨ro_blind, va_recv hK.1 hP (ci := 1) (q0 := 0) rfl rfl, ro_pre _ hP hK⟩ rfl rfl hl.1 rfl (lv_room (Nat.le_of_ble_eq_true rfl)) dX1_contradict_62 ⟨Nat.le_refl _, Nat.le_refl _⟩) ?_
    refine lv_iconst (v := (-1)) hx hb dX1_contradict_65 (by decide) ?_
    refine lv_icmp_eq (tgt := 71) hx hb dX1_contradict_66 (by decide) (fun c_66 => ?_) (fun c_66 => ?_)
    · have hcx : r = -1 := by rw [hr9]; simpa only [bx_uu, va_up_self] using c_66
      refine lv_aload_n hx hb dX1_contradict_71 rfl (lv_at hl 0 rfl) ?_
      refine va_get (D := G.1) (ci := 1) (v := .ref bs) (C := RX1) (T := TX1) (N := 12) hx hb hts hinX1 hown hK.1 hP 0 rfl rfl 2 (by decide) hw1 (fun _ h9 => h9) rfl dX1_contradict_72 ?_
      refine lv_aload_n hx hb dX1_contradict_75 rfl (lv_at hl 0 rfl) ?_
      refine va_get (D := G.1) (ci := 1) (v := .int st) (C := RX1) (T := TX1) (N := 12) hx hb hts hinX1 hown hK.1 hP 0 rfl rfl 3 (by decide) hw2 (fun _ h9 => h9) rfl dX1_contradict_76 ?_
      refine ra_aald (v := k) (b := ca k) hx hb hK.1 hP 3 2 rfl rfl est (by omega) (by decide) rfl dX1_contradict_79 ?_
      refine lv_aload_n hx hb dX1_contradict_80 rfl (lv_at hl 0 rfl) ?_
      refine va_get (D := G.1) (ci := 1) (v := .ref bd) (C := RX1) (T := TX1) (N := 12) hx hb hts hinX1 hown hK.1 hP 0 rfl rfl 0 (by decide) hw3 (fun _ h9 => h9) rfl dX1_contradict_81 ?_
      refine lv_iload_n hx hb dX1_contradict_84 rfl (lv_at hl 1 rfl) ?_
      refine mu_call (va_runV (As := [.ref bd, .int x]) (rest := []) ⟨hx, hb, hml, hown, hts⟩ (c_X0_becomeAtLeast l G _ (ca k) (wa k) ((va_up (va_up dg k (nrD fd 1 x)) k (maxI (szs ((va_up ro k (mixf 10 (nrW fd 1) (ro k))) k) + 1 - ((va_up dg k (nrD fd 1 x)) k)) 0)) k) (gv k) ((va_up (va_up ro k (mixf 10 (nrW fd 1) (ro k))) k (mixf 10 (fun v => -(((va_up ro k (mixf 10 (nrW fd 1) (ro k))) k) v)) ((va_up ro k (mixf 10 (nrW fd 1) (ro k))) k))) k) bd fd x) (cwV 2 hts gX1_contradict_X0_becomeAtLeast rfl rfl rfl (by decide +kernel) ⟨Nat.le_of_ble_eq_true rfl, Nat.le_of_ble_eq_true rfl⟩) ⟨mu_blind, va_recv hK.1 hP (ci := 0) (q0 := 5 + k) rfl (pool_c rfl (by omega)), mu_pre _ (lcP [5 + k, 42 + k, 1] hP (lc (pool_c rfl (by omega)) (lc (pool_w rfl (by omega)) (lc rfl rfl)))) (hD.sub [5 + k, 42 + k, 1] (nd3 k 1 (by decide)) (lc (pool_c rfl (by omega)) (lc (pool_w rfl (by omega)) (lc rfl rfl)))) hK⟩ rfl rfl hl.1 rfl (lv_room (Nat.le_of_ble_eq_true rfl)) dX1_contradict_85 ⟨Nat.le_refl _, Nat.le_refl _⟩) hS (va_free hD hS hA [5 + k, 42 + k, 1] (lc (pool_c rfl (by omega)) (lc (pool_w rfl (by omega)) (lc rfl rfl)))) (va_free hD hS hA [5 + k, 42 + k, 1] (lc (pool_c rfl (by omega)) (lc (pool_w rfl (by omega)) (lc rfl rfl)))) (fun H1 locs hP1 hD1 hk1 hS => ?_)
      obtain ⟨hP, hD⟩ := pj (k := k) (is' := [1]) (wc := [(ca k, .inr (0, [.ref (wa k), .int ((va_up (va_up dg k (nrD fd 1 x)) k (maxI (szs ((va_up ro k (mixf 10 (nrW fd 1) (ro k))) k) + 1 - ((va_up dg k (nrD fd 1 x)) k)) 0)) k), .int (gv k)])), (wa k, eI G 10 ((va_up (va_up ro k (mixf 10 (nrW fd 1) (ro k))) k (mixf 10 (fun v => -(((va_up ro k (mixf 10 (nrW fd 1) (ro k))) k) v)) ((va_up ro k (mixf 10 (nrW fd 1) (ro k))) k))) k)), (bd, eI G 10 fd)]) rfl (by omega) hP hD (lc (pool_c rfl (by omega)) (lc (pool_w rfl (by omega)) (lc rfl rfl))) hk1 hP1 rfl rfl (fun j q h => ⟨j + 2, h⟩)
      rw [upS gv k] at hP hD
      generalize H1 = H at hP hS ⊢
      have hP : va_P G.1 vwCl ([(bx, .inr (1, [.ref bd, .ref bo, .ref bs, .int st, .ref bk, .int sk, .ref (ca 36), .int tk, .int be, .int so, .int le, .int an])), (bd, eI G 10 fd), (bo, eI G 10 fo), (bs, eR G 30 (fun k => some (ca k))), (bk, eR G 6 (fun k => some (ca (30 + k))))] ++ pool G ca wa (va_up (va_up (va_up ro k (mixf 10 (nrW fd 1) (ro k))) k (mixf 10 (fun v => -(((va_up ro k (mixf 10 (nrW fd 1) (ro k))) k) v)) ((va_up ro k (mixf 10 (nrW fd 1) (ro k))) k))) k (mixf 10 (nrW fd 1) ((va_up (va_up ro k (mixf 10 (nrW fd 1) (ro k))) k (mixf 10 (fun v => -(((va_up ro k (mixf 10 (nrW fd 1) (ro k))) k) v)) ((va_up ro k (mixf 10 (nrW fd 1) (ro k))) k))) k))) (va_up (va_up (va_up dg k (nrD fd 1 x)) k (maxI (szs ((va_up ro k (mixf 10 (nrW fd 1) (ro k))) k) + 1 - ((va_up dg k (nrD fd 1 x)) k)) 0)) k (nrD fd 1 x)) gv) H := hP
      have hD : va_D A ([(bx, .inr (1, [.ref bd, .ref bo, .ref bs, .int st, .ref bk, .int sk, .ref (ca 36), .int tk, .int be, .int so, .int le, .int an])), (bd, eI G 10 fd), (bo, eI G 10 fo), (bs, eR G 30 (fun k => some (ca k))), (bk, eR G 6 (fun k => some (ca (30 + k))))] ++ pool G ca wa (va_up (va_up (va_up ro k (mixf 10 (nrW fd 1) (ro k))) k (mixf 10 (fun v => -(((va_up ro k (mixf 10 (nrW fd 1) (ro k))) k) v)) ((va_up ro k (mixf 10 (nrW fd 1) (ro k))) k))) k (mixf 10 (nrW fd 1) ((va_up (va_up ro k (mixf 10 (nrW fd 1) (ro k))) k (mixf 10 (fun v => -(((va_up ro k (mixf 10 (nrW fd 1) (ro k))) k) v)) ((va_up ro k (mixf 10 (nrW fd 1) (ro k))) k))) k))) (va_up (va_up (va_up dg k (nrD fd 1 x)) k (maxI (szs ((va_up ro k (mixf 10 (nrW fd 1) (ro k))) k) + 1 - ((va_up dg k (nrD fd 1 x)) k)) 0)) k (nrD fd 1 x)) gv) := hD
      refine lv_aload_n hx hb dX1_contradict_88 rfl (lv_at hl 0 rfl) ?_
      have hFw := va_freeW hD hS hA
      refine mu_call (va_runV (As := []) (rest := []) ⟨hx, hb, hml, hown, hts⟩ (c_X1_clear l G _ bx bd bo bs bk ca wa st sk tk be so le an fd fo (va_up (va_up (va_up ro k (mixf 10 (nrW fd 1) (ro k))) k (mixf 10 (fun v => -(((va_up ro k (mixf 10 (nrW fd 1) (ro k))) k) v)) ((va_up ro k (mixf 10 (nrW fd 1) (ro k))) k))) k (mixf 10 (nrW fd 1) ((va_up (va_up ro k (mixf 10 (nrW fd 1) (ro k))) k (mixf 10 (fun v => -(((va_up ro k (mixf 10 (nrW fd 1) (ro k))) k) v)) ((va_up ro k (mixf 10 (nrW fd 1) (ro k))) k))) k))) (va_up (va_up (va_up dg k (nrD fd 1 x)) k (maxI (szs ((va_up ro k (mixf 10 (nrW fd 1) (ro k))) k) + 1 - ((va_up dg k (nrD fd 1 x)) k)) 0)) k (nrD fd 1 x)) gv) (cwV 0 hts gX1_contradict_X1_clear rfl rfl rfl (by decide +kernel) ⟨Nat.le_of_ble_eq_true rfl, Nat.le_of_ble_eq_true rfl⟩) ⟨mu_blind, va_recv hK.1 hP (ci := 1) (q0 := 0) rfl rfl, mu_pre _ hP hD hK⟩ rfl rfl hl.1 rfl (lv_room (Nat.le_of_ble_eq_true rfl)) dX1_contradict_89 ⟨Nat.le_refl _, Nat.le_refl _⟩) hS hFw hFw (fun H1 locs hP1 hD1 hk1 hS => ?_)
      have hD := hD1.weaken (fun _ q _ h9 => hFw q.1 h9)
      have hP := hP1
      generalize H1 = H at hP hS ⊢
      have hP : va_P G.1 vwCl ([(bx, .inr (1, [.ref bd, .ref bo, .ref bs, .int st, .ref bk, .int sk, .ref (ca 36), .int tk, .int be, .int so, .int le, .int an])), (bd, eI G 10 (mixf 10 (fun _ => 0) fd)), (bo, eI G 10 fo), (bs, eR G 30 (fun k => some (ca k))), (bk, eR G 6 (fun k => some (ca (30 + k))))] ++ pool G ca wa (va_up (va_up (va_up ro k (mixf 10 (nrW fd 1) (ro k))) k (mixf 10 (fun v => -(((va_up ro k (mixf 10 (nrW fd 1) (ro k))) k) v)) ((va_up ro k (mixf 10 (nrW fd 1) (ro k))) k))) k (mixf 10 (nrW fd 1) ((va_up (va_up ro k (mixf 10 (nrW fd 1) (ro k))) k (mixf 10 (fun v => -(((va_up ro k (mixf 10 (nrW fd 1) (ro k))) k) v)) ((va_up ro k (mixf 10 (nrW fd 1) (ro k))) k))) k))) (va_up (va_up (va_up dg k (nrD fd 1 x)) k (maxI (szs ((va_up ro k (mixf 10 (nrW fd 1) (ro k))) k) + 1 - ((va_up dg k (nrD fd 1 x)) k)) 0)) k (nrD fd 1 x)) gv) H := hP
      have hD : va_D A ([(bx, .inr (1, [.ref bd, .ref bo, .ref bs, .int st, .ref bk, .int sk, .ref (ca 36), .int tk, .int be, .int so, .int le, .int an])), (bd, eI G 10 (mixf 10 (fun _ => 0) fd)), (bo, eI G 10 fo), (bs, eR G 30 (fun k => some (ca k))), (bk, eR G 6 (fun k => some (ca (30 + k))))] ++ pool G ca wa (va_up (va_up (va_up ro k (mixf 10 (nrW fd 1) (ro k))) k (mixf 10 (fun v => -(((va_up ro k (mixf 10 (nrW fd 1) (ro k))) k) v)) ((va_up ro k (mixf 10 (nrW fd 1) (ro k))) k))) k (mixf 10 (nrW fd 1) ((va_up (va_up ro k (mixf 10 (nrW fd 1) (ro k))) k (mixf 10 (fun v => -(((va_up ro k (mixf 10 (nrW fd 1) (ro k))) k) v)) ((va_up ro k (mixf 10 (nrW fd 1) (ro k))) k))) k))) (va_up (va_up (va_up dg k (nrD fd 1 x)) k (maxI (szs ((va_up ro k (mixf 10 (nrW fd 1) (ro k))) k) + 1 - ((va_up dg k (nrD fd 1 x)) k)) 0)) k (nrD fd 1 x)) gv) := hD
      refine lv_aload_n hx hb dX1_contradict_92 rfl (lv_at hl 0 rfl) ?_
      refine lv_iconst (v := 0) hx hb dX1_contradict_93 (by decide) ?_
      have hFw := va_freeW hD hS hA
      refine mu_call (va_runV (As := [.int 0]) (rest := []) ⟨hx, hb, hml, hown, hts⟩ (c_X1_keepNext l G _ bx bd bo bs bk ca wa st sk tk be so le an (mixf 10 (fun _ => 0) fd) fo (va_up (va_up (va_up ro k (mixf 10 (nrW fd 1) (ro k))) k (mixf 10 (fun v => -(((va_up ro k (mixf 10 (nrW fd 1) (ro k))) k) v)) ((va_up ro k (mixf 10 (nrW fd 1) (ro k))) k))) k (mixf 10 (nrW fd 1) ((va_up (va_up ro k (mixf 10 (nrW fd 1) (ro k))) k (mixf 10 (fun v => -(((va_up ro k (mixf 10 (nrW fd 1) (ro k))) k) v)) ((va_up ro k (mixf 10 (nrW fd 1) (ro k))) k))) k))) (va_up (va_up (va_up dg k (nrD fd 1 x)) k (maxI (szs ((va_up ro k (mixf 10 (nrW fd 1) (ro k))) k) + 1 - ((va_up dg k (nrD fd 1 x)) k)) 0)) k (nrD fd 1 x)) gv 0 rfl rfl k est (by omega)) (cwV 1 hts gX1_contradict_X1_keepNext rfl rfl rfl (by decide +kernel) ⟨Nat.le_of_ble_eq_true rfl, Nat.le_of_ble_eq_true rfl⟩) ⟨mu_blind, va_recv hK.1 hP (ci := 1) (q0 := 0) rfl rfl, mu_pre _ hP hD hK⟩ rfl rfl hl.1 rfl (lv_room (Nat.le_of_ble_eq_true rfl)) dX1_contradict_94 ⟨Nat.le_refl _, Nat.le_refl _⟩) hS hFw hFw (fun H1 locs hP1 hD1 hk1 hS => ?_)
      have hD := hD1.weaken (fun _ q _ h9 => hFw q.1 h9)
      have hP := hP1
      generalize H1 = H at hP hS ⊢
      have hP : va_P G.1 vwCl ([(bx, .inr (1, [.ref bd, .ref bo, .ref bs, .int (st + 1), .ref bk, .int sk, .ref (ca 36), .int tk, .int be, .int so, .int le, .int an])), (bd, eI G 10 (mixf 10 (fun _ => 0) fd)), (bo, eI G 10 fo), (bs, eR G 30 (fun k => some (ca k))), (bk, eR G 6 (fun k => some (ca (30 + k))))] ++ pool G ca wa (va_up (va_up (va_up ro k (mixf 10 (nrW fd 1) (ro k))) k (mixf 10 (fun v => -(((va_up ro k (mixf 10 (nrW fd 1) (ro k))) k) v)) ((va_up ro k (mixf 10 (nrW fd 1) (ro k))) k))) k (mixf 10 (nrW fd 1) ((va_up (va_up ro k (mixf 10 (nrW fd 1) (ro k))) k (mixf 10 (fun v => -(((va_up ro k (mixf 10 (nrW fd 1) (ro k))) k) v)) ((va_up ro k (mixf 10 (nrW fd 1) (ro k))) k))) k))) (va_up (va_up (va_up dg k (nrD fd 1 x)) k (maxI (szs ((va_up ro k (mixf 10 (nrW fd 1) (ro k))) k) + 1 - ((va_up dg k (nrD fd 1 x)) k)) 0)) k (nrD fd 1 x)) (va_up gv k 0)) H := hP
      have hD : va_D A ([(bx, .inr (1, [.ref bd, .ref bo, .ref bs, .int (st + 1), .ref bk, .int sk, .ref (ca 36), .int tk, .int be, .int so, .int le, .int an])), (bd, eI G 10 (mixf 10 (fun _ => 0) fd)), (bo, eI G 10 fo), (bs, eR G 30 (fun k => some (ca k))), (bk, eR G 6 (fun k => some (ca (30 + k))))] ++ pool G ca wa (va_up (va_up (va_up ro k (mixf 10 (nrW fd 1) (ro k))) k (mixf 10 (fun v => -(((va_up ro k (mixf 10 (nrW fd 1) (ro k))) k) v)) ((va_up ro k (mixf 10 (nrW fd 1) (ro k))) k))) k (mixf 10 (nrW fd 1) ((va_up (va_up ro k (mixf 10 (nrW fd 1) (ro k))) k (mixf 10 (fun v => -(((va_up ro k (mixf 10 (nrW fd 1) (ro k))) k) v)) ((va_up ro k (mixf 10 (nrW fd 1) (ro k))) k))) k))) (va_up (va_up (va_up dg k (nrD fd 1 x)) k (maxI (szs ((va_up ro k (mixf 10 (nrW fd 1) (ro k))) k) + 1 - ((va_up dg k (nrD fd 1 x)) k)) 0)) k (nrD fd 1 x)) (va_up gv k 0)) := hD
      simp only [bx_uu, va_up_self] at hP hD
      have hP9 : va_P G.1 vwCl ([(bx, .inr (1, [.ref bd, .ref bo, .ref bs, .int (if r = -1 then st + 1 else st), .ref bk, .int sk, .ref (ca 36), .int tk, .int be, .int so, .int le, .int an])), (bd, eI G 10 (if r = -1 then mixf 10 (fun _ => 0) fd else fd)), (bo, eI G 10 fo), (bs, eR G 30 (fun k => some (ca k))), (bk, eR G 6 (fun k => some (ca (30 + k))))] ++ pool G ca wa (va_up ro k (if r = -1 then mixf 10 (nrW fd 1) (mixf 10 (fun v => -((mixf 10 (nrW fd 1) (ro k)) v)) (mixf 10 (nrW fd 1) (ro k))) else (mixf 10 (fun v => -((mixf 10 (nrW fd 1) (ro k)) v)) (mixf 10 (nrW fd 1) (ro k))))) (va_up dg k (if r = -1 then (nrD fd 1 x) else (maxI (szs (mixf 10 (nrW fd 1) (ro k)) + 1 - (nrD fd 1 x)) 0))) (if r = -1 then va_up gv k 0 else gv)) _ := (by simp only [if_pos hcx]; exact hP)
      have hD9 : va_D A ([(bx, .inr (1, [.ref bd, .ref bo, .ref bs, .int (if r = -1 then st + 1 else st), .ref bk, .int sk, .ref (ca 36), .int tk, .int be, .int so, .int le, .int an])), (bd, eI G 10 (if r = -1 then mixf 10 (fun _ => 0) fd else fd)), (bo, eI G 10 fo), (bs, eR G 30 (fun k => some (ca k))), (bk, eR G 6 (fun k => some (ca (30 + k))))] ++ pool G ca wa (va_up ro k (if r = -1 then mixf 10 (nrW fd 1) (mixf 10 (fun v => -((mixf 10 (nrW fd 1) (ro k)) v)) (mixf 10 (nrW fd 1) (ro k))) else (mixf 10 (fun v => -((mixf 10 (nrW fd 1) (ro k)) v)) (mixf 10 (nrW fd 1) (ro k))))) (va_up dg k (if r = -1 then (nrD fd 1 x) else (maxI (szs (mixf 10 (nrW fd 1) (ro k)) + 1 - (nrD fd 1 x)) 0))) (if r = -1 then va_up gv k 0 else gv)) := (by simp only [if_pos hcx]; exact hD)
      exact W.iret (v := st + 1 - 1) hx hb hr (fun t ht hW => ⟨congrArg (fun z => Outcome.returned (some (Value.int z))) ((if_pos hcx).symm), by rw [ht]; exact hP9, hD9, hS.F ht⟩) hS.2.2 dX1_contradict_97
    · have hcx : ¬ r = -1 := by rw [hr9]; simpa only [bx_uu, va_up_self] using c_66
      refine lv_iconst (v := (-1)) hx hb dX1_contradict_69 (by decide) ?_
      simp only [bx_uu, va_up_self] at hP hD
      have hP9 : va_P G.1 vwCl ([(bx, .inr (1, [.ref bd, .ref bo, .ref bs, .int (if r = -1 then st + 1 else st), .ref bk, .int sk, .ref (ca 36), .int tk, .int be, .int so, .int le, .int an])), (bd, eI G 10 (if r = -1 then mixf 10 (fun _ => 0) fd else fd)), (bo, eI G 10 fo), (bs, eR G 30 (fun k => some (ca k))), (bk, eR G 6 (fun k => some (ca (30 + k))))] ++ pool G ca wa (va_up ro k (if r = -1 then mixf 10 (nrW fd 1) (mixf 10 (fun v => -((mixf 10 (nrW fd 1) (ro k)) v)) (mixf 10 (nrW fd 1) (ro k))) else (mixf 10 (fun v => -((mixf 10 (nrW fd 1) (ro k)) v)) (mixf 10 (nrW fd 1) (ro k))))) (va_up dg k (if r = -1 then (nrD fd 1 x) else (maxI (szs (mixf 10 (nrW fd 1) (ro k)) + 1 - (nrD fd 1 x)) 0))) (if r = -1 then va_up gv k 0 else gv)) _ := (by simp only [if_neg hcx]; exact hP)
      have hD9 : va_D A ([(bx, .inr (1, [.ref bd, .ref bo, .ref bs, .int (if r = -1 then st + 1 else st), .ref bk, .int sk, .ref (ca 36), .int tk, .int be, .int so, .int le, .int an])), (bd, eI G 10 (if r = -1 then mixf 10 (fun _ => 0) fd else fd)), (bo, eI G 10 fo), (bs, eR G 30 (fun k => some (ca k))), (bk, eR G 6 (fun k => some (ca (30 + k))))] ++ pool G ca wa (va_up ro k (if r = -1 then mixf 10 (nrW fd 1) (mixf 10 (fun v => -((mixf 10 (nrW fd 1) (ro k)) v)) (mixf 10 (nrW fd 1) (ro k))) else (mixf 10 (fun v => -((mixf 10 (nrW fd 1) (ro k)) v)) (mixf 10 (nrW fd 1) (ro k))))) (va_up dg k (if r = -1 then (nrD fd 1 x) else (maxI (szs (mixf 10 (nrW fd 1) (ro k)) + 1 - (nrD fd 1 x)) 0))) (if r = -1 then va_up gv k 0 else gv)) := (by simp only [if_neg hcx]; exact hD)
      exact W.iret (v := (-1)) hx hb hr (fun t ht hW => ⟨congrArg (fun z => Outcome.returned (some (Value.int z))) ((if_neg hcx).symm), by rw [ht]; exact hP9, hD9, hS.F ht⟩) hS.2.2 dX1_contradict_70
  · exact absurd c_10 (in_o0 h1)

abbrev rmX1_found : Room := { frames := 5, cells := 0, slots := 0, locals := 111 }
set_option maxHeartbeats 4000000 in
set_option maxRecDepth 100000 in
theorem c_X1_found (l : Launch) (G : Gt) (sz : Nat) (bx bd bo bs bk : Nat) (ca wa : Nat → Nat) (st sk tk be so le an : Int32) (fd fo : Nat → Int32) (ro : Nat → Nat → Int32) (dg gv : Nat → Int32) (x : Int32) (k : Nat) (est : st = nI k) (hk : k < 30) (h1 : outI x 0 1023 = 0) : Met l yX1_found wsX1_found rmX1_found (mu_P G sz [.ref bx, .int x] ([(bx, .inr (1, [.ref bd, .ref bo, .ref bs, .int st, .ref bk, .int sk, .ref (ca 36), .int tk, .int be, .int so, .int le, .int an])), (bd, eI G 10 fd), (bo, eI G 10 fo), (bs, eR G 30 (fun k => some (ca k))), (bk, eR G 6 (fun k => some (ca (30 + k))))] ++ pool G ca wa ro dg gv)) (mu_Q G (some (.int (if allB (msB ro dg gv x 0) k = true then 1 else 0))) ([(bx, .inr (1, [.ref bd, .ref bo, .ref bs, .int (if allB (msB ro dg gv x 0) k = true then (if hoB fo = true then st + 1 else st) else st), .ref bk, .int sk, .ref (ca 36), .int (if allB (msB ro dg gv x 0) k = true then (if hoB fo = true then 1 else 1) else tk), .int (if allB (msB ro dg gv x 0) k = true then (if hoB fo = true then ovI fo x else ovI fo x) else be), .int so, .int le, .int an])), (bd, eI G 10 fd), (bo, eI G 10 fo), (bs, eR G 30 (fun k => some (ca k))), (bk, eR G 6 (fun k => some (ca (30 + k))))] ++ pool G ca wa (if allB (msB ro dg gv x 0) k = true then (if hoB fo = true then va_up ro k (mixf 10 (nrW fo (-1)) (ro k)) else ro) else ro) (if allB (msB ro dg gv x 0) k = true then (if hoB fo = true then va_up dg k (nrD fo (-1) (-(ovI fo x - 1))) else dg) else dg) (if allB (msB ro dg gv x 0) k = true then (if hoB fo = true then va_up gv k 0 else gv) else gv)) (va_A ([(bx, .inr (1, [.ref bd, .ref bo, .ref bs, .int st, .ref bk, .int sk, .ref (ca 36), .int tk, .int be, .int so, .int le, .int an])), (bd, eI G 10 fd), (bo, eI G 10 fo), (bs, eR G 30 (fun k => some (ca k))), (bk, eR G 6 (fun k => some (ca (30 + k))))] ++ pool G ca wa ro dg gv) sz)) 0 0 (va_A ([(bx, .inr (1, [.ref bd, .ref bo, .ref bs, .int st, .ref bk, .int sk, .ref (ca 36), .int tk, .int be, .int so, .int le, .int an])), (bd, eI G 10 fd), (bo, eI G 10 fo), (bs, eR G 30 (fun k => some (ca k))), (bk, eR G 6 (fun k => some (ca (30 + k))))] ++ pool G ca wa ro dg gv) sz) := by
  refine Met.ofW (cc := cX1_found) (maxL := 2) (ret := (some .boolean)) (by decide) rfl ?_
  intro p e s m args below meth c s₁ B hml hv
  obtain ⟨rfl, hsz, hP, hD0, hK⟩ := hv
  have hx := B.exec
  have hb := B.bytes
  have hr := B.returns
  have hts := atoms_spec (ws := wsX1_found) B.pre
  have hown : s.vm.findClass RX1 = some m.cls := findClass_of_methodNamed B.named
  have hlocks := B.notSynchronized
  subst hsz
  have hD := hD0.self (sz := s.heap.size)
  generalize hAe : va_A ([(bx, .inr (1, [.ref bd, .ref bo, .ref bs, .int st, .ref bk, .int sk, .ref (ca 36), .int tk, .int be, .int so, .int le, .int an])), (bd, eI G 10 fd), (bo, eI G 10 fo), (bs, eR G 30 (fun k => some (ca k))), (bk, eR G 6 (fun k => some (ca (30 + k))))] ++ pool G ca wa ro dg gv) s.heap.size = A at hD ⊢
  have hA : ∀ q : Nat, s.heap.size ≤ q → A q := fun q h => by rw [← hAe]; exact Or.inr h
  have hS : va_S A s.heap s.heap [] := va_S.rf
  have hinX1 : ∀ w ∈ u_ws RX1 TX1 12, w ∈ wsX1_found := fun w h => List.mem_cons_of_mem _ (List.mem_append_left _ (List.mem_append_left _ (List.mem_append_left _ (List.mem_append_right _ h))))
  have hw1 := hts (.fieldLink RX1 37 "ChoiceBoard" "taken" "Z") (by decide +kernel)
  have hw2 := hts (.fieldLink RX1 41 "ChoiceBoard" "bestValue" "I") (by decide +kernel)
  have hw3 := hts (.fieldLink RX1 18 "ChoiceBoard" "store" "[LChoiceBoard$Constraint;") (by decide +kernel)
  have hw4 := hts (.fieldLink RX1 22 "ChoiceBoard" "stored" "I") (by decide +kernel)
  have hw5 := hts (.fieldLink RX1 13 "ChoiceBoard" "objectiveFactors" "[I") (by decide +kernel)
  have hl := lv_entry ([.ref bx, .int x]) (n := 2) (Nat.le_of_ble_eq_true rfl)
  rw [lg_entry_eq]
  generalize (lg_sl ([.ref bx, .int x]) ++ List.replicate (2 - (lg_sl ([.ref bx, .int x])).length) Slot.unset).toArray = ls at hl ⊢
  have hl : lv_has ls 2 [(0, .ref bx), (1, .int x)] := hl
  refine lv_iload_n hx hb dX1_found_0 rfl (lv_at hl 1 rfl) ?_
  refine ro_call (va_runS (As := [.int x]) (rest := []) ⟨hx, hb, hml, hown, hts⟩ (c_X1_isChoice l G x) (va_cwS 1 hts gX1_found_X1_isChoice rfl rfl rfl (by decide +kernel) ⟨Nat.le_of_ble_eq_true rfl, Nat.le_of_ble_eq_true rfl⟩) ⟨ro_blind, ro_pre _ (hP.sub [] rfl) hK⟩ rfl rfl hl.1 rfl (lv_room (Nat.le_of_ble_eq_true rfl)) dX1_found_1 ⟨Nat.le_refl _, Nat.le_refl _⟩) ?_
  refine lv_if_ne (tgt := 15) hx hb dX1_found_4 (by decide) (fun c_4 => ?_) (fun c_4 => ?_)
  · refine lv_aload_n hx hb dX1_found_15 rfl (lv_at hl 0 rfl) ?_
    refine ro_callv (va_runV (As := []) (rest := []) ⟨hx, hb, hml, hown, hts⟩ (c_X1_refuseFullStore l G bx bd bo bs bk (ca 36) st sk tk be so le an k est (by omega)) (cwV 0 hts gX1_found_X1_refuseFullStore rfl rfl rfl (by decide +kernel) ⟨Nat.le_of_ble_eq_true rfl, Nat.le_of_ble_eq_true rfl⟩) ⟨ro_blind, va_recv hK.1 hP (ci := 1) (q0 := 0) rfl rfl, ro_pre _ (hP.sub [0] rfl) hK⟩ rfl rfl hl.1 rfl (lv_room (Nat.le_of_ble_eq_true rfl)) dX1_found_16 ⟨Nat.le_refl _, Nat.le_refl _⟩) ?_
    refine lv_aload_n hx hb dX1_found_19 rfl (lv_at hl 0 rfl) ?_
    refine lv_iload_n hx hb dX1_found_20 rfl (lv_at hl 1 rfl) ?_
    refine lv_iconst (v := 0) hx hb dX1_found_21 (by decide) ?_
    refine ro_call (va_runV (As := [.int x, .int 0]) (rest := []) ⟨hx, hb, hml, hown, hts⟩ (c_X1_meetsStore l G bx bd bo bs bk ca wa st sk tk be so le an fd fo ro dg gv x 0 k est (by omega)) (cwV 2 hts gX1_found_X1_meetsStore rfl rfl rfl (by decide +kernel) ⟨Nat.le_of_ble_eq_true rfl, Nat.le_of_ble_eq_true rfl⟩) ⟨ro_blind, va_recv hK.1 hP (ci := 1) (q0 := 0) rfl rfl, ro_pre _ hP hK⟩ rfl rfl hl.1 rfl (lv_room (Nat.le_of_ble_eq_true rfl)) dX1_found_22 ⟨Nat.le_refl _, Nat.le_refl _⟩) ?_
    refine lv_if_ne (tgt := 30) hx hb dX1_found_25 (by decide) (fun c_25 => ?_) (fun c_25 => ?_)
    · have hm := bI_ne c_25
      refine lv_aload_n hx hb dX1_found_30 rfl (lv_at hl 0 rfl) ?_
      refine lv_iconst (v := 1) hx hb dX1_found_31 (by decide) ?_
      refine va_put (D := G.1) (ci := 1) (v := .int 1) (ty := .boolean) (C := RX1) (T := TX1) (N := 12) hx hb hts hinX1 tyX1 tyX1_ok nmX1 hown hK.1 hP hD hS 0 rfl rfl 7 (by decide) hw1 (fun _ h9 => h9) rfl (by decide +kernel) rfl rfl (Nat.le_of_ble_eq_true rfl) dX1_found_32 (fun H locs hP hD hS => ?_)
      have hP : va_P G.1 vwCl ([(bx, .inr (1, [.ref bd, .ref bo, .ref bs, .int st, .ref bk, .int sk, .ref (ca 36), .int 1, .int be, .int so, .int le, .int an])), (bd, eI G 10 fd), (bo, eI G 10 fo), (bs, eR G 30 (fun k => some (ca k))), (bk, eR G 6 (fun k => some (ca (30 + k))))] ++ pool G ca wa ro dg gv) H := hP
      have hD : va_D A ([(bx, .inr (1, [.ref bd, .ref bo, .ref bs, .int st, .ref bk, .int sk, .ref (ca 36), .int 1, .int be, .int so, .int le, .int an])), (bd, eI G 10 fd), (bo, eI G 10 fo), (bs, eR G 30 (fun k => some (ca k))), (bk, eR G 6 (fun k => some (ca (30 + k))))] ++ pool G ca wa ro dg gv) := hD
      refine lv_aload_n hx hb dX1_found_35 rfl (lv_at hl 0 rfl) ?_
      refine lv_aload_n hx hb dX1_found_36 rfl (lv_at hl 0 rfl) ?_
      refine lv_iload_n hx hb dX1_found_37 rfl (lv_at hl 1 rfl) ?_
      refine ro_call (va_runV (As := [.int x]) (rest := [.ref bx]) ⟨hx, hb, hml, hown, hts⟩ (c_X1_objectiveValue l G bx bd bo bs bk (ca 36) st sk 1 be so le an fo x) (cwV 1 hts gX1_found_X1_objectiveValue rfl rfl rfl (by decide +kernel) ⟨Nat.le_of_ble_eq_true rfl, Nat.le_of_ble_eq_true rfl⟩) ⟨ro_blind, va_recv hK.1 hP (ci := 1) (q0 := 0) rfl rfl, ro_pre _ (hP.sub [0, 2] rfl) hK⟩ rfl rfl hl.1 rfl (lv_room (Nat.le_of_ble_eq_true rfl)) dX1_found_38 ⟨Nat.le_refl _, Nat.le_refl _⟩) ?_
      refine va_put (D := G.1) (ci := 1) (v := .int (ovI fo x)) (ty := .int) (C := RX1) (T := TX1) (N := 12) hx hb hts hinX1 tyX1 tyX1_ok nmX1 hown hK.1 hP hD hS 0 rfl rfl 8 (by decide) hw2 (fun _ h9 => h9) rfl (by decide +kernel) rfl rfl (Nat.le_of_ble_eq_true rfl) dX1_found_41 (fun H locs hP hD hS => ?_)
      have hP : va_P G.1 vwCl ([(bx, .inr (1, [.ref bd, .ref bo, .ref bs, .int st, .ref bk, .int sk, .ref (ca 36), .int 1, .int (ovI fo x), .int so, .int le, .int an])), (bd, eI G 10 fd), (bo, eI G 10 fo), (bs, eR G 30 (fun k => some (ca k))), (bk, eR G 6 (fun k => some (ca (30 + k))))] ++ pool G ca wa ro dg gv) H := hP
      have hD : va_D A ([(bx, .inr (1, [.ref bd, .ref bo, .ref bs, .int st, .ref bk, .int sk, .ref (ca 36), .int 1, .int (ovI fo x), .int so, .int le, .int an])), (bd, eI G 10 fd), (bo, eI G 10 fo), (bs, eR G 30 (fun k => some (ca k))), (bk, eR G 6 (fun k => some (ca (30 + k))))] ++ pool G ca wa ro dg gv) := hD
      refine lv_aload_n hx hb dX1_found_44 rfl (lv_at hl 0 rfl) ?_
      refine ro_call (va_runV (As := []) (rest := []) ⟨hx, hb, hml, hown, hts⟩ (c_X1_hasObjective l G bx bd bo bs bk (ca 36) st sk 1 (ovI fo x) so le an fo) (cwV 0 hts gX1_found_X1_hasObjective rfl rfl rfl (by decide +kernel) ⟨Nat.le_of_ble_eq_true rfl, Nat.le_of_ble_eq_true rfl⟩) ⟨ro_blind, va_recv hK.1 hP (ci := 1) (q0 := 0) rfl rfl, ro_pre _ (hP.sub [0, 2] rfl) hK⟩ rfl rfl hl.1 rfl (lv_room (Nat.le_of_ble_eq_true rfl)) dX1_found_45 ⟨Nat.le_refl _, Nat.le_refl _⟩) ?_
      refine lv_if_eq (tgt := 79) hx hb dX1_found_48 (by decide) (fun c_48 => ?_) (fun c_48 => ?_)
      · have hg : ¬ hoB fo = true := by rw [bI_eq c_48]; decide
        refine lv_iconst (v := 1) hx hb dX1_found_79 (by decide) ?_
        have hP9 : va_P G.1 vwCl ([(bx, .inr (1, [.ref bd, .ref bo, .ref bs, .int (if allB (msB ro dg gv x 0) k = true then (if hoB fo = true then st + 1 else st) else st), .ref bk, .int sk, .ref (ca 36), .int (if allB (msB ro dg gv x 0) k = true then (if hoB fo = true then 1 else 1) else tk), .int (if allB (msB ro dg gv x 0) k = true then (if hoB fo = true then ovI fo x else ovI fo x) else be), .int so, .int le, .int an])), (bd, eI G 10 fd), (bo, eI G 10 fo), (bs, eR G 30 (fun k => some (ca k))), (bk, eR G 6 (fun k => some (ca (30 + k))))] ++ pool G ca wa (if allB (msB ro dg gv x 0) k = true then (if hoB fo = true then va_up ro k (mixf 10 (nrW fo (-1)) (ro k)) else ro) else ro) (if allB (msB ro dg gv x 0) k = true then (if hoB fo = true then va_up dg k (nrD fo (-1) (-(ovI fo x - 1))) else dg) else dg) (if allB (msB ro dg gv x 0) k = true then (if hoB fo = true then va_up gv k 0 else gv) else gv)) _ := (by simp only [if_pos hm, if_neg hg]; exact hP)
        have hD9 : va_D A ([(bx, .inr (1, [.ref bd, .ref bo, .ref bs, .int (if allB (msB ro dg gv x 0) k = true then (if hoB fo = true then st + 1 else st) else st), .ref bk, .int sk, .ref (ca 36), .int (if allB (msB ro dg gv x 0) k = true then (if hoB fo = true then 1 else 1) else tk), .int (if allB (msB ro dg gv x 0) k = true then (if hoB fo = true then ovI fo x else ovI fo x) else be), .int so, .int le, .int an])), (bd, eI G 10 fd), (bo, eI G 10 fo), (bs, eR G 30 (fun k => some (ca k))), (bk, eR G 6 (fun k => some (ca (30 + k))))] ++ pool G ca wa (if allB (msB ro dg gv x 0) k = true then (if hoB fo = true then va_up ro k (mixf 10 (nrW fo (-1)) (ro k)) else ro) else ro) (if allB (msB ro dg gv x 0) k = true then (if hoB fo = true then va_up dg k (nrD fo (-1) (-(ovI fo x - 1))) else dg) else dg) (if allB (msB ro dg gv x 0) k = true then (if hoB fo = true then va_up gv k 0 else gv) else gv)) := (by simp only [if_pos hm, if_neg hg]; exact hD)
        exact W.zret (v := 1) (ty := .boolean) hx hb hr rfl (fun t ht hW => ⟨congrArg (fun z => Outcome.returned (some (Value.int z))) ((if_pos hm).symm), by rw [ht]; exact hP9, hD9, hS.F ht⟩) hS.2.2 dX1_found_80
      · have hg := bI_ne c_48
        refine lv_aload_n hx hb dX1_found_51 rfl (lv_at hl 0 rfl) ?_
        refine va_get (D := G.1) (ci := 1) (v := .ref bs) (C := RX1) (T := TX1) (N := 12) hx hb hts hinX1 hown hK.1 hP 0 rfl rfl 2 (by decide) hw3 (fun _ h9 => h9) rfl dX1_found_52 ?_
        refine lv_aload_n hx hb dX1_found_55 rfl (lv_at hl 0 rfl) ?_
        refine va_get (D := G.1) (ci := 1) (v := .int st) (C := RX1) (T := TX1) (N := 12) hx hb hts hinX1 hown hK.1 hP 0 rfl rfl 3 (by decide) hw4 (fun _ h9 => h9) rfl dX1_found_56 ?_
        refine ra_aald (v := k) (b := ca k) hx hb hK.1 hP 3 2 rfl rfl est (by omega) (by decide) rfl dX1_found_59 ?_
        refine lv_aload_n hx hb dX1_found_60 rfl (lv_at hl 0 rfl) ?_
        refine va_get (D := G.1) (ci := 1) (v := .ref bo) (C := RX1) (T := TX1) (N := 12) hx hb hts hinX1 hown hK.1 hP 0 rfl rfl 1 (by decide) hw5 (fun _ h9 => h9) rfl dX1_found_61 ?_
        refine lv_aload_n hx hb dX1_found_64 rfl (lv_at hl 0 rfl) ?_
        refine va_get (D := G.1) (ci := 1) (v := .int (ovI fo x)) (C := RX1) (T := TX1) (N := 12) hx hb hts hinX1 hown hK.1 hP 0 rfl rfl 8 (by decide) hw2 (fun _ h9 => h9) rfl dX1_found_65 ?_
        refine lv_iconst (v := 1) hx hb dX1_found_68 (by decide) ?_
        refine lv_isub hx hb dX1_found_69 ?_
        refine mu_call (va_runV (As := [.ref bo, .int ((ovI fo x) - 1)]) (rest := []) ⟨hx, hb, hml, hown, hts⟩ (c_X0_becomeAtMost l G _ (ca k) (wa k) (dg k) (gv k) (ro k) bo fo ((ovI fo x) - 1)) (cwV 2 hts gX1_found_X0_becomeAtMost rfl rfl rfl (by decide +kernel) ⟨Nat.le_of_ble_eq_true rfl, Nat.le_of_ble_eq_true rfl⟩) ⟨mu_blind, va_recv hK.1 hP (ci := 0) (q0 := 5 + k) rfl (pool_c rfl (by omega)), mu_pre _ (lcP [5 + k, 42 + k, 2] hP (lc (pool_c rfl (by omega)) (lc (pool_w rfl (by omega)) (lc rfl rfl)))) (hD.sub [5 + k, 42 + k, 2] (nd3 k 2 (by decide)) (lc (pool_c rfl (by omega)) (lc (pool_w rfl (by omega)) (lc rfl rfl)))) hK⟩ rfl rfl hl.1 rfl (lv_room (Nat.le_of_ble_eq_true rfl)) dX1_found_70 ⟨Nat.le_refl _, Nat.le_refl _⟩) hS (va_free hD hS hA [5 + k, 42 + k, 2] (lc (pool_c rfl (by omega)) (lc (pool_w rfl (by omega)) (lc rfl rfl)))) (va_free hD hS hA [5 + k, 42 + k, 2] (lc (pool_c rfl (by omega)) (lc (pool_w rfl (by omega)) (lc rfl rfl)))) (fun H1 locs hP1 hD1 hk1 hS => ?_)
        obtain ⟨hP, hD⟩ := pj (k := k) (is' := [2]) (wc := [(ca k, .inr (0, [.ref (wa k), .int (dg k), .int (gv k)])), (wa k, eI G 10 (ro k)), (bo, eI G 10 fo)]) rfl (by omega) hP hD (lc (pool_c rfl (by omega)) (lc (pool_w rfl (by omega)) (lc rfl rfl))) hk1 hP1 rfl rfl (fun j q h => ⟨j + 2, h⟩)
        rw [upS gv k] at hP hD
        generalize H1 = H at hP hS ⊢
        have hP : va_P G.1 vwCl ([(bx, .inr (1, [.ref bd, .ref bo, .ref bs, .int st, .ref bk, .int sk, .ref (ca 36), .int 1, .int (ovI fo x), .int so, .int le, .int an])), (bd, eI G 10 fd), (bo, eI G 10 fo), (bs, eR G 30 (fun k => some (ca k))), (bk, eR G 6 (fun k => some (ca (30 + k))))] ++ pool G ca wa (va_up ro k (mixf 10 (nrW fo (-1)) (ro k))) (va_up dg k (nrD fo (-1) (-((ovI fo x) - 1)))) gv) H := hP
        have hD : va_D A ([(bx, .inr (1, [.ref bd, .ref bo, .ref bs, .int st, .ref bk, .int sk, .ref (ca 36), .int 1, .int (ovI fo x), .int so, .int le, .int an])), (bd, eI G 10 fd), (bo, eI G 10 fo), (bs, eR G 30 (fun k => some (ca k))), (bk, eR G 6 (fun k => some (ca (30 + k))))] ++ pool G ca wa (va_up ro k (mixf 10 (nrW fo (-1)) (ro k))) (va_up dg k (nrD fo (-1) (-((ovI fo x) - 1)))) gv) := hD
        refine lv_aload_n hx hb dX1_found_73 rfl (lv_at hl 0 rfl) ?_
        refine lv_iconst (v := 0) hx hb dX1_found_74 (by decide) ?_
        have hFw := va_freeW hD hS hA
        refine mu_call (va_runV (As := [.int 0]) (rest := []) ⟨hx, hb, hml, hown, hts⟩ (c_X1_keepNext l G _ bx bd bo bs bk ca wa st sk 1 (ovI fo x) so le an fd fo (va_up ro k (mixf 10 (nrW fo (-1)) (ro k))) (va_up dg k (nrD fo (-1) (-((ovI fo x) - 1)))) gv 0 rfl rfl k est (by omega)) (cwV 1 hts gX1_found_X1_keepNext rfl rfl rfl (by decide +kernel) ⟨Nat.le_of_ble_eq_true rfl, Nat.le_of_ble_eq_true rfl⟩) ⟨mu_blind, va_recv hK.1 hP (ci := 1) (q0 := 0) rfl rfl, mu_pre _ hP hD hK⟩ rfl rfl hl.1 rfl (lv_room (Nat.le_of_ble_eq_true rfl)) dX1_found_75 ⟨Nat.le_refl _, Nat.le_refl _⟩) hS hFw hFw (fun H1 locs hP1 hD1 hk1 hS => ?_)
        have hD := hD1.weaken (fun _ q _ h9 => hFw q.1 h9)
        have hP := hP1
        generalize H1 = H at hP hS ⊢
        have hP : va_P G.1 vwCl ([(bx, .inr (1, [.ref bd, .ref bo, .ref bs, .int (st + 1), .ref bk, .int sk, .ref (ca 36), .int 1, .int (ovI fo x), .int so, .int le, .int an])), (bd, eI G 10 fd), (bo, eI G 10 fo), (bs, eR G 30 (fun k => some (ca k))), (bk, eR G 6 (fun k => some (ca (30 + k))))] ++ pool G ca wa (va_up ro k (mixf 10 (nrW fo (-1)) (ro k))) (va_up dg k (nrD fo (-1) (-((ovI fo x) - 1)))) (va_up gv k 0)) H := hP
        have hD : va_D A ([(bx, .inr (1, [.ref bd, .ref bo, .ref bs, .int (st + 1), .ref bk, .int sk, .ref (ca 36), .int 1, .int (ovI fo x), .int so, .int le, .int an])), (bd, eI G 10 fd), (bo, eI G 10 fo), (bs, eR G 30 (fun k => some (ca k))), (bk, eR G 6 (fun k => some (ca (30 + k))))] ++ pool G ca wa (va_up ro k (mixf 10 (nrW fo (-1)) (ro k))) (va_up dg k (nrD fo (-1) (-((ovI fo x) - 1)))) (va_up gv k 0)) := hD
        refine lv_pop hx hb dX1_found_78 rfl ?_
        refine lv_iconst (v := 1) hx hb dX1_found_79 (by decide) ?_
        have hP9 : va_P G.1 vwCl ([(bx, .inr (1, [.ref bd, .ref bo, .ref bs, .int (if allB (msB ro dg gv x 0) k = true then (if hoB fo = true then st + 1 else st) else st), .ref bk, .int sk, .ref (ca 36), .int (if allB (msB ro dg gv x 0) k = true then (if hoB fo = true then 1 else 1) else tk), .int (if allB (msB ro dg gv x 0) k = true then (if hoB fo = true then ovI fo x else ovI fo x) else be), .int so, .int le, .int an])), (bd, eI G 10 fd), (bo, eI G 10 fo), (bs, eR G 30 (fun k => some (ca k))), (bk, eR G 6 (fun k => some (ca (30 + k))))] ++ pool G ca wa (if allB (msB ro dg gv x 0) k = true then (if hoB fo = true then va_up ro k (mixf 10 (nrW fo (-1)) (ro k)) else ro) else ro) (if allB (msB ro dg gv x 0) k = true then (if hoB fo = true then va_up dg k (nrD fo (-1) (-(ovI fo x - 1))) else dg) else dg) (if allB (msB ro dg gv x 0) k = true then (if hoB fo = true then va_up gv k 0 else gv) else gv)) _ := (by simp only [if_pos hm, if_pos hg]; exact hP)
        have hD9 : va_D A ([(bx, .inr (1, [.ref bd, .ref bo, .ref bs, .int (if allB (msB ro dg gv x 0) k = true then (if hoB fo = true then st + 1 else st) else st), .ref bk, .int sk, .ref (ca 36), .int (if allB (msB ro dg gv x 0) k = true then (if hoB fo = true then 1 else 1) else tk), .int (if allB (msB ro dg gv x 0) k = true then (if hoB fo = true then ovI fo x else ovI fo x) else be), .int so, .int le, .int an])), (bd, eI G 10 fd), (bo, eI G 10 fo), (bs, eR G 30 (fun k => some (ca k))), (bk, eR G 6 (fun k => some (ca (30 + k))))] ++ pool G ca wa (if allB (msB ro dg gv x 0) k = true then (if hoB fo = true then va_up ro k (mixf 10 (nrW fo (-1)) (ro k)) else ro) else ro) (if allB (msB ro dg gv x 0) k = true then (if hoB fo = true then va_up dg k (nrD fo (-1) (-(ovI fo x - 1))) else dg) else dg) (if allB (msB ro dg gv x 0) k = true then (if hoB fo = true then va_up gv k 0 else gv) else gv)) := (by simp only [if_pos hm, if_pos hg]; exact hD)
        exact W.zret (v := 1) (ty := .boolean) hx hb hr rfl (fun t ht hW => ⟨congrArg (fun z => Outcome.returned (some (Value.int z))) ((if_pos hm).symm), by rw [ht]; exact hP9, hD9, hS.F ht⟩) hS.2.2 dX1_found_80
    · have hm : ¬ allB (msB ro dg gv x 0) k = true := by rw [bI_eq c_25]; decide
      refine lv_iconst (v := 0) hx hb dX1_found_28 (by decide) ?_
      have hP9 : va_P G.1 vwCl ([(bx, .inr (1, [.ref bd, .ref bo, .ref bs, .int (if allB (msB ro dg gv x 0) k = true then (if hoB fo = true then st + 1 else st) else st), .ref bk, .int sk, .ref (ca 36), .int (if allB (msB ro dg gv x 0) k = true then (if hoB fo = true then 1 else 1) else tk), .int (if allB (msB ro dg gv x 0) k = true then (if hoB fo = true then ovI fo x else ovI fo x) else be), .int so, .int le, .int an])), (bd, eI G 10 fd), (bo, eI G 10 fo), (bs, eR G 30 (fun k => some (ca k))), (bk, eR G 6 (fun k => some (ca (30 + k))))] ++ pool G ca wa (if allB (msB ro dg gv x 0) k = true then (if hoB fo = true then va_up ro k (mixf 10 (nrW fo (-1)) (ro k)) else ro) else ro) (if allB (msB ro dg gv x 0) k = true then (if hoB fo = true then va_up dg k (nrD fo (-1) (-(ovI fo x - 1))) else dg) else dg) (if allB (msB ro dg gv x 0) k = true then (if hoB fo = true then va_up gv k 0 else gv) else gv)) _ := (by simp only [if_neg hm]; exact hP)
      have hD9 : va_D A ([(bx, .inr (1, [.ref bd, .ref bo, .ref bs, .int (if allB (msB ro dg gv x 0) k = true then (if hoB fo = true then st + 1 else st) else st), .ref bk, .int sk, .ref (ca 36), .int (if allB (msB ro dg gv x 0) k = true then (if hoB fo = true then 1 else 1) else tk), .int (if allB (msB ro dg gv x 0) k = true then (if hoB fo = true then ovI fo x else ovI fo x) else be), .int so, .int le, .int an])), (bd, eI G 10 fd), (bo, eI G 10 fo), (bs, eR G 30 (fun k => some (ca k))), (bk, eR G 6 (fun k => some (ca (30 + k))))] ++ pool G ca wa (if allB (msB ro dg gv x 0) k = true then (if hoB fo = true then va_up ro k (mixf 10 (nrW fo (-1)) (ro k)) else ro) else ro) (if allB (msB ro dg gv x 0) k = true then (if hoB fo = true then va_up dg k (nrD fo (-1) (-(ovI fo x - 1))) else dg) else dg) (if allB (msB ro dg gv x 0) k = true then (if hoB fo = true then va_up gv k 0 else gv) else gv)) := (by simp only [if_neg hm]; exact hD)
      exact W.zret (v := 0) (ty := .boolean) hx hb hr rfl (fun t ht hW => ⟨congrArg (fun z => Outcome.returned (some (Value.int z))) ((if_neg hm).symm), by rw [ht]; exact hP9, hD9, hS.F ht⟩) hS.2.2 dX1_found_29
  · exact absurd c_4 (in_o0 h1)

abbrev rmX1_verdict : Room := { frames := 5, cells := 0, slots := 0, locals := 105 }
set_option maxHeartbeats 4000000 in
set_option maxRecDepth 100000 in
theorem c_X1_verdict (l : Launch) (G : Gt) (bx bd bo bs bk : Nat) (ca wa : Nat → Nat) (st sk tk be so le an : Int32) (fd fo : Nat → Int32) (ro : Nat → Nat → Int32) (dg gv : Nat → Int32) (k : Nat) (est : st = nI k) (hk30 : k ≤ 30) : Met l yX1_verdict wsX1_verdict rmX1_verdict (ro_P G [.ref bx] ([(bx, .inr (1, [.ref bd, .ref bo, .ref bs, .int st, .ref bk, .int sk, .ref (ca 36), .int tk, .int be, .int so, .int le, .int an])), (bd, eI G 10 fd), (bo, eI G 10 fo), (bs, eR G 30 (fun k => some (ca k))), (bk, eR G 6 (fun k => some (ca (30 + k))))] ++ pool G ca wa ro dg gv)) (QcRead (vxR ro dg fo k tk)) 0 0 (fun _ => False) := by
  refine Met.ofW (cc := cX1_verdict) (maxL := 1) (ret := (some .int)) (by decide) rfl ?_
  intro p e s m args below meth c s₁ B hml hv
  obtain ⟨rfl, hP, hK⟩ := hv
  have hx := B.exec
  have hb := B.bytes
  have hr := B.returns
  have hts := atoms_spec (ws := wsX1_verdict) B.pre
  have hown : s.vm.findClass RX1 = some m.cls := findClass_of_methodNamed B.named
  have hlocks := B.notSynchronized
  have hinX1 : ∀ w ∈ u_ws RX1 TX1 12, w ∈ wsX1_verdict := fun w h => List.mem_cons_of_mem _ (List.mem_append_left _ (List.mem_append_right _ h))
  have hw1 := hts (.fieldLink RX1 37 "ChoiceBoard" "taken" "Z") (by decide +kernel)
  have hl := lv_entry ([.ref bx]) (n := 1) (Nat.le_of_ble_eq_true rfl)
  rw [lg_entry_eq]
  generalize (lg_sl ([.ref bx]) ++ List.replicate (1 - (lg_sl ([.ref bx])).length) Slot.unset).toArray = ls at hl ⊢
  have hl : lv_has ls 1 [(0, .ref bx)] := hl
  refine lv_aload_n hx hb dX1_verdict_0 rfl (lv_at hl 0 rfl) ?_
  refine ro_call (va_runV (As := []) (rest := []) ⟨hx, hb, hml, hown, hts⟩ (c_X1_hasVoid l G bx bd bo bs bk ca wa st sk tk be so le an fd fo ro dg gv k est (by omega)) (cwV 0 hts gX1_verdict_X1_hasVoid rfl rfl rfl (by decide +kernel) ⟨Nat.le_of_ble_eq_true rfl, Nat.le_of_ble_eq_true rfl⟩) ⟨ro_blind, va_recv hK.1 hP (ci := 1) (q0 := 0) rfl rfl, ro_pre _ hP hK⟩ rfl rfl hl.1 rfl (lv_room (Nat.le_of_ble_eq_true rfl)) dX1_verdict_1 ⟨Nat.le_refl _, Nat.le_refl _⟩) ?_
  refine lv_if_eq (tgt := 20) hx hb dX1_verdict_4 (by decide) (fun c_4 => ?_) (fun c_4 => ?_)
  · refine lv_aload_n hx hb dX1_verdict_20 rfl (lv_at hl 0 rfl) ?_
    refine va_get (D := G.1) (ci := 1) (v := .int tk) (C := RX1) (T := TX1) (N := 12) hx hb hts hinX1 hown hK.1 hP 0 rfl rfl 7 (by decide) hw1 (fun _ h9 => h9) rfl dX1_verdict_21 ?_
    refine lv_if_eq (tgt := 38) hx hb dX1_verdict_24 (by decide) (fun c_24 => ?_) (fun c_24 => ?_)
    · refine lv_iconst (v := 0) hx hb dX1_verdict_38 (by decide) ?_
      exact W.iret (v := 0) hx hb hr (fun t ht hW => ⟨congrArg (fun z => Outcome.returned (some (Value.int z))) (by unfold vxR; rw [if_pos c_4, if_pos c_24]), ht⟩) (fun _ h => nomatch h) dX1_verdict_39
    · refine lv_aload_n hx hb dX1_verdict_27 rfl (lv_at hl 0 rfl) ?_
      refine ro_call (va_runV (As := []) (rest := []) ⟨hx, hb, hml, hown, hts⟩ (c_X1_hasObjective l G bx bd bo bs bk (ca 36) st sk tk be so le an fo) (cwV 0 hts gX1_verdict_X1_hasObjective rfl rfl rfl (by decide +kernel) ⟨Nat.le_of_ble_eq_true rfl, Nat.le_of_ble_eq_true rfl⟩) ⟨ro_blind, va_recv hK.1 hP (ci := 1) (q0 := 0) rfl rfl, ro_pre _ (hP.sub [0, 2] rfl) hK⟩ rfl rfl hl.1 rfl (lv_room (Nat.le_of_ble_eq_true rfl)) dX1_verdict_28 ⟨Nat.le_refl _, Nat.le_refl _⟩) ?_
      refine lv_if_ne (tgt := 38) hx hb dX1_verdict_31 (by decide) (fun c_31 => ?_) (fun c_31 => ?_)
      · refine lv_iconst (v := 0) hx hb dX1_verdict_38 (by decide) ?_
        exact W.iret (v := 0) hx hb hr (fun t ht hW => ⟨congrArg (fun z => Outcome.returned (some (Value.int z))) (by unfold vxR; rw [if_pos c_4, if_neg c_24, if_neg c_31]), ht⟩) (fun _ h => nomatch h) dX1_verdict_39
      · refine lv_iconst (v := 3) hx hb dX1_verdict_34 (by decide) ?_
        refine lv_goto (tgt := 39) hx hb dX1_verdict_35 (by decide) ?_
        exact W.iret (v := 3) hx hb hr (fun t ht hW => ⟨congrArg (fun z => Outcome.returned (some (Value.int z))) (by unfold vxR; rw [if_pos c_4, if_neg c_24, if_pos c_31]), ht⟩) (fun _ h => nomatch h) dX1_verdict_39
  · refine lv_aload_n hx hb dX1_verdict_7 rfl (lv_at hl 0 rfl) ?_
    refine va_get (D := G.1) (ci := 1) (v := .int tk) (C := RX1) (T := TX1) (N := 12) hx hb hts hinX1 hown hK.1 hP 0 rfl rfl 7 (by decide) hw1 (fun _ h9 => h9) rfl dX1_verdict_8 ?_
    refine lv_if_eq (tgt := 18) hx hb dX1_verdict_11 (by decide) (fun c_11 => ?_) (fun c_11 => ?_)
    · refine lv_iconst (v := 1) hx hb dX1_verdict_18 (by decide) ?_
      exact W.iret (v := 1) hx hb hr (fun t ht hW => ⟨congrArg (fun z => Outcome.returned (some (Value.int z))) (by unfold vxR; rw [if_neg c_4, if_pos c_11]), ht⟩) (fun _ h => nomatch h) dX1_verdict_19
    · refine lv_iconst (v := 2) hx hb dX1_verdict_14 (by decide) ?_
      refine lv_goto (tgt := 19) hx hb dX1_verdict_15 (by decide) ?_
      exact W.iret (v := 2) hx hb hr (fun t ht hW => ⟨congrArg (fun z => Outcome.returned (some (Value.int z))) (by unfold vxR; rw [if_neg c_4, if_neg c_11]), ht⟩) (fun _ h => nomatch h) dX1_verdict_19

abbrev rmX1_best : Room := { frames := 0, cells := 0, slots := 0, locals := 0 }
set_option maxHeartbeats 4000000 in
set_option maxRecDepth 100000 in
theorem c_X1_best (l : Launch) (G : Gt) (bx bd bo bs bk : Nat) (ca wa : Nat → Nat) (st sk tk be so le an : Int32) (fd fo : Nat → Int32) (ro : Nat → Nat → Int32) (dg gv : Nat → Int32) (htk : ¬ tk = 0) : Met l yX1_best wsX1_best rmX1_best (ro_P G [.ref bx] ([(bx, .inr (1, [.ref bd, .ref bo, .ref bs, .int st, .ref bk, .int sk, .ref (ca 36), .int tk, .int be, .int so, .int le, .int an])), (bd, eI G 10 fd), (bo, eI G 10 fo), (bs, eR G 30 (fun k => some (ca k))), (bk, eR G 6 (fun k => some (ca (30 + k))))] ++ pool G ca wa ro dg gv)) (QcRead be) 0 0 (fun _ => False) := by
  refine Met.ofW (cc := cX1_best) (maxL := 1) (ret := (some .int)) (by decide) rfl ?_
  intro p e s m args below meth c s₁ B hml hv
  obtain ⟨rfl, hP, hK⟩ := hv
  have hx := B.exec
  have hb := B.bytes
  have hr := B.returns
  have hts := atoms_spec (ws := wsX1_best) B.pre
  have hown : s.vm.findClass RX1 = some m.cls := findClass_of_methodNamed B.named
  have hlocks := B.notSynchronized
  have hinX1 : ∀ w ∈ u_ws RX1 TX1 12, w ∈ wsX1_best := fun w h => List.mem_cons_of_mem _ (List.mem_append_left _ (List.mem_append_right _ h))
  have hw1 := hts (.fieldLink RX1 37 "ChoiceBoard" "taken" "Z") (by decide +kernel)
  have hw2 := hts (.fieldLink RX1 41 "ChoiceBoard" "bestValue" "I") (by decide +kernel)
  have hl := lv_entry ([.ref bx]) (n := 1) (Nat.le_of_ble_eq_true rfl)
  rw [lg_entry_eq]
  generalize (lg_sl ([.ref bx]) ++ List.replicate (1 - (lg_sl ([.ref bx])).length) Slot.unset).toArray = ls at hl ⊢
  have hl : lv_has ls 1 [(0, .ref bx)] := hl
  refine lv_aload_n hx hb dX1_best_0 rfl (lv_at hl 0 rfl) ?_
  refine va_get (D := G.1) (ci := 1) (v := .int tk) (C := RX1) (T := TX1) (N := 12) hx hb hts hinX1 hown hK.1 hP 0 rfl rfl 7 (by decide) hw1 (fun _ h9 => h9) rfl dX1_best_1 ?_
  refine lv_if_ne (tgt := 15) hx hb dX1_best_4 (by decide) (fun c_4 => ?_) (fun c_4 => ?_)
  · refine lv_aload_n hx hb dX1_best_15 rfl (lv_at hl 0 rfl) ?_
    refine va_get (D := G.1) (ci := 1) (v := .int be) (C := RX1) (T := TX1) (N := 12) hx hb hts hinX1 hown hK.1 hP 0 rfl rfl 8 (by decide) hw2 (fun _ h9 => h9) rfl dX1_best_16 ?_
    exact W.iret (v := be) hx hb hr (fun t ht hW => ⟨congrArg (fun z => Outcome.returned (some (Value.int z))) (rfl), ht⟩) (fun _ h => nomatch h) dX1_best_19
  · exact absurd c_4 htk

abbrev rmX1_least : Room := { frames := 1, cells := 0, slots := 0, locals := 20 }
set_option maxHeartbeats 4000000 in
set_option maxRecDepth 100000 in
theorem c_X1_least (l : Launch) (G : Gt) (bx bd bo bs bk : Nat) (ca wa : Nat → Nat) (st sk tk be so le an : Int32) (fd fo : Nat → Int32) (ro : Nat → Nat → Int32) (dg gv : Nat → Int32) (hso : ¬ so = 0) : Met l yX1_least wsX1_least rmX1_least (ro_P G [.ref bx] ([(bx, .inr (1, [.ref bd, .ref bo, .ref bs, .int st, .ref bk, .int sk, .ref (ca 36), .int tk, .int be, .int so, .int le, .int an])), (bd, eI G 10 fd), (bo, eI G 10 fo), (bs, eR G 30 (fun k => some (ca k))), (bk, eR G 6 (fun k => some (ca (30 + k))))] ++ pool G ca wa ro dg gv)) (QcRead le) 0 0 (fun _ => False) := by
  refine Met.ofW (cc := cX1_least) (maxL := 1) (ret := (some .int)) (by decide) rfl ?_
  intro p e s m args below meth c s₁ B hml hv
  obtain ⟨rfl, hP, hK⟩ := hv
  have hx := B.exec
  have hb := B.bytes
  have hr := B.returns
  have hts := atoms_spec (ws := wsX1_least) B.pre
  have hown : s.vm.findClass RX1 = some m.cls := findClass_of_methodNamed B.named
  have hlocks := B.notSynchronized
  have hinX1 : ∀ w ∈ u_ws RX1 TX1 12, w ∈ wsX1_least := fun w h => List.mem_cons_of_mem _ (List.mem_append_left _ (List.mem_append_right _ h))
  have hw1 := hts (.fieldLink RX1 47 "ChoiceBoard" "leastValue" "I") (by decide +kernel)
  have hl := lv_entry ([.ref bx]) (n := 1) (Nat.le_of_ble_eq_true rfl)
  rw [lg_entry_eq]
  generalize (lg_sl ([.ref bx]) ++ List.replicate (1 - (lg_sl ([.ref bx])).length) Slot.unset).toArray = ls at hl ⊢
  have hl : lv_has ls 1 [(0, .ref bx)] := hl
  refine lv_aload_n hx hb dX1_least_0 rfl (lv_at hl 0 rfl) ?_
  refine ro_callv (va_runV (As := []) (rest := []) ⟨hx, hb, hml, hown, hts⟩ (c_X1_refuseUnsolved l G bx bd bo bs bk (ca 36) st sk tk be so le an hso) (cwV 0 hts gX1_least_X1_refuseUnsolved rfl rfl rfl (by decide +kernel) ⟨Nat.le_of_ble_eq_true rfl, Nat.le_of_ble_eq_true rfl⟩) ⟨ro_blind, va_recv hK.1 hP (ci := 1) (q0 := 0) rfl rfl, ro_pre _ (hP.sub [0] rfl) hK⟩ rfl rfl hl.1 rfl (lv_room (Nat.le_of_ble_eq_true rfl)) dX1_least_1 ⟨Nat.le_refl _, Nat.le_refl _⟩) ?_
  refine lv_aload_n hx hb dX1_least_4 rfl (lv_at hl 0 rfl) ?_
  refine va_get (D := G.1) (ci := 1) (v := .int le) (C := RX1) (T := TX1) (N := 12) hx hb hts hinX1 hown hK.1 hP 0 rfl rfl 10 (by decide) hw1 (fun _ h9 => h9) rfl dX1_least_5 ?_
  exact W.iret (v := le) hx hb hr (fun t ht hW => ⟨congrArg (fun z => Outcome.returned (some (Value.int z))) (rfl), ht⟩) (fun _ h => nomatch h) dX1_least_8

abbrev rmX1_value : Room := { frames := 2, cells := 0, slots := 0, locals := 42 }
set_option maxHeartbeats 4000000 in
set_option maxRecDepth 100000 in
theorem c_X1_value (l : Launch) (G : Gt) (bx bd bo bs bk : Nat) (ca wa : Nat → Nat) (st sk tk be so le an : Int32) (fd fo : Nat → Int32) (ro : Nat → Nat → Int32) (dg gv : Nat → Int32) (x : Int32) (hso : ¬ so = 0) (h1 : outI x 0 9 = 0) : Met l yX1_value wsX1_value rmX1_value (ro_P G [.ref bx, .int x] ([(bx, .inr (1, [.ref bd, .ref bo, .ref bs, .int st, .ref bk, .int sk, .ref (ca 36), .int tk, .int be, .int so, .int le, .int an])), (bd, eI G 10 fd), (bo, eI G 10 fo), (bs, eR G 30 (fun k => some (ca k))), (bk, eR G 6 (fun k => some (ca (30 + k))))] ++ pool G ca wa ro dg gv)) (QcRead (bitI an x)) 0 0 (fun _ => False) := by
  refine Met.ofW (cc := cX1_value) (maxL := 2) (ret := (some .int)) (by decide) rfl ?_
  intro p e s m args below meth c s₁ B hml hv
  obtain ⟨rfl, hP, hK⟩ := hv
  have hx := B.exec
  have hb := B.bytes
  have hr := B.returns
  have hts := atoms_spec (ws := wsX1_value) B.pre
  have hown : s.vm.findClass RX1 = some m.cls := findClass_of_methodNamed B.named
  have hlocks := B.notSynchronized
  have hinX1 : ∀ w ∈ u_ws RX1 TX1 12, w ∈ wsX1_value := fun w h => List.mem_cons_of_mem _ (List.mem_append_left _ (List.mem_append_left _ (List.mem_append_right _ h)))
  have hw1 := hts (.fieldLink RX1 50 "ChoiceBoard" "leastChoice" "I") (by decide +kernel)
  have hl := lv_entry ([.ref bx, .int x]) (n := 2) (Nat.le_of_ble_eq_true rfl)
  rw [lg_entry_eq]
  generalize (lg_sl ([.ref bx, .int x]) ++ List.replicate (2 - (lg_sl ([.ref bx, .int x])).length) Slot.unset).toArray = ls at hl ⊢
  have hl : lv_has ls 2 [(0, .ref bx), (1, .int x)] := hl
  refine lv_aload_n hx hb dX1_value_0 rfl (lv_at hl 0 rfl) ?_
  refine ro_callv (va_runV (As := []) (rest := []) ⟨hx, hb, hml, hown, hts⟩ (c_X1_refuseUnsolved l G bx bd bo bs bk (ca 36) st sk tk be so le an hso) (cwV 0 hts gX1_value_X1_refuseUnsolved rfl rfl rfl (by decide +kernel) ⟨Nat.le_of_ble_eq_true rfl, Nat.le_of_ble_eq_true rfl⟩) ⟨ro_blind, va_recv hK.1 hP (ci := 1) (q0 := 0) rfl rfl, ro_pre _ (hP.sub [0] rfl) hK⟩ rfl rfl hl.1 rfl (lv_room (Nat.le_of_ble_eq_true rfl)) dX1_value_1 ⟨Nat.le_refl _, Nat.le_refl _⟩) ?_
  refine lv_iload_n hx hb dX1_value_4 rfl (lv_at hl 1 rfl) ?_
  refine ro_call (va_runS (As := [.int x]) (rest := []) ⟨hx, hb, hml, hown, hts⟩ (c_X1_isVariable l G x) (va_cwS 1 hts gX1_value_X1_isVariable rfl rfl rfl (by decide +kernel) ⟨Nat.le_of_ble_eq_true rfl, Nat.le_of_ble_eq_true rfl⟩) ⟨ro_blind, ro_pre _ (hP.sub [] rfl) hK⟩ rfl rfl hl.1 rfl (lv_room (Nat.le_of_ble_eq_true rfl)) dX1_value_5 ⟨Nat.le_refl _, Nat.le_refl _⟩) ?_
  refine lv_if_ne (tgt := 19) hx hb dX1_value_8 (by decide) (fun c_8 => ?_) (fun c_8 => ?_)
  · refine lv_aload_n hx hb dX1_value_19 rfl (lv_at hl 0 rfl) ?_
    refine va_get (D := G.1) (ci := 1) (v := .int an) (C := RX1) (T := TX1) (N := 12) hx hb hts hinX1 hown hK.1 hP 0 rfl rfl 11 (by decide) hw1 (fun _ h9 => h9) rfl dX1_value_20 ?_
    refine lv_iload_n hx hb dX1_value_23 rfl (lv_at hl 1 rfl) ?_
    refine ro_call (va_runS (As := [.int an, .int x]) (rest := []) ⟨hx, hb, hml, hown, hts⟩ (c_X1_bit l G an x) (va_cwS 2 hts gX1_value_X1_bit rfl rfl rfl (by decide +kernel) ⟨Nat.le_of_ble_eq_true rfl, Nat.le_of_ble_eq_true rfl⟩) ⟨ro_blind, ro_pre _ (hP.sub [] rfl) hK⟩ rfl rfl hl.1 rfl (lv_room (Nat.le_of_ble_eq_true rfl)) dX1_value_24 ⟨Nat.le_refl _, Nat.le_refl _⟩) ?_
    exact W.iret (v := bitI an x) hx hb hr (fun t ht hW => ⟨congrArg (fun z => Outcome.returned (some (Value.int z))) (rfl), ht⟩) (fun _ h => nomatch h) dX1_value_27
  · exact absurd c_8 (in_o0 h1)

abbrev rmX1_solve : Room := { frames := 5, cells := 0, slots := 0, locals := 111 }
set_option maxHeartbeats 4000000 in
set_option maxRecDepth 100000 in
theorem c_X1_solve (l : Launch) (G : Gt) (sz : Nat) (bx bd bo bs bk : Nat) (ca wa : Nat → Nat) (st sk tk be so le an : Int32) (fd fo : Nat → Int32) (ro : Nat → Nat → Int32) (dg gv : Nat → Int32) (k : Nat) (est : st = nI k) (hk30 : k ≤ 30) (N : Nat) (hN24 : N = 1024) : Met l yX1_solve wsX1_solve rmX1_solve (mu_P G sz [.ref bx] ([(bx, .inr (1, [.ref bd, .ref bo, .ref bs, .int st, .ref bk, .int sk, .ref (ca 36), .int tk, .int be, .int so, .int le, .int an])), (bd, eI G 10 fd), (bo, eI G 10 fo), (bs, eR G 30 (fun k => some (ca k))), (bk, eR G 6 (fun k => some (ca (30 + k))))] ++ pool G ca wa ro dg gv)) (mu_Q G (some (.int (if (sxO ro dg gv fo k le an N).1 = 0 then 0 else 1))) ([(bx, .inr (1, [.ref bd, .ref bo, .ref bs, .int st, .ref bk, .int sk, .ref (ca 36), .int tk, .int be, .int ((sxO ro dg gv fo k le an N).1), .int ((sxO ro dg gv fo k le an N).2.1), .int ((sxO ro dg gv fo k le an N).2.2)])), (bd, eI G 10 fd), (bo, eI G 10 fo), (bs, eR G 30 (fun k => some (ca k))), (bk, eR G 6 (fun k => some (ca (30 + k))))] ++ pool G ca wa ro dg gv) (va_A ([(bx, .inr (1, [.ref bd, .ref bo, .ref bs, .int st, .ref bk, .int sk, .ref (ca 36), .int tk, .int be, .int so, .int le, .int an])), (bd, eI G 10 fd), (bo, eI G 10 fo), (bs, eR G 30 (fun k => some (ca k))), (bk, eR G 6 (fun k => some (ca (30 + k))))] ++ pool G ca wa ro dg gv) sz)) 0 0 (va_A ([(bx, .inr (1, [.ref bd, .ref bo, .ref bs, .int st, .ref bk, .int sk, .ref (ca 36), .int tk, .int be, .int so, .int le, .int an])), (bd, eI G 10 fd), (bo, eI G 10 fo), (bs, eR G 30 (fun k => some (ca k))), (bk, eR G 6 (fun k => some (ca (30 + k))))] ++ pool G ca wa ro dg gv) sz) := by
  refine Met.ofW (cc := cX1_solve) (maxL := 3) (ret := (some .int)) (by decide) rfl ?_
  intro p e s m args below meth c s₁ B hml hv
  obtain ⟨rfl, hsz, hP, hD0, hK⟩ := hv
  have hx := B.exec
  have hb := B.bytes
  have hr := B.returns
  have hts := atoms_spec (ws := wsX1_solve) B.pre
  have hown : s.vm.findClass RX1 = some m.cls := findClass_of_methodNamed B.named
  have hlocks := B.notSynchronized
  subst hsz
  have hD := hD0.self (sz := s.heap.size)
  generalize hAe : va_A ([(bx, .inr (1, [.ref bd, .ref bo, .ref bs, .int st, .ref bk, .int sk, .ref (ca 36), .int tk, .int be, .int so, .int le, .int an])), (bd, eI G 10 fd), (bo, eI G 10 fo), (bs, eR G 30 (fun k => some (ca k))), (bk, eR G 6 (fun k => some (ca (30 + k))))] ++ pool G ca wa ro dg gv) s.heap.size = A at hD ⊢
  have hA : ∀ q : Nat, s.heap.size ≤ q → A q := fun q h => by rw [← hAe]; exact Or.inr h
  have hS : va_S A s.heap s.heap [] := va_S.rf
  have hinX1 : ∀ w ∈ u_ws RX1 TX1 12, w ∈ wsX1_solve := fun w h => List.mem_cons_of_mem _ (List.mem_append_left _ (List.mem_append_right _ h))
  have hw1 := hts (.fieldLink RX1 44 "ChoiceBoard" "solved" "Z") (by decide +kernel)
  have hw2 := hts (.fieldLink RX1 47 "ChoiceBoard" "leastValue" "I") (by decide +kernel)
  have hw3 := hts (.fieldLink RX1 50 "ChoiceBoard" "leastChoice" "I") (by decide +kernel)
  have hl := lv_entry ([.ref bx]) (n := 3) (Nat.le_of_ble_eq_true rfl)
  rw [lg_entry_eq]
  generalize (lg_sl ([.ref bx]) ++ List.replicate (3 - (lg_sl ([.ref bx])).length) Slot.unset).toArray = ls at hl ⊢
  have hl : lv_has ls 3 [(0, .ref bx)] := hl
  refine lv_aload_n hx hb dX1_solve_0 rfl (lv_at hl 0 rfl) ?_
  refine lv_iconst (v := 0) hx hb dX1_solve_1 (by decide) ?_
  refine va_put (D := G.1) (ci := 1) (v := .int 0) (ty := .boolean) (C := RX1) (T := TX1) (N := 12) hx hb hts hinX1 tyX1 tyX1_ok nmX1 hown hK.1 hP hD hS 0 rfl rfl 9 (by decide) hw1 (fun _ h9 => h9) rfl (by decide +kernel) rfl rfl (Nat.le_of_ble_eq_true rfl) dX1_solve_2 (fun H locs hP hD hS => ?_)
  have hP : va_P G.1 vwCl ([(bx, .inr (1, [.ref bd, .ref bo, .ref bs, .int st, .ref bk, .int sk, .ref (ca 36), .int tk, .int be, .int 0, .int le, .int an])), (bd, eI G 10 fd), (bo, eI G 10 fo), (bs, eR G 30 (fun k => some (ca k))), (bk, eR G 6 (fun k => some (ca (30 + k))))] ++ pool G ca wa ro dg gv) H := hP
  have hD : va_D A ([(bx, .inr (1, [.ref bd, .ref bo, .ref bs, .int st, .ref bk, .int sk, .ref (ca 36), .int tk, .int be, .int 0, .int le, .int an])), (bd, eI G 10 fd), (bo, eI G 10 fo), (bs, eR G 30 (fun k => some (ca k))), (bk, eR G 6 (fun k => some (ca (30 + k))))] ++ pool G ca wa ro dg gv) := hD
  refine lv_iconst (v := 0) hx hb dX1_solve_5 (by decide) ?_
  refine lv_istore_n (lv' := [(1, .int 0), (0, .ref bx)]) hx hb dX1_solve_6 rfl hl (by decide) rfl (fun ls hl => ?_)
  have loop_7 : ∀ (n_7 n : Nat) (xn q1 q2 q3 : Int32), n ≤ 1024 → 1024 + 1 ≤ n + n_7 → (xn = nI n) → (q1 = (sxO ro dg gv fo k le an n).1) → (q2 = (sxO ro dg gv fo k le an n).2.1) → (q3 = (sxO ro dg gv fo k le an n).2.2) → ∀ (H : Heap) (locs : List Loc), va_P G.1 vwCl ([(bx, .inr (1, [.ref bd, .ref bo, .ref bs, .int st, .ref bk, .int sk, .ref (ca 36), .int tk, .int be, .int q1, .int q2, .int q3])), (bd, eI G 10 fd), (bo, eI G 10 fo), (bs, eR G 30 (fun k => some (ca k))), (bk, eR G 6 (fun k => some (ca (30 + k))))] ++ pool G ca wa ro dg gv) H → va_D A ([(bx, .inr (1, [.ref bd, .ref bo, .ref bs, .int st, .ref bk, .int sk, .ref (ca 36), .int tk, .int be, .int q1, .int q2, .int q3])), (bd, eI G 10 fd), (bo, eI G 10 fo), (bs, eR G 30 (fun k => some (ca k))), (bk, eR G 6 (fun k => some (ca (30 + k))))] ++ pool G ca wa ro dg gv) → va_S A s.heap H locs → ∀ ls : Array Slot, lv_has ls 3 [(0, .ref bx), (1, .int xn)] → W p l e rmX1_solve s m [.ref bx].toArray below meth c H locs 0 0 (MQ below (mu_Q G (some (.int (if (sxO ro dg gv fo k le an N).1 = 0 then 0 else 1))) ([(bx, .inr (1, [.ref bd, .ref bo, .ref bs, .int st, .ref bk, .int sk, .ref (ca 36), .int tk, .int be, .int ((sxO ro dg gv fo k le an N).1), .int ((sxO ro dg gv fo k le an N).2.1), .int ((sxO ro dg gv fo k le an N).2.2)])), (bd, eI G 10 fd), (bo, eI G 10 fo), (bs, eR G 30 (fun k => some (ca k))), (bk, eR G 6 (fun k => some (ca (30 + k))))] ++ pool G ca wa ro dg gv) A) [.ref bx].toArray s 0 0 A) (F0 m 7 ls []) := by
    intro n_7
    induction n_7 with
    | zero => intro n xn q1 q2 q3 h1 h2; exact absurd h2 (by omega)
    | succ n_7 ih_7 =>
      intro n xn q1 q2 q3 hi_7 hn_7 en e1 e2 e3 H locs hP hD hS ls hl
      refine lv_iload_n hx hb dX1_solve_7 rfl (lv_at hl 1 rfl) ?_
      refine lv_sipush (v := 1024) hx hb dX1_solve_8 (by decide) ?_
      refine lv_icmp_ge (tgt := 59) hx hb dX1_solve_11 (by decide) (fun c_11 => ?_) (fun c_11 => ?_)
      · have hN : n = N := (ge_ix en (by decide) (by decide) c_11 hi_7).trans hN24.symm
        rw [hN] at e1 e2 e3
        refine lv_aload_n hx hb dX1_solve_59 rfl (lv_at hl 0 rfl) ?_
        refine va_get (D := G.1) (ci := 1) (v := .int q1) (C := RX1) (T := TX1) (N := 12) hx hb hts hinX1 hown hK.1 hP 0 rfl rfl 9 (by decide) hw1 (fun _ h9 => h9) rfl dX1_solve_60 ?_
        refine lv_if_eq (tgt := 70) hx hb dX1_solve_63 (by decide) (fun c_63 => ?_) (fun c_63 => ?_)
        · refine lv_iconst (v := 0) hx hb dX1_solve_70 (by decide) ?_
          rw [e1, e2, e3] at hP hD
          have hP9 : va_P G.1 vwCl ([(bx, .inr (1, [.ref bd, .ref bo, .ref bs, .int st, .ref bk, .int sk, .ref (ca 36), .int tk, .int be, .int ((sxO ro dg gv fo k le an N).1), .int ((sxO ro dg gv fo k le an N).2.1), .int ((sxO ro dg gv fo k le an N).2.2)])), (bd, eI G 10 fd), (bo, eI G 10 fo), (bs, eR G 30 (fun k => some (ca k))), (bk, eR G 6 (fun k => some (ca (30 + k))))] ++ pool G ca wa ro dg gv) _ := (hP)
          have hD9 : va_D A ([(bx, .inr (1, [.ref bd, .ref bo, .ref bs, .int st, .ref bk, .int sk, .ref (ca 36), .int tk, .int be, .int ((sxO ro dg gv fo k le an N).1), .int ((sxO ro dg gv fo k le an N).2.1), .int ((sxO ro dg gv fo k le an N).2.2)])), (bd, eI G 10 fd), (bo, eI G 10 fo), (bs, eR G 30 (fun k => some (ca k))), (bk, eR G 6 (fun k => some (ca (30 + k))))] ++ pool G ca wa ro dg gv) := (hD)
          exact W.iret (v := 0) hx hb hr (fun t ht hW => ⟨congrArg (fun z => Outcome.returned (some (Value.int z))) (by rw [← e1, if_pos c_63]), by rw [ht]; exact hP9, hD9, hS.F ht⟩) hS.2.2 dX1_solve_71
        · refine lv_iconst (v := 1) hx hb dX1_solve_66 (by decide) ?_
          refine lv_goto (tgt := 71) hx hb dX1_solve_67 (by decide) ?_
          rw [e1, e2, e3] at hP hD
          have hP9 : va_P G.1 vwCl ([(bx, .inr (1, [.ref bd, .ref bo, .ref bs, .int st, .ref bk, .int sk, .ref (ca 36), .int tk, .int be, .int ((sxO ro dg gv fo k le an N).1), .int ((sxO ro dg gv fo k le an N).2.1), .int ((sxO ro dg gv fo k le an N).2.2)])), (bd, eI G 10 fd), (bo, eI G 10 fo), (bs, eR G 30 (fun k => some (ca k))), (bk, eR G 6 (fun k => some (ca (30 + k))))] ++ pool G ca wa ro dg gv) _ := (hP)
          have hD9 : va_D A ([(bx, .inr (1, [.ref bd, .ref bo, .ref bs, .int st, .ref bk, .int sk, .ref (ca 36), .int tk, .int be, .int ((sxO ro dg gv fo k le an N).1), .int ((sxO ro dg gv fo k le an N).2.1), .int ((sxO ro dg gv fo k le an N).2.2)])), (bd, eI G 10 fd), (bo, eI G 10 fo), (bs, eR G 30 (fun k => some (ca k))), (bk, eR G 6 (fun k => some (ca (30 + k))))] ++ pool G ca wa ro dg gv) := (hD)
          exact W.iret (v := 1) hx hb hr (fun t ht hW => ⟨congrArg (fun z => Outcome.returned (some (Value.int z))) (by rw [← e1, if_neg c_63]), by rw [ht]; exact hP9, hD9, hS.F ht⟩) hS.2.2 dX1_solve_71
      · have hltn : n < 1024 := lt_ix en (by decide) (by decide) c_11 hi_7
        refine lv_aload_n hx hb dX1_solve_14 rfl (lv_at hl 0 rfl) ?_
        refine lv_iload_n hx hb dX1_solve_15 rfl (lv_at hl 1 rfl) ?_
        refine ro_call (va_runV (As := [.int xn]) (rest := []) ⟨hx, hb, hml, hown, hts⟩ (c_X1_objectiveValue l G bx bd bo bs bk (ca 36) st sk tk be q1 q2 q3 fo xn) (cwV 1 hts gX1_solve_X1_objectiveValue rfl rfl rfl (by decide +kernel) ⟨Nat.le_of_ble_eq_true rfl, Nat.le_of_ble_eq_true rfl⟩) ⟨ro_blind, va_recv hK.1 hP (ci := 1) (q0 := 0) rfl rfl, ro_pre _ (hP.sub [0, 2] rfl) hK⟩ rfl rfl hl.1 rfl (lv_room (Nat.le_of_ble_eq_true rfl)) dX1_solve_16 ⟨Nat.le_refl _, Nat.le_refl _⟩) ?_
        refine lv_istore_n (lv' := [(2, .int (ovI fo xn)), (0, .ref bx), (1, .int xn)]) hx hb dX1_solve_19 rfl hl (by decide) rfl (fun ls hl => ?_)
        refine lv_aload_n hx hb dX1_solve_20 rfl (lv_at hl 1 rfl) ?_
        refine lv_iload_n hx hb dX1_solve_21 rfl (lv_at hl 2 rfl) ?_
        refine lv_iload_n hx hb dX1_solve_22 rfl (lv_at hl 0 rfl) ?_
        refine ro_call (va_runV (As := [.int xn, .int (ovI fo xn)]) (rest := []) ⟨hx, hb, hml, hown, hts⟩ (c_X1_isPreferred l G bx bd bo bs bk (ca 36) st sk tk be q1 q2 q3 xn (ovI fo xn)) (cwV 2 hts gX1_solve_X1_isPreferred rfl rfl rfl (by decide +kernel) ⟨Nat.le_of_ble_eq_true rfl, Nat.le_of_ble_eq_true rfl⟩) ⟨ro_blind, va_recv hK.1 hP (ci := 1) (q0 := 0) rfl rfl, ro_pre _ (hP.sub [0] rfl) hK⟩ rfl rfl hl.1 rfl (lv_room (Nat.le_of_ble_eq_true rfl)) dX1_solve_23 ⟨Nat.le_refl _, Nat.le_refl _⟩) ?_
        refine lv_if_eq (tgt := 53) hx hb dX1_solve_26 (by decide) (fun c_26 => ?_) (fun c_26 => ?_)
        · have hSo : sxO ro dg gv fo k le an (n + 1) = (q1, q2, q3) := by show sxS _ _ _ _ _ _ _ = _; unfold sxS; rw [← en, ← e1, ← e2, ← e3, if_pos c_26, e1, e2, e3]
          refine lv_iinc (v := xn + 1) (lv' := [(1, .int (xn + 1)), (2, .int (ovI fo xn)), (0, .ref bx)]) hx hb dX1_solve_53 hl (k := 2) rfl rfl (by decide) rfl (fun ls hl => ?_)
          refine lv_goto (tgt := 7) hx hb dX1_solve_56 (by decide) ?_
          exact ih_7 (n + 1) _ _ _ _ (by omega) (by omega) (by rw [en]; exact nI_1 n) (by rw [hSo]) (by rw [hSo]) (by rw [hSo]) _ _ hP hD hS ls (lv_sub hl [2, 0] rfl)
        · refine lv_aload_n hx hb dX1_solve_29 rfl (lv_at hl 1 rfl) ?_
          refine lv_iload_n hx hb dX1_solve_30 rfl (lv_at hl 2 rfl) ?_
          refine lv_iconst (v := 1) hx hb dX1_solve_31 (by decide) ?_
          refine ro_call (va_runV (As := [.int xn, .int 1]) (rest := []) ⟨hx, hb, hml, hown, hts⟩ (c_X1_meetsStore l G bx bd bo bs bk ca wa st sk tk be q1 q2 q3 fd fo ro dg gv xn 1 k est (by omega)) (cwV 2 hts gX1_solve_X1_meetsStore rfl rfl rfl (by decide +kernel) ⟨Nat.le_of_ble_eq_true rfl, Nat.le_of_ble_eq_true rfl⟩) ⟨ro_blind, va_recv hK.1 hP (ci := 1) (q0 := 0) rfl rfl, ro_pre _ hP hK⟩ rfl rfl hl.1 rfl (lv_room (Nat.le_of_ble_eq_true rfl)) dX1_solve_32 ⟨Nat.le_refl _, Nat.le_refl _⟩) ?_
          refine lv_if_eq (tgt := 53) hx hb dX1_solve_35 (by decide) (fun c_35 => ?_) (fun c_35 => ?_)
          · have hSo : sxO ro dg gv fo k le an (n + 1) = (q1, q2, q3) := by show sxS _ _ _ _ _ _ _ = _; unfold sxS; rw [← en, ← e1, ← e2, ← e3, if_neg c_26, if_neg (by rw [bI_eq c_35]; decide), e1, e2, e3]
            refine lv_iinc (v := xn + 1) (lv' := [(1, .int (xn + 1)), (2, .int (ovI fo xn)), (0, .ref bx)]) hx hb dX1_solve_53 hl (k := 2) rfl rfl (by decide) rfl (fun ls hl => ?_)
            refine lv_goto (tgt := 7) hx hb dX1_solve_56 (by decide) ?_
            exact ih_7 (n + 1) _ _ _ _ (by omega) (by omega) (by rw [en]; exact nI_1 n) (by rw [hSo]) (by rw [hSo]) (by rw [hSo]) _ _ hP hD hS ls (lv_sub hl [2, 0] rfl)
          · have hSo : sxO ro dg gv fo k le an (n + 1) = (1, ovI fo xn, xn) := by show sxS _ _ _ _ _ _ _ = _; unfold sxS; rw [← en, ← e1, ← e2, ← e3, if_neg c_26, if_pos (bI_ne c_35)]
            refine lv_aload_n hx hb dX1_solve_38 rfl (lv_at hl 1 rfl) ?_
            refine lv_iconst (v := 1) hx hb dX1_solve_39 (by decide) ?_
            refine va_put (D := G.1) (ci := 1) (v := .int 1) (ty := .boolean) (C := RX1) (T := TX1) (N := 12) hx hb hts hinX1 tyX1 tyX1_ok nmX1 hown hK.1 hP hD hS 0 rfl rfl 9 (by decide) hw1 (fun _ h9 => h9) rfl (by decide +kernel) rfl rfl (Nat.le_of_ble_eq_true rfl) dX1_solve_40 (fun H locs hP hD hS => ?_)
            have hP : va_P G.1 vwCl ([(bx, .inr (1, [.ref bd, .ref bo, .ref bs, .int st, .ref bk, .int sk, .ref (ca 36), .int tk, .int be, .int 1, .int q2, .int q3])), (bd, eI G 10 fd), (bo, eI G 10 fo), (bs, eR G 30 (fun k => some (ca k))), (bk, eR G 6 (fun k => some (ca (30 + k))))] ++ pool G ca wa ro dg gv) H := hP
            have hD : va_D A ([(bx, .inr (1, [.ref bd, .ref bo, .ref bs, .int st, .ref bk, .int sk, .ref (ca 36), .int tk, .int be, .int 1, .int q2, .int q3])), (bd, eI G 10 fd), (bo, eI G 10 fo), (bs, eR G 30 (fun k => some (ca k))), (bk, eR G 6 (fun k => some (ca (30 + k))))] ++ pool G ca wa ro dg gv) := hD
            refine lv_aload_n hx hb dX1_solve_43 rfl (lv_at hl 1 rfl) ?_
            refine lv_iload_n hx hb dX1_solve_44 rfl (lv_at hl 0 rfl) ?_
            refine va_put (D := G.1) (ci := 1) (v := .int (ovI fo xn)) (ty := .int) (C := RX1) (T := TX1) (N := 12) hx hb hts hinX1 tyX1 tyX1_ok nmX1 hown hK.1 hP hD hS 0 rfl rfl 10 (by decide) hw2 (fun _ h9 => h9) rfl (by decide +kernel) rfl rfl (Nat.le_of_ble_eq_true rfl) dX1_solve_45 (fun H locs hP hD hS => ?_)
            have hP : va_P G.1 vwCl ([(bx, .inr (1, [.ref bd, .ref bo, .ref bs, .int st, .ref bk, .int sk, .ref (ca 36), .int tk, .int be, .int 1, .int (ovI fo xn), .int q3])), (bd, eI G 10 fd), (bo, eI G 10 fo), (bs, eR G 30 (fun k => some (ca k))), (bk, eR G 6 (fun k => some (ca (30 + k))))] ++ pool G ca wa ro dg gv) H := hP
            have hD : va_D A ([(bx, .inr (1, [.ref bd, .ref bo, .ref bs, .int st, .ref bk, .int sk, .ref (ca 36), .int tk, .int be, .int 1, .int (ovI fo xn), .int q3])), (bd, eI G 10 fd), (bo, eI G 10 fo), (bs, eR G 30 (fun k => some (ca k))), (bk, eR G 6 (fun k => some (ca (30 + k))))] ++ pool G ca wa ro dg gv) := hD
            refine lv_aload_n hx hb dX1_solve_48 rfl (lv_at hl 1 rfl) ?_
            refine lv_iload_n hx hb dX1_solve_49 rfl (lv_at hl 2 rfl) ?_
            refine va_put (D := G.1) (ci := 1) (v := .int xn) (ty := .int) (C := RX1) (T := TX1) (N := 12) hx hb hts hinX1 tyX1 tyX1_ok nmX1 hown hK.1 hP hD hS 0 rfl rfl 11 (by decide) hw3 (fun _ h9 => h9) rfl (by decide +kernel) rfl rfl (Nat.le_of_ble_eq_true rfl) dX1_solve_50 (fun H locs hP hD hS => ?_)
            have hP : va_P G.1 vwCl ([(bx, .inr (1, [.ref bd, .ref bo, .ref bs, .int st, .ref bk, .int sk, .ref (ca 36), .int tk, .int be, .int 1, .int (ovI fo xn), .int xn])), (bd, eI G 10 fd), (bo, eI G 10 fo), (bs, eR G 30 (fun k => some (ca k))), (bk, eR G 6 (fun k => some (ca (30 + k))))] ++ pool G ca wa ro dg gv) H := hP
            have hD : va_D A ([(bx, .inr (1, [.ref bd, .ref bo, .ref bs, .int st, .ref bk, .int sk, .ref (ca 36), .int tk, .int be, .int 1, .int (ovI fo xn), .int xn])), (bd, eI G 10 fd), (bo, eI G 10 fo), (bs, eR G 30 (fun k => some (ca k))), (bk, eR G 6 (fun k => some (ca (30 + k))))] ++ pool G ca wa ro dg gv) := hD
            refine lv_iinc (v := xn + 1) (lv' := [(1, .int (xn + 1)), (2, .int (ovI fo xn)), (0, .ref bx)]) hx hb dX1_solve_53 hl (k := 2) rfl rfl (by decide) rfl (fun ls hl => ?_)
            refine lv_goto (tgt := 7) hx hb dX1_solve_56 (by decide) ?_
            exact ih_7 (n + 1) _ _ _ _ (by omega) (by omega) (by rw [en]; exact nI_1 n) (by rw [hSo]) (by rw [hSo]) (by rw [hSo]) _ _ hP hD hS ls (lv_sub hl [2, 0] rfl)
  exact loop_7 (1024 + 1) 0 _ _ _ _ (Nat.zero_le _) (by omega) (by exact nI_0.symm) (by rfl) (by rfl) (by rfl) _ _ hP hD hS ls (lv_sub hl [1, 0] rfl)
