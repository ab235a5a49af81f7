abbrev rmX2_term : Room := { frames := 1, cells := 0, slots := 0, locals := 23 }
set_option maxHeartbeats 4000000 in
set_option maxRecDepth 100000 in
theorem c_X2_term (l : Launch) (G : Gt) (sz : Nat) (mo ce gv dr go sa : Nat) (th st sk tk be so le an : Int32) (fc fg fd fo fs : Nat → Int32) (v a : Int32) : Met l yX2_term wsX2_term rmX2_term (mu_P G sz [.ref mo, .int v, .int a] [(mo, .inr (2, [.int th, .ref ce, .ref gv, .int st, .int sk, .ref dr, .ref go, .int tk, .int be, .int so, .int le, .int an, .ref sa])), (ce, eI G 418 fc), (gv, eZ G 30 fg), (dr, eI G 10 fd), (go, eI G 10 fo), (sa, eI G 10 fs)]) (mu_Q G none [(mo, .inr (2, [.int (thTerm v a), .ref ce, .ref gv, .int st, .int sk, .ref dr, .ref go, .int tk, .int be, .int so, .int le, .int an, .ref sa])), (ce, eI G 418 fc), (gv, eZ G 30 fg), (dr, eI G 10 (if thTerm v a = 0 then upd fd v.toNatClampNeg a else fd)), (go, eI G 10 fo), (sa, eI G 10 fs)] (va_A [(mo, .inr (2, [.int th, .ref ce, .ref gv, .int st, .int sk, .ref dr, .ref go, .int tk, .int be, .int so, .int le, .int an, .ref sa])), (ce, eI G 418 fc), (gv, eZ G 30 fg), (dr, eI G 10 fd), (go, eI G 10 fo), (sa, eI G 10 fs)] sz)) 0 0 (va_A [(mo, .inr (2, [.int th, .ref ce, .ref gv, .int st, .int sk, .ref dr, .ref go, .int tk, .int be, .int so, .int le, .int an, .ref sa])), (ce, eI G 418 fc), (gv, eZ G 30 fg), (dr, eI G 10 fd), (go, eI G 10 fo), (sa, eI G 10 fs)] sz) := by
  refine Met.ofW (cc := cX2_term) (maxL := 3) (ret := none) (by decide) rfl ?_
  intro p e s m args below meth c s₁ B hml hv
  obtain ⟨rfl, hsz, hP, hD0, hK⟩ := hv
  have hx := B.exec
  have hb := B.bytes
  have hr := B.returns
  have hts := atoms_spec (ws := wsX2_term) B.pre
  have hown : s.vm.findClass RX2 = some m.cls := findClass_of_methodNamed B.named
  have hlocks := B.notSynchronized
  subst hsz
  have hD := hD0.self (sz := s.heap.size)
  generalize hAe : va_A [(mo, .inr (2, [.int th, .ref ce, .ref gv, .int st, .int sk, .ref dr, .ref go, .int tk, .int be, .int so, .int le, .int an, .ref sa])), (ce, eI G 418 fc), (gv, eZ G 30 fg), (dr, eI G 10 fd), (go, eI G 10 fo), (sa, eI G 10 fs)] s.heap.size = A at hD ⊢
  have hA : ∀ q : Nat, s.heap.size ≤ q → A q := fun q h => by rw [← hAe]; exact Or.inr h
  have hS : va_S A s.heap s.heap [] := va_S.rf
  have hinX2 : ∀ w ∈ u_ws RX2 TX2 13, w ∈ wsX2_term := fun w h => List.mem_cons_of_mem _ (List.mem_append_right _ h)
  have hw1 := hts (.fieldLink RX2 17 "ChoiceBoardModel" "draft" "[I") (by decide +kernel)
  have hl := lv_entry ([.ref mo, .int v, .int a]) (n := 3) (Nat.le_of_ble_eq_true rfl)
  rw [lg_entry_eq]
  generalize (lg_sl ([.ref mo, .int v, .int a]) ++ List.replicate (3 - (lg_sl ([.ref mo, .int v, .int a])).length) Slot.unset).toArray = ls at hl ⊢
  have hl : lv_has ls 3 [(0, .ref mo), (1, .int v), (2, .int a)] := hl
  refine lv_aload_n hx hb dX2_term_0 rfl (lv_at hl 0 rfl) ?_
  have join_27 : ∀ (x1 : Int32), (x1 = orI (outI v 0 9) (outI a (-99) 99)) → ∀ (H : Heap) (locs : List Loc), va_P G.1 vwCl [(mo, .inr (2, [.int th, .ref ce, .ref gv, .int st, .int sk, .ref dr, .ref go, .int tk, .int be, .int so, .int le, .int an, .ref sa])), (ce, eI G 418 fc), (gv, eZ G 30 fg), (dr, eI G 10 fd), (go, eI G 10 fo), (sa, eI G 10 fs)] H → va_D A [(mo, .inr (2, [.int th, .ref ce, .ref gv, .int st, .int sk, .ref dr, .ref go, .int tk, .int be, .int so, .int le, .int an, .ref sa])), (ce, eI G 418 fc), (gv, eZ G 30 fg), (dr, eI G 10 fd), (go, eI G 10 fo), (sa, eI G 10 fs)] → va_S A s.heap H locs → ∀ ls : Array Slot, lv_has ls 3 [(0, .ref mo), (1, .int v), (2, .int a)] → W p l e rmX2_term s m [.ref mo, .int v, .int a].toArray below meth c H locs 0 0 (MQ below (mu_Q G none [(mo, .inr (2, [.int (thTerm v a), .ref ce, .ref gv, .int st, .int sk, .ref dr, .ref go, .int tk, .int be, .int so, .int le, .int an, .ref sa])), (ce, eI G 418 fc), (gv, eZ G 30 fg), (dr, eI G 10 (if thTerm v a = 0 then upd fd v.toNatClampNeg a else fd)), (go, eI G 10 fo), (sa, eI G 10 fs)] A) [.ref mo, .int v, .int a].toArray s 0 0 A) (F0 m 27 ls [.int x1, .ref mo]) := by
    intro x1 ex1 H locs hP hD hS ls hl
    refine lv_iconst (v := 0) hx hb dX2_term_27 (by decide) ?_
    refine lv_iconst (v := 0) hx hb dX2_term_28 (by decide) ?_
    have eT : thTerm v a = flI x1 0 0 := by unfold thTerm; rw [← ex1]
    refine mu_call (va_runV (As := [.int x1, .int 0, .int 0]) (rest := []) ⟨hx, hb, hml, hown, hts⟩ (c_X2_fails l G _ mo ce gv dr go sa th st sk tk be so le an fc fg fd fo fs x1 0 0) (cwV 3 hts gX2_term_X2_fails rfl rfl rfl (by decide +kernel) ⟨Nat.le_of_ble_eq_true rfl, Nat.le_of_ble_eq_true rfl⟩) ⟨mu_blind, va_recv hK.1 hP (ci := 2) (q0 := 0) rfl rfl, mu_pre _ (hP.sub [0, 1, 2, 3, 4, 5] rfl) (hD.sub [0, 1, 2, 3, 4, 5] (by decide) rfl) hK⟩ rfl rfl hl.1 rfl (lv_room (Nat.le_of_ble_eq_true rfl)) dX2_term_29 ⟨Nat.le_refl _, Nat.le_refl _⟩) hS (va_free hD hS hA [0, 1, 2, 3, 4, 5] rfl) (va_free hD hS hA [0, 1, 2, 3, 4, 5] rfl) (fun H1 locs hP1 hD1 hk1 hS => ?_)
    obtain ⟨hP, hD⟩ := rp_join (ws' := [(mo, .inr (2, [.int (flI x1 0 0), .ref ce, .ref gv, .int st, .int sk, .ref dr, .ref go, .int tk, .int be, .int so, .int le, .int an, .ref sa])), (ce, eI G 418 fc), (gv, eZ G 30 fg), (dr, eI G 10 fd), (go, eI G 10 fo), (sa, eI G 10 fs)]) hP hD [0, 1, 2, 3, 4, 5] rfl hk1 hP1 (fun k q h => match k, q, h with | 0, q, h => Or.inl ⟨0, h⟩ | 1, q, h => Or.inl ⟨1, h⟩ | 2, q, h => Or.inl ⟨2, h⟩ | 3, q, h => Or.inl ⟨3, h⟩ | 4, q, h => Or.inl ⟨4, h⟩ | 5, q, h => Or.inl ⟨5, h⟩ | k + 6, q, h => nomatch h) rfl
    generalize H1 = H at hP hS ⊢
    have hP : va_P G.1 vwCl [(mo, .inr (2, [.int (flI x1 0 0), .ref ce, .ref gv, .int st, .int sk, .ref dr, .ref go, .int tk, .int be, .int so, .int le, .int an, .ref sa])), (ce, eI G 418 fc), (gv, eZ G 30 fg), (dr, eI G 10 fd), (go, eI G 10 fo), (sa, eI G 10 fs)] H := hP
    have hD : va_D A [(mo, .inr (2, [.int (flI x1 0 0), .ref ce, .ref gv, .int st, .int sk, .ref dr, .ref go, .int tk, .int be, .int so, .int le, .int an, .ref sa])), (ce, eI G 418 fc), (gv, eZ G 30 fg), (dr, eI G 10 fd), (go, eI G 10 fo), (sa, eI G 10 fs)] := hD
    refine lv_if_eq (tgt := 36) hx hb dX2_term_32 (by decide) (fun c_32 => ?_) (fun c_32 => ?_)
    · have hz : thTerm v a = 0 := by rw [eT]; exact cnt0 c_32
      obtain ⟨ev, hv⟩ := out0 (N := 9) rfl (by decide) (or0 (fl0 hz).1).1
      refine lv_aload_n hx hb dX2_term_36 rfl (lv_at hl 0 rfl) ?_
      refine va_get (D := G.1) (ci := 2) (v := .ref dr) (C := RX2) (T := TX2) (N := 13) hx hb hts hinX2 hown hK.1 hP 0 rfl rfl 5 (by decide) hw1 (fun _ h9 => h9) rfl dX2_term_37 ?_
      refine lv_iload_n hx hb dX2_term_40 rfl (lv_at hl 1 rfl) ?_
      refine lv_iload_n hx hb dX2_term_41 rfl (lv_at hl 2 rfl) ?_
      refine ra_iast (v := v.toNatClampNeg) hx hb hK.1 hP hD hS 3 0 rfl rfl ev (by omega) (by decide) dX2_term_42 (fun H locs hP hD hS => ?_)
      have hP : va_P G.1 vwCl [(mo, .inr (2, [.int (flI x1 0 0), .ref ce, .ref gv, .int st, .int sk, .ref dr, .ref go, .int tk, .int be, .int so, .int le, .int an, .ref sa])), (ce, eI G 418 fc), (gv, eZ G 30 fg), (dr, eI G 10 (upd fd v.toNatClampNeg a)), (go, eI G 10 fo), (sa, eI G 10 fs)] H := hP
      have hD : va_D A [(mo, .inr (2, [.int (flI x1 0 0), .ref ce, .ref gv, .int st, .int sk, .ref dr, .ref go, .int tk, .int be, .int so, .int le, .int an, .ref sa])), (ce, eI G 418 fc), (gv, eZ G 30 fg), (dr, eI G 10 (upd fd v.toNatClampNeg a)), (go, eI G 10 fo), (sa, eI G 10 fs)] := hD
      have hP9 := hP.sub (ws' := [(mo, .inr (2, [.int (thTerm v a), .ref ce, .ref gv, .int st, .int sk, .ref dr, .ref go, .int tk, .int be, .int so, .int le, .int an, .ref sa])), (ce, eI G 418 fc), (gv, eZ G 30 fg), (dr, eI G 10 (if thTerm v a = 0 then upd fd v.toNatClampNeg a else fd)), (go, eI G 10 fo), (sa, eI G 10 fs)]) [0, 1, 2, 3, 4, 5] (by simp only [if_pos hz]; rw [eT]; rfl)
      have hD9 := hD.sub (ws' := [(mo, .inr (2, [.int (thTerm v a), .ref ce, .ref gv, .int st, .int sk, .ref dr, .ref go, .int tk, .int be, .int so, .int le, .int an, .ref sa])), (ce, eI G 418 fc), (gv, eZ G 30 fg), (dr, eI G 10 (if thTerm v a = 0 then upd fd v.toNatClampNeg a else fd)), (go, eI G 10 fo), (sa, eI G 10 fs)]) [0, 1, 2, 3, 4, 5] (by decide) (by simp only [if_pos hz]; rw [eT]; rfl)
      exact W.vret hx hb hr (fun t ht hW => ⟨rfl, by rw [ht]; exact hP9, hD9, hS.F ht⟩) hS.2.2 dX2_term_43
    · have hz : ¬ thTerm v a = 0 := by rw [eT]; exact cnt1 c_32
      have hP9 := hP.sub (ws' := [(mo, .inr (2, [.int (thTerm v a), .ref ce, .ref gv, .int st, .int sk, .ref dr, .ref go, .int tk, .int be, .int so, .int le, .int an, .ref sa])), (ce, eI G 418 fc), (gv, eZ G 30 fg), (dr, eI G 10 (if thTerm v a = 0 then upd fd v.toNatClampNeg a else fd)), (go, eI G 10 fo), (sa, eI G 10 fs)]) [0, 1, 2, 3, 4, 5] (by simp only [if_neg hz]; rw [eT]; rfl)
      have hD9 := hD.sub (ws' := [(mo, .inr (2, [.int (thTerm v a), .ref ce, .ref gv, .int st, .int sk, .ref dr, .ref go, .int tk, .int be, .int so, .int le, .int an, .ref sa])), (ce, eI G 418 fc), (gv, eZ G 30 fg), (dr, eI G 10 (if thTerm v a = 0 then upd fd v.toNatClampNeg a else fd)), (go, eI G 10 fo), (sa, eI G 10 fs)]) [0, 1, 2, 3, 4, 5] (by decide) (by simp only [if_neg hz]; rw [eT]; rfl)
      exact W.vret hx hb hr (fun t ht hW => ⟨rfl, by rw [ht]; exact hP9, hD9, hS.F ht⟩) hS.2.2 dX2_term_35
  refine lv_iload_n hx hb dX2_term_1 rfl (lv_at hl 1 rfl) ?_
  refine lv_iconst (v := 0) hx hb dX2_term_2 (by decide) ?_
  refine lv_bipush (v := 9) hx hb dX2_term_3 (by decide) ?_
  refine ro_call (va_runS (As := [.int v, .int 0, .int 9]) (rest := [.ref mo]) ⟨hx, hb, hml, hown, hts⟩ (c_X2_outside l G v 0 9) (va_cwS 3 hts gX2_term_X2_outside rfl rfl rfl (by decide +kernel) ⟨Nat.le_of_ble_eq_true rfl, Nat.le_of_ble_eq_true rfl⟩) ⟨ro_blind, ro_pre _ (hP.sub [] rfl) hK⟩ rfl rfl hl.1 rfl (lv_room (Nat.le_of_ble_eq_true rfl)) dX2_term_5 ⟨Nat.le_refl _, Nat.le_refl _⟩) ?_
  refine lv_if_ne (tgt := 22) hx hb dX2_term_8 (by decide) (fun c_8 => ?_) (fun c_8 => ?_)
  · refine lv_iconst (v := 1) hx hb dX2_term_22 (by decide) ?_
    refine lv_goto (tgt := 27) hx hb dX2_term_23 (by decide) ?_
    exact join_27 _ (by unfold orI; rw [if_neg c_8]) _ _ (hP.sub [0, 1, 2, 3, 4, 5] rfl) (hD.sub [0, 1, 2, 3, 4, 5] (by decide) rfl) hS ls (lv_sub hl [0, 1, 2] rfl)
  · refine lv_iload_n hx hb dX2_term_11 rfl (lv_at hl 2 rfl) ?_
    refine lv_bipush (v := (-99)) hx hb dX2_term_12 (by decide) ?_
    refine lv_bipush (v := 99) hx hb dX2_term_14 (by decide) ?_
    refine ro_call (va_runS (As := [.int a, .int (-99), .int 99]) (rest := [.ref mo]) ⟨hx, hb, hml, hown, hts⟩ (c_X2_outside l G a (-99) 99) (va_cwS 3 hts gX2_term_X2_outside rfl rfl rfl (by decide +kernel) ⟨Nat.le_of_ble_eq_true rfl, Nat.le_of_ble_eq_true rfl⟩) ⟨ro_blind, ro_pre _ (hP.sub [] rfl) hK⟩ rfl rfl hl.1 rfl (lv_room (Nat.le_of_ble_eq_true rfl)) dX2_term_16 ⟨Nat.le_refl _, Nat.le_refl _⟩) ?_
    refine lv_if_eq (tgt := 26) hx hb dX2_term_19 (by decide) (fun c_19 => ?_) (fun c_19 => ?_)
    · refine lv_iconst (v := 0) hx hb dX2_term_26 (by decide) ?_
      exact join_27 _ (by unfold orI; rw [if_pos c_8, if_pos c_19]) _ _ (hP.sub [0, 1, 2, 3, 4, 5] rfl) (hD.sub [0, 1, 2, 3, 4, 5] (by decide) rfl) hS ls (lv_sub hl [0, 1, 2] rfl)
    · refine lv_iconst (v := 1) hx hb dX2_term_22 (by decide) ?_
      refine lv_goto (tgt := 27) hx hb dX2_term_23 (by decide) ?_
      exact join_27 _ (by unfold orI; rw [if_pos c_8, if_neg c_19]) _ _ (hP.sub [0, 1, 2, 3, 4, 5] rfl) (hD.sub [0, 1, 2, 3, 4, 5] (by decide) rfl) hS ls (lv_sub hl [0, 1, 2] rfl)

abbrev rmX2_clear : Room := { frames := 1, cells := 0, slots := 0, locals := 21 }
set_option maxHeartbeats 4000000 in
set_option maxRecDepth 100000 in
theorem c_X2_clear (l : Launch) (G : Gt) (sz : Nat) (mo ce gv dr go sa : Nat) (th st sk tk be so le an : Int32) (fc fg fd fo fs : Nat → Int32) : Met l yX2_clear wsX2_clear rmX2_clear (mu_P G sz [.ref mo] [(mo, .inr (2, [.int th, .ref ce, .ref gv, .int st, .int sk, .ref dr, .ref go, .int tk, .int be, .int so, .int le, .int an, .ref sa])), (ce, eI G 418 fc), (gv, eZ G 30 fg), (dr, eI G 10 fd), (go, eI G 10 fo), (sa, eI G 10 fs)]) (mu_Q G none [(mo, .inr (2, [.int 0, .ref ce, .ref gv, .int st, .int sk, .ref dr, .ref go, .int tk, .int be, .int so, .int le, .int an, .ref sa])), (ce, eI G 418 fc), (gv, eZ G 30 fg), (dr, eI G 10 (mixf 10 (fun _ => 0) fd)), (go, eI G 10 fo), (sa, eI G 10 fs)] (va_A [(mo, .inr (2, [.int th, .ref ce, .ref gv, .int st, .int sk, .ref dr, .ref go, .int tk, .int be, .int so, .int le, .int an, .ref sa])), (ce, eI G 418 fc), (gv, eZ G 30 fg), (dr, eI G 10 fd), (go, eI G 10 fo), (sa, eI G 10 fs)] sz)) 0 0 (va_A [(mo, .inr (2, [.int th, .ref ce, .ref gv, .int st, .int sk, .ref dr, .ref go, .int tk, .int be, .int so, .int le, .int an, .ref sa])), (ce, eI G 418 fc), (gv, eZ G 30 fg), (dr, eI G 10 fd), (go, eI G 10 fo), (sa, eI G 10 fs)] sz) := by
  refine Met.ofW (cc := cX2_clear) (maxL := 1) (ret := none) (by decide) rfl ?_
  intro p e s m args below meth c s₁ B hml hv
  obtain ⟨rfl, hsz, hP, hD0, hK⟩ := hv
  have hx := B.exec
  have hb := B.bytes
  have hr := B.returns
  have hts := atoms_spec (ws := wsX2_clear) B.pre
  have hown : s.vm.findClass RX2 = some m.cls := findClass_of_methodNamed B.named
  have hlocks := B.notSynchronized
  subst hsz
  have hD := hD0.self (sz := s.heap.size)
  generalize hAe : va_A [(mo, .inr (2, [.int th, .ref ce, .ref gv, .int st, .int sk, .ref dr, .ref go, .int tk, .int be, .int so, .int le, .int an, .ref sa])), (ce, eI G 418 fc), (gv, eZ G 30 fg), (dr, eI G 10 fd), (go, eI G 10 fo), (sa, eI G 10 fs)] s.heap.size = A at hD ⊢
  have hA : ∀ q : Nat, s.heap.size ≤ q → A q := fun q h => by rw [← hAe]; exact Or.inr h
  have hS : va_S A s.heap s.heap [] := va_S.rf
  have hinX2 : ∀ w ∈ u_ws RX2 TX2 13, w ∈ wsX2_clear := fun w h => List.mem_cons_of_mem _ (List.mem_append_right _ h)
  have hw1 := hts (.fieldLink RX2 26 "ChoiceBoardModel" "thrown" "I") (by decide +kernel)
  have hl := lv_entry ([.ref mo]) (n := 1) (Nat.le_of_ble_eq_true rfl)
  rw [lg_entry_eq]
  generalize (lg_sl ([.ref mo]) ++ List.replicate (1 - (lg_sl ([.ref mo])).length) Slot.unset).toArray = ls at hl ⊢
  have hl : lv_has ls 1 [(0, .ref mo)] := hl
  refine lv_aload_n hx hb dX2_clear_0 rfl (lv_at hl 0 rfl) ?_
  refine lv_iconst (v := 0) hx hb dX2_clear_1 (by decide) ?_
  refine va_put (D := G.1) (ci := 2) (v := .int 0) (ty := .int) (C := RX2) (T := TX2) (N := 13) hx hb hts hinX2 tyX2 tyX2_ok nmX2 hown hK.1 hP hD hS 0 rfl rfl 0 (by decide) hw1 (fun _ h9 => h9) rfl (by decide +kernel) rfl rfl (Nat.le_of_ble_eq_true rfl) dX2_clear_2 (fun H locs hP hD hS => ?_)
  have hP : va_P G.1 vwCl [(mo, .inr (2, [.int 0, .ref ce, .ref gv, .int st, .int sk, .ref dr, .ref go, .int tk, .int be, .int so, .int le, .int an, .ref sa])), (ce, eI G 418 fc), (gv, eZ G 30 fg), (dr, eI G 10 fd), (go, eI G 10 fo), (sa, eI G 10 fs)] H := hP
  have hD : va_D A [(mo, .inr (2, [.int 0, .ref ce, .ref gv, .int st, .int sk, .ref dr, .ref go, .int tk, .int be, .int so, .int le, .int an, .ref sa])), (ce, eI G 418 fc), (gv, eZ G 30 fg), (dr, eI G 10 fd), (go, eI G 10 fo), (sa, eI G 10 fs)] := hD
  refine lv_aload_n hx hb dX2_clear_5 rfl (lv_at hl 0 rfl) ?_
  refine mu_call (va_runV (As := []) (rest := []) ⟨hx, hb, hml, hown, hts⟩ (c_X2_empty l G _ mo ce gv dr go sa 0 st sk tk be so le an fc fg fd fo fs) (cwV 0 hts gX2_clear_X2_empty rfl rfl rfl (by decide +kernel) ⟨Nat.le_of_ble_eq_true rfl, Nat.le_of_ble_eq_true rfl⟩) ⟨mu_blind, va_recv hK.1 hP (ci := 2) (q0 := 0) rfl rfl, mu_pre _ (hP.sub [0, 1, 2, 3, 4, 5] rfl) (hD.sub [0, 1, 2, 3, 4, 5] (by decide) rfl) hK⟩ rfl rfl hl.1 rfl (lv_room (Nat.le_of_ble_eq_true rfl)) dX2_clear_6 ⟨Nat.le_refl _, Nat.le_refl _⟩) hS (va_free hD hS hA [0, 1, 2, 3, 4, 5] rfl) (va_free hD hS hA [0, 1, 2, 3, 4, 5] rfl) (fun H1 locs hP1 hD1 hk1 hS => ?_)
  obtain ⟨hP, hD⟩ := rp_join (ws' := [(mo, .inr (2, [.int 0, .ref ce, .ref gv, .int st, .int sk, .ref dr, .ref go, .int tk, .int be, .int so, .int le, .int an, .ref sa])), (ce, eI G 418 fc), (gv, eZ G 30 fg), (dr, eI G 10 (mixf 10 (fun _ => 0) fd)), (go, eI G 10 fo), (sa, eI G 10 fs)]) hP hD [0, 1, 2, 3, 4, 5] rfl hk1 hP1 (fun k q h => match k, q, h with | 0, q, h => Or.inl ⟨0, h⟩ | 1, q, h => Or.inl ⟨1, h⟩ | 2, q, h => Or.inl ⟨2, h⟩ | 3, q, h => Or.inl ⟨3, h⟩ | 4, q, h => Or.inl ⟨4, h⟩ | 5, q, h => Or.inl ⟨5, h⟩ | k + 6, q, h => nomatch h) rfl
  generalize H1 = H at hP hS ⊢
  have hP : va_P G.1 vwCl [(mo, .inr (2, [.int 0, .ref ce, .ref gv, .int st, .int sk, .ref dr, .ref go, .int tk, .int be, .int so, .int le, .int an, .ref sa])), (ce, eI G 418 fc), (gv, eZ G 30 fg), (dr, eI G 10 (mixf 10 (fun _ => 0) fd)), (go, eI G 10 fo), (sa, eI G 10 fs)] H := hP
  have hD : va_D A [(mo, .inr (2, [.int 0, .ref ce, .ref gv, .int st, .int sk, .ref dr, .ref go, .int tk, .int be, .int so, .int le, .int an, .ref sa])), (ce, eI G 418 fc), (gv, eZ G 30 fg), (dr, eI G 10 (mixf 10 (fun _ => 0) fd)), (go, eI G 10 fo), (sa, eI G 10 fs)] := hD
  have hP9 := hP.sub (ws' := [(mo, .inr (2, [.int 0, .ref ce, .ref gv, .int st, .int sk, .ref dr, .ref go, .int tk, .int be, .int so, .int le, .int an, .ref sa])), (ce, eI G 418 fc), (gv, eZ G 30 fg), (dr, eI G 10 (mixf 10 (fun _ => 0) fd)), (go, eI G 10 fo), (sa, eI G 10 fs)]) [0, 1, 2, 3, 4, 5] rfl
  have hD9 := hD.sub (ws' := [(mo, .inr (2, [.int 0, .ref ce, .ref gv, .int st, .int sk, .ref dr, .ref go, .int tk, .int be, .int so, .int le, .int an, .ref sa])), (ce, eI G 418 fc), (gv, eZ G 30 fg), (dr, eI G 10 (mixf 10 (fun _ => 0) fd)), (go, eI G 10 fo), (sa, eI G 10 fs)]) [0, 1, 2, 3, 4, 5] (by decide) rfl
  exact W.vret hx hb hr (fun t ht hW => ⟨rfl, by rw [ht]; exact hP9, hD9, hS.F ht⟩) hS.2.2 dX2_clear_9

abbrev rmX2_require : Room := { frames := 2, cells := 0, slots := 0, locals := 45 }
set_option maxHeartbeats 4000000 in
set_option maxRecDepth 100000 in
theorem c_X2_require (l : Launch) (G : Gt) (sz : Nat) (mo ce gv dr go sa : Nat) (th st sk tk be so le an : Int32) (fc fg fd fo fs : Nat → Int32) (x y : Int32) (k : Nat) (est : st = nI k) (hk30 : k ≤ 30) : Met l yX2_require wsX2_require rmX2_require (mu_P G sz [.ref mo, .int x, .int y] [(mo, .inr (2, [.int th, .ref ce, .ref gv, .int st, .int sk, .ref dr, .ref go, .int tk, .int be, .int so, .int le, .int an, .ref sa])), (ce, eI G 418 fc), (gv, eZ G 30 fg), (dr, eI G 10 fd), (go, eI G 10 fo), (sa, eI G 10 fs)]) (mu_Q G (some (.int (if thReq st tk x y = 0 then st + 1 - 1 else 0))) [(mo, .inr (2, [.int (thReq st tk x y), .ref ce, .ref gv, .int (if thReq st tk x y = 0 then st + 1 else st), .int sk, .ref dr, .ref go, .int tk, .int be, .int so, .int le, .int an, .ref sa])), (ce, eI G 418 (if thReq st tk x y = 0 then cpy11 (nmC fc fd (snI x) (bdI x y)) 36 k else fc)), (gv, eZ G 30 (if thReq st tk x y = 0 then upd fg k 1 else fg)), (dr, eI G 10 (if thReq st tk x y = 0 then mixf 10 (fun _ => 0) fd else fd)), (go, eI G 10 fo), (sa, eI G 10 fs)] (va_A [(mo, .inr (2, [.int th, .ref ce, .ref gv, .int st, .int sk, .ref dr, .ref go, .int tk, .int be, .int so, .int le, .int an, .ref sa])), (ce, eI G 418 fc), (gv, eZ G 30 fg), (dr, eI G 10 fd), (go, eI G 10 fo), (sa, eI G 10 fs)] sz)) 0 0 (va_A [(mo, .inr (2, [.int th, .ref ce, .ref gv, .int st, .int sk, .ref dr, .ref go, .int tk, .int be, .int so, .int le, .int an, .ref sa])), (ce, eI G 418 fc), (gv, eZ G 30 fg), (dr, eI G 10 fd), (go, eI G 10 fo), (sa, eI G 10 fs)] sz) := by
  refine Met.ofW (cc := cX2_require) (maxL := 3) (ret := (some .int)) (by decide) rfl ?_
  intro p e s m args below meth c s₁ B hml hv
  obtain ⟨rfl, hsz, hP, hD0, hK⟩ := hv
  have hx := B.exec
  have hb := B.bytes
  have hr := B.returns
  have hts := atoms_spec (ws := wsX2_require) B.pre
  have hown : s.vm.findClass RX2 = some m.cls := findClass_of_methodNamed B.named
  have hlocks := B.notSynchronized
  subst hsz
  have hD := hD0.self (sz := s.heap.size)
  generalize hAe : va_A [(mo, .inr (2, [.int th, .ref ce, .ref gv, .int st, .int sk, .ref dr, .ref go, .int tk, .int be, .int so, .int le, .int an, .ref sa])), (ce, eI G 418 fc), (gv, eZ G 30 fg), (dr, eI G 10 fd), (go, eI G 10 fo), (sa, eI G 10 fs)] s.heap.size = A at hD ⊢
  have hA : ∀ q : Nat, s.heap.size ≤ q → A q := fun q h => by rw [← hAe]; exact Or.inr h
  have hS : va_S A s.heap s.heap [] := va_S.rf
  have hinX2 : ∀ w ∈ u_ws RX2 TX2 13, w ∈ wsX2_require := fun w h => List.mem_cons_of_mem _ (List.mem_append_right _ h)
  have hw1 := hts (.fieldLink RX2 45 "ChoiceBoardModel" "stored" "I") (by decide +kernel)
  have hw2 := hts (.fieldLink RX2 52 "ChoiceBoardModel" "taken" "Z") (by decide +kernel)
  have hl := lv_entry ([.ref mo, .int x, .int y]) (n := 3) (Nat.le_of_ble_eq_true rfl)
  rw [lg_entry_eq]
  generalize (lg_sl ([.ref mo, .int x, .int y]) ++ List.replicate (3 - (lg_sl ([.ref mo, .int x, .int y])).length) Slot.unset).toArray = ls at hl ⊢
  have hl : lv_has ls 3 [(0, .ref mo), (1, .int x), (2, .int y)] := hl
  refine lv_aload_n hx hb dX2_require_0 rfl (lv_at hl 0 rfl) ?_
  have join_28 : ∀ (x1 : Int32), (x1 = orI (outI x 0 1) (outI y (-9999) 9999)) → ∀ (H : Heap) (locs : List Loc), va_P G.1 vwCl [(mo, .inr (2, [.int th, .ref ce, .ref gv, .int st, .int sk, .ref dr, .ref go, .int tk, .int be, .int so, .int le, .int an, .ref sa])), (ce, eI G 418 fc), (gv, eZ G 30 fg), (dr, eI G 10 fd), (go, eI G 10 fo), (sa, eI G 10 fs)] H → va_D A [(mo, .inr (2, [.int th, .ref ce, .ref gv, .int st, .int sk, .ref dr, .ref go, .int tk, .int be, .int so, .int le, .int an, .ref sa])), (ce, eI G 418 fc), (gv, eZ G 30 fg), (dr, eI G 10 fd), (go, eI G 10 fo), (sa, eI G 10 fs)] → va_S A s.heap H locs → ∀ ls : Array Slot, lv_has ls 3 [(0, .ref mo), (1, .int x), (2, .int y)] → W p l e rmX2_require s m [.ref mo, .int x, .int y].toArray below meth c H locs 0 0 (MQ below (mu_Q G (some (.int (if thReq st tk x y = 0 then st + 1 - 1 else 0))) [(mo, .inr (2, [.int (thReq st tk x y), .ref ce, .ref gv, .int (if thReq st tk x y = 0 then st + 1 else st), .int sk, .ref dr, .ref go, .int tk, .int be, .int so, .int le, .int an, .ref sa])), (ce, eI G 418 (if thReq st tk x y = 0 then cpy11 (nmC fc fd (snI x) (bdI x y)) 36 k else fc)), (gv, eZ G 30 (if thReq st tk x y = 0 then upd fg k 1 else fg)), (dr, eI G 10 (if thReq st tk x y = 0 then mixf 10 (fun _ => 0) fd else fd)), (go, eI G 10 fo), (sa, eI G 10 fs)] A) [.ref mo, .int x, .int y].toArray s 0 0 A) (F0 m 28 ls [.int x1, .ref mo]) := by
    intro x1 ex1 H locs hP hD hS ls hl
    have join_49 : ∀ (x2 : Int32), (x2 = orS st tk) → ∀ (H : Heap) (locs : List Loc), va_P G.1 vwCl [(mo, .inr (2, [.int th, .ref ce, .ref gv, .int st, .int sk, .ref dr, .ref go, .int tk, .int be, .int so, .int le, .int an, .ref sa])), (ce, eI G 418 fc), (gv, eZ G 30 fg), (dr, eI G 10 fd), (go, eI G 10 fo), (sa, eI G 10 fs)] H → va_D A [(mo, .inr (2, [.int th, .ref ce, .ref gv, .int st, .int sk, .ref dr, .ref go, .int tk, .int be, .int so, .int le, .int an, .ref sa])), (ce, eI G 418 fc), (gv, eZ G 30 fg), (dr, eI G 10 fd), (go, eI G 10 fo), (sa, eI G 10 fs)] → va_S A s.heap H locs → ∀ ls : Array Slot, lv_has ls 3 [(0, .ref mo), (1, .int x), (2, .int y)] → W p l e rmX2_require s m [.ref mo, .int x, .int y].toArray below meth c H locs 0 0 (MQ below (mu_Q G (some (.int (if thReq st tk x y = 0 then st + 1 - 1 else 0))) [(mo, .inr (2, [.int (thReq st tk x y), .ref ce, .ref gv, .int (if thReq st tk x y = 0 then st + 1 else st), .int sk, .ref dr, .ref go, .int tk, .int be, .int so, .int le, .int an, .ref sa])), (ce, eI G 418 (if thReq st tk x y = 0 then cpy11 (nmC fc fd (snI x) (bdI x y)) 36 k else fc)), (gv, eZ G 30 (if thReq st tk x y = 0 then upd fg k 1 else fg)), (dr, eI G 10 (if thReq st tk x y = 0 then mixf 10 (fun _ => 0) fd else fd)), (go, eI G 10 fo), (sa, eI G 10 fs)] A) [.ref mo, .int x, .int y].toArray s 0 0 A) (F0 m 49 ls [.int x2, .int x1, .ref mo]) := by
      intro x2 ex2 H locs hP hD hS ls hl
      refine lv_iconst (v := 0) hx hb dX2_require_49 (by decide) ?_
      have eT : thReq st tk x y = flI x1 x2 0 := by unfold thReq; rw [← ex1, ← ex2]
      refine mu_call (va_runV (As := [.int x1, .int x2, .int 0]) (rest := []) ⟨hx, hb, hml, hown, hts⟩ (c_X2_fails l G _ mo ce gv dr go sa th st sk tk be so le an fc fg fd fo fs x1 x2 0) (cwV 3 hts gX2_require_X2_fails rfl rfl rfl (by decide +kernel) ⟨Nat.le_of_ble_eq_true rfl, Nat.le_of_ble_eq_true rfl⟩) ⟨mu_blind, va_recv hK.1 hP (ci := 2) (q0 := 0) rfl rfl, mu_pre _ (hP.sub [0, 1, 2, 3, 4, 5] rfl) (hD.sub [0, 1, 2, 3, 4, 5] (by decide) rfl) hK⟩ rfl rfl hl.1 rfl (lv_room (Nat.le_of_ble_eq_true rfl)) dX2_require_50 ⟨Nat.le_refl _, Nat.le_refl _⟩) hS (va_free hD hS hA [0, 1, 2, 3, 4, 5] rfl) (va_free hD hS hA [0, 1, 2, 3, 4, 5] rfl) (fun H1 locs hP1 hD1 hk1 hS => ?_)
      obtain ⟨hP, hD⟩ := rp_join (ws' := [(mo, .inr (2, [.int (flI x1 x2 0), .ref ce, .ref gv, .int st, .int sk, .ref dr, .ref go, .int tk, .int be, .int so, .int le, .int an, .ref sa])), (ce, eI G 418 fc), (gv, eZ G 30 fg), (dr, eI G 10 fd), (go, eI G 10 fo), (sa, eI G 10 fs)]) hP hD [0, 1, 2, 3, 4, 5] rfl hk1 hP1 (fun k q h => match k, q, h with | 0, q, h => Or.inl ⟨0, h⟩ | 1, q, h => Or.inl ⟨1, h⟩ | 2, q, h => Or.inl ⟨2, h⟩ | 3, q, h => Or.inl ⟨3, h⟩ | 4, q, h => Or.inl ⟨4, h⟩ | 5, q, h => Or.inl ⟨5, h⟩ | k + 6, q, h => nomatch h) rfl
      generalize H1 = H at hP hS ⊢
      have hP : va_P G.1 vwCl [(mo, .inr (2, [.int (flI x1 x2 0), .ref ce, .ref gv, .int st, .int sk, .ref dr, .ref go, .int tk, .int be, .int so, .int le, .int an, .ref sa])), (ce, eI G 418 fc), (gv, eZ G 30 fg), (dr, eI G 10 fd), (go, eI G 10 fo), (sa, eI G 10 fs)] H := hP
      have hD : va_D A [(mo, .inr (2, [.int (flI x1 x2 0), .ref ce, .ref gv, .int st, .int sk, .ref dr, .ref go, .int tk, .int be, .int so, .int le, .int an, .ref sa])), (ce, eI G 418 fc), (gv, eZ G 30 fg), (dr, eI G 10 fd), (go, eI G 10 fo), (sa, eI G 10 fs)] := hD
      refine lv_if_eq (tgt := 58) hx hb dX2_require_53 (by decide) (fun c_53 => ?_) (fun c_53 => ?_)
      · have hz : thReq st tk x y = 0 := by rw [eT]; exact cnt0 c_53
        have hk : k < 30 := lt30 est hk30 (orS0 (fl0 hz).2.1).1
        refine lv_aload_n hx hb dX2_require_58 rfl (lv_at hl 0 rfl) ?_
        refine lv_iconst (v := 0) hx hb dX2_require_59 (by decide) ?_
        refine lv_iload_n hx hb dX2_require_60 rfl (lv_at hl 1 rfl) ?_
        refine lv_if_ne (tgt := 68) hx hb dX2_require_61 (by decide) (fun c_61 => ?_) (fun c_61 => ?_)
        · refine lv_iconst (v := (-1)) hx hb dX2_require_68 (by decide) ?_
          refine lv_iload_n hx hb dX2_require_69 rfl (lv_at hl 1 rfl) ?_
          refine lv_if_ne (tgt := 77) hx hb dX2_require_70 (by decide) (fun c_70 => ?_) (fun c_70 => ?_)
          · refine lv_iload_n hx hb dX2_require_77 rfl (lv_at hl 2 rfl) ?_
            refine lv_ineg hx hb dX2_require_78 ?_
            refine mu_call (va_runV (As := [.int 0, .int (-1), .int (-y)]) (rest := []) ⟨hx, hb, hml, hown, hts⟩ (c_X2_normalize_d l G _ mo ce gv dr go sa (flI x1 x2 0) st sk tk be so le an fc fg fd fo fs 0 (-1) (-y) rfl) (cwV 3 hts gX2_require_X2_normalize rfl rfl rfl (by decide +kernel) ⟨Nat.le_of_ble_eq_true rfl, Nat.le_of_ble_eq_true rfl⟩) ⟨mu_blind, va_recv hK.1 hP (ci := 2) (q0 := 0) rfl rfl, mu_pre _ (hP.sub [0, 1, 2, 3, 4, 5] rfl) (hD.sub [0, 1, 2, 3, 4, 5] (by decide) rfl) hK⟩ rfl rfl hl.1 rfl (lv_room (Nat.le_of_ble_eq_true rfl)) dX2_require_79 ⟨Nat.le_refl _, Nat.le_refl _⟩) hS (va_free hD hS hA [0, 1, 2, 3, 4, 5] rfl) (va_free hD hS hA [0, 1, 2, 3, 4, 5] rfl) (fun H1 locs hP1 hD1 hk1 hS => ?_)
            obtain ⟨hP, hD⟩ := rp_join (ws' := [(mo, .inr (2, [.int (flI x1 x2 0), .ref ce, .ref gv, .int st, .int sk, .ref dr, .ref go, .int tk, .int be, .int so, .int le, .int an, .ref sa])), (ce, eI G 418 (nmC fc fd (-1) (-y))), (gv, eZ G 30 fg), (dr, eI G 10 fd), (go, eI G 10 fo), (sa, eI G 10 fs)]) hP hD [0, 1, 2, 3, 4, 5] rfl hk1 hP1 (fun k q h => match k, q, h with | 0, q, h => Or.inl ⟨0, h⟩ | 1, q, h => Or.inl ⟨1, h⟩ | 2, q, h => Or.inl ⟨2, h⟩ | 3, q, h => Or.inl ⟨3, h⟩ | 4, q, h => Or.inl ⟨4, h⟩ | 5, q, h => Or.inl ⟨5, h⟩ | k + 6, q, h => nomatch h) rfl
            generalize H1 = H at hP hS ⊢
            have hP : va_P G.1 vwCl [(mo, .inr (2, [.int (flI x1 x2 0), .ref ce, .ref gv, .int st, .int sk, .ref dr, .ref go, .int tk, .int be, .int so, .int le, .int an, .ref sa])), (ce, eI G 418 (nmC fc fd (-1) (-y))), (gv, eZ G 30 fg), (dr, eI G 10 fd), (go, eI G 10 fo), (sa, eI G 10 fs)] H := hP
            have hD : va_D A [(mo, .inr (2, [.int (flI x1 x2 0), .ref ce, .ref gv, .int st, .int sk, .ref dr, .ref go, .int tk, .int be, .int so, .int le, .int an, .ref sa])), (ce, eI G 418 (nmC fc fd (-1) (-y))), (gv, eZ G 30 fg), (dr, eI G 10 fd), (go, eI G 10 fo), (sa, eI G 10 fs)] := hD
            refine lv_aload_n hx hb dX2_require_82 rfl (lv_at hl 0 rfl) ?_
            refine mu_call (va_runV (As := []) (rest := []) ⟨hx, hb, hml, hown, hts⟩ (c_X2_empty l G _ mo ce gv dr go sa (flI x1 x2 0) st sk tk be so le an (nmC fc fd (-1) (-y)) fg fd fo fs) (cwV 0 hts gX2_require_X2_empty rfl rfl rfl (by decide +kernel) ⟨Nat.le_of_ble_eq_true rfl, Nat.le_of_ble_eq_true rfl⟩) ⟨mu_blind, va_recv hK.1 hP (ci := 2) (q0 := 0) rfl rfl, mu_pre _ (hP.sub [0, 1, 2, 3, 4, 5] rfl) (hD.sub [0, 1, 2, 3, 4, 5] (by decide) rfl) hK⟩ rfl rfl hl.1 rfl (lv_room (Nat.le_of_ble_eq_true rfl)) dX2_require_83 ⟨Nat.le_refl _, Nat.le_refl _⟩) hS (va_free hD hS hA [0, 1, 2, 3, 4, 5] rfl) (va_free hD hS hA [0, 1, 2, 3, 4, 5] rfl) (fun H1 locs hP1 hD1 hk1 hS => ?_)
            obtain ⟨hP, hD⟩ := rp_join (ws' := [(mo, .inr (2, [.int (flI x1 x2 0), .ref ce, .ref gv, .int st, .int sk, .ref dr, .ref go, .int tk, .int be, .int so, .int le, .int an, .ref sa])), (ce, eI G 418 (nmC fc fd (-1) (-y))), (gv, eZ G 30 fg), (dr, eI G 10 (mixf 10 (fun _ => 0) fd)), (go, eI G 10 fo), (sa, eI G 10 fs)]) hP hD [0, 1, 2, 3, 4, 5] rfl hk1 hP1 (fun k q h => match k, q, h with | 0, q, h => Or.inl ⟨0, h⟩ | 1, q, h => Or.inl ⟨1, h⟩ | 2, q, h => Or.inl ⟨2, h⟩ | 3, q, h => Or.inl ⟨3, h⟩ | 4, q, h => Or.inl ⟨4, h⟩ | 5, q, h => Or.inl ⟨5, h⟩ | k + 6, q, h => nomatch h) rfl
            generalize H1 = H at hP hS ⊢
            have hP : va_P G.1 vwCl [(mo, .inr (2, [.int (flI x1 x2 0), .ref ce, .ref gv, .int st, .int sk, .ref dr, .ref go, .int tk, .int be, .int so, .int le, .int an, .ref sa])), (ce, eI G 418 (nmC fc fd (-1) (-y))), (gv, eZ G 30 fg), (dr, eI G 10 (mixf 10 (fun _ => 0) fd)), (go, eI G 10 fo), (sa, eI G 10 fs)] H := hP
            have hD : va_D A [(mo, .inr (2, [.int (flI x1 x2 0), .ref ce, .ref gv, .int st, .int sk, .ref dr, .ref go, .int tk, .int be, .int so, .int le, .int an, .ref sa])), (ce, eI G 418 (nmC fc fd (-1) (-y))), (gv, eZ G 30 fg), (dr, eI G 10 (mixf 10 (fun _ => 0) fd)), (go, eI G 10 fo), (sa, eI G 10 fs)] := hD
            refine lv_aload_n hx hb dX2_require_86 rfl (lv_at hl 0 rfl) ?_
            refine lv_bipush (v := 36) hx hb dX2_require_87 (by decide) ?_
            refine lv_iconst (v := 1) hx hb dX2_require_89 (by decide) ?_
            refine mu_call (va_runV (As := [.int 36, .int 1]) (rest := []) ⟨hx, hb, hml, hown, hts⟩ (c_X2_keep l G _ mo ce gv dr go sa (flI x1 x2 0) st sk tk be so le an (nmC fc fd (-1) (-y)) fg (mixf 10 (fun _ => 0) fd) fo fs 36 36 (by decide) (by omega) 1 rfl k est (by omega) (by omega)) (cwV 2 hts gX2_require_X2_keep rfl rfl rfl (by decide +kernel) ⟨Nat.le_of_ble_eq_true rfl, Nat.le_of_ble_eq_true rfl⟩) ⟨mu_blind, va_recv hK.1 hP (ci := 2) (q0 := 0) rfl rfl, mu_pre _ (hP.sub [0, 1, 2, 3, 4, 5] rfl) (hD.sub [0, 1, 2, 3, 4, 5] (by decide) rfl) hK⟩ rfl rfl hl.1 rfl (lv_room (Nat.le_of_ble_eq_true rfl)) dX2_require_90 ⟨Nat.le_refl _, Nat.le_refl _⟩) hS (va_free hD hS hA [0, 1, 2, 3, 4, 5] rfl) (va_free hD hS hA [0, 1, 2, 3, 4, 5] rfl) (fun H1 locs hP1 hD1 hk1 hS => ?_)
            obtain ⟨hP, hD⟩ := rp_join (ws' := [(mo, .inr (2, [.int (flI x1 x2 0), .ref ce, .ref gv, .int (st + 1), .int sk, .ref dr, .ref go, .int tk, .int be, .int so, .int le, .int an, .ref sa])), (ce, eI G 418 (cpy11 (nmC fc fd (-1) (-y)) 36 k)), (gv, eZ G 30 (upd fg k 1)), (dr, eI G 10 (mixf 10 (fun _ => 0) fd)), (go, eI G 10 fo), (sa, eI G 10 fs)]) hP hD [0, 1, 2, 3, 4, 5] rfl hk1 hP1 (fun k q h => match k, q, h with | 0, q, h => Or.inl ⟨0, h⟩ | 1, q, h => Or.inl ⟨1, h⟩ | 2, q, h => Or.inl ⟨2, h⟩ | 3, q, h => Or.inl ⟨3, h⟩ | 4, q, h => Or.inl ⟨4, h⟩ | 5, q, h => Or.inl ⟨5, h⟩ | k + 6, q, h => nomatch h) rfl
            generalize H1 = H at hP hS ⊢
            have hP : va_P G.1 vwCl [(mo, .inr (2, [.int (flI x1 x2 0), .ref ce, .ref gv, .int (st + 1), .int sk, .ref dr, .ref go, .int tk, .int be, .int so, .int le, .int an, .ref sa])), (ce, eI G 418 (cpy11 (nmC fc fd (-1) (-y)) 36 k)), (gv, eZ G 30 (upd fg k 1)), (dr, eI G 10 (mixf 10 (fun _ => 0) fd)), (go, eI G 10 fo), (sa, eI G 10 fs)] H := hP
            have hD : va_D A [(mo, .inr (2, [.int (flI x1 x2 0), .ref ce, .ref gv, .int (st + 1), .int sk, .ref dr, .ref go, .int tk, .int be, .int so, .int le, .int an, .ref sa])), (ce, eI G 418 (cpy11 (nmC fc fd (-1) (-y)) 36 k)), (gv, eZ G 30 (upd fg k 1)), (dr, eI G 10 (mixf 10 (fun _ => 0) fd)), (go, eI G 10 fo), (sa, eI G 10 fs)] := hD
            have hP9 := hP.sub (ws' := [(mo, .inr (2, [.int (thReq st tk x y), .ref ce, .ref gv, .int (if thReq st tk x y = 0 then st + 1 else st), .int sk, .ref dr, .ref go, .int tk, .int be, .int so, .int le, .int an, .ref sa])), (ce, eI G 418 (if thReq st tk x y = 0 then cpy11 (nmC fc fd (snI x) (bdI x y)) 36 k else fc)), (gv, eZ G 30 (if thReq st tk x y = 0 then upd fg k 1 else fg)), (dr, eI G 10 (if thReq st tk x y = 0 then mixf 10 (fun _ => 0) fd else fd)), (go, eI G 10 fo), (sa, eI G 10 fs)]) [0, 1, 2, 3, 4, 5] (by simp only [if_pos hz]; rw [eT, show snI x = _ from if_neg c_61, show bdI x y = _ from if_neg c_70]; rfl)
            have hD9 := hD.sub (ws' := [(mo, .inr (2, [.int (thReq st tk x y), .ref ce, .ref gv, .int (if thReq st tk x y = 0 then st + 1 else st), .int sk, .ref dr, .ref go, .int tk, .int be, .int so, .int le, .int an, .ref sa])), (ce, eI G 418 (if thReq st tk x y = 0 then cpy11 (nmC fc fd (snI x) (bdI x y)) 36 k else fc)), (gv, eZ G 30 (if thReq st tk x y = 0 then upd fg k 1 else fg)), (dr, eI G 10 (if thReq st tk x y = 0 then mixf 10 (fun _ => 0) fd else fd)), (go, eI G 10 fo), (sa, eI G 10 fs)]) [0, 1, 2, 3, 4, 5] (by decide) (by simp only [if_pos hz]; rw [eT, show snI x = _ from if_neg c_61, show bdI x y = _ from if_neg c_70]; rfl)
            exact W.iret (v := st + 1 - 1) hx hb hr (fun t ht hW => ⟨congrArg (fun z => Outcome.returned (some (Value.int z))) ((if_pos hz).symm), by rw [ht]; exact hP9, hD9, hS.F ht⟩) hS.2.2 dX2_require_93
          · exact absurd c_70 c_61
        · refine lv_iconst (v := 1) hx hb dX2_require_64 (by decide) ?_
          refine lv_goto (tgt := 69) hx hb dX2_require_65 (by decide) ?_
          refine lv_iload_n hx hb dX2_require_69 rfl (lv_at hl 1 rfl) ?_
          refine lv_if_ne (tgt := 77) hx hb dX2_require_70 (by decide) (fun c_70 => ?_) (fun c_70 => ?_)
          · exact absurd c_61 c_70
          · refine lv_iload_n hx hb dX2_require_73 rfl (lv_at hl 2 rfl) ?_
            refine lv_goto (tgt := 79) hx hb dX2_require_74 (by decide) ?_
            refine mu_call (va_runV (As := [.int 0, .int 1, .int y]) (rest := []) ⟨hx, hb, hml, hown, hts⟩ (c_X2_normalize_d l G _ mo ce gv dr go sa (flI x1 x2 0) st sk tk be so le an fc fg fd fo fs 0 1 y rfl) (cwV 3 hts gX2_require_X2_normalize rfl rfl rfl (by decide +kernel) ⟨Nat.le_of_ble_eq_true rfl, Nat.le_of_ble_eq_true rfl⟩) ⟨mu_blind, va_recv hK.1 hP (ci := 2) (q0 := 0) rfl rfl, mu_pre _ (hP.sub [0, 1, 2, 3, 4, 5] rfl) (hD.sub [0, 1, 2, 3, 4, 5] (by decide) rfl) hK⟩ rfl rfl hl.1 rfl (lv_room (Nat.le_of_ble_eq_true rfl)) dX2_require_79 ⟨Nat.le_refl _, Nat.le_refl _⟩) hS (va_free hD hS hA [0, 1, 2, 3, 4, 5] rfl) (va_free hD hS hA [0, 1, 2, 3, 4, 5] rfl) (fun H1 locs hP1 hD1 hk1 hS => ?_)
            obtain ⟨hP, hD⟩ := rp_join (ws' := [(mo, .inr (2, [.int (flI x1 x2 0), .ref ce, .ref gv, .int st, .int sk, .ref dr, .ref go, .int tk, .int be, .int so, .int le, .int an, .ref sa])), (ce, eI G 418 (nmC fc fd 1 y)), (gv, eZ G 30 fg), (dr, eI G 10 fd), (go, eI G 10 fo), (sa, eI G 10 fs)]) hP hD [0, 1, 2, 3, 4, 5] rfl hk1 hP1 (fun k q h => match k, q, h with | 0, q, h => Or.inl ⟨0, h⟩ | 1, q, h => Or.inl ⟨1, h⟩ | 2, q, h => Or.inl ⟨2, h⟩ | 3, q, h => Or.inl ⟨3, h⟩ | 4, q, h => Or.inl ⟨4, h⟩ | 5, q, h => Or.inl ⟨5, h⟩ | k + 6, q, h => nomatch h) rfl
            generalize H1 = H at hP hS ⊢
            have hP : va_P G.1 vwCl [(mo, .inr (2, [.int (flI x1 x2 0), .ref ce, .ref gv, .int st, .int sk, .ref dr, .ref go, .int tk, .int be, .int so, .int le, .int an, .ref sa])), (ce, eI G 418 (nmC fc fd 1 y)), (gv, eZ G 30 fg), (dr, eI G 10 fd), (go, eI G 10 fo), (sa, eI G 10 fs)] H := hP
            have hD : va_D A [(mo, .inr (2, [.int (flI x1 x2 0), .ref ce, .ref gv, .int st, .int sk, .ref dr, .ref go, .int tk, .int be, .int so, .int le, .int an, .ref sa])), (ce, eI G 418 (nmC fc fd 1 y)), (gv, eZ G 30 fg), (dr, eI G 10 fd), (go, eI G 10 fo), (sa, eI G 10 fs)] := hD
            refine lv_aload_n hx hb dX2_require_82 rfl (lv_at hl 0 rfl) ?_
            refine mu_call (va_runV (As := []) (rest := []) ⟨hx, hb, hml, hown, hts⟩ (c_X2_empty l G _ mo ce gv dr go sa (flI x1 x2 0) st sk tk be so le an (nmC fc fd 1 y) fg fd fo fs) (cwV 0 hts gX2_require_X2_empty rfl rfl rfl (by decide +kernel) ⟨Nat.le_of_ble_eq_true rfl, Nat.le_of_ble_eq_true rfl⟩) ⟨mu_blind, va_recv hK.1 hP (ci := 2) (q0 := 0) rfl rfl, mu_pre _ (hP.sub [0, 1, 2, 3, 4, 5] rfl) (hD.sub [0, 1, 2, 3, 4, 5] (by decide) rfl) hK⟩ rfl rfl hl.1 rfl (lv_room (Nat.le_of_ble_eq_true rfl)) dX2_require_83 ⟨Nat.le_refl _, Nat.le_refl _⟩) hS (va_free hD hS hA [0, 1, 2, 3, 4, 5] rfl) (va_free hD hS hA [0, 1, 2, 3, 4, 5] rfl) (fun H1 locs hP1 hD1 hk1 hS => ?_)
            obtain ⟨hP, hD⟩ := rp_join (ws' := [(mo, .inr (2, [.int (flI x1 x2 0), .ref ce, .ref gv, .int st, .int sk, .ref dr, .ref go, .int tk, .int be, .int so, .int le, .int an, .ref sa])), (ce, eI G 418 (nmC fc fd 1 y)), (gv, eZ G 30 fg), (dr, eI G 10 (mixf 10 (fun _ => 0) fd)), (go, eI G 10 fo), (sa, eI G 10 fs)]) hP hD [0, 1, 2, 3, 4, 5] rfl hk1 hP1 (fun k q h => match k, q, h with | 0, q, h => Or.inl ⟨0, h⟩ | 1, q, h => Or.inl ⟨1, h⟩ | 2, q, h => Or.inl ⟨2, h⟩ | 3, q, h => Or.inl ⟨3, h⟩ | 4, q, h => Or.inl ⟨4, h⟩ | 5, q, h => Or.inl ⟨5, h⟩ | k + 6, q, h => nomatch h) rfl
            generalize H1 = H at hP hS ⊢
            have hP : va_P G.1 vwCl [(mo, .inr (2, [.int (flI x1 x2 0), .ref ce, .ref gv, .int st, .int sk, .ref dr, .ref go, .int tk, .int be, .int so, .int le, .int an, .ref sa])), (ce, eI G 418 (nmC fc fd 1 y)), (gv, eZ G 30 fg), (dr, eI G 10 (mixf 10 (fun _ => 0) fd)), (go, eI G 10 fo), (sa, eI G 10 fs)] H := hP
            have hD : va_D A [(mo, .inr (2, [.int (flI x1 x2 0), .ref ce, .ref gv, .int st, .int sk, .ref dr, .ref go, .int tk, .int be, .int so, .int le, .int an, .ref sa])), (ce, eI G 418 (nmC fc fd 1 y)), (gv, eZ G 30 fg), (dr, eI G 10 (mixf 10 (fun _ => 0) fd)), (go, eI G 10 fo), (sa, eI G 10 fs)] := hD
            refine lv_aload_n hx hb dX2_require_86 rfl (lv_at hl 0 rfl) ?_
            refine lv_bipush (v := 36) hx hb dX2_require_87 (by decide) ?_
            refine lv_iconst (v := 1) hx hb dX2_require_89 (by decide) ?_
            refine mu_call (va_runV (As := [.int 36, .int 1]) (rest := []) ⟨hx, hb, hml, hown, hts⟩ (c_X2_keep l G _ mo ce gv dr go sa (flI x1 x2 0) st sk tk be so le an (nmC fc fd 1 y) fg (mixf 10 (fun _ => 0) fd) fo fs 36 36 (by decide) (by omega) 1 rfl k est (by omega) (by omega)) (cwV 2 hts gX2_require_X2_keep rfl rfl rfl (by decide +kernel) ⟨Nat.le_of_ble_eq_true rfl, Nat.le_of_ble_eq_true rfl⟩) ⟨mu_blind, va_recv hK.1 hP (ci := 2) (q0 := 0) rfl rfl, mu_pre _ (hP.sub [0, 1, 2, 3, 4, 5] rfl) (hD.sub [0, 1, 2, 3, 4, 5] (by decide) rfl) hK⟩ rfl rfl hl.1 rfl (lv_room (Nat.le_of_ble_eq_true rfl)) dX2_require_90 ⟨Nat.le_refl _, Nat.le_refl _⟩) hS (va_free hD hS hA [0, 1, 2, 3, 4, 5] rfl) (va_free hD hS hA [0, 1, 2, 3, 4, 5] rfl) (fun H1 locs hP1 hD1 hk1 hS => ?_)
            obtain ⟨hP, hD⟩ := rp_join (ws' := [(mo, .inr (2, [.int (flI x1 x2 0), .ref ce, .ref gv, .int (st + 1), .int sk, .ref dr, .ref go, .int tk, .int be, .int so, .int le, .int an, .ref sa])), (ce, eI G 418 (cpy11 (nmC fc fd 1 y) 36 k)), (gv, eZ G 30 (upd fg k 1)), (dr, eI G 10 (mixf 10 (fun _ => 0) fd)), (go, eI G 10 fo), (sa, eI G 10 fs)]) hP hD [0, 1, 2, 3, 4, 5] rfl hk1 hP1 (fun k q h => match k, q, h with | 0, q, h => Or.inl ⟨0, h⟩ | 1, q, h => Or.inl ⟨1, h⟩ | 2, q, h => Or.inl ⟨2, h⟩ | 3, q, h => Or.inl ⟨3, h⟩ | 4, q, h => Or.inl ⟨4, h⟩ | 5, q, h => Or.inl ⟨5, h⟩ | k + 6, q, h => nomatch h) rfl
            generalize H1 = H at hP hS ⊢
            have hP : va_P G.1 vwCl [(mo, .inr (2, [.int (flI x1 x2 0), .ref ce, .ref gv, .int (st + 1), .int sk, .ref dr, .ref go, .int tk, .int be, .int so, .int le, .int an, .ref sa])), (ce, eI G 418 (cpy11 (nmC fc fd 1 y) 36 k)), (gv, eZ G 30 (upd fg k 1)), (dr, eI G 10 (mixf 10 (fun _ => 0) fd)), (go, eI G 10 fo), (sa, eI G 10 fs)] H := hP
            have hD : va_D A [(mo, .inr (2, [.int (flI x1 x2 0), .ref ce, .ref gv, .int (st + 1), .int sk, .ref dr, .ref go, .int tk, .int be, .int so, .int le, .int an, .ref sa])), (ce, eI G 418 (cpy11 (nmC fc fd 1 y) 36 k)), (gv, eZ G 30 (upd fg k 1)), (dr, eI G 10 (mixf 10 (fun _ => 0) fd)), (go, eI G 10 fo), (sa, eI G 10 fs)] := hD
            have hP9 := hP.sub (ws' := [(mo, .inr (2, [.int (thReq st tk x y), .ref ce, .ref gv, .int (if thReq st tk x y = 0 then st + 1 else st), .int sk, .ref dr, .ref go, .int tk, .int be, .int so, .int le, .int an, .ref sa])), (ce, eI G 418 (if thReq st tk x y = 0 then cpy11 (nmC fc fd (snI x) (bdI x y)) 36 k else fc)), (gv, eZ G 30 (if thReq st tk x y = 0 then upd fg k 1 else fg)), (dr, eI G 10 (if thReq st tk x y = 0 then mixf 10 (fun _ => 0) fd else fd)), (go, eI G 10 fo), (sa, eI G 10 fs)]) [0, 1, 2, 3, 4, 5] (by simp only [if_pos hz]; rw [eT, show snI x = _ from if_pos c_61, show bdI x y = _ from if_pos c_70]; rfl)
            have hD9 := hD.sub (ws' := [(mo, .inr (2, [.int (thReq st tk x y), .ref ce, .ref gv, .int (if thReq st tk x y = 0 then st + 1 else st), .int sk, .ref dr, .ref go, .int tk, .int be, .int so, .int le, .int an, .ref sa])), (ce, eI G 418 (if thReq st tk x y = 0 then cpy11 (nmC fc fd (snI x) (bdI x y)) 36 k else fc)), (gv, eZ G 30 (if thReq st tk x y = 0 then upd fg k 1 else fg)), (dr, eI G 10 (if thReq st tk x y = 0 then mixf 10 (fun _ => 0) fd else fd)), (go, eI G 10 fo), (sa, eI G 10 fs)]) [0, 1, 2, 3, 4, 5] (by decide) (by simp only [if_pos hz]; rw [eT, show snI x = _ from if_pos c_61, show bdI x y = _ from if_pos c_70]; rfl)
            exact W.iret (v := st + 1 - 1) hx hb hr (fun t ht hW => ⟨congrArg (fun z => Outcome.returned (some (Value.int z))) ((if_pos hz).symm), by rw [ht]; exact hP9, hD9, hS.F ht⟩) hS.2.2 dX2_require_93
      · have hz : ¬ thReq st tk x y = 0 := by rw [eT]; exact cnt1 c_53
        refine lv_iconst (v := 0) hx hb dX2_require_56 (by decide) ?_
        have hP9 := hP.sub (ws' := [(mo, .inr (2, [.int (thReq st tk x y), .ref ce, .ref gv, .int (if thReq st tk x y = 0 then st + 1 else st), .int sk, .ref dr, .ref go, .int tk, .int be, .int so, .int le, .int an, .ref sa])), (ce, eI G 418 (if thReq st tk x y = 0 then cpy11 (nmC fc fd (snI x) (bdI x y)) 36 k else fc)), (gv, eZ G 30 (if thReq st tk x y = 0 then upd fg k 1 else fg)), (dr, eI G 10 (if thReq st tk x y = 0 then mixf 10 (fun _ => 0) fd else fd)), (go, eI G 10 fo), (sa, eI G 10 fs)]) [0, 1, 2, 3, 4, 5] (by simp only [if_neg hz]; rw [eT]; rfl)
        have hD9 := hD.sub (ws' := [(mo, .inr (2, [.int (thReq st tk x y), .ref ce, .ref gv, .int (if thReq st tk x y = 0 then st + 1 else st), .int sk, .ref dr, .ref go, .int tk, .int be, .int so, .int le, .int an, .ref sa])), (ce, eI G 418 (if thReq st tk x y = 0 then cpy11 (nmC fc fd (snI x) (bdI x y)) 36 k else fc)), (gv, eZ G 30 (if thReq st tk x y = 0 then upd fg k 1 else fg)), (dr, eI G 10 (if thReq st tk x y = 0 then mixf 10 (fun _ => 0) fd else fd)), (go, eI G 10 fo), (sa, eI G 10 fs)]) [0, 1, 2, 3, 4, 5] (by decide) (by simp only [if_neg hz]; rw [eT]; rfl)
        exact W.iret (v := 0) hx hb hr (fun t ht hW => ⟨congrArg (fun z => Outcome.returned (some (Value.int z))) ((if_neg hz).symm), by rw [ht]; exact hP9, hD9, hS.F ht⟩) hS.2.2 dX2_require_57
    refine lv_aload_n hx hb dX2_require_28 rfl (lv_at hl 0 rfl) ?_
    refine va_get (D := G.1) (ci := 2) (v := .int st) (C := RX2) (T := TX2) (N := 13) hx hb hts hinX2 hown hK.1 hP 0 rfl rfl 3 (by decide) hw1 (fun _ h9 => h9) rfl dX2_require_29 ?_
    refine lv_bipush (v := 30) hx hb dX2_require_32 (by decide) ?_
    refine lv_icmp_eq (tgt := 44) hx hb dX2_require_34 (by decide) (fun c_34 => ?_) (fun c_34 => ?_)
    · refine lv_iconst (v := 1) hx hb dX2_require_44 (by decide) ?_
      refine lv_goto (tgt := 49) hx hb dX2_require_45 (by decide) ?_
      exact join_49 _ (by unfold orS; rw [if_pos c_34]) _ _ (hP.sub [0, 1, 2, 3, 4, 5] rfl) (hD.sub [0, 1, 2, 3, 4, 5] (by decide) rfl) hS ls (lv_sub hl [0, 1, 2] rfl)
    · refine lv_aload_n hx hb dX2_require_37 rfl (lv_at hl 0 rfl) ?_
      refine va_get (D := G.1) (ci := 2) (v := .int tk) (C := RX2) (T := TX2) (N := 13) hx hb hts hinX2 hown hK.1 hP 0 rfl rfl 7 (by decide) hw2 (fun _ h9 => h9) rfl dX2_require_38 ?_
      refine lv_if_eq (tgt := 48) hx hb dX2_require_41 (by decide) (fun c_41 => ?_) (fun c_41 => ?_)
      · refine lv_iconst (v := 0) hx hb dX2_require_48 (by decide) ?_
        exact join_49 _ (by unfold orS; rw [if_neg c_34, if_pos c_41]) _ _ (hP.sub [0, 1, 2, 3, 4, 5] rfl) (hD.sub [0, 1, 2, 3, 4, 5] (by decide) rfl) hS ls (lv_sub hl [0, 1, 2] rfl)
      · refine lv_iconst (v := 1) hx hb dX2_require_44 (by decide) ?_
        refine lv_goto (tgt := 49) hx hb dX2_require_45 (by decide) ?_
        exact join_49 _ (by unfold orS; rw [if_neg c_34, if_neg c_41]) _ _ (hP.sub [0, 1, 2, 3, 4, 5] rfl) (hD.sub [0, 1, 2, 3, 4, 5] (by decide) rfl) hS ls (lv_sub hl [0, 1, 2] rfl)
  refine lv_iload_n hx hb dX2_require_1 rfl (lv_at hl 1 rfl) ?_
  refine lv_iconst (v := 0) hx hb dX2_require_2 (by decide) ?_
  refine lv_iconst (v := 1) hx hb dX2_require_3 (by decide) ?_
  refine ro_call (va_runS (As := [.int x, .int 0, .int 1]) (rest := [.ref mo]) ⟨hx, hb, hml, hown, hts⟩ (c_X2_outside l G x 0 1) (va_cwS 3 hts gX2_require_X2_outside rfl rfl rfl (by decide +kernel) ⟨Nat.le_of_ble_eq_true rfl, Nat.le_of_ble_eq_true rfl⟩) ⟨ro_blind, ro_pre _ (hP.sub [] rfl) hK⟩ rfl rfl hl.1 rfl (lv_room (Nat.le_of_ble_eq_true rfl)) dX2_require_4 ⟨Nat.le_refl _, Nat.le_refl _⟩) ?_
  refine lv_if_ne (tgt := 23) hx hb dX2_require_7 (by decide) (fun c_7 => ?_) (fun c_7 => ?_)
  · refine lv_iconst (v := 1) hx hb dX2_require_23 (by decide) ?_
    refine lv_goto (tgt := 28) hx hb dX2_require_24 (by decide) ?_
    exact join_28 _ (by unfold orI; rw [if_neg c_7]) _ _ (hP.sub [0, 1, 2, 3, 4, 5] rfl) (hD.sub [0, 1, 2, 3, 4, 5] (by decide) rfl) hS ls (lv_sub hl [0, 1, 2] rfl)
  · refine lv_iload_n hx hb dX2_require_10 rfl (lv_at hl 2 rfl) ?_
    refine lv_sipush (v := (-9999)) hx hb dX2_require_11 (by decide) ?_
    refine lv_sipush (v := 9999) hx hb dX2_require_14 (by decide) ?_
    refine ro_call (va_runS (As := [.int y, .int (-9999), .int 9999]) (rest := [.ref mo]) ⟨hx, hb, hml, hown, hts⟩ (c_X2_outside l G y (-9999) 9999) (va_cwS 3 hts gX2_require_X2_outside rfl rfl rfl (by decide +kernel) ⟨Nat.le_of_ble_eq_true rfl, Nat.le_of_ble_eq_true rfl⟩) ⟨ro_blind, ro_pre _ (hP.sub [] rfl) hK⟩ rfl rfl hl.1 rfl (lv_room (Nat.le_of_ble_eq_true rfl)) dX2_require_17 ⟨Nat.le_refl _, Nat.le_refl _⟩) ?_
    refine lv_if_eq (tgt := 27) hx hb dX2_require_20 (by decide) (fun c_20 => ?_) (fun c_20 => ?_)
    · refine lv_iconst (v := 0) hx hb dX2_require_27 (by decide) ?_
      exact join_28 _ (by unfold orI; rw [if_pos c_7, if_pos c_20]) _ _ (hP.sub [0, 1, 2, 3, 4, 5] rfl) (hD.sub [0, 1, 2, 3, 4, 5] (by decide) rfl) hS ls (lv_sub hl [0, 1, 2] rfl)
    · refine lv_iconst (v := 1) hx hb dX2_require_23 (by decide) ?_
      refine lv_goto (tgt := 28) hx hb dX2_require_24 (by decide) ?_
      exact join_28 _ (by unfold orI; rw [if_pos c_7, if_neg c_20]) _ _ (hP.sub [0, 1, 2, 3, 4, 5] rfl) (hD.sub [0, 1, 2, 3, 4, 5] (by decide) rfl) hS ls (lv_sub hl [0, 1, 2] rfl)

abbrev rmX2_objective : Room := { frames := 1, cells := 0, slots := 0, locals := 23 }
set_option maxHeartbeats 4000000 in
set_option maxRecDepth 100000 in
theorem c_X2_objective (l : Launch) (G : Gt) (sz : Nat) (mo ce gv dr go sa : Nat) (th st sk tk be so le an : Int32) (fc fg fd fo fs : Nat → Int32) : Met l yX2_objective wsX2_objective rmX2_objective (mu_P G sz [.ref mo] [(mo, .inr (2, [.int th, .ref ce, .ref gv, .int st, .int sk, .ref dr, .ref go, .int tk, .int be, .int so, .int le, .int an, .ref sa])), (ce, eI G 418 fc), (gv, eZ G 30 fg), (dr, eI G 10 fd), (go, eI G 10 fo), (sa, eI G 10 fs)]) (mu_Q G none [(mo, .inr (2, [.int (thObj tk), .ref ce, .ref gv, .int st, .int sk, .ref dr, .ref go, .int tk, .int be, .int so, .int le, .int an, .ref sa])), (ce, eI G 418 fc), (gv, eZ G 30 fg), (dr, eI G 10 (if thObj tk = 0 then mixf 10 (fun _ => 0) fd else fd)), (go, eI G 10 (if thObj tk = 0 then mixf 10 fd fo else fo)), (sa, eI G 10 fs)] (va_A [(mo, .inr (2, [.int th, .ref ce, .ref gv, .int st, .int sk, .ref dr, .ref go, .int tk, .int be, .int so, .int le, .int an, .ref sa])), (ce, eI G 418 fc), (gv, eZ G 30 fg), (dr, eI G 10 fd), (go, eI G 10 fo), (sa, eI G 10 fs)] sz)) 0 0 (va_A [(mo, .inr (2, [.int th, .ref ce, .ref gv, .int st, .int sk, .ref dr, .ref go, .int tk, .int be, .int so, .int le, .int an, .ref sa])), (ce, eI G 418 fc), (gv, eZ G 30 fg), (dr, eI G 10 fd), (go, eI G 10 fo), (sa, eI G 10 fs)] sz) := by
  refine Met.ofW (cc := cX2_objective) (maxL := 2) (ret := none) (by decide) rfl ?_
  intro p e s m args below meth c s₁ B hml hv
  obtain ⟨rfl, hsz, hP, hD0, hK⟩ := hv
  have hx := B.exec
  have hb := B.bytes
  have hr := B.returns
  have hts := atoms_spec (ws := wsX2_objective) B.pre
  have hown : s.vm.findClass RX2 = some m.cls := findClass_of_methodNamed B.named
  have hlocks := B.notSynchronized
  subst hsz
  have hD := hD0.self (sz := s.heap.size)
  generalize hAe : va_A [(mo, .inr (2, [.int th, .ref ce, .ref gv, .int st, .int sk, .ref dr, .ref go, .int tk, .int be, .int so, .int le, .int an, .ref sa])), (ce, eI G 418 fc), (gv, eZ G 30 fg), (dr, eI G 10 fd), (go, eI G 10 fo), (sa, eI G 10 fs)] s.heap.size = A at hD ⊢
  have hA : ∀ q : Nat, s.heap.size ≤ q → A q := fun q h => by rw [← hAe]; exact Or.inr h
  have hS : va_S A s.heap s.heap [] := va_S.rf
  have hinX2 : ∀ w ∈ u_ws RX2 TX2 13, w ∈ wsX2_objective := fun w h => List.mem_cons_of_mem _ (List.mem_append_right _ h)
  have hw1 := hts (.fieldLink RX2 52 "ChoiceBoardModel" "taken" "Z") (by decide +kernel)
  have hw2 := hts (.fieldLink RX2 20 "ChoiceBoardModel" "goal" "[I") (by decide +kernel)
  have hw3 := hts (.fieldLink RX2 17 "ChoiceBoardModel" "draft" "[I") (by decide +kernel)
  have hl := lv_entry ([.ref mo]) (n := 2) (Nat.le_of_ble_eq_true rfl)
  rw [lg_entry_eq]
  generalize (lg_sl ([.ref mo]) ++ List.replicate (2 - (lg_sl ([.ref mo])).length) Slot.unset).toArray = ls at hl ⊢
  have hl : lv_has ls 2 [(0, .ref mo)] := hl
  refine lv_aload_n hx hb dX2_objective_0 rfl (lv_at hl 0 rfl) ?_
  refine lv_aload_n hx hb dX2_objective_1 rfl (lv_at hl 0 rfl) ?_
  refine va_get (D := G.1) (ci := 2) (v := .int tk) (C := RX2) (T := TX2) (N := 13) hx hb hts hinX2 hown hK.1 hP 0 rfl rfl 7 (by decide) hw1 (fun _ h9 => h9) rfl dX2_objective_2 ?_
  refine lv_iconst (v := 0) hx hb dX2_objective_5 (by decide) ?_
  refine lv_iconst (v := 0) hx hb dX2_objective_6 (by decide) ?_
  have eT : thObj tk = flI tk 0 0 := rfl
  refine mu_call (va_runV (As := [.int tk, .int 0, .int 0]) (rest := []) ⟨hx, hb, hml, hown, hts⟩ (c_X2_fails l G _ mo ce gv dr go sa th st sk tk be so le an fc fg fd fo fs tk 0 0) (cwV 3 hts gX2_objective_X2_fails rfl rfl rfl (by decide +kernel) ⟨Nat.le_of_ble_eq_true rfl, Nat.le_of_ble_eq_true rfl⟩) ⟨mu_blind, va_recv hK.1 hP (ci := 2) (q0 := 0) rfl rfl, mu_pre _ (hP.sub [0, 1, 2, 3, 4, 5] rfl) (hD.sub [0, 1, 2, 3, 4, 5] (by decide) rfl) hK⟩ rfl rfl hl.1 rfl (lv_room (Nat.le_of_ble_eq_true rfl)) dX2_objective_7 ⟨Nat.le_refl _, Nat.le_refl _⟩) hS (va_free hD hS hA [0, 1, 2, 3, 4, 5] rfl) (va_free hD hS hA [0, 1, 2, 3, 4, 5] rfl) (fun H1 locs hP1 hD1 hk1 hS => ?_)
  obtain ⟨hP, hD⟩ := rp_join (ws' := [(mo, .inr (2, [.int (flI tk 0 0), .ref ce, .ref gv, .int st, .int sk, .ref dr, .ref go, .int tk, .int be, .int so, .int le, .int an, .ref sa])), (ce, eI G 418 fc), (gv, eZ G 30 fg), (dr, eI G 10 fd), (go, eI G 10 fo), (sa, eI G 10 fs)]) hP hD [0, 1, 2, 3, 4, 5] rfl hk1 hP1 (fun k q h => match k, q, h with | 0, q, h => Or.inl ⟨0, h⟩ | 1, q, h => Or.inl ⟨1, h⟩ | 2, q, h => Or.inl ⟨2, h⟩ | 3, q, h => Or.inl ⟨3, h⟩ | 4, q, h => Or.inl ⟨4, h⟩ | 5, q, h => Or.inl ⟨5, h⟩ | k + 6, q, h => nomatch h) rfl
  generalize H1 = H at hP hS ⊢
  have hP : va_P G.1 vwCl [(mo, .inr (2, [.int (flI tk 0 0), .ref ce, .ref gv, .int st, .int sk, .ref dr, .ref go, .int tk, .int be, .int so, .int le, .int an, .ref sa])), (ce, eI G 418 fc), (gv, eZ G 30 fg), (dr, eI G 10 fd), (go, eI G 10 fo), (sa, eI G 10 fs)] H := hP
  have hD : va_D A [(mo, .inr (2, [.int (flI tk 0 0), .ref ce, .ref gv, .int st, .int sk, .ref dr, .ref go, .int tk, .int be, .int so, .int le, .int an, .ref sa])), (ce, eI G 418 fc), (gv, eZ G 30 fg), (dr, eI G 10 fd), (go, eI G 10 fo), (sa, eI G 10 fs)] := hD
  refine lv_if_eq (tgt := 14) hx hb dX2_objective_10 (by decide) (fun c_10 => ?_) (fun c_10 => ?_)
  · have hz : thObj tk = 0 := by rw [eT]; exact cnt0 c_10
    refine lv_iconst (v := 0) hx hb dX2_objective_14 (by decide) ?_
    refine lv_istore_n (lv' := [(1, .int 0), (0, .ref mo)]) hx hb dX2_objective_15 rfl hl (by decide) rfl (fun ls hl => ?_)
    have loop_16 : ∀ (n_16 i : Nat) (xi : Int32) (h : Nat → Int32), i ≤ 10 → 10 + 1 ≤ i + n_16 → (xi = nI i) → (h = mixf i fd fo) → ∀ (H : Heap) (locs : List Loc), va_P G.1 vwCl [(mo, .inr (2, [.int (flI tk 0 0), .ref ce, .ref gv, .int st, .int sk, .ref dr, .ref go, .int tk, .int be, .int so, .int le, .int an, .ref sa])), (ce, eI G 418 fc), (gv, eZ G 30 fg), (dr, eI G 10 fd), (go, eI G 10 h), (sa, eI G 10 fs)] H → va_D A [(mo, .inr (2, [.int (flI tk 0 0), .ref ce, .ref gv, .int st, .int sk, .ref dr, .ref go, .int tk, .int be, .int so, .int le, .int an, .ref sa])), (ce, eI G 418 fc), (gv, eZ G 30 fg), (dr, eI G 10 fd), (go, eI G 10 h), (sa, eI G 10 fs)] → va_S A s.heap H locs → ∀ ls : Array Slot, lv_has ls 2 [(0, .ref mo), (1, .int xi)] → W p l e rmX2_objective s m [.ref mo].toArray below meth c H locs 0 0 (MQ below (mu_Q G none [(mo, .inr (2, [.int (thObj tk), .ref ce, .ref gv, .int st, .int sk, .ref dr, .ref go, .int tk, .int be, .int so, .int le, .int an, .ref sa])), (ce, eI G 418 fc), (gv, eZ G 30 fg), (dr, eI G 10 (if thObj tk = 0 then mixf 10 (fun _ => 0) fd else fd)), (go, eI G 10 (if thObj tk = 0 then mixf 10 fd fo else fo)), (sa, eI G 10 fs)] A) [.ref mo].toArray s 0 0 A) (F0 m 16 ls []) := by
      intro n_16
      induction n_16 with
      | zero => intro i xi h h1 h2; exact absurd h2 (by omega)
      | succ n_16 ih_16 =>
        intro i xi h hi_16 hn_16 ei eh H locs hP hD hS ls hl
        refine lv_iload_n hx hb dX2_objective_16 rfl (lv_at hl 1 rfl) ?_
        refine lv_bipush (v := 10) hx hb dX2_objective_17 (by decide) ?_
        refine lv_icmp_ge (tgt := 40) hx hb dX2_objective_19 (by decide) (fun c_19 => ?_) (fun c_19 => ?_)
        · have hN : i = 10 := ge_ix ei (by decide) (by decide) c_19 hi_16
          rw [eh, hN] at hP hD
          refine lv_aload_n hx hb dX2_objective_40 rfl (lv_at hl 0 rfl) ?_
          refine mu_call (va_runV (As := []) (rest := []) ⟨hx, hb, hml, hown, hts⟩ (c_X2_empty l G _ mo ce gv dr go sa (flI tk 0 0) st sk tk be so le an fc fg fd (mixf 10 fd fo) fs) (cwV 0 hts gX2_objective_X2_empty rfl rfl rfl (by decide +kernel) ⟨Nat.le_of_ble_eq_true rfl, Nat.le_of_ble_eq_true rfl⟩) ⟨mu_blind, va_recv hK.1 hP (ci := 2) (q0 := 0) rfl rfl, mu_pre _ (hP.sub [0, 1, 2, 3, 4, 5] rfl) (hD.sub [0, 1, 2, 3, 4, 5] (by decide) rfl) hK⟩ rfl rfl hl.1 rfl (lv_room (Nat.le_of_ble_eq_true rfl)) dX2_objective_41 ⟨Nat.le_refl _, Nat.le_refl _⟩) hS (va_free hD hS hA [0, 1, 2, 3, 4, 5] rfl) (va_free hD hS hA [0, 1, 2, 3, 4, 5] rfl) (fun H1 locs hP1 hD1 hk1 hS => ?_)
          obtain ⟨hP, hD⟩ := rp_join (ws' := [(mo, .inr (2, [.int (flI tk 0 0), .ref ce, .ref gv, .int st, .int sk, .ref dr, .ref go, .int tk, .int be, .int so, .int le, .int an, .ref sa])), (ce, eI G 418 fc), (gv, eZ G 30 fg), (dr, eI G 10 (mixf 10 (fun _ => 0) fd)), (go, eI G 10 (mixf 10 fd fo)), (sa, eI G 10 fs)]) hP hD [0, 1, 2, 3, 4, 5] rfl hk1 hP1 (fun k q h => match k, q, h with | 0, q, h => Or.inl ⟨0, h⟩ | 1, q, h => Or.inl ⟨1, h⟩ | 2, q, h => Or.inl ⟨2, h⟩ | 3, q, h => Or.inl ⟨3, h⟩ | 4, q, h => Or.inl ⟨4, h⟩ | 5, q, h => Or.inl ⟨5, h⟩ | k + 6, q, h => nomatch h) rfl
          generalize H1 = H at hP hS ⊢
          have hP : va_P G.1 vwCl [(mo, .inr (2, [.int (flI tk 0 0), .ref ce, .ref gv, .int st, .int sk, .ref dr, .ref go, .int tk, .int be, .int so, .int le, .int an, .ref sa])), (ce, eI G 418 fc), (gv, eZ G 30 fg), (dr, eI G 10 (mixf 10 (fun _ => 0) fd)), (go, eI G 10 (mixf 10 fd fo)), (sa, eI G 10 fs)] H := hP
          have hD : va_D A [(mo, .inr (2, [.int (flI tk 0 0), .ref ce, .ref gv, .int st, .int sk, .ref dr, .ref go, .int tk, .int be, .int so, .int le, .int an, .ref sa])), (ce, eI G 418 fc), (gv, eZ G 30 fg), (dr, eI G 10 (mixf 10 (fun _ => 0) fd)), (go, eI G 10 (mixf 10 fd fo)), (sa, eI G 10 fs)] := hD
          have hP9 := hP.sub (ws' := [(mo, .inr (2, [.int (thObj tk), .ref ce, .ref gv, .int st, .int sk, .ref dr, .ref go, .int tk, .int be, .int so, .int le, .int an, .ref sa])), (ce, eI G 418 fc), (gv, eZ G 30 fg), (dr, eI G 10 (if thObj tk = 0 then mixf 10 (fun _ => 0) fd else fd)), (go, eI G 10 (if thObj tk = 0 then mixf 10 fd fo else fo)), (sa, eI G 10 fs)]) [0, 1, 2, 3, 4, 5] (by simp only [if_pos hz]; rw [eT]; rfl)
          have hD9 := hD.sub (ws' := [(mo, .inr (2, [.int (thObj tk), .ref ce, .ref gv, .int st, .int sk, .ref dr, .ref go, .int tk, .int be, .int so, .int le, .int an, .ref sa])), (ce, eI G 418 fc), (gv, eZ G 30 fg), (dr, eI G 10 (if thObj tk = 0 then mixf 10 (fun _ => 0) fd else fd)), (go, eI G 10 (if thObj tk = 0 then mixf 10 fd fo else fo)), (sa, eI G 10 fs)]) [0, 1, 2, 3, 4, 5] (by decide) (by simp only [if_pos hz]; rw [eT]; rfl)
          exact W.vret hx hb hr (fun t ht hW => ⟨rfl, by rw [ht]; exact hP9, hD9, hS.F ht⟩) hS.2.2 dX2_objective_44
        · have hlt : i < 10 := lt_ix ei (by decide) (by decide) c_19 hi_16
          refine lv_aload_n hx hb dX2_objective_22 rfl (lv_at hl 0 rfl) ?_
          refine va_get (D := G.1) (ci := 2) (v := .ref go) (C := RX2) (T := TX2) (N := 13) hx hb hts hinX2 hown hK.1 hP 0 rfl rfl 6 (by decide) hw2 (fun _ h9 => h9) rfl dX2_objective_23 ?_
          refine lv_iload_n hx hb dX2_objective_26 rfl (lv_at hl 1 rfl) ?_
          refine lv_aload_n hx hb dX2_objective_27 rfl (lv_at hl 0 rfl) ?_
          refine va_get (D := G.1) (ci := 2) (v := .ref dr) (C := RX2) (T := TX2) (N := 13) hx hb hts hinX2 hown hK.1 hP 0 rfl rfl 5 (by decide) hw3 (fun _ h9 => h9) rfl dX2_objective_28 ?_
          refine lv_iload_n hx hb dX2_objective_31 rfl (lv_at hl 1 rfl) ?_
          refine ra_iald (f := fd) (v := i) hx hb hK.1 hP 3 0 rfl rfl ei (by omega) (by decide) dX2_objective_32 ?_
          refine ra_iast (v := i) hx hb hK.1 hP hD hS 4 0 rfl rfl ei (by omega) (by decide) dX2_objective_33 (fun H locs hP hD hS => ?_)
          have hP : va_P G.1 vwCl [(mo, .inr (2, [.int (flI tk 0 0), .ref ce, .ref gv, .int st, .int sk, .ref dr, .ref go, .int tk, .int be, .int so, .int le, .int an, .ref sa])), (ce, eI G 418 fc), (gv, eZ G 30 fg), (dr, eI G 10 fd), (go, eI G 10 (upd h i (fd i))), (sa, eI G 10 fs)] H := hP
          have hD : va_D A [(mo, .inr (2, [.int (flI tk 0 0), .ref ce, .ref gv, .int st, .int sk, .ref dr, .ref go, .int tk, .int be, .int so, .int le, .int an, .ref sa])), (ce, eI G 418 fc), (gv, eZ G 30 fg), (dr, eI G 10 fd), (go, eI G 10 (upd h i (fd i))), (sa, eI G 10 fs)] := hD
          refine lv_iinc (v := xi + 1) (lv' := [(1, .int (xi + 1)), (0, .ref mo)]) hx hb dX2_objective_34 hl (k := 1) rfl rfl (by decide) rfl (fun ls hl => ?_)
          refine lv_goto (tgt := 16) hx hb dX2_objective_37 (by decide) ?_
          exact ih_16 (i + 1) _ _ (by omega) (by omega) (by rw [ei]; exact nI_1 i) (by rw [eh]; exact mixf_s i fd fo) _ _ (hP.sub [0, 1, 2, 3, 4, 5] rfl) (hD.sub [0, 1, 2, 3, 4, 5] (by decide) rfl) hS ls (lv_sub hl [1, 0] rfl)
    exact loop_16 (10 + 1) 0 _ _ (Nat.zero_le _) (by omega) (by exact nI_0.symm) (by exact (mixf_0 _ _).symm) _ _ (hP.sub [0, 1, 2, 3, 4, 5] rfl) (hD.sub [0, 1, 2, 3, 4, 5] (by decide) rfl) hS ls (lv_sub hl [1, 0] rfl)
  · have hz : ¬ thObj tk = 0 := by rw [eT]; exact cnt1 c_10
    have hP9 := hP.sub (ws' := [(mo, .inr (2, [.int (thObj tk), .ref ce, .ref gv, .int st, .int sk, .ref dr, .ref go, .int tk, .int be, .int so, .int le, .int an, .ref sa])), (ce, eI G 418 fc), (gv, eZ G 30 fg), (dr, eI G 10 (if thObj tk = 0 then mixf 10 (fun _ => 0) fd else fd)), (go, eI G 10 (if thObj tk = 0 then mixf 10 fd fo else fo)), (sa, eI G 10 fs)]) [0, 1, 2, 3, 4, 5] (by simp only [if_neg hz]; rw [eT]; rfl)
    have hD9 := hD.sub (ws' := [(mo, .inr (2, [.int (thObj tk), .ref ce, .ref gv, .int st, .int sk, .ref dr, .ref go, .int tk, .int be, .int so, .int le, .int an, .ref sa])), (ce, eI G 418 fc), (gv, eZ G 30 fg), (dr, eI G 10 (if thObj tk = 0 then mixf 10 (fun _ => 0) fd else fd)), (go, eI G 10 (if thObj tk = 0 then mixf 10 fd fo else fo)), (sa, eI G 10 fs)]) [0, 1, 2, 3, 4, 5] (by decide) (by simp only [if_neg hz]; rw [eT]; rfl)
    exact W.vret hx hb hr (fun t ht hW => ⟨rfl, by rw [ht]; exact hP9, hD9, hS.F ht⟩) hS.2.2 dX2_objective_13

abbrev rmX2_constraints : Room := { frames := 0, cells := 0, slots := 0, locals := 0 }
set_option maxHeartbeats 4000000 in
set_option maxRecDepth 100000 in
theorem c_X2_constraints (l : Launch) (G : Gt) (sz : Nat) (mo ce gv dr go sa : Nat) (th st sk tk be so le an : Int32) (fc fg fd fo fs : Nat → Int32) : Met l yX2_constraints wsX2_constraints rmX2_constraints (mu_P G sz [.ref mo] [(mo, .inr (2, [.int th, .ref ce, .ref gv, .int st, .int sk, .ref dr, .ref go, .int tk, .int be, .int so, .int le, .int an, .ref sa])), (ce, eI G 418 fc), (gv, eZ G 30 fg), (dr, eI G 10 fd), (go, eI G 10 fo), (sa, eI G 10 fs)]) (mu_Q G (some (.int st)) [(mo, .inr (2, [.int 0, .ref ce, .ref gv, .int st, .int sk, .ref dr, .ref go, .int tk, .int be, .int so, .int le, .int an, .ref sa])), (ce, eI G 418 fc), (gv, eZ G 30 fg), (dr, eI G 10 fd), (go, eI G 10 fo), (sa, eI G 10 fs)] (va_A [(mo, .inr (2, [.int th, .ref ce, .ref gv, .int st, .int sk, .ref dr, .ref go, .int tk, .int be, .int so, .int le, .int an, .ref sa])), (ce, eI G 418 fc), (gv, eZ G 30 fg), (dr, eI G 10 fd), (go, eI G 10 fo), (sa, eI G 10 fs)] sz)) 0 0 (va_A [(mo, .inr (2, [.int th, .ref ce, .ref gv, .int st, .int sk, .ref dr, .ref go, .int tk, .int be, .int so, .int le, .int an, .ref sa])), (ce, eI G 418 fc), (gv, eZ G 30 fg), (dr, eI G 10 fd), (go, eI G 10 fo), (sa, eI G 10 fs)] sz) := by
  refine Met.ofW (cc := cX2_constraints) (maxL := 1) (ret := (some .int)) (by decide) rfl ?_
  intro p e s m args below meth c s₁ B hml hv
  obtain ⟨rfl, hsz, hP, hD0, hK⟩ := hv
  have hx := B.exec
  have hb := B.bytes
  have hr := B.returns
  have hts := atoms_spec (ws := wsX2_constraints) B.pre
  have hown : s.vm.findClass RX2 = some m.cls := findClass_of_methodNamed B.named
  have hlocks := B.notSynchronized
  subst hsz
  have hD := hD0.self (sz := s.heap.size)
  generalize hAe : va_A [(mo, .inr (2, [.int th, .ref ce, .ref gv, .int st, .int sk, .ref dr, .ref go, .int tk, .int be, .int so, .int le, .int an, .ref sa])), (ce, eI G 418 fc), (gv, eZ G 30 fg), (dr, eI G 10 fd), (go, eI G 10 fo), (sa, eI G 10 fs)] s.heap.size = A at hD ⊢
  have hA : ∀ q : Nat, s.heap.size ≤ q → A q := fun q h => by rw [← hAe]; exact Or.inr h
  have hS : va_S A s.heap s.heap [] := va_S.rf
  have hinX2 : ∀ w ∈ u_ws RX2 TX2 13, w ∈ wsX2_constraints := fun w h => List.mem_cons_of_mem _ (List.mem_append_right _ h)
  have hw1 := hts (.fieldLink RX2 26 "ChoiceBoardModel" "thrown" "I") (by decide +kernel)
  have hw2 := hts (.fieldLink RX2 45 "ChoiceBoardModel" "stored" "I") (by decide +kernel)
  have hl := lv_entry ([.ref mo]) (n := 1) (Nat.le_of_ble_eq_true rfl)
  rw [lg_entry_eq]
  generalize (lg_sl ([.ref mo]) ++ List.replicate (1 - (lg_sl ([.ref mo])).length) Slot.unset).toArray = ls at hl ⊢
  have hl : lv_has ls 1 [(0, .ref mo)] := hl
  refine lv_aload_n hx hb dX2_constraints_0 rfl (lv_at hl 0 rfl) ?_
  refine lv_iconst (v := 0) hx hb dX2_constraints_1 (by decide) ?_
  refine va_put (D := G.1) (ci := 2) (v := .int 0) (ty := .int) (C := RX2) (T := TX2) (N := 13) hx hb hts hinX2 tyX2 tyX2_ok nmX2 hown hK.1 hP hD hS 0 rfl rfl 0 (by decide) hw1 (fun _ h9 => h9) rfl (by decide +kernel) rfl rfl (Nat.le_of_ble_eq_true rfl) dX2_constraints_2 (fun H locs hP hD hS => ?_)
  have hP : va_P G.1 vwCl [(mo, .inr (2, [.int 0, .ref ce, .ref gv, .int st, .int sk, .ref dr, .ref go, .int tk, .int be, .int so, .int le, .int an, .ref sa])), (ce, eI G 418 fc), (gv, eZ G 30 fg), (dr, eI G 10 fd), (go, eI G 10 fo), (sa, eI G 10 fs)] H := hP
  have hD : va_D A [(mo, .inr (2, [.int 0, .ref ce, .ref gv, .int st, .int sk, .ref dr, .ref go, .int tk, .int be, .int so, .int le, .int an, .ref sa])), (ce, eI G 418 fc), (gv, eZ G 30 fg), (dr, eI G 10 fd), (go, eI G 10 fo), (sa, eI G 10 fs)] := hD
  refine lv_aload_n hx hb dX2_constraints_5 rfl (lv_at hl 0 rfl) ?_
  refine va_get (D := G.1) (ci := 2) (v := .int st) (C := RX2) (T := TX2) (N := 13) hx hb hts hinX2 hown hK.1 hP 0 rfl rfl 3 (by decide) hw2 (fun _ h9 => h9) rfl dX2_constraints_6 ?_
  have hP9 := hP.sub (ws' := [(mo, .inr (2, [.int 0, .ref ce, .ref gv, .int st, .int sk, .ref dr, .ref go, .int tk, .int be, .int so, .int le, .int an, .ref sa])), (ce, eI G 418 fc), (gv, eZ G 30 fg), (dr, eI G 10 fd), (go, eI G 10 fo), (sa, eI G 10 fs)]) [0, 1, 2, 3, 4, 5] rfl
  have hD9 := hD.sub (ws' := [(mo, .inr (2, [.int 0, .ref ce, .ref gv, .int st, .int sk, .ref dr, .ref go, .int tk, .int be, .int so, .int le, .int an, .ref sa])), (ce, eI G 418 fc), (gv, eZ G 30 fg), (dr, eI G 10 fd), (go, eI G 10 fo), (sa, eI G 10 fs)]) [0, 1, 2, 3, 4, 5] (by decide) rfl
  exact W.iret (v := st) hx hb hr (fun t ht hW => ⟨congrArg (fun z => Outcome.returned (some (Value.int z))) (rfl), by rw [ht]; exact hP9, hD9, hS.F ht⟩) hS.2.2 dX2_constraints_9

abbrev rmX2_constraint : Room := { frames := 1, cells := 0, slots := 0, locals := 23 }
set_option maxHeartbeats 4000000 in
set_option maxRecDepth 100000 in
theorem c_X2_constraint (l : Launch) (G : Gt) (sz : Nat) (mo ce gv dr go sa : Nat) (th st sk tk be so le an : Int32) (fc fg fd fo fs : Nat → Int32) (x y : Int32) (k : Nat) (est : st = nI k) (hk30 : k ≤ 30) : Met l yX2_constraint wsX2_constraint rmX2_constraint (mu_P G sz [.ref mo, .int x, .int y] [(mo, .inr (2, [.int th, .ref ce, .ref gv, .int st, .int sk, .ref dr, .ref go, .int tk, .int be, .int so, .int le, .int an, .ref sa])), (ce, eI G 418 fc), (gv, eZ G 30 fg), (dr, eI G 10 fd), (go, eI G 10 fo), (sa, eI G 10 fs)]) (mu_Q G (some (.int (if thCon st x y = 0 then coR fc fg x y else 0))) [(mo, .inr (2, [.int (thCon st x y), .ref ce, .ref gv, .int st, .int sk, .ref dr, .ref go, .int tk, .int be, .int so, .int le, .int an, .ref sa])), (ce, eI G 418 fc), (gv, eZ G 30 fg), (dr, eI G 10 fd), (go, eI G 10 fo), (sa, eI G 10 fs)] (va_A [(mo, .inr (2, [.int th, .ref ce, .ref gv, .int st, .int sk, .ref dr, .ref go, .int tk, .int be, .int so, .int le, .int an, .ref sa])), (ce, eI G 418 fc), (gv, eZ G 30 fg), (dr, eI G 10 fd), (go, eI G 10 fo), (sa, eI G 10 fs)] sz)) 0 0 (va_A [(mo, .inr (2, [.int th, .ref ce, .ref gv, .int st, .int sk, .ref dr, .ref go, .int tk, .int be, .int so, .int le, .int an, .ref sa])), (ce, eI G 418 fc), (gv, eZ G 30 fg), (dr, eI G 10 fd), (go, eI G 10 fo), (sa, eI G 10 fs)] sz) := by
  refine Met.ofW (cc := cX2_constraint) (maxL := 3) (ret := (some .int)) (by decide) rfl ?_
  intro p e s m args below meth c s₁ B hml hv
  obtain ⟨rfl, hsz, hP, hD0, hK⟩ := hv
  have hx := B.exec
  have hb := B.bytes
  have hr := B.returns
  have hts := atoms_spec (ws := wsX2_constraint) B.pre
  have hown : s.vm.findClass RX2 = some m.cls := findClass_of_methodNamed B.named
  have hlocks := B.notSynchronized
  subst hsz
  have hD := hD0.self (sz := s.heap.size)
  generalize hAe : va_A [(mo, .inr (2, [.int th, .ref ce, .ref gv, .int st, .int sk, .ref dr, .ref go, .int tk, .int be, .int so, .int le, .int an, .ref sa])), (ce, eI G 418 fc), (gv, eZ G 30 fg), (dr, eI G 10 fd), (go, eI G 10 fo), (sa, eI G 10 fs)] s.heap.size = A at hD ⊢
  have hA : ∀ q : Nat, s.heap.size ≤ q → A q := fun q h => by rw [← hAe]; exact Or.inr h
  have hS : va_S A s.heap s.heap [] := va_S.rf
  have hinX2 : ∀ w ∈ u_ws RX2 TX2 13, w ∈ wsX2_constraint := fun w h => List.mem_cons_of_mem _ (List.mem_append_right _ h)
  have hw1 := hts (.fieldLink RX2 45 "ChoiceBoardModel" "stored" "I") (by decide +kernel)
  have hw2 := hts (.fieldLink RX2 7 "ChoiceBoardModel" "cell" "[I") (by decide +kernel)
  have hw3 := hts (.fieldLink RX2 13 "ChoiceBoardModel" "given" "[Z") (by decide +kernel)
  have hl := lv_entry ([.ref mo, .int x, .int y]) (n := 3) (Nat.le_of_ble_eq_true rfl)
  rw [lg_entry_eq]
  generalize (lg_sl ([.ref mo, .int x, .int y]) ++ List.replicate (3 - (lg_sl ([.ref mo, .int x, .int y])).length) Slot.unset).toArray = ls at hl ⊢
  have hl : lv_has ls 3 [(0, .ref mo), (1, .int x), (2, .int y)] := hl
  refine lv_aload_n hx hb dX2_constraint_0 rfl (lv_at hl 0 rfl) ?_
  refine lv_iload_n hx hb dX2_constraint_1 rfl (lv_at hl 1 rfl) ?_
  refine lv_iconst (v := 0) hx hb dX2_constraint_2 (by decide) ?_
  refine lv_aload_n hx hb dX2_constraint_3 rfl (lv_at hl 0 rfl) ?_
  refine va_get (D := G.1) (ci := 2) (v := .int st) (C := RX2) (T := TX2) (N := 13) hx hb hts hinX2 hown hK.1 hP 0 rfl rfl 3 (by decide) hw1 (fun _ h9 => h9) rfl dX2_constraint_4 ?_
  refine lv_iconst (v := 1) hx hb dX2_constraint_7 (by decide) ?_
  refine lv_isub hx hb dX2_constraint_8 ?_
  refine ro_call (va_runS (As := [.int x, .int 0, .int (st - 1)]) (rest := [.ref mo]) ⟨hx, hb, hml, hown, hts⟩ (c_X2_outside l G x 0 (st - 1)) (va_cwS 3 hts gX2_constraint_X2_outside rfl rfl rfl (by decide +kernel) ⟨Nat.le_of_ble_eq_true rfl, Nat.le_of_ble_eq_true rfl⟩) ⟨ro_blind, ro_pre _ (hP.sub [] rfl) hK⟩ rfl rfl hl.1 rfl (lv_room (Nat.le_of_ble_eq_true rfl)) dX2_constraint_9 ⟨Nat.le_refl _, Nat.le_refl _⟩) ?_
  refine lv_iload_n hx hb dX2_constraint_12 rfl (lv_at hl 2 rfl) ?_
  refine lv_bipush (v := (-2)) hx hb dX2_constraint_13 (by decide) ?_
  refine lv_bipush (v := 9) hx hb dX2_constraint_15 (by decide) ?_
  refine ro_call (va_runS (As := [.int y, .int (-2), .int 9]) (rest := [.int (outI x 0 (st - 1)), .ref mo]) ⟨hx, hb, hml, hown, hts⟩ (c_X2_outside l G y (-2) 9) (va_cwS 3 hts gX2_constraint_X2_outside rfl rfl rfl (by decide +kernel) ⟨Nat.le_of_ble_eq_true rfl, Nat.le_of_ble_eq_true rfl⟩) ⟨ro_blind, ro_pre _ (hP.sub [] rfl) hK⟩ rfl rfl hl.1 rfl (lv_room (Nat.le_of_ble_eq_true rfl)) dX2_constraint_17 ⟨Nat.le_refl _, Nat.le_refl _⟩) ?_
  refine lv_iconst (v := 0) hx hb dX2_constraint_20 (by decide) ?_
  have eT : thCon st x y = flI (outI x 0 (st - 1)) (outI y (-2) 9) 0 := rfl
  refine mu_call (va_runV (As := [.int (outI x 0 (st - 1)), .int (outI y (-2) 9), .int 0]) (rest := []) ⟨hx, hb, hml, hown, hts⟩ (c_X2_fails l G _ mo ce gv dr go sa th st sk tk be so le an fc fg fd fo fs (outI x 0 (st - 1)) (outI y (-2) 9) 0) (cwV 3 hts gX2_constraint_X2_fails rfl rfl rfl (by decide +kernel) ⟨Nat.le_of_ble_eq_true rfl, Nat.le_of_ble_eq_true rfl⟩) ⟨mu_blind, va_recv hK.1 hP (ci := 2) (q0 := 0) rfl rfl, mu_pre _ (hP.sub [0, 1, 2, 3, 4, 5] rfl) (hD.sub [0, 1, 2, 3, 4, 5] (by decide) rfl) hK⟩ rfl rfl hl.1 rfl (lv_room (Nat.le_of_ble_eq_true rfl)) dX2_constraint_21 ⟨Nat.le_refl _, Nat.le_refl _⟩) hS (va_free hD hS hA [0, 1, 2, 3, 4, 5] rfl) (va_free hD hS hA [0, 1, 2, 3, 4, 5] rfl) (fun H1 locs hP1 hD1 hk1 hS => ?_)
  obtain ⟨hP, hD⟩ := rp_join (ws' := [(mo, .inr (2, [.int (flI (outI x 0 (st - 1)) (outI y (-2) 9) 0), .ref ce, .ref gv, .int st, .int sk, .ref dr, .ref go, .int tk, .int be, .int so, .int le, .int an, .ref sa])), (ce, eI G 418 fc), (gv, eZ G 30 fg), (dr, eI G 10 fd), (go, eI G 10 fo), (sa, eI G 10 fs)]) hP hD [0, 1, 2, 3, 4, 5] rfl hk1 hP1 (fun k q h => match k, q, h with | 0, q, h => Or.inl ⟨0, h⟩ | 1, q, h => Or.inl ⟨1, h⟩ | 2, q, h => Or.inl ⟨2, h⟩ | 3, q, h => Or.inl ⟨3, h⟩ | 4, q, h => Or.inl ⟨4, h⟩ | 5, q, h => Or.inl ⟨5, h⟩ | k + 6, q, h => nomatch h) rfl
  generalize H1 = H at hP hS ⊢
  have hP : va_P G.1 vwCl [(mo, .inr (2, [.int (flI (outI x 0 (st - 1)) (outI y (-2) 9) 0), .ref ce, .ref gv, .int st, .int sk, .ref dr, .ref go, .int tk, .int be, .int so, .int le, .int an, .ref sa])), (ce, eI G 418 fc), (gv, eZ G 30 fg), (dr, eI G 10 fd), (go, eI G 10 fo), (sa, eI G 10 fs)] H := hP
  have hD : va_D A [(mo, .inr (2, [.int (flI (outI x 0 (st - 1)) (outI y (-2) 9) 0), .ref ce, .ref gv, .int st, .int sk, .ref dr, .ref go, .int tk, .int be, .int so, .int le, .int an, .ref sa])), (ce, eI G 418 fc), (gv, eZ G 30 fg), (dr, eI G 10 fd), (go, eI G 10 fo), (sa, eI G 10 fs)] := hD
  refine lv_if_eq (tgt := 29) hx hb dX2_constraint_24 (by decide) (fun c_24 => ?_) (fun c_24 => ?_)
  · have hz : thCon st x y = 0 := by rw [eT]; exact cnt0 c_24
    obtain ⟨exn, hxn⟩ := outS est (by omega) (fl0 hz).1
    refine lv_iload_n hx hb dX2_constraint_29 rfl (lv_at hl 2 rfl) ?_
    refine lv_bipush (v := (-2)) hx hb dX2_constraint_30 (by decide) ?_
    refine lv_icmp_ne (tgt := 52) hx hb dX2_constraint_32 (by decide) (fun c_32 => ?_) (fun c_32 => ?_)
    · refine lv_aload_n hx hb dX2_constraint_52 rfl (lv_at hl 0 rfl) ?_
      refine va_get (D := G.1) (ci := 2) (v := .ref ce) (C := RX2) (T := TX2) (N := 13) hx hb hts hinX2 hown hK.1 hP 0 rfl rfl 1 (by decide) hw2 (fun _ h9 => h9) rfl dX2_constraint_53 ?_
      refine lv_bipush (v := 11) hx hb dX2_constraint_56 (by decide) ?_
      refine lv_iload_n hx hb dX2_constraint_58 rfl (lv_at hl 1 rfl) ?_
      refine lv_imul hx hb dX2_constraint_59 ?_
      refine lv_iload_n hx hb dX2_constraint_60 rfl (lv_at hl 2 rfl) ?_
      refine lv_iconst (v := (-1)) hx hb dX2_constraint_61 (by decide) ?_
      refine lv_icmp_ne (tgt := 70) hx hb dX2_constraint_62 (by decide) (fun c_62 => ?_) (fun c_62 => ?_)
      · obtain ⟨eyn, hyn⟩ := outV (fl0 hz).2.1 c_32 c_62
        refine lv_iload_n hx hb dX2_constraint_70 rfl (lv_at hl 2 rfl) ?_
        refine lv_iadd hx hb dX2_constraint_71 ?_
        refine ra_iald (f := fc) (v := (11 * x.toNatClampNeg + y.toNatClampNeg)) hx hb hK.1 hP 1 0 rfl rfl (na_add (na_mul (by decide) exn) eyn) (by omega) (by decide) dX2_constraint_72 ?_
        have hP9 := hP.sub (ws' := [(mo, .inr (2, [.int (thCon st x y), .ref ce, .ref gv, .int st, .int sk, .ref dr, .ref go, .int tk, .int be, .int so, .int le, .int an, .ref sa])), (ce, eI G 418 fc), (gv, eZ G 30 fg), (dr, eI G 10 fd), (go, eI G 10 fo), (sa, eI G 10 fs)]) [0, 1, 2, 3, 4, 5] (by rw [eT]; rfl)
        have hD9 := hD.sub (ws' := [(mo, .inr (2, [.int (thCon st x y), .ref ce, .ref gv, .int st, .int sk, .ref dr, .ref go, .int tk, .int be, .int so, .int le, .int an, .ref sa])), (ce, eI G 418 fc), (gv, eZ G 30 fg), (dr, eI G 10 fd), (go, eI G 10 fo), (sa, eI G 10 fs)]) [0, 1, 2, 3, 4, 5] (by decide) (by rw [eT]; rfl)
        exact W.iret (v := fc (11 * x.toNatClampNeg + y.toNatClampNeg)) hx hb hr (fun t ht hW => ⟨congrArg (fun z => Outcome.returned (some (Value.int z))) (by rw [if_pos hz]; unfold coR; rw [if_neg c_32, if_neg c_62]), by rw [ht]; exact hP9, hD9, hS.F ht⟩) hS.2.2 dX2_constraint_73
      · refine lv_bipush (v := 10) hx hb dX2_constraint_65 (by decide) ?_
        refine lv_goto (tgt := 71) hx hb dX2_constraint_67 (by decide) ?_
        refine lv_iadd hx hb dX2_constraint_71 ?_
        refine ra_iald (f := fc) (v := (11 * x.toNatClampNeg + 10)) hx hb hK.1 hP 1 0 rfl rfl (na_add (na_mul (by decide) exn) (by decide)) (by omega) (by decide) dX2_constraint_72 ?_
        have hP9 := hP.sub (ws' := [(mo, .inr (2, [.int (thCon st x y), .ref ce, .ref gv, .int st, .int sk, .ref dr, .ref go, .int tk, .int be, .int so, .int le, .int an, .ref sa])), (ce, eI G 418 fc), (gv, eZ G 30 fg), (dr, eI G 10 fd), (go, eI G 10 fo), (sa, eI G 10 fs)]) [0, 1, 2, 3, 4, 5] (by rw [eT]; rfl)
        have hD9 := hD.sub (ws' := [(mo, .inr (2, [.int (thCon st x y), .ref ce, .ref gv, .int st, .int sk, .ref dr, .ref go, .int tk, .int be, .int so, .int le, .int an, .ref sa])), (ce, eI G 418 fc), (gv, eZ G 30 fg), (dr, eI G 10 fd), (go, eI G 10 fo), (sa, eI G 10 fs)]) [0, 1, 2, 3, 4, 5] (by decide) (by rw [eT]; rfl)
        exact W.iret (v := fc (11 * x.toNatClampNeg + 10)) hx hb hr (fun t ht hW => ⟨congrArg (fun z => Outcome.returned (some (Value.int z))) (by rw [if_pos hz]; unfold coR; rw [if_neg c_32, if_pos c_62]), by rw [ht]; exact hP9, hD9, hS.F ht⟩) hS.2.2 dX2_constraint_73
    · refine lv_aload_n hx hb dX2_constraint_35 rfl (lv_at hl 0 rfl) ?_
      refine va_get (D := G.1) (ci := 2) (v := .ref gv) (C := RX2) (T := TX2) (N := 13) hx hb hts hinX2 hown hK.1 hP 0 rfl rfl 2 (by decide) hw3 (fun _ h9 => h9) rfl dX2_constraint_36 ?_
      refine lv_iload_n hx hb dX2_constraint_39 rfl (lv_at hl 1 rfl) ?_
      refine ra_zald (f := fg) (v := x.toNatClampNeg) hx hb hK.1 hP 2 1 rfl rfl exn (by omega) (by decide) dX2_constraint_40 ?_
      refine lv_if_eq (tgt := 48) hx hb dX2_constraint_41 (by decide) (fun c_41 => ?_) (fun c_41 => ?_)
      · refine lv_iconst (v := 0) hx hb dX2_constraint_48 (by decide) ?_
        refine lv_goto (tgt := 73) hx hb dX2_constraint_49 (by decide) ?_
        have hP9 := hP.sub (ws' := [(mo, .inr (2, [.int (thCon st x y), .ref ce, .ref gv, .int st, .int sk, .ref dr, .ref go, .int tk, .int be, .int so, .int le, .int an, .ref sa])), (ce, eI G 418 fc), (gv, eZ G 30 fg), (dr, eI G 10 fd), (go, eI G 10 fo), (sa, eI G 10 fs)]) [0, 1, 2, 3, 4, 5] (by rw [eT]; rfl)
        have hD9 := hD.sub (ws' := [(mo, .inr (2, [.int (thCon st x y), .ref ce, .ref gv, .int st, .int sk, .ref dr, .ref go, .int tk, .int be, .int so, .int le, .int an, .ref sa])), (ce, eI G 418 fc), (gv, eZ G 30 fg), (dr, eI G 10 fd), (go, eI G 10 fo), (sa, eI G 10 fs)]) [0, 1, 2, 3, 4, 5] (by decide) (by rw [eT]; rfl)
        exact W.iret (v := 0) hx hb hr (fun t ht hW => ⟨congrArg (fun z => Outcome.returned (some (Value.int z))) (by rw [if_pos hz]; unfold coR; rw [if_pos c_32, if_pos c_41]), by rw [ht]; exact hP9, hD9, hS.F ht⟩) hS.2.2 dX2_constraint_73
      · refine lv_iconst (v := 1) hx hb dX2_constraint_44 (by decide) ?_
        refine lv_goto (tgt := 73) hx hb dX2_constraint_45 (by decide) ?_
        have hP9 := hP.sub (ws' := [(mo, .inr (2, [.int (thCon st x y), .ref ce, .ref gv, .int st, .int sk, .ref dr, .ref go, .int tk, .int be, .int so, .int le, .int an, .ref sa])), (ce, eI G 418 fc), (gv, eZ G 30 fg), (dr, eI G 10 fd), (go, eI G 10 fo), (sa, eI G 10 fs)]) [0, 1, 2, 3, 4, 5] (by rw [eT]; rfl)
        have hD9 := hD.sub (ws' := [(mo, .inr (2, [.int (thCon st x y), .ref ce, .ref gv, .int st, .int sk, .ref dr, .ref go, .int tk, .int be, .int so, .int le, .int an, .ref sa])), (ce, eI G 418 fc), (gv, eZ G 30 fg), (dr, eI G 10 fd), (go, eI G 10 fo), (sa, eI G 10 fs)]) [0, 1, 2, 3, 4, 5] (by decide) (by rw [eT]; rfl)
        exact W.iret (v := 1) hx hb hr (fun t ht hW => ⟨congrArg (fun z => Outcome.returned (some (Value.int z))) (by rw [if_pos hz]; unfold coR; rw [if_pos c_32, if_neg c_41]), by rw [ht]; exact hP9, hD9, hS.F ht⟩) hS.2.2 dX2_constraint_73
  · have hz : ¬ thCon st x y = 0 := by rw [eT]; exact cnt1 c_24
    refine lv_iconst (v := 0) hx hb dX2_constraint_27 (by decide) ?_
    have hP9 := hP.sub (ws' := [(mo, .inr (2, [.int (thCon st x y), .ref ce, .ref gv, .int st, .int sk, .ref dr, .ref go, .int tk, .int be, .int so, .int le, .int an, .ref sa])), (ce, eI G 418 fc), (gv, eZ G 30 fg), (dr, eI G 10 fd), (go, eI G 10 fo), (sa, eI G 10 fs)]) [0, 1, 2, 3, 4, 5] (by rw [eT]; rfl)
    have hD9 := hD.sub (ws' := [(mo, .inr (2, [.int (thCon st x y), .ref ce, .ref gv, .int st, .int sk, .ref dr, .ref go, .int tk, .int be, .int so, .int le, .int an, .ref sa])), (ce, eI G 418 fc), (gv, eZ G 30 fg), (dr, eI G 10 fd), (go, eI G 10 fo), (sa, eI G 10 fs)]) [0, 1, 2, 3, 4, 5] (by decide) (by rw [eT]; rfl)
    exact W.iret (v := 0) hx hb hr (fun t ht hW => ⟨congrArg (fun z => Outcome.returned (some (Value.int z))) ((if_neg hz).symm), by rw [ht]; exact hP9, hD9, hS.F ht⟩) hS.2.2 dX2_constraint_28

abbrev rmX2_close : Room := { frames := 4, cells := 0, slots := 0, locals := 95 }
set_option maxHeartbeats 4000000 in
set_option maxRecDepth 100000 in
theorem c_X2_close (l : Launch) (G : Gt) (sz : Nat) (mo ce gv dr go sa : Nat) (th st sk tk be so le an : Int32) (fc fg fd fo fs : Nat → Int32) (x y : Int32) (k : Nat) (est : st = nI k) (hk30 : k ≤ 30) : Met l yX2_close wsX2_close rmX2_close (mu_P G sz [.ref mo, .int x, .int y] [(mo, .inr (2, [.int th, .ref ce, .ref gv, .int st, .int sk, .ref dr, .ref go, .int tk, .int be, .int so, .int le, .int an, .ref sa])), (ce, eI G 418 fc), (gv, eZ G 30 fg), (dr, eI G 10 fd), (go, eI G 10 fo), (sa, eI G 10 fs)]) (mu_Q G (some (.int (if thClo x y = 0 then clM fc fs k x y else 0))) [(mo, .inr (2, [.int (thClo x y), .ref ce, .ref gv, .int st, .int sk, .ref dr, .ref go, .int tk, .int be, .int so, .int le, .int an, .ref sa])), (ce, eI G 418 fc), (gv, eZ G 30 fg), (dr, eI G 10 fd), (go, eI G 10 fo), (sa, eI G 10 (if thClo x y = 0 then (clO fc k 0 (mixf 10 (st0 x y) fs) 12).1 else fs))] (va_A [(mo, .inr (2, [.int th, .ref ce, .ref gv, .int st, .int sk, .ref dr, .ref go, .int tk, .int be, .int so, .int le, .int an, .ref sa])), (ce, eI G 418 fc), (gv, eZ G 30 fg), (dr, eI G 10 fd), (go, eI G 10 fo), (sa, eI G 10 fs)] sz)) 0 0 (va_A [(mo, .inr (2, [.int th, .ref ce, .ref gv, .int st, .int sk, .ref dr, .ref go, .int tk, .int be, .int so, .int le, .int an, .ref sa])), (ce, eI G 418 fc), (gv, eZ G 30 fg), (dr, eI G 10 fd), (go, eI G 10 fo), (sa, eI G 10 fs)] sz) := by
  refine Met.ofW (cc := cX2_close) (maxL := 5) (ret := (some .int)) (by decide) rfl ?_
  intro p e s m args below meth c s₁ B hml hv
  obtain ⟨rfl, hsz, hP, hD0, hK⟩ := hv
  have hx := B.exec
  have hb := B.bytes
  have hr := B.returns
  have hts := atoms_spec (ws := wsX2_close) B.pre
  have hown : s.vm.findClass RX2 = some m.cls := findClass_of_methodNamed B.named
  have hlocks := B.notSynchronized
  subst hsz
  have hD := hD0.self (sz := s.heap.size)
  generalize hAe : va_A [(mo, .inr (2, [.int th, .ref ce, .ref gv, .int st, .int sk, .ref dr, .ref go, .int tk, .int be, .int so, .int le, .int an, .ref sa])), (ce, eI G 418 fc), (gv, eZ G 30 fg), (dr, eI G 10 fd), (go, eI G 10 fo), (sa, eI G 10 fs)] s.heap.size = A at hD ⊢
  have hA : ∀ q : Nat, s.heap.size ≤ q → A q := fun q h => by rw [← hAe]; exact Or.inr h
  have hS : va_S A s.heap s.heap [] := va_S.rf
  have hinX2 : ∀ w ∈ u_ws RX2 TX2 13, w ∈ wsX2_close := fun w h => List.mem_cons_of_mem _ (List.mem_append_right _ h)
  have hw1 := hts (.fieldLink RX2 23 "ChoiceBoardModel" "state" "[I") (by decide +kernel)
  have hl := lv_entry ([.ref mo, .int x, .int y]) (n := 5) (Nat.le_of_ble_eq_true rfl)
  rw [lg_entry_eq]
  generalize (lg_sl ([.ref mo, .int x, .int y]) ++ List.replicate (5 - (lg_sl ([.ref mo, .int x, .int y])).length) Slot.unset).toArray = ls at hl ⊢
  have hl : lv_has ls 5 [(0, .ref mo), (1, .int x), (2, .int y)] := hl
  refine lv_aload_n hx hb dX2_close_0 rfl (lv_at hl 0 rfl) ?_
  have join_28 : ∀ (x1 : Int32), (x1 = orI (outI x 0 1023) (outI y 0 1023)) → ∀ (H : Heap) (locs : List Loc), va_P G.1 vwCl [(mo, .inr (2, [.int th, .ref ce, .ref gv, .int st, .int sk, .ref dr, .ref go, .int tk, .int be, .int so, .int le, .int an, .ref sa])), (ce, eI G 418 fc), (gv, eZ G 30 fg), (dr, eI G 10 fd), (go, eI G 10 fo), (sa, eI G 10 fs)] H → va_D A [(mo, .inr (2, [.int th, .ref ce, .ref gv, .int st, .int sk, .ref dr, .ref go, .int tk, .int be, .int so, .int le, .int an, .ref sa])), (ce, eI G 418 fc), (gv, eZ G 30 fg), (dr, eI G 10 fd), (go, eI G 10 fo), (sa, eI G 10 fs)] → va_S A s.heap H locs → ∀ ls : Array Slot, lv_has ls 5 [(0, .ref mo), (1, .int x), (2, .int y)] → W p l e rmX2_close s m [.ref mo, .int x, .int y].toArray below meth c H locs 0 0 (MQ below (mu_Q G (some (.int (if thClo x y = 0 then clM fc fs k x y else 0))) [(mo, .inr (2, [.int (thClo x y), .ref ce, .ref gv, .int st, .int sk, .ref dr, .ref go, .int tk, .int be, .int so, .int le, .int an, .ref sa])), (ce, eI G 418 fc), (gv, eZ G 30 fg), (dr, eI G 10 fd), (go, eI G 10 fo), (sa, eI G 10 (if thClo x y = 0 then (clO fc k 0 (mixf 10 (st0 x y) fs) 12).1 else fs))] A) [.ref mo, .int x, .int y].toArray s 0 0 A) (F0 m 28 ls [.int x1, .ref mo]) := by
    intro x1 ex1 H locs hP hD hS ls hl
    refine lv_iconst (v := 0) hx hb dX2_close_28 (by decide) ?_
    refine lv_iconst (v := 0) hx hb dX2_close_29 (by decide) ?_
    have eT : thClo x y = flI x1 0 0 := by unfold thClo; rw [← ex1]
    refine mu_call (va_runV (As := [.int x1, .int 0, .int 0]) (rest := []) ⟨hx, hb, hml, hown, hts⟩ (c_X2_fails l G _ mo ce gv dr go sa th st sk tk be so le an fc fg fd fo fs x1 0 0) (cwV 3 hts gX2_close_X2_fails rfl rfl rfl (by decide +kernel) ⟨Nat.le_of_ble_eq_true rfl, Nat.le_of_ble_eq_true rfl⟩) ⟨mu_blind, va_recv hK.1 hP (ci := 2) (q0 := 0) rfl rfl, mu_pre _ (hP.sub [0, 1, 2, 3, 4, 5] rfl) (hD.sub [0, 1, 2, 3, 4, 5] (by decide) rfl) hK⟩ rfl rfl hl.1 rfl (lv_room (Nat.le_of_ble_eq_true rfl)) dX2_close_30 ⟨Nat.le_refl _, Nat.le_refl _⟩) hS (va_free hD hS hA [0, 1, 2, 3, 4, 5] rfl) (va_free hD hS hA [0, 1, 2, 3, 4, 5] rfl) (fun H1 locs hP1 hD1 hk1 hS => ?_)
    obtain ⟨hP, hD⟩ := rp_join (ws' := [(mo, .inr (2, [.int (flI x1 0 0), .ref ce, .ref gv, .int st, .int sk, .ref dr, .ref go, .int tk, .int be, .int so, .int le, .int an, .ref sa])), (ce, eI G 418 fc), (gv, eZ G 30 fg), (dr, eI G 10 fd), (go, eI G 10 fo), (sa, eI G 10 fs)]) hP hD [0, 1, 2, 3, 4, 5] rfl hk1 hP1 (fun k q h => match k, q, h with | 0, q, h => Or.inl ⟨0, h⟩ | 1, q, h => Or.inl ⟨1, h⟩ | 2, q, h => Or.inl ⟨2, h⟩ | 3, q, h => Or.inl ⟨3, h⟩ | 4, q, h => Or.inl ⟨4, h⟩ | 5, q, h => Or.inl ⟨5, h⟩ | k + 6, q, h => nomatch h) rfl
    generalize H1 = H at hP hS ⊢
    have hP : va_P G.1 vwCl [(mo, .inr (2, [.int (flI x1 0 0), .ref ce, .ref gv, .int st, .int sk, .ref dr, .ref go, .int tk, .int be, .int so, .int le, .int an, .ref sa])), (ce, eI G 418 fc), (gv, eZ G 30 fg), (dr, eI G 10 fd), (go, eI G 10 fo), (sa, eI G 10 fs)] H := hP
    have hD : va_D A [(mo, .inr (2, [.int (flI x1 0 0), .ref ce, .ref gv, .int st, .int sk, .ref dr, .ref go, .int tk, .int be, .int so, .int le, .int an, .ref sa])), (ce, eI G 418 fc), (gv, eZ G 30 fg), (dr, eI G 10 fd), (go, eI G 10 fo), (sa, eI G 10 fs)] := hD
    refine lv_if_eq (tgt := 38) hx hb dX2_close_33 (by decide) (fun c_33 => ?_) (fun c_33 => ?_)
    · have hz : thClo x y = 0 := by rw [eT]; exact cnt0 c_33
      refine lv_iconst (v := 0) hx hb dX2_close_38 (by decide) ?_
      refine lv_istore_n (lv' := [(3, .int 0), (0, .ref mo), (1, .int x), (2, .int y)]) hx hb dX2_close_39 rfl hl (by decide) rfl (fun ls hl => ?_)
      have loop_40 : ∀ (n_40 i : Nat) (xi : Int32) (h : Nat → Int32), i ≤ 10 → 10 + 1 ≤ i + n_40 → (xi = nI i) → (h = mixf i (st0 x y) fs) → ∀ (H : Heap) (locs : List Loc), va_P G.1 vwCl [(mo, .inr (2, [.int (flI x1 0 0), .ref ce, .ref gv, .int st, .int sk, .ref dr, .ref go, .int tk, .int be, .int so, .int le, .int an, .ref sa])), (ce, eI G 418 fc), (gv, eZ G 30 fg), (dr, eI G 10 fd), (go, eI G 10 fo), (sa, eI G 10 h)] H → va_D A [(mo, .inr (2, [.int (flI x1 0 0), .ref ce, .ref gv, .int st, .int sk, .ref dr, .ref go, .int tk, .int be, .int so, .int le, .int an, .ref sa])), (ce, eI G 418 fc), (gv, eZ G 30 fg), (dr, eI G 10 fd), (go, eI G 10 fo), (sa, eI G 10 h)] → va_S A s.heap H locs → ∀ ls : Array Slot, lv_has ls 5 [(0, .ref mo), (1, .int x), (2, .int y), (3, .int xi)] → W p l e rmX2_close s m [.ref mo, .int x, .int y].toArray below meth c H locs 0 0 (MQ below (mu_Q G (some (.int (if thClo x y = 0 then clM fc fs k x y else 0))) [(mo, .inr (2, [.int (thClo x y), .ref ce, .ref gv, .int st, .int sk, .ref dr, .ref go, .int tk, .int be, .int so, .int le, .int an, .ref sa])), (ce, eI G 418 fc), (gv, eZ G 30 fg), (dr, eI G 10 fd), (go, eI G 10 fo), (sa, eI G 10 (if thClo x y = 0 then (clO fc k 0 (mixf 10 (st0 x y) fs) 12).1 else fs))] A) [.ref mo, .int x, .int y].toArray s 0 0 A) (F0 m 40 ls []) := by
        intro n_40
        induction n_40 with
        | zero => intro i xi h h1 h2; exact absurd h2 (by omega)
        | succ n_40 ih_40 =>
          intro i xi h hi_40 hn_40 ei eh H locs hP hD hS ls hl
          refine lv_iload_n hx hb dX2_close_40 rfl (lv_at hl 3 rfl) ?_
          refine lv_bipush (v := 10) hx hb dX2_close_41 (by decide) ?_
          refine lv_icmp_ge (tgt := 76) hx hb dX2_close_43 (by decide) (fun c_43 => ?_) (fun c_43 => ?_)
          · have hN : i = 10 := ge_ix ei (by decide) (by decide) c_43 hi_40
            rw [eh, hN] at hP hD
            refine lv_aload_n hx hb dX2_close_76 rfl (lv_at hl 0 rfl) ?_
            refine lv_iconst (v := 0) hx hb dX2_close_77 (by decide) ?_
            refine mu_call (va_runV (As := [.int 0]) (rest := []) ⟨hx, hb, hml, hown, hts⟩ (c_X2_closes l G _ mo ce gv dr go sa (flI x1 0 0) st sk tk be so le an fc fg fd fo (mixf 10 (st0 x y) fs) 0 k est (by omega)) (cwV 1 hts gX2_close_X2_closes rfl rfl rfl (by decide +kernel) ⟨Nat.le_of_ble_eq_true rfl, Nat.le_of_ble_eq_true rfl⟩) ⟨mu_blind, va_recv hK.1 hP (ci := 2) (q0 := 0) rfl rfl, mu_pre _ (hP.sub [0, 1, 2, 3, 4, 5] rfl) (hD.sub [0, 1, 2, 3, 4, 5] (by decide) rfl) hK⟩ rfl rfl hl.1 rfl (lv_room (Nat.le_of_ble_eq_true rfl)) dX2_close_78 ⟨Nat.le_refl _, Nat.le_refl _⟩) hS (va_free hD hS hA [0, 1, 2, 3, 4, 5] rfl) (va_free hD hS hA [0, 1, 2, 3, 4, 5] rfl) (fun H1 locs hP1 hD1 hk1 hS => ?_)
            obtain ⟨hP, hD⟩ := rp_join (ws' := [(mo, .inr (2, [.int (flI x1 0 0), .ref ce, .ref gv, .int st, .int sk, .ref dr, .ref go, .int tk, .int be, .int so, .int le, .int an, .ref sa])), (ce, eI G 418 fc), (gv, eZ G 30 fg), (dr, eI G 10 fd), (go, eI G 10 fo), (sa, eI G 10 ((clO fc k 0 (mixf 10 (st0 x y) fs) 12).1))]) hP hD [0, 1, 2, 3, 4, 5] rfl hk1 hP1 (fun k q h => match k, q, h with | 0, q, h => Or.inl ⟨0, h⟩ | 1, q, h => Or.inl ⟨1, h⟩ | 2, q, h => Or.inl ⟨2, h⟩ | 3, q, h => Or.inl ⟨3, h⟩ | 4, q, h => Or.inl ⟨4, h⟩ | 5, q, h => Or.inl ⟨5, h⟩ | k + 6, q, h => nomatch h) rfl
            generalize H1 = H at hP hS ⊢
            have hP : va_P G.1 vwCl [(mo, .inr (2, [.int (flI x1 0 0), .ref ce, .ref gv, .int st, .int sk, .ref dr, .ref go, .int tk, .int be, .int so, .int le, .int an, .ref sa])), (ce, eI G 418 fc), (gv, eZ G 30 fg), (dr, eI G 10 fd), (go, eI G 10 fo), (sa, eI G 10 ((clO fc k 0 (mixf 10 (st0 x y) fs) 12).1))] H := hP
            have hD : va_D A [(mo, .inr (2, [.int (flI x1 0 0), .ref ce, .ref gv, .int st, .int sk, .ref dr, .ref go, .int tk, .int be, .int so, .int le, .int an, .ref sa])), (ce, eI G 418 fc), (gv, eZ G 30 fg), (dr, eI G 10 fd), (go, eI G 10 fo), (sa, eI G 10 ((clO fc k 0 (mixf 10 (st0 x y) fs) 12).1))] := hD
            refine lv_if_ne (tgt := 86) hx hb dX2_close_81 (by decide) (fun c_81 => ?_) (fun c_81 => ?_)
            · have hcl := bI_ne c_81
              refine lv_iconst (v := 0) hx hb dX2_close_86 (by decide) ?_
              refine lv_istore_n (lv' := [(3, .int 0), (0, .ref mo), (1, .int x), (2, .int y)]) hx hb dX2_close_87 rfl hl (by decide) rfl (fun ls hl => ?_)
              refine lv_iconst (v := 0) hx hb dX2_close_88 (by decide) ?_
              refine lv_istore (lv' := [(4, .int 0), (3, .int 0), (0, .ref mo), (1, .int x), (2, .int y)]) hx hb dX2_close_89 hl (by decide) rfl (fun ls hl => ?_)
              have loop_91 : ∀ (n_91 j : Nat) (xs xj : Int32), j ≤ 10 → 10 + 1 ≤ j + n_91 → (xs = seM (clO fc k 0 (mixf 10 (st0 x y) fs) 12).1 j) → (xj = nI j) → ∀ (H : Heap) (locs : List Loc), va_P G.1 vwCl [(mo, .inr (2, [.int (flI x1 0 0), .ref ce, .ref gv, .int st, .int sk, .ref dr, .ref go, .int tk, .int be, .int so, .int le, .int an, .ref sa])), (ce, eI G 418 fc), (gv, eZ G 30 fg), (dr, eI G 10 fd), (go, eI G 10 fo), (sa, eI G 10 ((clO fc k 0 (mixf 10 (st0 x y) fs) 12).1))] H → va_D A [(mo, .inr (2, [.int (flI x1 0 0), .ref ce, .ref gv, .int st, .int sk, .ref dr, .ref go, .int tk, .int be, .int so, .int le, .int an, .ref sa])), (ce, eI G 418 fc), (gv, eZ G 30 fg), (dr, eI G 10 fd), (go, eI G 10 fo), (sa, eI G 10 ((clO fc k 0 (mixf 10 (st0 x y) fs) 12).1))] → va_S A s.heap H locs → ∀ ls : Array Slot, lv_has ls 5 [(0, .ref mo), (3, .int xs), (4, .int xj)] → W p l e rmX2_close s m [.ref mo, .int x, .int y].toArray below meth c H locs 0 0 (MQ below (mu_Q G (some (.int (if thClo x y = 0 then clM fc fs k x y else 0))) [(mo, .inr (2, [.int (thClo x y), .ref ce, .ref gv, .int st, .int sk, .ref dr, .ref go, .int tk, .int be, .int so, .int le, .int an, .ref sa])), (ce, eI G 418 fc), (gv, eZ G 30 fg), (dr, eI G 10 fd), (go, eI G 10 fo), (sa, eI G 10 (if thClo x y = 0 then (clO fc k 0 (mixf 10 (st0 x y) fs) 12).1 else fs))] A) [.ref mo, .int x, .int y].toArray s 0 0 A) (F0 m 91 ls []) := by
                intro n_91
                induction n_91 with
                | zero => intro j xs xj h1 h2; exact absurd h2 (by omega)
                | succ n_91 ih_91 =>
                  intro j xs xj hi_91 hn_91 es ej H locs hP hD hS ls hl
                  refine lv_iload hx hb dX2_close_91 (lv_at hl 2 rfl) ?_
                  refine lv_bipush (v := 10) hx hb dX2_close_93 (by decide) ?_
                  refine lv_icmp_ge (tgt := 149) hx hb dX2_close_95 (by decide) (fun c_95 => ?_) (fun c_95 => ?_)
                  · have hNj : j = 10 := ge_ix ej (by decide) (by decide) c_95 hi_91
                    refine lv_iload_n hx hb dX2_close_149 rfl (lv_at hl 1 rfl) ?_
                    have hP9 := hP.sub (ws' := [(mo, .inr (2, [.int (thClo x y), .ref ce, .ref gv, .int st, .int sk, .ref dr, .ref go, .int tk, .int be, .int so, .int le, .int an, .ref sa])), (ce, eI G 418 fc), (gv, eZ G 30 fg), (dr, eI G 10 fd), (go, eI G 10 fo), (sa, eI G 10 (if thClo x y = 0 then (clO fc k 0 (mixf 10 (st0 x y) fs) 12).1 else fs))]) [0, 1, 2, 3, 4, 5] (by simp only [if_pos hz]; rw [eT]; rfl)
                    have hD9 := hD.sub (ws' := [(mo, .inr (2, [.int (thClo x y), .ref ce, .ref gv, .int st, .int sk, .ref dr, .ref go, .int tk, .int be, .int so, .int le, .int an, .ref sa])), (ce, eI G 418 fc), (gv, eZ G 30 fg), (dr, eI G 10 fd), (go, eI G 10 fo), (sa, eI G 10 (if thClo x y = 0 then (clO fc k 0 (mixf 10 (st0 x y) fs) 12).1 else fs))]) [0, 1, 2, 3, 4, 5] (by decide) (by simp only [if_pos hz]; rw [eT]; rfl)
                    exact W.iret (v := xs) hx hb hr (fun t ht hW => ⟨congrArg (fun z => Outcome.returned (some (Value.int z))) (by rw [if_pos hz]; unfold clM; rw [if_pos hcl, es, hNj]), by rw [ht]; exact hP9, hD9, hS.F ht⟩) hS.2.2 dX2_close_150
                  · have hltj : j < 10 := lt_ix ej (by decide) (by decide) c_95 hi_91
                    refine lv_iload_n hx hb dX2_close_98 rfl (lv_at hl 1 rfl) ?_
                    refine lv_aload_n hx hb dX2_close_99 rfl (lv_at hl 0 rfl) ?_
                    refine va_get (D := G.1) (ci := 2) (v := .ref sa) (C := RX2) (T := TX2) (N := 13) hx hb hts hinX2 hown hK.1 hP 0 rfl rfl 12 (by decide) hw1 (fun _ h9 => h9) rfl dX2_close_100 ?_
                    refine lv_iload hx hb dX2_close_103 (lv_at hl 2 rfl) ?_
                    refine ra_iald (f := ((clO fc k 0 (mixf 10 (st0 x y) fs) 12).1)) (v := j) hx hb hK.1 hP 5 0 rfl rfl ej (by omega) (by decide) dX2_close_105 ?_
                    refine lv_if_lt (tgt := 118) hx hb dX2_close_106 (by decide) (fun c_106 => ?_) (fun c_106 => ?_)
                    · refine lv_iconst (v := 0) hx hb dX2_close_118 (by decide) ?_
                      refine lv_iadd hx hb dX2_close_119 ?_
                      refine lv_istore_n (lv' := [(3, .int (xs + 0)), (0, .ref mo), (4, .int xj)]) hx hb dX2_close_120 rfl hl (by decide) rfl (fun ls hl => ?_)
                      refine lv_iload_n hx hb dX2_close_121 rfl (lv_at hl 0 rfl) ?_
                      refine lv_aload_n hx hb dX2_close_122 rfl (lv_at hl 1 rfl) ?_
                      refine va_get (D := G.1) (ci := 2) (v := .ref sa) (C := RX2) (T := TX2) (N := 13) hx hb hts hinX2 hown hK.1 hP 0 rfl rfl 12 (by decide) hw1 (fun _ h9 => h9) rfl dX2_close_123 ?_
                      refine lv_iload hx hb dX2_close_126 (lv_at hl 2 rfl) ?_
                      refine ra_iald (f := ((clO fc k 0 (mixf 10 (st0 x y) fs) 12).1)) (v := j) hx hb hK.1 hP 5 0 rfl rfl ej (by omega) (by decide) dX2_close_128 ?_
                      refine lv_iconst (v := 1) hx hb dX2_close_129 (by decide) ?_
                      refine lv_icmp_ne (tgt := 140) hx hb dX2_close_130 (by decide) (fun c_130 => ?_) (fun c_130 => ?_)
                      · refine lv_iconst (v := 0) hx hb dX2_close_140 (by decide) ?_
                        refine lv_iadd hx hb dX2_close_141 ?_
                        refine lv_istore_n (lv' := [(3, .int ((xs + 0) + 0)), (0, .ref mo), (4, .int xj)]) hx hb dX2_close_142 rfl hl (by decide) rfl (fun ls hl => ?_)
                        refine lv_iinc (v := xj + 1) (lv' := [(4, .int (xj + 1)), (3, .int ((xs + 0) + 0)), (0, .ref mo)]) hx hb dX2_close_143 hl (k := 2) rfl rfl (by decide) rfl (fun ls hl => ?_)
                        refine lv_goto (tgt := 91) hx hb dX2_close_146 (by decide) ?_
                        exact ih_91 (j + 1) _ _ (by omega) (by omega) (by rw [es]; show _ = seM _ j + seT _ j + seU _ j; unfold seT seU; rw [← ej, if_pos c_106, if_neg c_130]) (by rw [ej]; exact nI_1 j) _ _ (hP.sub [0, 1, 2, 3, 4, 5] rfl) (hD.sub [0, 1, 2, 3, 4, 5] (by decide) rfl) hS ls (lv_sub hl [2, 1, 0] rfl)
                      · refine lv_iconst (v := 1) hx hb dX2_close_133 (by decide) ?_
                        refine lv_iload hx hb dX2_close_134 (lv_at hl 2 rfl) ?_
                        refine lv_ishl hx hb dX2_close_136 ?_
                        refine lv_goto (tgt := 141) hx hb dX2_close_137 (by decide) ?_
                        refine lv_iadd hx hb dX2_close_141 ?_
                        refine lv_istore_n (lv' := [(3, .int ((xs + 0) + ((1 : Int32) <<< (xj &&& 31)))), (0, .ref mo), (4, .int xj)]) hx hb dX2_close_142 rfl hl (by decide) rfl (fun ls hl => ?_)
                        refine lv_iinc (v := xj + 1) (lv' := [(4, .int (xj + 1)), (3, .int ((xs + 0) + ((1 : Int32) <<< (xj &&& 31)))), (0, .ref mo)]) hx hb dX2_close_143 hl (k := 2) rfl rfl (by decide) rfl (fun ls hl => ?_)
                        refine lv_goto (tgt := 91) hx hb dX2_close_146 (by decide) ?_
                        exact ih_91 (j + 1) _ _ (by omega) (by omega) (by rw [es]; show _ = seM _ j + seT _ j + seU _ j; unfold seT seU; rw [← ej, if_pos c_106, if_pos c_130]) (by rw [ej]; exact nI_1 j) _ _ (hP.sub [0, 1, 2, 3, 4, 5] rfl) (hD.sub [0, 1, 2, 3, 4, 5] (by decide) rfl) hS ls (lv_sub hl [2, 1, 0] rfl)
                    · refine lv_sipush (v := 1024) hx hb dX2_close_109 (by decide) ?_
                      refine lv_iload hx hb dX2_close_112 (lv_at hl 2 rfl) ?_
                      refine lv_ishl hx hb dX2_close_114 ?_
                      refine lv_goto (tgt := 119) hx hb dX2_close_115 (by decide) ?_
                      refine lv_iadd hx hb dX2_close_119 ?_
                      refine lv_istore_n (lv' := [(3, .int (xs + ((1024 : Int32) <<< (xj &&& 31)))), (0, .ref mo), (4, .int xj)]) hx hb dX2_close_120 rfl hl (by decide) rfl (fun ls hl => ?_)
                      refine lv_iload_n hx hb dX2_close_121 rfl (lv_at hl 0 rfl) ?_
                      refine lv_aload_n hx hb dX2_close_122 rfl (lv_at hl 1 rfl) ?_
                      refine va_get (D := G.1) (ci := 2) (v := .ref sa) (C := RX2) (T := TX2) (N := 13) hx hb hts hinX2 hown hK.1 hP 0 rfl rfl 12 (by decide) hw1 (fun _ h9 => h9) rfl dX2_close_123 ?_
                      refine lv_iload hx hb dX2_close_126 (lv_at hl 2 rfl) ?_
                      refine ra_iald (f := ((clO fc k 0 (mixf 10 (st0 x y) fs) 12).1)) (v := j) hx hb hK.1 hP 5 0 rfl rfl ej (by omega) (by decide) dX2_close_128 ?_
                      refine lv_iconst (v := 1) hx hb dX2_close_129 (by decide) ?_
                      refine lv_icmp_ne (tgt := 140) hx hb dX2_close_130 (by decide) (fun c_130 => ?_) (fun c_130 => ?_)
                      · refine lv_iconst (v := 0) hx hb dX2_close_140 (by decide) ?_
                        refine lv_iadd hx hb dX2_close_141 ?_
                        refine lv_istore_n (lv' := [(3, .int ((xs + ((1024 : Int32) <<< (xj &&& 31))) + 0)), (0, .ref mo), (4, .int xj)]) hx hb dX2_close_142 rfl hl (by decide) rfl (fun ls hl => ?_)
                        refine lv_iinc (v := xj + 1) (lv' := [(4, .int (xj + 1)), (3, .int ((xs + ((1024 : Int32) <<< (xj &&& 31))) + 0)), (0, .ref mo)]) hx hb dX2_close_143 hl (k := 2) rfl rfl (by decide) rfl (fun ls hl => ?_)
                        refine lv_goto (tgt := 91) hx hb dX2_close_146 (by decide) ?_
                        exact ih_91 (j + 1) _ _ (by omega) (by omega) (by rw [es]; show _ = seM _ j + seT _ j + seU _ j; unfold seT seU; rw [← ej, if_neg c_106, if_neg c_130]) (by rw [ej]; exact nI_1 j) _ _ (hP.sub [0, 1, 2, 3, 4, 5] rfl) (hD.sub [0, 1, 2, 3, 4, 5] (by decide) rfl) hS ls (lv_sub hl [2, 1, 0] rfl)
                      · refine lv_iconst (v := 1) hx hb dX2_close_133 (by decide) ?_
                        refine lv_iload hx hb dX2_close_134 (lv_at hl 2 rfl) ?_
                        refine lv_ishl hx hb dX2_close_136 ?_
                        refine lv_goto (tgt := 141) hx hb dX2_close_137 (by decide) ?_
                        refine lv_iadd hx hb dX2_close_141 ?_
                        refine lv_istore_n (lv' := [(3, .int ((xs + ((1024 : Int32) <<< (xj &&& 31))) + ((1 : Int32) <<< (xj &&& 31)))), (0, .ref mo), (4, .int xj)]) hx hb dX2_close_142 rfl hl (by decide) rfl (fun ls hl => ?_)
                        refine lv_iinc (v := xj + 1) (lv' := [(4, .int (xj + 1)), (3, .int ((xs + ((1024 : Int32) <<< (xj &&& 31))) + ((1 : Int32) <<< (xj &&& 31)))), (0, .ref mo)]) hx hb dX2_close_143 hl (k := 2) rfl rfl (by decide) rfl (fun ls hl => ?_)
                        refine lv_goto (tgt := 91) hx hb dX2_close_146 (by decide) ?_
                        exact ih_91 (j + 1) _ _ (by omega) (by omega) (by rw [es]; show _ = seM _ j + seT _ j + seU _ j; unfold seT seU; rw [← ej, if_neg c_106, if_pos c_130]) (by rw [ej]; exact nI_1 j) _ _ (hP.sub [0, 1, 2, 3, 4, 5] rfl) (hD.sub [0, 1, 2, 3, 4, 5] (by decide) rfl) hS ls (lv_sub hl [2, 1, 0] rfl)
              exact loop_91 (10 + 1) 0 _ _ (Nat.zero_le _) (by omega) (by rfl) (by exact nI_0.symm) _ _ (hP.sub [0, 1, 2, 3, 4, 5] rfl) (hD.sub [0, 1, 2, 3, 4, 5] (by decide) rfl) hS ls (lv_sub hl [2, 1, 0] rfl)
            · have hcl := bI_eq c_81
              refine lv_iconst (v := (-1)) hx hb dX2_close_84 (by decide) ?_
              have hP9 := hP.sub (ws' := [(mo, .inr (2, [.int (thClo x y), .ref ce, .ref gv, .int st, .int sk, .ref dr, .ref go, .int tk, .int be, .int so, .int le, .int an, .ref sa])), (ce, eI G 418 fc), (gv, eZ G 30 fg), (dr, eI G 10 fd), (go, eI G 10 fo), (sa, eI G 10 (if thClo x y = 0 then (clO fc k 0 (mixf 10 (st0 x y) fs) 12).1 else fs))]) [0, 1, 2, 3, 4, 5] (by simp only [if_pos hz]; rw [eT]; rfl)
              have hD9 := hD.sub (ws' := [(mo, .inr (2, [.int (thClo x y), .ref ce, .ref gv, .int st, .int sk, .ref dr, .ref go, .int tk, .int be, .int so, .int le, .int an, .ref sa])), (ce, eI G 418 fc), (gv, eZ G 30 fg), (dr, eI G 10 fd), (go, eI G 10 fo), (sa, eI G 10 (if thClo x y = 0 then (clO fc k 0 (mixf 10 (st0 x y) fs) 12).1 else fs))]) [0, 1, 2, 3, 4, 5] (by decide) (by simp only [if_pos hz]; rw [eT]; rfl)
              exact W.iret (v := (-1)) hx hb hr (fun t ht hW => ⟨congrArg (fun z => Outcome.returned (some (Value.int z))) (by rw [if_pos hz]; unfold clM; rw [if_neg (by rw [hcl]; decide)]), by rw [ht]; exact hP9, hD9, hS.F ht⟩) hS.2.2 dX2_close_85
          · have hlt : i < 10 := lt_ix ei (by decide) (by decide) c_43 hi_40
            refine lv_aload_n hx hb dX2_close_46 rfl (lv_at hl 0 rfl) ?_
            refine va_get (D := G.1) (ci := 2) (v := .ref sa) (C := RX2) (T := TX2) (N := 13) hx hb hts hinX2 hown hK.1 hP 0 rfl rfl 12 (by decide) hw1 (fun _ h9 => h9) rfl dX2_close_47 ?_
            refine lv_iload_n hx hb dX2_close_50 rfl (lv_at hl 3 rfl) ?_
            refine lv_iload_n hx hb dX2_close_51 rfl (lv_at hl 1 rfl) ?_
            refine lv_iload_n hx hb dX2_close_52 rfl (lv_at hl 3 rfl) ?_
            refine lv_ishr hx hb dX2_close_53 ?_
            refine lv_iconst (v := 1) hx hb dX2_close_54 (by decide) ?_
            refine lv_iand hx hb dX2_close_55 ?_
            refine lv_iconst (v := 1) hx hb dX2_close_56 (by decide) ?_
            refine lv_icmp_ne (tgt := 68) hx hb dX2_close_57 (by decide) (fun c_57 => ?_) (fun c_57 => ?_)
            · refine lv_iconst (v := (-1)) hx hb dX2_close_68 (by decide) ?_
              refine ra_iast (v := i) hx hb hK.1 hP hD hS 5 0 rfl rfl ei (by omega) (by decide) dX2_close_69 (fun H locs hP hD hS => ?_)
              have hP : va_P G.1 vwCl [(mo, .inr (2, [.int (flI x1 0 0), .ref ce, .ref gv, .int st, .int sk, .ref dr, .ref go, .int tk, .int be, .int so, .int le, .int an, .ref sa])), (ce, eI G 418 fc), (gv, eZ G 30 fg), (dr, eI G 10 fd), (go, eI G 10 fo), (sa, eI G 10 (upd h i (-1)))] H := hP
              have hD : va_D A [(mo, .inr (2, [.int (flI x1 0 0), .ref ce, .ref gv, .int st, .int sk, .ref dr, .ref go, .int tk, .int be, .int so, .int le, .int an, .ref sa])), (ce, eI G 418 fc), (gv, eZ G 30 fg), (dr, eI G 10 fd), (go, eI G 10 fo), (sa, eI G 10 (upd h i (-1)))] := hD
              have eA69 : upd h i (-1) = mixf (i + 1) (st0 x y) fs := by rw [eh, ← mixf_s]; congr 1; unfold st0 bitI; rw [← ei, if_neg c_57]
              rw [eA69] at hP hD
              refine lv_iinc (v := xi + 1) (lv' := [(3, .int (xi + 1)), (0, .ref mo), (1, .int x), (2, .int y)]) hx hb dX2_close_70 hl (k := 3) rfl rfl (by decide) rfl (fun ls hl => ?_)
              refine lv_goto (tgt := 40) hx hb dX2_close_73 (by decide) ?_
              exact ih_40 (i + 1) _ _ (by omega) (by omega) (by rw [ei]; exact nI_1 i) (by rfl) _ _ (hP.sub [0, 1, 2, 3, 4, 5] rfl) (hD.sub [0, 1, 2, 3, 4, 5] (by decide) rfl) hS ls (lv_sub hl [1, 2, 3, 0] rfl)
            · refine lv_iload_n hx hb dX2_close_60 rfl (lv_at hl 2 rfl) ?_
              refine lv_iload_n hx hb dX2_close_61 rfl (lv_at hl 3 rfl) ?_
              refine lv_ishr hx hb dX2_close_62 ?_
              refine lv_iconst (v := 1) hx hb dX2_close_63 (by decide) ?_
              refine lv_iand hx hb dX2_close_64 ?_
              refine lv_goto (tgt := 69) hx hb dX2_close_65 (by decide) ?_
              refine ra_iast (v := i) hx hb hK.1 hP hD hS 5 0 rfl rfl ei (by omega) (by decide) dX2_close_69 (fun H locs hP hD hS => ?_)
              have hP : va_P G.1 vwCl [(mo, .inr (2, [.int (flI x1 0 0), .ref ce, .ref gv, .int st, .int sk, .ref dr, .ref go, .int tk, .int be, .int so, .int le, .int an, .ref sa])), (ce, eI G 418 fc), (gv, eZ G 30 fg), (dr, eI G 10 fd), (go, eI G 10 fo), (sa, eI G 10 (upd h i ((y >>> (xi &&& 31)) &&& 1)))] H := hP
              have hD : va_D A [(mo, .inr (2, [.int (flI x1 0 0), .ref ce, .ref gv, .int st, .int sk, .ref dr, .ref go, .int tk, .int be, .int so, .int le, .int an, .ref sa])), (ce, eI G 418 fc), (gv, eZ G 30 fg), (dr, eI G 10 fd), (go, eI G 10 fo), (sa, eI G 10 (upd h i ((y >>> (xi &&& 31)) &&& 1)))] := hD
              have eA69 : upd h i ((y >>> (xi &&& 31)) &&& 1) = mixf (i + 1) (st0 x y) fs := by rw [eh, ← mixf_s]; congr 1; unfold st0 bitI; rw [← ei, if_pos c_57]
              rw [eA69] at hP hD
              refine lv_iinc (v := xi + 1) (lv' := [(3, .int (xi + 1)), (0, .ref mo), (1, .int x), (2, .int y)]) hx hb dX2_close_70 hl (k := 3) rfl rfl (by decide) rfl (fun ls hl => ?_)
              refine lv_goto (tgt := 40) hx hb dX2_close_73 (by decide) ?_
              exact ih_40 (i + 1) _ _ (by omega) (by omega) (by rw [ei]; exact nI_1 i) (by rfl) _ _ (hP.sub [0, 1, 2, 3, 4, 5] rfl) (hD.sub [0, 1, 2, 3, 4, 5] (by decide) rfl) hS ls (lv_sub hl [1, 2, 3, 0] rfl)
      exact loop_40 (10 + 1) 0 _ _ (Nat.zero_le _) (by omega) (by exact nI_0.symm) (by exact (mixf_0 _ _).symm) _ _ (hP.sub [0, 1, 2, 3, 4, 5] rfl) (hD.sub [0, 1, 2, 3, 4, 5] (by decide) rfl) hS ls (lv_sub hl [1, 2, 3, 0] rfl)
    · have hz : ¬ thClo x y = 0 := by rw [eT]; exact cnt1 c_33
      refine lv_iconst (v := 0) hx hb dX2_close_36 (by decide) ?_
      have hP9 := hP.sub (ws' := [(mo, .inr (2, [.int (thClo x y), .ref ce, .ref gv, .int st, .int sk, .ref dr, .ref go, .int tk, .int be, .int so, .int le, .int an, .ref sa])), (ce, eI G 418 fc), (gv, eZ G 30 fg), (dr, eI G 10 fd), (go, eI G 10 fo), (sa, eI G 10 (if thClo x y = 0 then (clO fc k 0 (mixf 10 (st0 x y) fs) 12).1 else fs))]) [0, 1, 2, 3, 4, 5] (by simp only [if_neg hz]; rw [eT]; rfl)
      have hD9 := hD.sub (ws' := [(mo, .inr (2, [.int (thClo x y), .ref ce, .ref gv, .int st, .int sk, .ref dr, .ref go, .int tk, .int be, .int so, .int le, .int an, .ref sa])), (ce, eI G 418 fc), (gv, eZ G 30 fg), (dr, eI G 10 fd), (go, eI G 10 fo), (sa, eI G 10 (if thClo x y = 0 then (clO fc k 0 (mixf 10 (st0 x y) fs) 12).1 else fs))]) [0, 1, 2, 3, 4, 5] (by decide) (by simp only [if_neg hz]; rw [eT]; rfl)
      exact W.iret (v := 0) hx hb hr (fun t ht hW => ⟨congrArg (fun z => Outcome.returned (some (Value.int z))) ((if_neg hz).symm), by rw [ht]; exact hP9, hD9, hS.F ht⟩) hS.2.2 dX2_close_37
  refine lv_iload_n hx hb dX2_close_1 rfl (lv_at hl 1 rfl) ?_
  refine lv_iconst (v := 0) hx hb dX2_close_2 (by decide) ?_
  refine lv_sipush (v := 1023) hx hb dX2_close_3 (by decide) ?_
  refine ro_call (va_runS (As := [.int x, .int 0, .int 1023]) (rest := [.ref mo]) ⟨hx, hb, hml, hown, hts⟩ (c_X2_outside l G x 0 1023) (va_cwS 3 hts gX2_close_X2_outside rfl rfl rfl (by decide +kernel) ⟨Nat.le_of_ble_eq_true rfl, Nat.le_of_ble_eq_true rfl⟩) ⟨ro_blind, ro_pre _ (hP.sub [] rfl) hK⟩ rfl rfl hl.1 rfl (lv_room (Nat.le_of_ble_eq_true rfl)) dX2_close_6 ⟨Nat.le_refl _, Nat.le_refl _⟩) ?_
  refine lv_if_ne (tgt := 23) hx hb dX2_close_9 (by decide) (fun c_9 => ?_) (fun c_9 => ?_)
  · refine lv_iconst (v := 1) hx hb dX2_close_23 (by decide) ?_
    refine lv_goto (tgt := 28) hx hb dX2_close_24 (by decide) ?_
    exact join_28 _ (by unfold orI; rw [if_neg c_9]) _ _ (hP.sub [0, 1, 2, 3, 4, 5] rfl) (hD.sub [0, 1, 2, 3, 4, 5] (by decide) rfl) hS ls (lv_sub hl [0, 1, 2] rfl)
  · refine lv_iload_n hx hb dX2_close_12 rfl (lv_at hl 2 rfl) ?_
    refine lv_iconst (v := 0) hx hb dX2_close_13 (by decide) ?_
    refine lv_sipush (v := 1023) hx hb dX2_close_14 (by decide) ?_
    refine ro_call (va_runS (As := [.int y, .int 0, .int 1023]) (rest := [.ref mo]) ⟨hx, hb, hml, hown, hts⟩ (c_X2_outside l G y 0 1023) (va_cwS 3 hts gX2_close_X2_outside rfl rfl rfl (by decide +kernel) ⟨Nat.le_of_ble_eq_true rfl, Nat.le_of_ble_eq_true rfl⟩) ⟨ro_blind, ro_pre _ (hP.sub [] rfl) hK⟩ rfl rfl hl.1 rfl (lv_room (Nat.le_of_ble_eq_true rfl)) dX2_close_17 ⟨Nat.le_refl _, Nat.le_refl _⟩) ?_
    refine lv_if_eq (tgt := 27) hx hb dX2_close_20 (by decide) (fun c_20 => ?_) (fun c_20 => ?_)
    · refine lv_iconst (v := 0) hx hb dX2_close_27 (by decide) ?_
      exact join_28 _ (by unfold orI; rw [if_pos c_9, if_pos c_20]) _ _ (hP.sub [0, 1, 2, 3, 4, 5] rfl) (hD.sub [0, 1, 2, 3, 4, 5] (by decide) rfl) hS ls (lv_sub hl [0, 1, 2] rfl)
    · refine lv_iconst (v := 1) hx hb dX2_close_23 (by decide) ?_
      refine lv_goto (tgt := 28) hx hb dX2_close_24 (by decide) ?_
      exact join_28 _ (by unfold orI; rw [if_pos c_9, if_neg c_20]) _ _ (hP.sub [0, 1, 2, 3, 4, 5] rfl) (hD.sub [0, 1, 2, 3, 4, 5] (by decide) rfl) hS ls (lv_sub hl [0, 1, 2] rfl)

abbrev rmX2_load : Room := { frames := 1, cells := 0, slots := 0, locals := 23 }
set_option maxHeartbeats 4000000 in
set_option maxRecDepth 100000 in
theorem c_X2_load (l : Launch) (G : Gt) (sz : Nat) (mo ce gv dr go sa : Nat) (th st sk tk be so le an : Int32) (fc fg fd fo fs : Nat → Int32) (x : Int32) (k : Nat) (est : st = nI k) (hk30 : k ≤ 30) (n : Nat) (esk : sk = nI n) (hn6 : n ≤ 6) : Met l yX2_load wsX2_load rmX2_load (mu_P G sz [.ref mo, .int x] [(mo, .inr (2, [.int th, .ref ce, .ref gv, .int st, .int sk, .ref dr, .ref go, .int tk, .int be, .int so, .int le, .int an, .ref sa])), (ce, eI G 418 fc), (gv, eZ G 30 fg), (dr, eI G 10 fd), (go, eI G 10 fo), (sa, eI G 10 fs)]) (mu_Q G none [(mo, .inr (2, [.int (thLoad st sk x), .ref ce, .ref gv, .int st, .int (if thLoad st sk x = 0 then sk + 1 else sk), .ref dr, .ref go, .int tk, .int be, .int so, .int le, .int an, .ref sa])), (ce, eI G 418 (if thLoad st sk x = 0 then cpy11 fc x.toNatClampNeg (29 + (n + 1)) else fc)), (gv, eZ G 30 fg), (dr, eI G 10 fd), (go, eI G 10 fo), (sa, eI G 10 fs)] (va_A [(mo, .inr (2, [.int th, .ref ce, .ref gv, .int st, .int sk, .ref dr, .ref go, .int tk, .int be, .int so, .int le, .int an, .ref sa])), (ce, eI G 418 fc), (gv, eZ G 30 fg), (dr, eI G 10 fd), (go, eI G 10 fo), (sa, eI G 10 fs)] sz)) 0 0 (va_A [(mo, .inr (2, [.int th, .ref ce, .ref gv, .int st, .int sk, .ref dr, .ref go, .int tk, .int be, .int so, .int le, .int an, .ref sa])), (ce, eI G 418 fc), (gv, eZ G 30 fg), (dr, eI G 10 fd), (go, eI G 10 fo), (sa, eI G 10 fs)] sz) := by
  refine Met.ofW (cc := cX2_load) (maxL := 2) (ret := none) (by decide) rfl ?_
  intro p e s m args below meth c s₁ B hml hv
  obtain ⟨rfl, hsz, hP, hD0, hK⟩ := hv
  have hx := B.exec
  have hb := B.bytes
  have hr := B.returns
  have hts := atoms_spec (ws := wsX2_load) B.pre
  have hown : s.vm.findClass RX2 = some m.cls := findClass_of_methodNamed B.named
  have hlocks := B.notSynchronized
  subst hsz
  have hD := hD0.self (sz := s.heap.size)
  generalize hAe : va_A [(mo, .inr (2, [.int th, .ref ce, .ref gv, .int st, .int sk, .ref dr, .ref go, .int tk, .int be, .int so, .int le, .int an, .ref sa])), (ce, eI G 418 fc), (gv, eZ G 30 fg), (dr, eI G 10 fd), (go, eI G 10 fo), (sa, eI G 10 fs)] s.heap.size = A at hD ⊢
  have hA : ∀ q : Nat, s.heap.size ≤ q → A q := fun q h => by rw [← hAe]; exact Or.inr h
  have hS : va_S A s.heap s.heap [] := va_S.rf
  have hinX2 : ∀ w ∈ u_ws RX2 TX2 13, w ∈ wsX2_load := fun w h => List.mem_cons_of_mem _ (List.mem_append_right _ h)
  have hw1 := hts (.fieldLink RX2 45 "ChoiceBoardModel" "stored" "I") (by decide +kernel)
  have hw2 := hts (.fieldLink RX2 74 "ChoiceBoardModel" "stacked" "I") (by decide +kernel)
  have hl := lv_entry ([.ref mo, .int x]) (n := 2) (Nat.le_of_ble_eq_true rfl)
  rw [lg_entry_eq]
  generalize (lg_sl ([.ref mo, .int x]) ++ List.replicate (2 - (lg_sl ([.ref mo, .int x])).length) Slot.unset).toArray = ls at hl ⊢
  have hl : lv_has ls 2 [(0, .ref mo), (1, .int x)] := hl
  refine lv_aload_n hx hb dX2_load_0 rfl (lv_at hl 0 rfl) ?_
  refine lv_iload_n hx hb dX2_load_1 rfl (lv_at hl 1 rfl) ?_
  refine lv_iconst (v := 0) hx hb dX2_load_2 (by decide) ?_
  refine lv_aload_n hx hb dX2_load_3 rfl (lv_at hl 0 rfl) ?_
  refine va_get (D := G.1) (ci := 2) (v := .int st) (C := RX2) (T := TX2) (N := 13) hx hb hts hinX2 hown hK.1 hP 0 rfl rfl 3 (by decide) hw1 (fun _ h9 => h9) rfl dX2_load_4 ?_
  refine lv_iconst (v := 1) hx hb dX2_load_7 (by decide) ?_
  refine lv_isub hx hb dX2_load_8 ?_
  refine ro_call (va_runS (As := [.int x, .int 0, .int (st - 1)]) (rest := [.ref mo]) ⟨hx, hb, hml, hown, hts⟩ (c_X2_outside l G x 0 (st - 1)) (va_cwS 3 hts gX2_load_X2_outside rfl rfl rfl (by decide +kernel) ⟨Nat.le_of_ble_eq_true rfl, Nat.le_of_ble_eq_true rfl⟩) ⟨ro_blind, ro_pre _ (hP.sub [] rfl) hK⟩ rfl rfl hl.1 rfl (lv_room (Nat.le_of_ble_eq_true rfl)) dX2_load_9 ⟨Nat.le_refl _, Nat.le_refl _⟩) ?_
  have join_26 : ∀ (x2 : Int32), (x2 = eqI sk 6) → ∀ (H : Heap) (locs : List Loc), va_P G.1 vwCl [(mo, .inr (2, [.int th, .ref ce, .ref gv, .int st, .int sk, .ref dr, .ref go, .int tk, .int be, .int so, .int le, .int an, .ref sa])), (ce, eI G 418 fc), (gv, eZ G 30 fg), (dr, eI G 10 fd), (go, eI G 10 fo), (sa, eI G 10 fs)] H → va_D A [(mo, .inr (2, [.int th, .ref ce, .ref gv, .int st, .int sk, .ref dr, .ref go, .int tk, .int be, .int so, .int le, .int an, .ref sa])), (ce, eI G 418 fc), (gv, eZ G 30 fg), (dr, eI G 10 fd), (go, eI G 10 fo), (sa, eI G 10 fs)] → va_S A s.heap H locs → ∀ ls : Array Slot, lv_has ls 2 [(0, .ref mo), (1, .int x)] → W p l e rmX2_load s m [.ref mo, .int x].toArray below meth c H locs 0 0 (MQ below (mu_Q G none [(mo, .inr (2, [.int (thLoad st sk x), .ref ce, .ref gv, .int st, .int (if thLoad st sk x = 0 then sk + 1 else sk), .ref dr, .ref go, .int tk, .int be, .int so, .int le, .int an, .ref sa])), (ce, eI G 418 (if thLoad st sk x = 0 then cpy11 fc x.toNatClampNeg (29 + (n + 1)) else fc)), (gv, eZ G 30 fg), (dr, eI G 10 fd), (go, eI G 10 fo), (sa, eI G 10 fs)] A) [.ref mo, .int x].toArray s 0 0 A) (F0 m 26 ls [.int x2, .int (outI x 0 (st - 1)), .ref mo]) := by
    intro x2 ex2 H locs hP hD hS ls hl
    refine lv_iconst (v := 0) hx hb dX2_load_26 (by decide) ?_
    have eT : thLoad st sk x = flI (outI x 0 (st - 1)) x2 0 := by unfold thLoad; rw [← ex2]
    refine mu_call (va_runV (As := [.int (outI x 0 (st - 1)), .int x2, .int 0]) (rest := []) ⟨hx, hb, hml, hown, hts⟩ (c_X2_fails l G _ mo ce gv dr go sa th st sk tk be so le an fc fg fd fo fs (outI x 0 (st - 1)) x2 0) (cwV 3 hts gX2_load_X2_fails rfl rfl rfl (by decide +kernel) ⟨Nat.le_of_ble_eq_true rfl, Nat.le_of_ble_eq_true rfl⟩) ⟨mu_blind, va_recv hK.1 hP (ci := 2) (q0 := 0) rfl rfl, mu_pre _ (hP.sub [0, 1, 2, 3, 4, 5] rfl) (hD.sub [0, 1, 2, 3, 4, 5] (by decide) rfl) hK⟩ rfl rfl hl.1 rfl (lv_room (Nat.le_of_ble_eq_true rfl)) dX2_load_27 ⟨Nat.le_refl _, Nat.le_refl _⟩) hS (va_free hD hS hA [0, 1, 2, 3, 4, 5] rfl) (va_free hD hS hA [0, 1, 2, 3, 4, 5] rfl) (fun H1 locs hP1 hD1 hk1 hS => ?_)
    obtain ⟨hP, hD⟩ := rp_join (ws' := [(mo, .inr (2, [.int (flI (outI x 0 (st - 1)) x2 0), .ref ce, .ref gv, .int st, .int sk, .ref dr, .ref go, .int tk, .int be, .int so, .int le, .int an, .ref sa])), (ce, eI G 418 fc), (gv, eZ G 30 fg), (dr, eI G 10 fd), (go, eI G 10 fo), (sa, eI G 10 fs)]) hP hD [0, 1, 2, 3, 4, 5] rfl hk1 hP1 (fun k q h => match k, q, h with | 0, q, h => Or.inl ⟨0, h⟩ | 1, q, h => Or.inl ⟨1, h⟩ | 2, q, h => Or.inl ⟨2, h⟩ | 3, q, h => Or.inl ⟨3, h⟩ | 4, q, h => Or.inl ⟨4, h⟩ | 5, q, h => Or.inl ⟨5, h⟩ | k + 6, q, h => nomatch h) rfl
    generalize H1 = H at hP hS ⊢
    have hP : va_P G.1 vwCl [(mo, .inr (2, [.int (flI (outI x 0 (st - 1)) x2 0), .ref ce, .ref gv, .int st, .int sk, .ref dr, .ref go, .int tk, .int be, .int so, .int le, .int an, .ref sa])), (ce, eI G 418 fc), (gv, eZ G 30 fg), (dr, eI G 10 fd), (go, eI G 10 fo), (sa, eI G 10 fs)] H := hP
    have hD : va_D A [(mo, .inr (2, [.int (flI (outI x 0 (st - 1)) x2 0), .ref ce, .ref gv, .int st, .int sk, .ref dr, .ref go, .int tk, .int be, .int so, .int le, .int an, .ref sa])), (ce, eI G 418 fc), (gv, eZ G 30 fg), (dr, eI G 10 fd), (go, eI G 10 fo), (sa, eI G 10 fs)] := hD
    refine lv_if_eq (tgt := 34) hx hb dX2_load_30 (by decide) (fun c_30 => ?_) (fun c_30 => ?_)
    · have hz : thLoad st sk x = 0 := by rw [eT]; exact cnt0 c_30
      obtain ⟨exn, hxn⟩ := outS est (by omega) (fl0 hz).1
      have hn5 : ¬ n = 6 := ne_n esk rfl (eqI0 (fl0 hz).2.1)
      refine lv_aload_n hx hb dX2_load_34 rfl (lv_at hl 0 rfl) ?_
      refine lv_dup hx hb dX2_load_35 rfl ?_
      refine va_get (D := G.1) (ci := 2) (v := .int sk) (C := RX2) (T := TX2) (N := 13) hx hb hts hinX2 hown hK.1 hP 0 rfl rfl 4 (by decide) hw2 (fun _ h9 => h9) rfl dX2_load_36 ?_
      refine lv_iconst (v := 1) hx hb dX2_load_39 (by decide) ?_
      refine lv_iadd hx hb dX2_load_40 ?_
      refine va_put (D := G.1) (ci := 2) (v := .int (sk + 1)) (ty := .int) (C := RX2) (T := TX2) (N := 13) hx hb hts hinX2 tyX2 tyX2_ok nmX2 hown hK.1 hP hD hS 0 rfl rfl 4 (by decide) hw2 (fun _ h9 => h9) rfl (by decide +kernel) rfl rfl (Nat.le_of_ble_eq_true rfl) dX2_load_41 (fun H locs hP hD hS => ?_)
      have hP : va_P G.1 vwCl [(mo, .inr (2, [.int (flI (outI x 0 (st - 1)) x2 0), .ref ce, .ref gv, .int st, .int (sk + 1), .ref dr, .ref go, .int tk, .int be, .int so, .int le, .int an, .ref sa])), (ce, eI G 418 fc), (gv, eZ G 30 fg), (dr, eI G 10 fd), (go, eI G 10 fo), (sa, eI G 10 fs)] H := hP
      have hD : va_D A [(mo, .inr (2, [.int (flI (outI x 0 (st - 1)) x2 0), .ref ce, .ref gv, .int st, .int (sk + 1), .ref dr, .ref go, .int tk, .int be, .int so, .int le, .int an, .ref sa])), (ce, eI G 418 fc), (gv, eZ G 30 fg), (dr, eI G 10 fd), (go, eI G 10 fo), (sa, eI G 10 fs)] := hD
      refine lv_aload_n hx hb dX2_load_44 rfl (lv_at hl 0 rfl) ?_
      refine lv_iload_n hx hb dX2_load_45 rfl (lv_at hl 1 rfl) ?_
      refine lv_aload_n hx hb dX2_load_46 rfl (lv_at hl 0 rfl) ?_
      refine ro_call (va_runV (As := []) (rest := [.int x, .ref mo]) ⟨hx, hb, hml, hown, hts⟩ (c_X2_upper l G mo ce gv dr go sa (flI (outI x 0 (st - 1)) x2 0) st (sk + 1) tk be so le an fc fg fd fo fs) (cwV 0 hts gX2_load_X2_upper rfl rfl rfl (by decide +kernel) ⟨Nat.le_of_ble_eq_true rfl, Nat.le_of_ble_eq_true rfl⟩) ⟨ro_blind, va_recv hK.1 hP (ci := 2) (q0 := 0) rfl rfl, ro_pre _ (hP.sub [0, 1, 2, 3, 4, 5] rfl) hK⟩ rfl rfl hl.1 rfl (lv_room (Nat.le_of_ble_eq_true rfl)) dX2_load_47 ⟨Nat.le_refl _, Nat.le_refl _⟩) ?_
      refine mu_call (va_runV (As := [.int x, .int (30 + (sk + 1) - 1)]) (rest := []) ⟨hx, hb, hml, hown, hts⟩ (c_X2_copy l G _ mo ce gv dr go sa (flI (outI x 0 (st - 1)) x2 0) st (sk + 1) tk be so le an fc fg fd fo fs x x.toNatClampNeg exn (by omega) (30 + (sk + 1) - 1) (29 + (n + 1)) (na_up (na_add esk (by decide)) (by omega)) (by omega) (by omega)) (cwV 2 hts gX2_load_X2_copy rfl rfl rfl (by decide +kernel) ⟨Nat.le_of_ble_eq_true rfl, Nat.le_of_ble_eq_true rfl⟩) ⟨mu_blind, va_recv hK.1 hP (ci := 2) (q0 := 0) rfl rfl, mu_pre _ (hP.sub [0, 1, 2, 3, 4, 5] rfl) (hD.sub [0, 1, 2, 3, 4, 5] (by decide) rfl) hK⟩ rfl rfl hl.1 rfl (lv_room (Nat.le_of_ble_eq_true rfl)) dX2_load_50 ⟨Nat.le_refl _, Nat.le_refl _⟩) hS (va_free hD hS hA [0, 1, 2, 3, 4, 5] rfl) (va_free hD hS hA [0, 1, 2, 3, 4, 5] rfl) (fun H1 locs hP1 hD1 hk1 hS => ?_)
      obtain ⟨hP, hD⟩ := rp_join (ws' := [(mo, .inr (2, [.int (flI (outI x 0 (st - 1)) x2 0), .ref ce, .ref gv, .int st, .int (sk + 1), .ref dr, .ref go, .int tk, .int be, .int so, .int le, .int an, .ref sa])), (ce, eI G 418 (cpy11 fc x.toNatClampNeg (29 + (n + 1)))), (gv, eZ G 30 fg), (dr, eI G 10 fd), (go, eI G 10 fo), (sa, eI G 10 fs)]) hP hD [0, 1, 2, 3, 4, 5] rfl hk1 hP1 (fun k q h => match k, q, h with | 0, q, h => Or.inl ⟨0, h⟩ | 1, q, h => Or.inl ⟨1, h⟩ | 2, q, h => Or.inl ⟨2, h⟩ | 3, q, h => Or.inl ⟨3, h⟩ | 4, q, h => Or.inl ⟨4, h⟩ | 5, q, h => Or.inl ⟨5, h⟩ | k + 6, q, h => nomatch h) rfl
      generalize H1 = H at hP hS ⊢
      have hP : va_P G.1 vwCl [(mo, .inr (2, [.int (flI (outI x 0 (st - 1)) x2 0), .ref ce, .ref gv, .int st, .int (sk + 1), .ref dr, .ref go, .int tk, .int be, .int so, .int le, .int an, .ref sa])), (ce, eI G 418 (cpy11 fc x.toNatClampNeg (29 + (n + 1)))), (gv, eZ G 30 fg), (dr, eI G 10 fd), (go, eI G 10 fo), (sa, eI G 10 fs)] H := hP
      have hD : va_D A [(mo, .inr (2, [.int (flI (outI x 0 (st - 1)) x2 0), .ref ce, .ref gv, .int st, .int (sk + 1), .ref dr, .ref go, .int tk, .int be, .int so, .int le, .int an, .ref sa])), (ce, eI G 418 (cpy11 fc x.toNatClampNeg (29 + (n + 1)))), (gv, eZ G 30 fg), (dr, eI G 10 fd), (go, eI G 10 fo), (sa, eI G 10 fs)] := hD
      have hP9 := hP.sub (ws' := [(mo, .inr (2, [.int (thLoad st sk x), .ref ce, .ref gv, .int st, .int (if thLoad st sk x = 0 then sk + 1 else sk), .ref dr, .ref go, .int tk, .int be, .int so, .int le, .int an, .ref sa])), (ce, eI G 418 (if thLoad st sk x = 0 then cpy11 fc x.toNatClampNeg (29 + (n + 1)) else fc)), (gv, eZ G 30 fg), (dr, eI G 10 fd), (go, eI G 10 fo), (sa, eI G 10 fs)]) [0, 1, 2, 3, 4, 5] (by simp only [if_pos hz]; rw [eT]; rfl)
      have hD9 := hD.sub (ws' := [(mo, .inr (2, [.int (thLoad st sk x), .ref ce, .ref gv, .int st, .int (if thLoad st sk x = 0 then sk + 1 else sk), .ref dr, .ref go, .int tk, .int be, .int so, .int le, .int an, .ref sa])), (ce, eI G 418 (if thLoad st sk x = 0 then cpy11 fc x.toNatClampNeg (29 + (n + 1)) else fc)), (gv, eZ G 30 fg), (dr, eI G 10 fd), (go, eI G 10 fo), (sa, eI G 10 fs)]) [0, 1, 2, 3, 4, 5] (by decide) (by simp only [if_pos hz]; rw [eT]; rfl)
      exact W.vret hx hb hr (fun t ht hW => ⟨rfl, by rw [ht]; exact hP9, hD9, hS.F ht⟩) hS.2.2 dX2_load_53
    · have hz : ¬ thLoad st sk x = 0 := by rw [eT]; exact cnt1 c_30
      have hP9 := hP.sub (ws' := [(mo, .inr (2, [.int (thLoad st sk x), .ref ce, .ref gv, .int st, .int (if thLoad st sk x = 0 then sk + 1 else sk), .ref dr, .ref go, .int tk, .int be, .int so, .int le, .int an, .ref sa])), (ce, eI G 418 (if thLoad st sk x = 0 then cpy11 fc x.toNatClampNeg (29 + (n + 1)) else fc)), (gv, eZ G 30 fg), (dr, eI G 10 fd), (go, eI G 10 fo), (sa, eI G 10 fs)]) [0, 1, 2, 3, 4, 5] (by simp only [if_neg hz]; rw [eT]; rfl)
      have hD9 := hD.sub (ws' := [(mo, .inr (2, [.int (thLoad st sk x), .ref ce, .ref gv, .int st, .int (if thLoad st sk x = 0 then sk + 1 else sk), .ref dr, .ref go, .int tk, .int be, .int so, .int le, .int an, .ref sa])), (ce, eI G 418 (if thLoad st sk x = 0 then cpy11 fc x.toNatClampNeg (29 + (n + 1)) else fc)), (gv, eZ G 30 fg), (dr, eI G 10 fd), (go, eI G 10 fo), (sa, eI G 10 fs)]) [0, 1, 2, 3, 4, 5] (by decide) (by simp only [if_neg hz]; rw [eT]; rfl)
      exact W.vret hx hb hr (fun t ht hW => ⟨rfl, by rw [ht]; exact hP9, hD9, hS.F ht⟩) hS.2.2 dX2_load_33
  refine lv_aload_n hx hb dX2_load_12 rfl (lv_at hl 0 rfl) ?_
  refine va_get (D := G.1) (ci := 2) (v := .int sk) (C := RX2) (T := TX2) (N := 13) hx hb hts hinX2 hown hK.1 hP 0 rfl rfl 4 (by decide) hw2 (fun _ h9 => h9) rfl dX2_load_13 ?_
  refine lv_bipush (v := 6) hx hb dX2_load_16 (by decide) ?_
  refine lv_icmp_ne (tgt := 25) hx hb dX2_load_18 (by decide) (fun c_18 => ?_) (fun c_18 => ?_)
  · refine lv_iconst (v := 0) hx hb dX2_load_25 (by decide) ?_
    exact join_26 _ (by unfold eqI; rw [if_neg c_18]) _ _ (hP.sub [0, 1, 2, 3, 4, 5] rfl) (hD.sub [0, 1, 2, 3, 4, 5] (by decide) rfl) hS ls (lv_sub hl [0, 1] rfl)
  · refine lv_iconst (v := 1) hx hb dX2_load_21 (by decide) ?_
    refine lv_goto (tgt := 26) hx hb dX2_load_22 (by decide) ?_
    exact join_26 _ (by unfold eqI; rw [if_pos c_18]) _ _ (hP.sub [0, 1, 2, 3, 4, 5] rfl) (hD.sub [0, 1, 2, 3, 4, 5] (by decide) rfl) hS ls (lv_sub hl [0, 1] rfl)

abbrev rmX2_axiom : Room := { frames := 1, cells := 0, slots := 0, locals := 23 }
set_option maxHeartbeats 4000000 in
set_option maxRecDepth 100000 in
theorem c_X2_axiom (l : Launch) (G : Gt) (sz : Nat) (mo ce gv dr go sa : Nat) (th st sk tk be so le an : Int32) (fc fg fd fo fs : Nat → Int32) (x y : Int32) (n : Nat) (esk : sk = nI n) (hn6 : n ≤ 6) : Met l yX2_axiom wsX2_axiom rmX2_axiom (mu_P G sz [.ref mo, .int x, .int y] [(mo, .inr (2, [.int th, .ref ce, .ref gv, .int st, .int sk, .ref dr, .ref go, .int tk, .int be, .int so, .int le, .int an, .ref sa])), (ce, eI G 418 fc), (gv, eZ G 30 fg), (dr, eI G 10 fd), (go, eI G 10 fo), (sa, eI G 10 fs)]) (mu_Q G none [(mo, .inr (2, [.int (thAx sk x), .ref ce, .ref gv, .int st, .int (if thAx sk x = 0 then sk + 1 else sk), .ref dr, .ref go, .int tk, .int be, .int so, .int le, .int an, .ref sa])), (ce, eI G 418 (if thAx sk x = 0 then axC fc (29 + (n + 1)) x.toNatClampNeg y else fc)), (gv, eZ G 30 fg), (dr, eI G 10 fd), (go, eI G 10 fo), (sa, eI G 10 fs)] (va_A [(mo, .inr (2, [.int th, .ref ce, .ref gv, .int st, .int sk, .ref dr, .ref go, .int tk, .int be, .int so, .int le, .int an, .ref sa])), (ce, eI G 418 fc), (gv, eZ G 30 fg), (dr, eI G 10 fd), (go, eI G 10 fo), (sa, eI G 10 fs)] sz)) 0 0 (va_A [(mo, .inr (2, [.int th, .ref ce, .ref gv, .int st, .int sk, .ref dr, .ref go, .int tk, .int be, .int so, .int le, .int an, .ref sa])), (ce, eI G 418 fc), (gv, eZ G 30 fg), (dr, eI G 10 fd), (go, eI G 10 fo), (sa, eI G 10 fs)] sz) := by
  refine Met.ofW (cc := cX2_axiom) (maxL := 4) (ret := none) (by decide) rfl ?_
  intro p e s m args below meth c s₁ B hml hv
  obtain ⟨rfl, hsz, hP, hD0, hK⟩ := hv
  have hx := B.exec
  have hb := B.bytes
  have hr := B.returns
  have hts := atoms_spec (ws := wsX2_axiom) B.pre
  have hown : s.vm.findClass RX2 = some m.cls := findClass_of_methodNamed B.named
  have hlocks := B.notSynchronized
  subst hsz
  have hD := hD0.self (sz := s.heap.size)
  generalize hAe : va_A [(mo, .inr (2, [.int th, .ref ce, .ref gv, .int st, .int sk, .ref dr, .ref go, .int tk, .int be, .int so, .int le, .int an, .ref sa])), (ce, eI G 418 fc), (gv, eZ G 30 fg), (dr, eI G 10 fd), (go, eI G 10 fo), (sa, eI G 10 fs)] s.heap.size = A at hD ⊢
  have hA : ∀ q : Nat, s.heap.size ≤ q → A q := fun q h => by rw [← hAe]; exact Or.inr h
  have hS : va_S A s.heap s.heap [] := va_S.rf
  have hinX2 : ∀ w ∈ u_ws RX2 TX2 13, w ∈ wsX2_axiom := fun w h => List.mem_cons_of_mem _ (List.mem_append_right _ h)
  have hw1 := hts (.fieldLink RX2 74 "ChoiceBoardModel" "stacked" "I") (by decide +kernel)
  have hw2 := hts (.fieldLink RX2 7 "ChoiceBoardModel" "cell" "[I") (by decide +kernel)
  have hl := lv_entry ([.ref mo, .int x, .int y]) (n := 4) (Nat.le_of_ble_eq_true rfl)
  rw [lg_entry_eq]
  generalize (lg_sl ([.ref mo, .int x, .int y]) ++ List.replicate (4 - (lg_sl ([.ref mo, .int x, .int y])).length) Slot.unset).toArray = ls at hl ⊢
  have hl : lv_has ls 4 [(0, .ref mo), (1, .int x), (2, .int y)] := hl
  refine lv_aload_n hx hb dX2_axiom_0 rfl (lv_at hl 0 rfl) ?_
  refine lv_iload_n hx hb dX2_axiom_1 rfl (lv_at hl 1 rfl) ?_
  refine lv_iconst (v := 0) hx hb dX2_axiom_2 (by decide) ?_
  refine lv_bipush (v := 9) hx hb dX2_axiom_3 (by decide) ?_
  refine ro_call (va_runS (As := [.int x, .int 0, .int 9]) (rest := [.ref mo]) ⟨hx, hb, hml, hown, hts⟩ (c_X2_outside l G x 0 9) (va_cwS 3 hts gX2_axiom_X2_outside rfl rfl rfl (by decide +kernel) ⟨Nat.le_of_ble_eq_true rfl, Nat.le_of_ble_eq_true rfl⟩) ⟨ro_blind, ro_pre _ (hP.sub [] rfl) hK⟩ rfl rfl hl.1 rfl (lv_room (Nat.le_of_ble_eq_true rfl)) dX2_axiom_5 ⟨Nat.le_refl _, Nat.le_refl _⟩) ?_
  have join_22 : ∀ (x2 : Int32), (x2 = eqI sk 6) → ∀ (H : Heap) (locs : List Loc), va_P G.1 vwCl [(mo, .inr (2, [.int th, .ref ce, .ref gv, .int st, .int sk, .ref dr, .ref go, .int tk, .int be, .int so, .int le, .int an, .ref sa])), (ce, eI G 418 fc), (gv, eZ G 30 fg), (dr, eI G 10 fd), (go, eI G 10 fo), (sa, eI G 10 fs)] H → va_D A [(mo, .inr (2, [.int th, .ref ce, .ref gv, .int st, .int sk, .ref dr, .ref go, .int tk, .int be, .int so, .int le, .int an, .ref sa])), (ce, eI G 418 fc), (gv, eZ G 30 fg), (dr, eI G 10 fd), (go, eI G 10 fo), (sa, eI G 10 fs)] → va_S A s.heap H locs → ∀ ls : Array Slot, lv_has ls 4 [(0, .ref mo), (1, .int x), (2, .int y)] → W p l e rmX2_axiom s m [.ref mo, .int x, .int y].toArray below meth c H locs 0 0 (MQ below (mu_Q G none [(mo, .inr (2, [.int (thAx sk x), .ref ce, .ref gv, .int st, .int (if thAx sk x = 0 then sk + 1 else sk), .ref dr, .ref go, .int tk, .int be, .int so, .int le, .int an, .ref sa])), (ce, eI G 418 (if thAx sk x = 0 then axC fc (29 + (n + 1)) x.toNatClampNeg y else fc)), (gv, eZ G 30 fg), (dr, eI G 10 fd), (go, eI G 10 fo), (sa, eI G 10 fs)] A) [.ref mo, .int x, .int y].toArray s 0 0 A) (F0 m 22 ls [.int x2, .int (outI x 0 9), .ref mo]) := by
    intro x2 ex2 H locs hP hD hS ls hl
    refine lv_iconst (v := 0) hx hb dX2_axiom_22 (by decide) ?_
    have eT : thAx sk x = flI (outI x 0 9) x2 0 := by unfold thAx; rw [← ex2]
    refine mu_call (va_runV (As := [.int (outI x 0 9), .int x2, .int 0]) (rest := []) ⟨hx, hb, hml, hown, hts⟩ (c_X2_fails l G _ mo ce gv dr go sa th st sk tk be so le an fc fg fd fo fs (outI x 0 9) x2 0) (cwV 3 hts gX2_axiom_X2_fails rfl rfl rfl (by decide +kernel) ⟨Nat.le_of_ble_eq_true rfl, Nat.le_of_ble_eq_true rfl⟩) ⟨mu_blind, va_recv hK.1 hP (ci := 2) (q0 := 0) rfl rfl, mu_pre _ (hP.sub [0, 1, 2, 3, 4, 5] rfl) (hD.sub [0, 1, 2, 3, 4, 5] (by decide) rfl) hK⟩ rfl rfl hl.1 rfl (lv_room (Nat.le_of_ble_eq_true rfl)) dX2_axiom_23 ⟨Nat.le_refl _, Nat.le_refl _⟩) hS (va_free hD hS hA [0, 1, 2, 3, 4, 5] rfl) (va_free hD hS hA [0, 1, 2, 3, 4, 5] rfl) (fun H1 locs hP1 hD1 hk1 hS => ?_)
    obtain ⟨hP, hD⟩ := rp_join (ws' := [(mo, .inr (2, [.int (flI (outI x 0 9) x2 0), .ref ce, .ref gv, .int st, .int sk, .ref dr, .ref go, .int tk, .int be, .int so, .int le, .int an, .ref sa])), (ce, eI G 418 fc), (gv, eZ G 30 fg), (dr, eI G 10 fd), (go, eI G 10 fo), (sa, eI G 10 fs)]) hP hD [0, 1, 2, 3, 4, 5] rfl hk1 hP1 (fun k q h => match k, q, h with | 0, q, h => Or.inl ⟨0, h⟩ | 1, q, h => Or.inl ⟨1, h⟩ | 2, q, h => Or.inl ⟨2, h⟩ | 3, q, h => Or.inl ⟨3, h⟩ | 4, q, h => Or.inl ⟨4, h⟩ | 5, q, h => Or.inl ⟨5, h⟩ | k + 6, q, h => nomatch h) rfl
    generalize H1 = H at hP hS ⊢
    have hP : va_P G.1 vwCl [(mo, .inr (2, [.int (flI (outI x 0 9) x2 0), .ref ce, .ref gv, .int st, .int sk, .ref dr, .ref go, .int tk, .int be, .int so, .int le, .int an, .ref sa])), (ce, eI G 418 fc), (gv, eZ G 30 fg), (dr, eI G 10 fd), (go, eI G 10 fo), (sa, eI G 10 fs)] H := hP
    have hD : va_D A [(mo, .inr (2, [.int (flI (outI x 0 9) x2 0), .ref ce, .ref gv, .int st, .int sk, .ref dr, .ref go, .int tk, .int be, .int so, .int le, .int an, .ref sa])), (ce, eI G 418 fc), (gv, eZ G 30 fg), (dr, eI G 10 fd), (go, eI G 10 fo), (sa, eI G 10 fs)] := hD
    refine lv_if_eq (tgt := 30) hx hb dX2_axiom_26 (by decide) (fun c_26 => ?_) (fun c_26 => ?_)
    · have hz : thAx sk x = 0 := by rw [eT]; exact cnt0 c_26
      obtain ⟨exn, hxn⟩ := out0 (N := 9) rfl (by decide) (fl0 hz).1
      have hn5 : ¬ n = 6 := ne_n esk rfl (eqI0 (fl0 hz).2.1)
      refine lv_aload_n hx hb dX2_axiom_30 rfl (lv_at hl 0 rfl) ?_
      refine lv_dup hx hb dX2_axiom_31 rfl ?_
      refine va_get (D := G.1) (ci := 2) (v := .int sk) (C := RX2) (T := TX2) (N := 13) hx hb hts hinX2 hown hK.1 hP 0 rfl rfl 4 (by decide) hw1 (fun _ h9 => h9) rfl dX2_axiom_32 ?_
      refine lv_iconst (v := 1) hx hb dX2_axiom_35 (by decide) ?_
      refine lv_iadd hx hb dX2_axiom_36 ?_
      refine va_put (D := G.1) (ci := 2) (v := .int (sk + 1)) (ty := .int) (C := RX2) (T := TX2) (N := 13) hx hb hts hinX2 tyX2 tyX2_ok nmX2 hown hK.1 hP hD hS 0 rfl rfl 4 (by decide) hw1 (fun _ h9 => h9) rfl (by decide +kernel) rfl rfl (Nat.le_of_ble_eq_true rfl) dX2_axiom_37 (fun H locs hP hD hS => ?_)
      have hP : va_P G.1 vwCl [(mo, .inr (2, [.int (flI (outI x 0 9) x2 0), .ref ce, .ref gv, .int st, .int (sk + 1), .ref dr, .ref go, .int tk, .int be, .int so, .int le, .int an, .ref sa])), (ce, eI G 418 fc), (gv, eZ G 30 fg), (dr, eI G 10 fd), (go, eI G 10 fo), (sa, eI G 10 fs)] H := hP
      have hD : va_D A [(mo, .inr (2, [.int (flI (outI x 0 9) x2 0), .ref ce, .ref gv, .int st, .int (sk + 1), .ref dr, .ref go, .int tk, .int be, .int so, .int le, .int an, .ref sa])), (ce, eI G 418 fc), (gv, eZ G 30 fg), (dr, eI G 10 fd), (go, eI G 10 fo), (sa, eI G 10 fs)] := hD
      refine lv_iconst (v := 0) hx hb dX2_axiom_40 (by decide) ?_
      refine lv_istore_n (lv' := [(3, .int 0), (0, .ref mo), (1, .int x), (2, .int y)]) hx hb dX2_axiom_41 rfl hl (by decide) rfl (fun ls hl => ?_)
      have loop_42 : ∀ (n_42 i : Nat) (xi : Int32) (h : Nat → Int32), i ≤ 11 → 11 + 1 ≤ i + n_42 → (xi = nI i) → (h = seg (11 * (29 + (n + 1))) i (fun _ => 0) fc) → ∀ (H : Heap) (locs : List Loc), va_P G.1 vwCl [(mo, .inr (2, [.int (flI (outI x 0 9) x2 0), .ref ce, .ref gv, .int st, .int (sk + 1), .ref dr, .ref go, .int tk, .int be, .int so, .int le, .int an, .ref sa])), (ce, eI G 418 h), (gv, eZ G 30 fg), (dr, eI G 10 fd), (go, eI G 10 fo), (sa, eI G 10 fs)] H → va_D A [(mo, .inr (2, [.int (flI (outI x 0 9) x2 0), .ref ce, .ref gv, .int st, .int (sk + 1), .ref dr, .ref go, .int tk, .int be, .int so, .int le, .int an, .ref sa])), (ce, eI G 418 h), (gv, eZ G 30 fg), (dr, eI G 10 fd), (go, eI G 10 fo), (sa, eI G 10 fs)] → va_S A s.heap H locs → ∀ ls : Array Slot, lv_has ls 4 [(0, .ref mo), (1, .int x), (2, .int y), (3, .int xi)] → W p l e rmX2_axiom s m [.ref mo, .int x, .int y].toArray below meth c H locs 0 0 (MQ below (mu_Q G none [(mo, .inr (2, [.int (thAx sk x), .ref ce, .ref gv, .int st, .int (if thAx sk x = 0 then sk + 1 else sk), .ref dr, .ref go, .int tk, .int be, .int so, .int le, .int an, .ref sa])), (ce, eI G 418 (if thAx sk x = 0 then axC fc (29 + (n + 1)) x.toNatClampNeg y else fc)), (gv, eZ G 30 fg), (dr, eI G 10 fd), (go, eI G 10 fo), (sa, eI G 10 fs)] A) [.ref mo, .int x, .int y].toArray s 0 0 A) (F0 m 42 ls []) := by
        intro n_42
        induction n_42 with
        | zero => intro i xi h h1 h2; exact absurd h2 (by omega)
        | succ n_42 ih_42 =>
          intro i xi h hi_42 hn_42 ei eh H locs hP hD hS ls hl
          refine lv_iload_n hx hb dX2_axiom_42 rfl (lv_at hl 3 rfl) ?_
          refine lv_bipush (v := 11) hx hb dX2_axiom_43 (by decide) ?_
          refine lv_icmp_ge (tgt := 69) hx hb dX2_axiom_45 (by decide) (fun c_45 => ?_) (fun c_45 => ?_)
          · have hN : i = 11 := ge_ix ei (by decide) (by decide) c_45 hi_42
            refine lv_aload_n hx hb dX2_axiom_69 rfl (lv_at hl 0 rfl) ?_
            refine va_get (D := G.1) (ci := 2) (v := .ref ce) (C := RX2) (T := TX2) (N := 13) hx hb hts hinX2 hown hK.1 hP 0 rfl rfl 1 (by decide) hw2 (fun _ h9 => h9) rfl dX2_axiom_70 ?_
            refine lv_bipush (v := 11) hx hb dX2_axiom_73 (by decide) ?_
            refine lv_aload_n hx hb dX2_axiom_75 rfl (lv_at hl 0 rfl) ?_
            refine ro_call (va_runV (As := []) (rest := [.int 11, .ref ce]) ⟨hx, hb, hml, hown, hts⟩ (c_X2_upper l G mo ce gv dr go sa (flI (outI x 0 9) x2 0) st (sk + 1) tk be so le an h fg fd fo fs) (cwV 0 hts gX2_axiom_X2_upper rfl rfl rfl (by decide +kernel) ⟨Nat.le_of_ble_eq_true rfl, Nat.le_of_ble_eq_true rfl⟩) ⟨ro_blind, va_recv hK.1 hP (ci := 2) (q0 := 0) rfl rfl, ro_pre _ (hP.sub [0, 1, 2, 3, 4, 5] rfl) hK⟩ rfl rfl hl.1 rfl (lv_room (Nat.le_of_ble_eq_true rfl)) dX2_axiom_76 ⟨Nat.le_refl _, Nat.le_refl _⟩) ?_
            refine lv_imul hx hb dX2_axiom_79 ?_
            refine lv_iload_n hx hb dX2_axiom_80 rfl (lv_at hl 1 rfl) ?_
            refine lv_iadd hx hb dX2_axiom_81 ?_
            refine lv_iload_n hx hb dX2_axiom_82 rfl (lv_at hl 2 rfl) ?_
            refine lv_if_eq (tgt := 90) hx hb dX2_axiom_83 (by decide) (fun c_83 => ?_) (fun c_83 => ?_)
            · refine lv_iconst (v := (-1)) hx hb dX2_axiom_90 (by decide) ?_
              refine ra_iast (v := (11 * (29 + (n + 1)) + x.toNatClampNeg)) hx hb hK.1 hP hD hS 1 0 rfl rfl (na_add (na_mul (by decide) (na_up (na_add esk (by decide)) (by omega))) exn) (by omega) (by decide) dX2_axiom_91 (fun H locs hP hD hS => ?_)
              have hP : va_P G.1 vwCl [(mo, .inr (2, [.int (flI (outI x 0 9) x2 0), .ref ce, .ref gv, .int st, .int (sk + 1), .ref dr, .ref go, .int tk, .int be, .int so, .int le, .int an, .ref sa])), (ce, eI G 418 (upd h (11 * (29 + (n + 1)) + x.toNatClampNeg) (-1))), (gv, eZ G 30 fg), (dr, eI G 10 fd), (go, eI G 10 fo), (sa, eI G 10 fs)] H := hP
              have hD : va_D A [(mo, .inr (2, [.int (flI (outI x 0 9) x2 0), .ref ce, .ref gv, .int st, .int (sk + 1), .ref dr, .ref go, .int tk, .int be, .int so, .int le, .int an, .ref sa])), (ce, eI G 418 (upd h (11 * (29 + (n + 1)) + x.toNatClampNeg) (-1))), (gv, eZ G 30 fg), (dr, eI G 10 fd), (go, eI G 10 fo), (sa, eI G 10 fs)] := hD
              have eA91 : upd h (11 * (29 + (n + 1)) + x.toNatClampNeg) (-1) = axC fc (29 + (n + 1)) x.toNatClampNeg y := by unfold axC; rw [eh, hN, if_pos c_83]
              rw [eA91] at hP hD
              have hP9 := hP.sub (ws' := [(mo, .inr (2, [.int (thAx sk x), .ref ce, .ref gv, .int st, .int (if thAx sk x = 0 then sk + 1 else sk), .ref dr, .ref go, .int tk, .int be, .int so, .int le, .int an, .ref sa])), (ce, eI G 418 (if thAx sk x = 0 then axC fc (29 + (n + 1)) x.toNatClampNeg y else fc)), (gv, eZ G 30 fg), (dr, eI G 10 fd), (go, eI G 10 fo), (sa, eI G 10 fs)]) [0, 1, 2, 3, 4, 5] (by simp only [if_pos hz]; rw [eT]; rfl)
              have hD9 := hD.sub (ws' := [(mo, .inr (2, [.int (thAx sk x), .ref ce, .ref gv, .int st, .int (if thAx sk x = 0 then sk + 1 else sk), .ref dr, .ref go, .int tk, .int be, .int so, .int le, .int an, .ref sa])), (ce, eI G 418 (if thAx sk x = 0 then axC fc (29 + (n + 1)) x.toNatClampNeg y else fc)), (gv, eZ G 30 fg), (dr, eI G 10 fd), (go, eI G 10 fo), (sa, eI G 10 fs)]) [0, 1, 2, 3, 4, 5] (by decide) (by simp only [if_pos hz]; rw [eT]; rfl)
              exact W.vret hx hb hr (fun t ht hW => ⟨rfl, by rw [ht]; exact hP9, hD9, hS.F ht⟩) hS.2.2 dX2_axiom_92
            · refine lv_iconst (v := 1) hx hb dX2_axiom_86 (by decide) ?_
              refine lv_goto (tgt := 91) hx hb dX2_axiom_87 (by decide) ?_
              refine ra_iast (v := (11 * (29 + (n + 1)) + x.toNatClampNeg)) hx hb hK.1 hP hD hS 1 0 rfl rfl (na_add (na_mul (by decide) (na_up (na_add esk (by decide)) (by omega))) exn) (by omega) (by decide) dX2_axiom_91 (fun H locs hP hD hS => ?_)
              have hP : va_P G.1 vwCl [(mo, .inr (2, [.int (flI (outI x 0 9) x2 0), .ref ce, .ref gv, .int st, .int (sk + 1), .ref dr, .ref go, .int tk, .int be, .int so, .int le, .int an, .ref sa])), (ce, eI G 418 (upd h (11 * (29 + (n + 1)) + x.toNatClampNeg) 1)), (gv, eZ G 30 fg), (dr, eI G 10 fd), (go, eI G 10 fo), (sa, eI G 10 fs)] H := hP
              have hD : va_D A [(mo, .inr (2, [.int (flI (outI x 0 9) x2 0), .ref ce, .ref gv, .int st, .int (sk + 1), .ref dr, .ref go, .int tk, .int be, .int so, .int le, .int an, .ref sa])), (ce, eI G 418 (upd h (11 * (29 + (n + 1)) + x.toNatClampNeg) 1)), (gv, eZ G 30 fg), (dr, eI G 10 fd), (go, eI G 10 fo), (sa, eI G 10 fs)] := hD
              have eA91 : upd h (11 * (29 + (n + 1)) + x.toNatClampNeg) 1 = axC fc (29 + (n + 1)) x.toNatClampNeg y := by unfold axC; rw [eh, hN, if_neg c_83]
              rw [eA91] at hP hD
              have hP9 := hP.sub (ws' := [(mo, .inr (2, [.int (thAx sk x), .ref ce, .ref gv, .int st, .int (if thAx sk x = 0 then sk + 1 else sk), .ref dr, .ref go, .int tk, .int be, .int so, .int le, .int an, .ref sa])), (ce, eI G 418 (if thAx sk x = 0 then axC fc (29 + (n + 1)) x.toNatClampNeg y else fc)), (gv, eZ G 30 fg), (dr, eI G 10 fd), (go, eI G 10 fo), (sa, eI G 10 fs)]) [0, 1, 2, 3, 4, 5] (by simp only [if_pos hz]; rw [eT]; rfl)
              have hD9 := hD.sub (ws' := [(mo, .inr (2, [.int (thAx sk x), .ref ce, .ref gv, .int st, .int (if thAx sk x = 0 then sk + 1 else sk), .ref dr, .ref go, .int tk, .int be, .int so, .int le, .int an, .ref sa])), (ce, eI G 418 (if thAx sk x = 0 then axC fc (29 + (n + 1)) x.toNatClampNeg y else fc)), (gv, eZ G 30 fg), (dr, eI G 10 fd), (go, eI G 10 fo), (sa, eI G 10 fs)]) [0, 1, 2, 3, 4, 5] (by decide) (by simp only [if_pos hz]; rw [eT]; rfl)
              exact W.vret hx hb hr (fun t ht hW => ⟨rfl, by rw [ht]; exact hP9, hD9, hS.F ht⟩) hS.2.2 dX2_axiom_92
          · have hlt : i < 11 := lt_ix ei (by decide) (by decide) c_45 hi_42
            refine lv_aload_n hx hb dX2_axiom_48 rfl (lv_at hl 0 rfl) ?_
            refine va_get (D := G.1) (ci := 2) (v := .ref ce) (C := RX2) (T := TX2) (N := 13) hx hb hts hinX2 hown hK.1 hP 0 rfl rfl 1 (by decide) hw2 (fun _ h9 => h9) rfl dX2_axiom_49 ?_
            refine lv_bipush (v := 11) hx hb dX2_axiom_52 (by decide) ?_
            refine lv_aload_n hx hb dX2_axiom_54 rfl (lv_at hl 0 rfl) ?_
            refine ro_call (va_runV (As := []) (rest := [.int 11, .ref ce]) ⟨hx, hb, hml, hown, hts⟩ (c_X2_upper l G mo ce gv dr go sa (flI (outI x 0 9) x2 0) st (sk + 1) tk be so le an h fg fd fo fs) (cwV 0 hts gX2_axiom_X2_upper rfl rfl rfl (by decide +kernel) ⟨Nat.le_of_ble_eq_true rfl, Nat.le_of_ble_eq_true rfl⟩) ⟨ro_blind, va_recv hK.1 hP (ci := 2) (q0 := 0) rfl rfl, ro_pre _ (hP.sub [0, 1, 2, 3, 4, 5] rfl) hK⟩ rfl rfl hl.1 rfl (lv_room (Nat.le_of_ble_eq_true rfl)) dX2_axiom_55 ⟨Nat.le_refl _, Nat.le_refl _⟩) ?_
            refine lv_imul hx hb dX2_axiom_58 ?_
            refine lv_iload_n hx hb dX2_axiom_59 rfl (lv_at hl 3 rfl) ?_
            refine lv_iadd hx hb dX2_axiom_60 ?_
            refine lv_iconst (v := 0) hx hb dX2_axiom_61 (by decide) ?_
            refine ra_iast (v := ((11 * (29 + (n + 1))) + i)) hx hb hK.1 hP hD hS 1 0 rfl rfl (na_add (na_mul (by decide) (na_up (na_add esk (by decide)) (by omega))) ei) (by omega) (by decide) dX2_axiom_62 (fun H locs hP hD hS => ?_)
            have hP : va_P G.1 vwCl [(mo, .inr (2, [.int (flI (outI x 0 9) x2 0), .ref ce, .ref gv, .int st, .int (sk + 1), .ref dr, .ref go, .int tk, .int be, .int so, .int le, .int an, .ref sa])), (ce, eI G 418 (upd h ((11 * (29 + (n + 1))) + i) 0)), (gv, eZ G 30 fg), (dr, eI G 10 fd), (go, eI G 10 fo), (sa, eI G 10 fs)] H := hP
            have hD : va_D A [(mo, .inr (2, [.int (flI (outI x 0 9) x2 0), .ref ce, .ref gv, .int st, .int (sk + 1), .ref dr, .ref go, .int tk, .int be, .int so, .int le, .int an, .ref sa])), (ce, eI G 418 (upd h ((11 * (29 + (n + 1))) + i) 0)), (gv, eZ G 30 fg), (dr, eI G 10 fd), (go, eI G 10 fo), (sa, eI G 10 fs)] := hD
            refine lv_iinc (v := xi + 1) (lv' := [(3, .int (xi + 1)), (0, .ref mo), (1, .int x), (2, .int y)]) hx hb dX2_axiom_63 hl (k := 3) rfl rfl (by decide) rfl (fun ls hl => ?_)
            refine lv_goto (tgt := 42) hx hb dX2_axiom_66 (by decide) ?_
            exact ih_42 (i + 1) _ _ (by omega) (by omega) (by rw [ei]; exact nI_1 i) (by rw [eh]; exact seg_s (11 * (29 + (n + 1))) i (fun _ => 0) fc) _ _ (hP.sub [0, 1, 2, 3, 4, 5] rfl) (hD.sub [0, 1, 2, 3, 4, 5] (by decide) rfl) hS ls (lv_sub hl [1, 2, 3, 0] rfl)
      exact loop_42 (11 + 1) 0 _ _ (Nat.zero_le _) (by omega) (by exact nI_0.symm) (by exact (seg_0 _ _ _).symm) _ _ (hP.sub [0, 1, 2, 3, 4, 5] rfl) (hD.sub [0, 1, 2, 3, 4, 5] (by decide) rfl) hS ls (lv_sub hl [1, 2, 3, 0] rfl)
    · have hz : ¬ thAx sk x = 0 := by rw [eT]; exact cnt1 c_26
      have hP9 := hP.sub (ws' := [(mo, .inr (2, [.int (thAx sk x), .ref ce, .ref gv, .int st, .int (if thAx sk x = 0 then sk + 1 else sk), .ref dr, .ref go, .int tk, .int be, .int so, .int le, .int an, .ref sa])), (ce, eI G 418 (if thAx sk x = 0 then axC fc (29 + (n + 1)) x.toNatClampNeg y else fc)), (gv, eZ G 30 fg), (dr, eI G 10 fd), (go, eI G 10 fo), (sa, eI G 10 fs)]) [0, 1, 2, 3, 4, 5] (by simp only [if_neg hz]; rw [eT]; rfl)
      have hD9 := hD.sub (ws' := [(mo, .inr (2, [.int (thAx sk x), .ref ce, .ref gv, .int st, .int (if thAx sk x = 0 then sk + 1 else sk), .ref dr, .ref go, .int tk, .int be, .int so, .int le, .int an, .ref sa])), (ce, eI G 418 (if thAx sk x = 0 then axC fc (29 + (n + 1)) x.toNatClampNeg y else fc)), (gv, eZ G 30 fg), (dr, eI G 10 fd), (go, eI G 10 fo), (sa, eI G 10 fs)]) [0, 1, 2, 3, 4, 5] (by decide) (by simp only [if_neg hz]; rw [eT]; rfl)
      exact W.vret hx hb hr (fun t ht hW => ⟨rfl, by rw [ht]; exact hP9, hD9, hS.F ht⟩) hS.2.2 dX2_axiom_29
  refine lv_aload_n hx hb dX2_axiom_8 rfl (lv_at hl 0 rfl) ?_
  refine va_get (D := G.1) (ci := 2) (v := .int sk) (C := RX2) (T := TX2) (N := 13) hx hb hts hinX2 hown hK.1 hP 0 rfl rfl 4 (by decide) hw1 (fun _ h9 => h9) rfl dX2_axiom_9 ?_
  refine lv_bipush (v := 6) hx hb dX2_axiom_12 (by decide) ?_
  refine lv_icmp_ne (tgt := 21) hx hb dX2_axiom_14 (by decide) (fun c_14 => ?_) (fun c_14 => ?_)
  · refine lv_iconst (v := 0) hx hb dX2_axiom_21 (by decide) ?_
    exact join_22 _ (by unfold eqI; rw [if_neg c_14]) _ _ (hP.sub [0, 1, 2, 3, 4, 5] rfl) (hD.sub [0, 1, 2, 3, 4, 5] (by decide) rfl) hS ls (lv_sub hl [0, 1, 2] rfl)
  · refine lv_iconst (v := 1) hx hb dX2_axiom_17 (by decide) ?_
    refine lv_goto (tgt := 22) hx hb dX2_axiom_18 (by decide) ?_
    exact join_22 _ (by unfold eqI; rw [if_pos c_14]) _ _ (hP.sub [0, 1, 2, 3, 4, 5] rfl) (hD.sub [0, 1, 2, 3, 4, 5] (by decide) rfl) hS ls (lv_sub hl [0, 1, 2] rfl)
