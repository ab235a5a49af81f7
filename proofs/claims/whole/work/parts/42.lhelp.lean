def P_term (v a : Int32) (k n : Nat) (b : BT) (fl : Nat → Int64) (cd : Int32) (b' : BT) (fl' : Nat → Int64) : Prop :=
  (cd = 0 ∧ outI v 0 9 = 0 ∧ outI a (-99) 99 = 0 ∧ b' = mkB (bst b) (bsk b) (btk b) (bbe b) (bso b) (ble b) (ban b) (upd (bfd b) v.toNatClampNeg a) (bfo b) (bro b) (bdg b) (bgv b) ∧ fl' = fl) ∨
  (cd = 1 ∧ (¬ outI v 0 9 = 0 ∨ ¬ outI a (-99) 99 = 0) ∧ b' = b ∧ fl' = fl)
abbrev rmL_term : Room := { frames := 7, cells := 1, slots := 6, locals := 103 }
set_option maxHeartbeats 1000000 in
set_option maxRecDepth 100000 in
theorem c_L_term (l : Launch) (hlt : l.stackTraces = false) (G : Gt) (sz ou : Nat) (fl fl' : Nat → Int64) (bx bd bo bs bk : Nat) (ca wa : Nat → Nat) (b b' : BT) (v a : Int32) (cd : Int32) (k n : Nat) (est : bst b = nI k) (hk30 : k ≤ 30) (esk : bsk b = nI n) (hn6 : n ≤ 6) (hs : P_term v a k n b fl cd b' fl') : Met l yL_term wsL_term rmL_term (tw_P G sz [.ref bx, .int v, .int a] (ow G ou fl ++ bw G bx bd bo bs bk ca wa b)) (mu_Q G (some (.int cd)) (ow G ou fl' ++ bw G bx bd bo bs bk ca wa b') (va_A (ow G ou fl ++ bw G bx bd bo bs bk ca wa b) sz)) 1 6 (va_A (ow G ou fl ++ bw G bx bd bo bs bk ca wa b) sz) := by
  unfold P_term at hs
  refine va_MetW (cc := cL_term) (maxL := 4) (ret := some .int) (hh := [(0, 6, 9, 13)]) (by decide) rfl ?_
  intro p e s m args below meth c s₁ B hml hv
  obtain ⟨⟨rfl, hsz, hP, hD0, hK⟩, hxw, hzz⟩ := hv
  have hx := B.exec
  have hb := B.bytes
  have hr := B.returns
  have hts := atoms_spec (ws := wsL_term) B.pre
  have htb := vx_table (x := yL_term) B (hts _ List.mem_cons_self)
  have hown : s.vm.findClass RL = some m.cls := findClass_of_methodNamed B.named
  have hlocks := B.notSynchronized
  subst hsz
  have hD := hD0.self (sz := s.heap.size)
  generalize hAe : va_A (ow G ou fl ++ bw G bx bd bo bs bk ca wa b) s.heap.size = A at hD hzz ⊢
  have hA : ∀ q : Nat, s.heap.size ≤ q → A q := fun q h => by rw [← hAe]; exact Or.inr h
  have hS : va_S A s.heap s.heap [] := va_S.rf
  have hw0 := hts (.classLink RL 13 "java/lang/IllegalArgumentException") (by decide +kernel)
  have hl := lv_entry ([.ref bx, .int v, .int a]) (n := 4) (Nat.le_of_ble_eq_true rfl)
  rw [lg_entry_eq]
  generalize (lg_sl ([.ref bx, .int v, .int a]) ++ List.replicate (4 - (lg_sl ([.ref bx, .int v, .int a])).length) Slot.unset).toArray = ls at hl ⊢
  have hl : lv_has ls 4 [(0, .ref bx), (1, .int v), (2, .int a)] := hl
  rcases hs with ⟨rfl, g_h1, g_h2, eb9, ef9⟩ | ⟨rfl, g_h, eb9, ef9⟩
  · subst b'; subst fl'
    refine lv_aload_n hx hb dL_term_0 rfl (lv_at hl 0 rfl) ?_
    refine lv_iload_n hx hb dL_term_1 rfl (lv_at hl 1 rfl) ?_
    refine lv_iload_n hx hb dL_term_2 rfl (lv_at hl 2 rfl) ?_
    have hF := sr_F hD hS hA
    refine mu_call (va_runV (As := [.int v, .int a]) (rest := []) ⟨hx, hb, hml, hown, hts⟩ (c_X1_term l G _ bx bd bo bs bk ca wa (bst b) (bsk b) (btk b) (bbe b) (bso b) (ble b) (ban b) (bfd b) (bfo b) (bro b) (bdg b) (bgv b) v a g_h1 g_h2) (cwV 2 hts gL_term_X1_term rfl rfl rfl (by decide +kernel) ⟨Nat.le_of_ble_eq_true rfl, Nat.le_of_ble_eq_true rfl⟩) ⟨mu_blind, va_recv hK.1 hP (ci := 1) (q0 := 1) rfl rfl, mu_pre _ (sr_P hP) (sr_D hD) hK⟩ rfl rfl hl.1 rfl (lv_room (Nat.le_of_ble_eq_true rfl)) dL_term_3 ⟨Nat.le_of_ble_eq_true rfl, Nat.le_of_ble_eq_true rfl⟩) hS hF hF (fun H1 locs hP1 hD1 hk1 hS => ?_)
    obtain ⟨hP, hD⟩ := sr_J hP hD hk1 hF (show va_P G.1 vwCl (bw G bx bd bo bs bk ca wa (mkB (bst b) (bsk b) (btk b) (bbe b) (bso b) (ble b) (ban b) (upd (bfd b) v.toNatClampNeg a) (bfo b) (bro b) (bdg b) (bgv b))) H1 from hP1) hD1
    generalize H1 = H at hP hS ⊢
    refine lv_goto (tgt := 12) hx hb dL_term_6 (by decide) ?_
    refine lv_iconst (v := 0) hx hb dL_term_12 (by decide) ?_
    refine W.widen (k := 1) (n := 6) (by decide) (by decide) ?_
    exact W.iret (v := 0) hx hb hr (fun t ht hW => ⟨rfl, by rw [ht]; exact hP, hD, hS.F ht⟩) hS.2.2 dL_term_13
  · subst b'; subst fl'
    refine lv_aload_n hx hb dL_term_0 rfl (lv_at hl 0 rfl) ?_
    refine lv_iload_n hx hb dL_term_1 rfl (lv_at hl 1 rfl) ?_
    refine lv_iload_n hx hb dL_term_2 rfl (lv_at hl 2 rfl) ?_
    refine lh_catch (vx_runV (As := [.int v, .int a]) (rest := []) ⟨hx, hb, hml, hown, hts⟩ (c_X1_term_1 l hlt G bx bd bo bs bk ca wa (bst b) (bsk b) (btk b) (bbe b) (bso b) (ble b) (ban b) (bfd b) (bfo b) (bro b) (bdg b) (bgv b) v a g_h) (cwV 2 hts gL_term_X1_term rfl rfl rfl (by decide +kernel) ⟨Nat.le_of_ble_eq_true rfl, Nat.le_of_ble_eq_true rfl⟩) ⟨tn_blind, va_recv hK.1 hP (ci := 1) (q0 := 1) rfl rfl, tn_pre _ (sr_P hP) hK hxw (hzz.narrow (fun _ h => h.elim))⟩ rfl rfl hl.1 rfl (lv_room (Nat.le_of_ble_eq_true rfl)) dL_term_3 ⟨Nat.le_of_ble_eq_true rfl, Nat.le_of_ble_eq_true rfl⟩) hS hP hown [] ⟨0, 6, 9, 13⟩ [] (htb.trans rfl) (fun _ h => nomatch h) (by decide) (by decide) hw0 (xcast hxw.1.1) (fun q9 H locs hP hS => ?_)
    refine lv_astore_n (lv' := [(3, .ref q9), (0, .ref bx), (1, .int v), (2, .int a)]) hx hb dL_term_9 rfl hl (by decide) rfl (fun ls hl => ?_)
    refine lv_iconst (v := 1) hx hb dL_term_10 (by decide) ?_
    exact W.iret (v := 1) hx hb hr (fun t ht hW => ⟨rfl, by rw [ht]; exact hP, hD, hS.F ht⟩) hS.2.2 dL_term_11

def P_require (x y : Int32) (k n : Nat) (b : BT) (fl : Nat → Int64) (cd : Int32) (b' : BT) (fl' : Nat → Int64) : Prop :=
  (cd = 0 ∧ outI x 0 1 = 0 ∧ outI y (-9999) 9999 = 0 ∧ k < 30 ∧ (btk b) = 0 ∧ b' = mkB ((bst b) + 1) (bsk b) (btk b) (bbe b) (bso b) (ble b) (ban b) (mixf 10 (fun _ => 0) (bfd b)) (bfo b) (va_up (bro b) k (mixf 10 (nrW (bfd b) (snI x)) ((bro b) k))) (va_up (bdg b) k (nrD (bfd b) (snI x) (bdI x y))) (va_up (bgv b) k 1) ∧ fl' = vp_updL fl 0 ((bst b) + 1 - 1).toInt64) ∨
  (cd = 1 ∧ (¬ outI x 0 1 = 0 ∨ ¬ outI y (-9999) 9999 = 0) ∧ b' = b ∧ fl' = fl) ∨
  (cd = 2 ∧ outI x 0 1 = 0 ∧ outI y (-9999) 9999 = 0 ∧ ((bst b) = 30 ∨ ¬ (btk b) = 0) ∧ b' = b ∧ fl' = fl)
abbrev rmL_require : Room := { frames := 7, cells := 1, slots := 6, locals := 111 }
set_option maxHeartbeats 1000000 in
set_option maxRecDepth 100000 in
theorem c_L_require (l : Launch) (hlt : l.stackTraces = false) (G : Gt) (sz ou : Nat) (fl fl' : Nat → Int64) (bx bd bo bs bk : Nat) (ca wa : Nat → Nat) (b b' : BT) (x y : Int32) (cd : Int32) (k n : Nat) (est : bst b = nI k) (hk30 : k ≤ 30) (esk : bsk b = nI n) (hn6 : n ≤ 6) (hs : P_require x y k n b fl cd b' fl') : Met l yL_require wsL_require rmL_require (tw_P G sz [.ref bx, .int x, .int y, .ref ou] (ow G ou fl ++ bw G bx bd bo bs bk ca wa b)) (mu_Q G (some (.int cd)) (ow G ou fl' ++ bw G bx bd bo bs bk ca wa b') (va_A (ow G ou fl ++ bw G bx bd bo bs bk ca wa b) sz)) 1 6 (va_A (ow G ou fl ++ bw G bx bd bo bs bk ca wa b) sz) := by
  unfold P_require at hs
  refine va_MetW (cc := cL_require) (maxL := 5) (ret := some .int) (hh := [(0, 10, 13, 13), (0, 10, 17, 19)]) (by decide) rfl ?_
  intro p e s m args below meth c s₁ B hml hv
  obtain ⟨⟨rfl, hsz, hP, hD0, hK⟩, hxw, hzz⟩ := hv
  have hx := B.exec
  have hb := B.bytes
  have hr := B.returns
  have hts := atoms_spec (ws := wsL_require) B.pre
  have htb := vx_table (x := yL_require) B (hts _ List.mem_cons_self)
  have hown : s.vm.findClass RL = some m.cls := findClass_of_methodNamed B.named
  have hlocks := B.notSynchronized
  subst hsz
  have hD := hD0.self (sz := s.heap.size)
  generalize hAe : va_A (ow G ou fl ++ bw G bx bd bo bs bk ca wa b) s.heap.size = A at hD hzz ⊢
  have hA : ∀ q : Nat, s.heap.size ≤ q → A q := fun q h => by rw [← hAe]; exact Or.inr h
  have hS : va_S A s.heap s.heap [] := va_S.rf
  have hw0 := hts (.classLink RL 13 "java/lang/IllegalArgumentException") (by decide +kernel)
  have hw1 := hts (.classLink RL 19 "java/lang/IllegalStateException") (by decide +kernel)
  have hl := lv_entry ([.ref bx, .int x, .int y, .ref ou]) (n := 5) (Nat.le_of_ble_eq_true rfl)
  rw [lg_entry_eq]
  generalize (lg_sl ([.ref bx, .int x, .int y, .ref ou]) ++ List.replicate (5 - (lg_sl ([.ref bx, .int x, .int y, .ref ou])).length) Slot.unset).toArray = ls at hl ⊢
  have hl : lv_has ls 5 [(0, .ref bx), (1, .int x), (2, .int y), (3, .ref ou)] := hl
  rcases hs with ⟨rfl, g_h1, g_h2, g_hk, g_htk, eb9, ef9⟩ | ⟨rfl, g_h, eb9, ef9⟩ | ⟨rfl, g_h1, g_h2, g_h, eb9, ef9⟩
  · subst b'; subst fl'
    refine lv_aload_n hx hb dL_require_0 rfl (lv_at hl 3 rfl) ?_
    refine lv_iconst (v := 0) hx hb dL_require_1 (by decide) ?_
    refine lv_aload_n hx hb dL_require_2 rfl (lv_at hl 0 rfl) ?_
    refine lv_iload_n hx hb dL_require_3 rfl (lv_at hl 1 rfl) ?_
    refine lv_iload_n hx hb dL_require_4 rfl (lv_at hl 2 rfl) ?_
    have hF := sr_F hD hS hA
    refine mu_call (va_runV (As := [.int x, .int y]) (rest := [.int 0, .ref ou]) ⟨hx, hb, hml, hown, hts⟩ (c_X1_require l G _ bx bd bo bs bk ca wa (bst b) (bsk b) (btk b) (bbe b) (bso b) (ble b) (ban b) (bfd b) (bfo b) (bro b) (bdg b) (bgv b) x y g_h1 g_h2 k est g_hk g_htk) (cwV 2 hts gL_require_X1_require rfl rfl rfl (by decide +kernel) ⟨Nat.le_of_ble_eq_true rfl, Nat.le_of_ble_eq_true rfl⟩) ⟨mu_blind, va_recv hK.1 hP (ci := 1) (q0 := 1) rfl rfl, mu_pre _ (sr_P hP) (sr_D hD) hK⟩ rfl rfl hl.1 rfl (lv_room (Nat.le_of_ble_eq_true rfl)) dL_require_5 ⟨Nat.le_of_ble_eq_true rfl, Nat.le_of_ble_eq_true rfl⟩) hS hF hF (fun H1 locs hP1 hD1 hk1 hS => ?_)
    obtain ⟨hP, hD⟩ := sr_J hP hD hk1 hF (show va_P G.1 vwCl (bw G bx bd bo bs bk ca wa (mkB ((bst b) + 1) (bsk b) (btk b) (bbe b) (bso b) (ble b) (ban b) (mixf 10 (fun _ => 0) (bfd b)) (bfo b) (va_up (bro b) k (mixf 10 (nrW (bfd b) (snI x)) ((bro b) k))) (va_up (bdg b) k (nrD (bfd b) (snI x) (bdI x y))) (va_up (bgv b) k 1))) H1 from hP1) hD1
    generalize H1 = H at hP hS ⊢
    refine lv_i2l (v := ((bst b) + 1 - 1).toInt64) hx hb dL_require_8 rfl ?_
    refine va_last hx hb hK.1 hP hD hS 0 3 rfl rfl (vp_in_nI (n := 0) (N := 1) (by decide) (by decide)) dL_require_9 (fun H locs hP hD hS => ?_)
    have hP : va_P G.1 vwCl (ow G ou (vp_updL fl 0 (((bst b) + 1 - 1).toInt64)) ++ bw G bx bd bo bs bk ca wa (mkB ((bst b) + 1) (bsk b) (btk b) (bbe b) (bso b) (ble b) (ban b) (mixf 10 (fun _ => 0) (bfd b)) (bfo b) (va_up (bro b) k (mixf 10 (nrW (bfd b) (snI x)) ((bro b) k))) (va_up (bdg b) k (nrD (bfd b) (snI x) (bdI x y))) (va_up (bgv b) k 1))) H := hP
    have hD : va_D A (ow G ou (vp_updL fl 0 (((bst b) + 1 - 1).toInt64)) ++ bw G bx bd bo bs bk ca wa (mkB ((bst b) + 1) (bsk b) (btk b) (bbe b) (bso b) (ble b) (ban b) (mixf 10 (fun _ => 0) (bfd b)) (bfo b) (va_up (bro b) k (mixf 10 (nrW (bfd b) (snI x)) ((bro b) k))) (va_up (bdg b) k (nrD (bfd b) (snI x) (bdI x y))) (va_up (bgv b) k 1))) := hD
    refine lv_goto (tgt := 21) hx hb dL_require_10 (by decide) ?_
    refine lv_iconst (v := 0) hx hb dL_require_21 (by decide) ?_
    refine W.widen (k := 1) (n := 6) (by decide) (by decide) ?_
    exact W.iret (v := 0) hx hb hr (fun t ht hW => ⟨rfl, by rw [ht]; exact hP, hD, hS.F ht⟩) hS.2.2 dL_require_22
  · subst b'; subst fl'
    refine lv_aload_n hx hb dL_require_0 rfl (lv_at hl 3 rfl) ?_
    refine lv_iconst (v := 0) hx hb dL_require_1 (by decide) ?_
    refine lv_aload_n hx hb dL_require_2 rfl (lv_at hl 0 rfl) ?_
    refine lv_iload_n hx hb dL_require_3 rfl (lv_at hl 1 rfl) ?_
    refine lv_iload_n hx hb dL_require_4 rfl (lv_at hl 2 rfl) ?_
    refine lh_catch (vx_runV (As := [.int x, .int y]) (rest := [.int 0, .ref ou]) ⟨hx, hb, hml, hown, hts⟩ (c_X1_require_1 l hlt G bx bd bo bs bk ca wa (bst b) (bsk b) (btk b) (bbe b) (bso b) (ble b) (ban b) (bfd b) (bfo b) (bro b) (bdg b) (bgv b) x y g_h) (cwV 2 hts gL_require_X1_require rfl rfl rfl (by decide +kernel) ⟨Nat.le_of_ble_eq_true rfl, Nat.le_of_ble_eq_true rfl⟩) ⟨tn_blind, va_recv hK.1 hP (ci := 1) (q0 := 1) rfl rfl, tn_pre _ (sr_P hP) hK hxw (hzz.narrow (fun _ h => h.elim))⟩ rfl rfl hl.1 rfl (lv_room (Nat.le_of_ble_eq_true rfl)) dL_require_5 ⟨Nat.le_of_ble_eq_true rfl, Nat.le_of_ble_eq_true rfl⟩) hS hP hown [] ⟨0, 10, 13, 13⟩ [⟨0, 10, 17, 19⟩] (htb.trans rfl) (fun _ h => nomatch h) (by decide) (by decide) hw0 (xcast hxw.1.1) (fun q9 H locs hP hS => ?_)
    refine lv_astore (lv' := [(4, .ref q9), (0, .ref bx), (1, .int x), (2, .int y), (3, .ref ou)]) hx hb dL_require_13 hl (by decide) rfl (fun ls hl => ?_)
    refine lv_iconst (v := 1) hx hb dL_require_15 (by decide) ?_
    exact W.iret (v := 1) hx hb hr (fun t ht hW => ⟨rfl, by rw [ht]; exact hP, hD, hS.F ht⟩) hS.2.2 dL_require_16
  · subst b'; subst fl'
    refine lv_aload_n hx hb dL_require_0 rfl (lv_at hl 3 rfl) ?_
    refine lv_iconst (v := 0) hx hb dL_require_1 (by decide) ?_
    refine lv_aload_n hx hb dL_require_2 rfl (lv_at hl 0 rfl) ?_
    refine lv_iload_n hx hb dL_require_3 rfl (lv_at hl 1 rfl) ?_
    refine lv_iload_n hx hb dL_require_4 rfl (lv_at hl 2 rfl) ?_
    refine lh_catch (vx_runV (As := [.int x, .int y]) (rest := [.int 0, .ref ou]) ⟨hx, hb, hml, hown, hts⟩ (c_X1_require_2 l hlt G bx bd bo bs bk ca wa (bst b) (bsk b) (btk b) (bbe b) (bso b) (ble b) (ban b) (bfd b) (bfo b) (bro b) (bdg b) (bgv b) x y g_h1 g_h2 g_h) (cwV 2 hts gL_require_X1_require rfl rfl rfl (by decide +kernel) ⟨Nat.le_of_ble_eq_true rfl, Nat.le_of_ble_eq_true rfl⟩) ⟨tn_blind, va_recv hK.1 hP (ci := 1) (q0 := 1) rfl rfl, tn_pre _ (sr_P hP) hK hxw (hzz.narrow (fun _ h => h.elim))⟩ rfl rfl hl.1 rfl (lv_room (Nat.le_of_ble_eq_true rfl)) dL_require_5 ⟨Nat.le_of_ble_eq_true rfl, Nat.le_of_ble_eq_true rfl⟩) hS hP hown [⟨0, 10, 13, 13⟩] ⟨0, 10, 17, 19⟩ [] (htb.trans rfl) (fun z hz => by
        simp only [List.mem_cons, List.not_mem_nil, or_false] at hz
        rcases hz with rfl
        · exact Or.inr ⟨by decide, _, hw0, hxw.2.2.1.1⟩) (by decide) (by decide) hw1 (xcast hxw.1.2.1) (fun q9 H locs hP hS => ?_)
    refine lv_astore (lv' := [(4, .ref q9), (0, .ref bx), (1, .int x), (2, .int y), (3, .ref ou)]) hx hb dL_require_17 hl (by decide) rfl (fun ls hl => ?_)
    refine lv_iconst (v := 2) hx hb dL_require_19 (by decide) ?_
    exact W.iret (v := 2) hx hb hr (fun t ht hW => ⟨rfl, by rw [ht]; exact hP, hD, hS.F ht⟩) hS.2.2 dL_require_20

def P_objective (k n : Nat) (b : BT) (fl : Nat → Int64) (cd : Int32) (b' : BT) (fl' : Nat → Int64) : Prop :=
  (cd = 0 ∧ (btk b) = 0 ∧ b' = mkB (bst b) (bsk b) (btk b) (bbe b) (bso b) (ble b) (ban b) (mixf 10 (fun _ => 0) (bfd b)) (mixf 10 (bfd b) (bfo b)) (bro b) (bdg b) (bgv b) ∧ fl' = fl) ∨
  (cd = 1 ∧ ¬ (btk b) = 0 ∧ b' = b ∧ fl' = fl)
abbrev rmL_objective : Room := { frames := 7, cells := 1, slots := 6, locals := 101 }
set_option maxHeartbeats 1000000 in
set_option maxRecDepth 100000 in
theorem c_L_objective (l : Launch) (hlt : l.stackTraces = false) (G : Gt) (sz ou : Nat) (fl fl' : Nat → Int64) (bx bd bo bs bk : Nat) (ca wa : Nat → Nat) (b b' : BT) (cd : Int32) (k n : Nat) (est : bst b = nI k) (hk30 : k ≤ 30) (esk : bsk b = nI n) (hn6 : n ≤ 6) (hs : P_objective  k n b fl cd b' fl') : Met l yL_objective wsL_objective rmL_objective (tw_P G sz [.ref bx] (ow G ou fl ++ bw G bx bd bo bs bk ca wa b)) (mu_Q G (some (.int cd)) (ow G ou fl' ++ bw G bx bd bo bs bk ca wa b') (va_A (ow G ou fl ++ bw G bx bd bo bs bk ca wa b) sz)) 1 6 (va_A (ow G ou fl ++ bw G bx bd bo bs bk ca wa b) sz) := by
  unfold P_objective at hs
  refine va_MetW (cc := cL_objective) (maxL := 2) (ret := some .int) (hh := [(0, 4, 7, 19)]) (by decide) rfl ?_
  intro p e s m args below meth c s₁ B hml hv
  obtain ⟨⟨rfl, hsz, hP, hD0, hK⟩, hxw, hzz⟩ := hv
  have hx := B.exec
  have hb := B.bytes
  have hr := B.returns
  have hts := atoms_spec (ws := wsL_objective) B.pre
  have htb := vx_table (x := yL_objective) B (hts _ List.mem_cons_self)
  have hown : s.vm.findClass RL = some m.cls := findClass_of_methodNamed B.named
  have hlocks := B.notSynchronized
  subst hsz
  have hD := hD0.self (sz := s.heap.size)
  generalize hAe : va_A (ow G ou fl ++ bw G bx bd bo bs bk ca wa b) s.heap.size = A at hD hzz ⊢
  have hA : ∀ q : Nat, s.heap.size ≤ q → A q := fun q h => by rw [← hAe]; exact Or.inr h
  have hS : va_S A s.heap s.heap [] := va_S.rf
  have hw0 := hts (.classLink RL 19 "java/lang/IllegalStateException") (by decide +kernel)
  have hl := lv_entry ([.ref bx]) (n := 2) (Nat.le_of_ble_eq_true rfl)
  rw [lg_entry_eq]
  generalize (lg_sl ([.ref bx]) ++ List.replicate (2 - (lg_sl ([.ref bx])).length) Slot.unset).toArray = ls at hl ⊢
  have hl : lv_has ls 2 [(0, .ref bx)] := hl
  rcases hs with ⟨rfl, g_htk, eb9, ef9⟩ | ⟨rfl, g_h, eb9, ef9⟩
  · subst b'; subst fl'
    refine lv_aload_n hx hb dL_objective_0 rfl (lv_at hl 0 rfl) ?_
    have hF := sr_F hD hS hA
    refine mu_call (va_runV (As := []) (rest := []) ⟨hx, hb, hml, hown, hts⟩ (c_X1_objective l G _ bx bd bo bs bk ca wa (bst b) (bsk b) (btk b) (bbe b) (bso b) (ble b) (ban b) (bfd b) (bfo b) (bro b) (bdg b) (bgv b) g_htk) (cwV 0 hts gL_objective_X1_objective rfl rfl rfl (by decide +kernel) ⟨Nat.le_of_ble_eq_true rfl, Nat.le_of_ble_eq_true rfl⟩) ⟨mu_blind, va_recv hK.1 hP (ci := 1) (q0 := 1) rfl rfl, mu_pre _ (sr_P hP) (sr_D hD) hK⟩ rfl rfl hl.1 rfl (lv_room (Nat.le_of_ble_eq_true rfl)) dL_objective_1 ⟨Nat.le_of_ble_eq_true rfl, Nat.le_of_ble_eq_true rfl⟩) hS hF hF (fun H1 locs hP1 hD1 hk1 hS => ?_)
    obtain ⟨hP, hD⟩ := sr_J hP hD hk1 hF (show va_P G.1 vwCl (bw G bx bd bo bs bk ca wa (mkB (bst b) (bsk b) (btk b) (bbe b) (bso b) (ble b) (ban b) (mixf 10 (fun _ => 0) (bfd b)) (mixf 10 (bfd b) (bfo b)) (bro b) (bdg b) (bgv b))) H1 from hP1) hD1
    generalize H1 = H at hP hS ⊢
    refine lv_goto (tgt := 10) hx hb dL_objective_4 (by decide) ?_
    refine lv_iconst (v := 0) hx hb dL_objective_10 (by decide) ?_
    refine W.widen (k := 1) (n := 6) (by decide) (by decide) ?_
    exact W.iret (v := 0) hx hb hr (fun t ht hW => ⟨rfl, by rw [ht]; exact hP, hD, hS.F ht⟩) hS.2.2 dL_objective_11
  · subst b'; subst fl'
    refine lv_aload_n hx hb dL_objective_0 rfl (lv_at hl 0 rfl) ?_
    refine lh_catch (vx_runV (As := []) (rest := []) ⟨hx, hb, hml, hown, hts⟩ (c_X1_objective_1 l hlt G bx bd bo bs bk ca wa (bst b) (bsk b) (btk b) (bbe b) (bso b) (ble b) (ban b) (bfd b) (bfo b) (bro b) (bdg b) (bgv b) g_h) (cwV 0 hts gL_objective_X1_objective rfl rfl rfl (by decide +kernel) ⟨Nat.le_of_ble_eq_true rfl, Nat.le_of_ble_eq_true rfl⟩) ⟨tn_blind, va_recv hK.1 hP (ci := 1) (q0 := 1) rfl rfl, tn_pre _ (sr_P hP) hK hxw (hzz.narrow (fun _ h => h.elim))⟩ rfl rfl hl.1 rfl (lv_room (Nat.le_of_ble_eq_true rfl)) dL_objective_1 ⟨Nat.le_of_ble_eq_true rfl, Nat.le_of_ble_eq_true rfl⟩) hS hP hown [] ⟨0, 4, 7, 19⟩ [] (htb.trans rfl) (fun _ h => nomatch h) (by decide) (by decide) hw0 (xcast hxw.1.2.1) (fun q9 H locs hP hS => ?_)
    refine lv_astore_n (lv' := [(1, .ref q9), (0, .ref bx)]) hx hb dL_objective_7 rfl hl (by decide) rfl (fun ls hl => ?_)
    refine lv_iconst (v := 1) hx hb dL_objective_8 (by decide) ?_
    exact W.iret (v := 1) hx hb hr (fun t ht hW => ⟨rfl, by rw [ht]; exact hP, hD, hS.F ht⟩) hS.2.2 dL_objective_9

def P_constraint (x y : Int32) (k n : Nat) (b : BT) (fl : Nat → Int64) (cd : Int32) (b' : BT) (fl' : Nat → Int64) : Prop :=
  (cd = 0 ∧ outI x 0 ((bst b) - 1) = 0 ∧ outI y (-2) 9 = 0 ∧ b' = b ∧ fl' = vp_updL fl 0 (cxC (bro b) (bdg b) (bgv b) x y).toInt64) ∨
  (cd = 1 ∧ ¬ outI x 0 ((bst b) - 1) = 0 ∧ b' = b ∧ fl' = fl) ∨
  (cd = 2 ∧ outI x 0 ((bst b) - 1) = 0 ∧ ¬ outI y (-2) 9 = 0 ∧ b' = b ∧ fl' = fl)
abbrev rmL_constraint : Room := { frames := 7, cells := 1, slots := 6, locals := 103 }
set_option maxHeartbeats 1000000 in
set_option maxRecDepth 100000 in
theorem c_L_constraint (l : Launch) (hlt : l.stackTraces = false) (G : Gt) (sz ou : Nat) (fl fl' : Nat → Int64) (bx bd bo bs bk : Nat) (ca wa : Nat → Nat) (b b' : BT) (x y : Int32) (cd : Int32) (k n : Nat) (est : bst b = nI k) (hk30 : k ≤ 30) (esk : bsk b = nI n) (hn6 : n ≤ 6) (hs : P_constraint x y k n b fl cd b' fl') : Met l yL_constraint wsL_constraint rmL_constraint (tw_P G sz [.ref bx, .int x, .int y, .ref ou] (ow G ou fl ++ bw G bx bd bo bs bk ca wa b)) (mu_Q G (some (.int cd)) (ow G ou fl' ++ bw G bx bd bo bs bk ca wa b') (va_A (ow G ou fl ++ bw G bx bd bo bs bk ca wa b) sz)) 1 6 (va_A (ow G ou fl ++ bw G bx bd bo bs bk ca wa b) sz) := by
  unfold P_constraint at hs
  refine va_MetW (cc := cL_constraint) (maxL := 5) (ret := some .int) (hh := [(0, 10, 13, 27), (0, 10, 17, 13)]) (by decide) rfl ?_
  intro p e s m args below meth c s₁ B hml hv
  obtain ⟨⟨rfl, hsz, hP, hD0, hK⟩, hxw, hzz⟩ := hv
  have hx := B.exec
  have hb := B.bytes
  have hr := B.returns
  have hts := atoms_spec (ws := wsL_constraint) B.pre
  have htb := vx_table (x := yL_constraint) B (hts _ List.mem_cons_self)
  have hown : s.vm.findClass RL = some m.cls := findClass_of_methodNamed B.named
  have hlocks := B.notSynchronized
  subst hsz
  have hD := hD0.self (sz := s.heap.size)
  generalize hAe : va_A (ow G ou fl ++ bw G bx bd bo bs bk ca wa b) s.heap.size = A at hD hzz ⊢
  have hA : ∀ q : Nat, s.heap.size ≤ q → A q := fun q h => by rw [← hAe]; exact Or.inr h
  have hS : va_S A s.heap s.heap [] := va_S.rf
  have hw0 := hts (.classLink RL 27 "java/util/NoSuchElementException") (by decide +kernel)
  have hw1 := hts (.classLink RL 13 "java/lang/IllegalArgumentException") (by decide +kernel)
  have hl := lv_entry ([.ref bx, .int x, .int y, .ref ou]) (n := 5) (Nat.le_of_ble_eq_true rfl)
  rw [lg_entry_eq]
  generalize (lg_sl ([.ref bx, .int x, .int y, .ref ou]) ++ List.replicate (5 - (lg_sl ([.ref bx, .int x, .int y, .ref ou])).length) Slot.unset).toArray = ls at hl ⊢
  have hl : lv_has ls 5 [(0, .ref bx), (1, .int x), (2, .int y), (3, .ref ou)] := hl
  rcases hs with ⟨rfl, g_h1, g_h2, eb9, ef9⟩ | ⟨rfl, g_h, eb9, ef9⟩ | ⟨rfl, g_h1, g_h, eb9, ef9⟩
  · subst b'; subst fl'
    refine lv_aload_n hx hb dL_constraint_0 rfl (lv_at hl 3 rfl) ?_
    refine lv_iconst (v := 0) hx hb dL_constraint_1 (by decide) ?_
    refine lv_aload_n hx hb dL_constraint_2 rfl (lv_at hl 0 rfl) ?_
    refine lv_iload_n hx hb dL_constraint_3 rfl (lv_at hl 1 rfl) ?_
    refine lv_iload_n hx hb dL_constraint_4 rfl (lv_at hl 2 rfl) ?_
    refine ro_call (va_runV (As := [.int x, .int y]) (rest := [.int 0, .ref ou]) ⟨hx, hb, hml, hown, hts⟩ (c_X1_constraint l G bx bd bo bs bk ca wa (bst b) (bsk b) (btk b) (bbe b) (bso b) (ble b) (ban b) (bfd b) (bfo b) (bro b) (bdg b) (bgv b) x y k est hk30 g_h1 g_h2) (cwV 2 hts gL_constraint_X1_constraint rfl rfl rfl (by decide +kernel) ⟨Nat.le_of_ble_eq_true rfl, Nat.le_of_ble_eq_true rfl⟩) ⟨ro_blind, va_recv hK.1 hP (ci := 1) (q0 := 1) rfl rfl, ro_pre _ (sr_P hP) hK⟩ rfl rfl hl.1 rfl (lv_room (Nat.le_of_ble_eq_true rfl)) dL_constraint_5 ⟨Nat.le_of_ble_eq_true rfl, Nat.le_of_ble_eq_true rfl⟩) ?_
    refine lv_i2l (v := (cxC (bro b) (bdg b) (bgv b) x y).toInt64) hx hb dL_constraint_8 rfl ?_
    refine va_last hx hb hK.1 hP hD hS 0 3 rfl rfl (vp_in_nI (n := 0) (N := 1) (by decide) (by decide)) dL_constraint_9 (fun H locs hP hD hS => ?_)
    have hP : va_P G.1 vwCl (ow G ou (vp_updL fl 0 ((cxC (bro b) (bdg b) (bgv b) x y).toInt64)) ++ bw G bx bd bo bs bk ca wa b) H := hP
    have hD : va_D A (ow G ou (vp_updL fl 0 ((cxC (bro b) (bdg b) (bgv b) x y).toInt64)) ++ bw G bx bd bo bs bk ca wa b) := hD
    refine lv_goto (tgt := 21) hx hb dL_constraint_10 (by decide) ?_
    refine lv_iconst (v := 0) hx hb dL_constraint_21 (by decide) ?_
    refine W.widen (k := 1) (n := 6) (by decide) (by decide) ?_
    exact W.iret (v := 0) hx hb hr (fun t ht hW => ⟨rfl, by rw [ht]; exact hP, hD, hS.F ht⟩) hS.2.2 dL_constraint_22
  · subst b'; subst fl'
    refine lv_aload_n hx hb dL_constraint_0 rfl (lv_at hl 3 rfl) ?_
    refine lv_iconst (v := 0) hx hb dL_constraint_1 (by decide) ?_
    refine lv_aload_n hx hb dL_constraint_2 rfl (lv_at hl 0 rfl) ?_
    refine lv_iload_n hx hb dL_constraint_3 rfl (lv_at hl 1 rfl) ?_
    refine lv_iload_n hx hb dL_constraint_4 rfl (lv_at hl 2 rfl) ?_
    refine lh_catch (vx_runV (As := [.int x, .int y]) (rest := [.int 0, .ref ou]) ⟨hx, hb, hml, hown, hts⟩ (c_X1_constraint_1 l hlt G bx bd bo bs bk ca wa (bst b) (bsk b) (btk b) (bbe b) (bso b) (ble b) (ban b) (bfd b) (bfo b) (bro b) (bdg b) (bgv b) x y g_h) (cwV 2 hts gL_constraint_X1_constraint rfl rfl rfl (by decide +kernel) ⟨Nat.le_of_ble_eq_true rfl, Nat.le_of_ble_eq_true rfl⟩) ⟨tn_blind, va_recv hK.1 hP (ci := 1) (q0 := 1) rfl rfl, tn_pre _ (sr_P hP) hK hxw (hzz.narrow (fun _ h => h.elim))⟩ rfl rfl hl.1 rfl (lv_room (Nat.le_of_ble_eq_true rfl)) dL_constraint_5 ⟨Nat.le_of_ble_eq_true rfl, Nat.le_of_ble_eq_true rfl⟩) hS hP hown [] ⟨0, 10, 13, 27⟩ [⟨0, 10, 17, 13⟩] (htb.trans rfl) (fun _ h => nomatch h) (by decide) (by decide) hw0 (xcast hxw.1.2.2.1) (fun q9 H locs hP hS => ?_)
    refine lv_astore (lv' := [(4, .ref q9), (0, .ref bx), (1, .int x), (2, .int y), (3, .ref ou)]) hx hb dL_constraint_13 hl (by decide) rfl (fun ls hl => ?_)
    refine lv_iconst (v := 1) hx hb dL_constraint_15 (by decide) ?_
    exact W.iret (v := 1) hx hb hr (fun t ht hW => ⟨rfl, by rw [ht]; exact hP, hD, hS.F ht⟩) hS.2.2 dL_constraint_16
  · subst b'; subst fl'
    refine lv_aload_n hx hb dL_constraint_0 rfl (lv_at hl 3 rfl) ?_
    refine lv_iconst (v := 0) hx hb dL_constraint_1 (by decide) ?_
    refine lv_aload_n hx hb dL_constraint_2 rfl (lv_at hl 0 rfl) ?_
    refine lv_iload_n hx hb dL_constraint_3 rfl (lv_at hl 1 rfl) ?_
    refine lv_iload_n hx hb dL_constraint_4 rfl (lv_at hl 2 rfl) ?_
    refine lh_catch (vx_runV (As := [.int x, .int y]) (rest := [.int 0, .ref ou]) ⟨hx, hb, hml, hown, hts⟩ (c_X1_constraint_2 l hlt G bx bd bo bs bk ca wa (bst b) (bsk b) (btk b) (bbe b) (bso b) (ble b) (ban b) (bfd b) (bfo b) (bro b) (bdg b) (bgv b) x y g_h1 g_h) (cwV 2 hts gL_constraint_X1_constraint rfl rfl rfl (by decide +kernel) ⟨Nat.le_of_ble_eq_true rfl, Nat.le_of_ble_eq_true rfl⟩) ⟨tn_blind, va_recv hK.1 hP (ci := 1) (q0 := 1) rfl rfl, tn_pre _ (sr_P hP) hK hxw (hzz.narrow (fun _ h => h.elim))⟩ rfl rfl hl.1 rfl (lv_room (Nat.le_of_ble_eq_true rfl)) dL_constraint_5 ⟨Nat.le_of_ble_eq_true rfl, Nat.le_of_ble_eq_true rfl⟩) hS hP hown [⟨0, 10, 13, 27⟩] ⟨0, 10, 17, 13⟩ [] (htb.trans rfl) (fun z hz => by
        simp only [List.mem_cons, List.not_mem_nil, or_false] at hz
        rcases hz with rfl
        · exact Or.inr ⟨by decide, _, hw0, hxw.2.1.2.1⟩) (by decide) (by decide) hw1 (xcast hxw.1.1) (fun q9 H locs hP hS => ?_)
    refine lv_astore (lv' := [(4, .ref q9), (0, .ref bx), (1, .int x), (2, .int y), (3, .ref ou)]) hx hb dL_constraint_17 hl (by decide) rfl (fun ls hl => ?_)
    refine lv_iconst (v := 2) hx hb dL_constraint_19 (by decide) ?_
    exact W.iret (v := 2) hx hb hr (fun t ht hW => ⟨rfl, by rw [ht]; exact hP, hD, hS.F ht⟩) hS.2.2 dL_constraint_20

def P_close (x y : Int32) (k n : Nat) (b : BT) (fl : Nat → Int64) (cd : Int32) (b' : BT) (fl' : Nat → Int64) : Prop :=
  (cd = 0 ∧ outI x 0 1023 = 0 ∧ outI y 0 1023 = 0 ∧ b' = b ∧ fl' = vp_updL fl 0 (cxO (bro b) (bdg b) k (x * 1024 + (y &&& x)) 11).toInt64) ∨
  (cd = 1 ∧ (¬ outI x 0 1023 = 0 ∨ ¬ outI y 0 1023 = 0) ∧ b' = b ∧ fl' = fl)
abbrev rmL_close : Room := { frames := 7, cells := 1, slots := 6, locals := 139 }
set_option maxHeartbeats 1000000 in
set_option maxRecDepth 100000 in
theorem c_L_close (l : Launch) (hlt : l.stackTraces = false) (G : Gt) (sz ou : Nat) (fl fl' : Nat → Int64) (bx bd bo bs bk : Nat) (ca wa : Nat → Nat) (b b' : BT) (x y : Int32) (cd : Int32) (k n : Nat) (est : bst b = nI k) (hk30 : k ≤ 30) (esk : bsk b = nI n) (hn6 : n ≤ 6) (hs : P_close x y k n b fl cd b' fl') : Met l yL_close wsL_close rmL_close (tw_P G sz [.ref bx, .int x, .int y, .ref ou] (ow G ou fl ++ bw G bx bd bo bs bk ca wa b)) (mu_Q G (some (.int cd)) (ow G ou fl' ++ bw G bx bd bo bs bk ca wa b') (va_A (ow G ou fl ++ bw G bx bd bo bs bk ca wa b) sz)) 1 6 (va_A (ow G ou fl ++ bw G bx bd bo bs bk ca wa b) sz) := by
  unfold P_close at hs
  refine va_MetW (cc := cL_close) (maxL := 5) (ret := some .int) (hh := [(0, 10, 13, 13)]) (by decide) rfl ?_
  intro p e s m args below meth c s₁ B hml hv
  obtain ⟨⟨rfl, hsz, hP, hD0, hK⟩, hxw, hzz⟩ := hv
  have hx := B.exec
  have hb := B.bytes
  have hr := B.returns
  have hts := atoms_spec (ws := wsL_close) B.pre
  have htb := vx_table (x := yL_close) B (hts _ List.mem_cons_self)
  have hown : s.vm.findClass RL = some m.cls := findClass_of_methodNamed B.named
  have hlocks := B.notSynchronized
  subst hsz
  have hD := hD0.self (sz := s.heap.size)
  generalize hAe : va_A (ow G ou fl ++ bw G bx bd bo bs bk ca wa b) s.heap.size = A at hD hzz ⊢
  have hA : ∀ q : Nat, s.heap.size ≤ q → A q := fun q h => by rw [← hAe]; exact Or.inr h
  have hS : va_S A s.heap s.heap [] := va_S.rf
  have hw0 := hts (.classLink RL 13 "java/lang/IllegalArgumentException") (by decide +kernel)
  have hl := lv_entry ([.ref bx, .int x, .int y, .ref ou]) (n := 5) (Nat.le_of_ble_eq_true rfl)
  rw [lg_entry_eq]
  generalize (lg_sl ([.ref bx, .int x, .int y, .ref ou]) ++ List.replicate (5 - (lg_sl ([.ref bx, .int x, .int y, .ref ou])).length) Slot.unset).toArray = ls at hl ⊢
  have hl : lv_has ls 5 [(0, .ref bx), (1, .int x), (2, .int y), (3, .ref ou)] := hl
  rcases hs with ⟨rfl, g_h1, g_h2, eb9, ef9⟩ | ⟨rfl, g_h, eb9, ef9⟩
  · subst b'; subst fl'
    refine lv_aload_n hx hb dL_close_0 rfl (lv_at hl 3 rfl) ?_
    refine lv_iconst (v := 0) hx hb dL_close_1 (by decide) ?_
    refine lv_aload_n hx hb dL_close_2 rfl (lv_at hl 0 rfl) ?_
    refine lv_iload_n hx hb dL_close_3 rfl (lv_at hl 1 rfl) ?_
    refine lv_iload_n hx hb dL_close_4 rfl (lv_at hl 2 rfl) ?_
    refine ro_call (va_runV (As := [.int x, .int y]) (rest := [.int 0, .ref ou]) ⟨hx, hb, hml, hown, hts⟩ (c_X1_close l G bx bd bo bs bk ca wa (bst b) (bsk b) (btk b) (bbe b) (bso b) (ble b) (ban b) (bfd b) (bfo b) (bro b) (bdg b) (bgv b) x y k est hk30 g_h1 g_h2) (cwV 2 hts gL_close_X1_close rfl rfl rfl (by decide +kernel) ⟨Nat.le_of_ble_eq_true rfl, Nat.le_of_ble_eq_true rfl⟩) ⟨ro_blind, va_recv hK.1 hP (ci := 1) (q0 := 1) rfl rfl, ro_pre _ (sr_P hP) hK⟩ rfl rfl hl.1 rfl (lv_room (Nat.le_of_ble_eq_true rfl)) dL_close_5 ⟨Nat.le_of_ble_eq_true rfl, Nat.le_of_ble_eq_true rfl⟩) ?_
    refine lv_i2l (v := (cxO (bro b) (bdg b) k (x * 1024 + (y &&& x)) 11).toInt64) hx hb dL_close_8 rfl ?_
    refine va_last hx hb hK.1 hP hD hS 0 3 rfl rfl (vp_in_nI (n := 0) (N := 1) (by decide) (by decide)) dL_close_9 (fun H locs hP hD hS => ?_)
    have hP : va_P G.1 vwCl (ow G ou (vp_updL fl 0 ((cxO (bro b) (bdg b) k (x * 1024 + (y &&& x)) 11).toInt64)) ++ bw G bx bd bo bs bk ca wa b) H := hP
    have hD : va_D A (ow G ou (vp_updL fl 0 ((cxO (bro b) (bdg b) k (x * 1024 + (y &&& x)) 11).toInt64)) ++ bw G bx bd bo bs bk ca wa b) := hD
    refine lv_goto (tgt := 17) hx hb dL_close_10 (by decide) ?_
    refine lv_iconst (v := 0) hx hb dL_close_17 (by decide) ?_
    refine W.widen (k := 1) (n := 6) (by decide) (by decide) ?_
    exact W.iret (v := 0) hx hb hr (fun t ht hW => ⟨rfl, by rw [ht]; exact hP, hD, hS.F ht⟩) hS.2.2 dL_close_18
  · subst b'; subst fl'
    refine lv_aload_n hx hb dL_close_0 rfl (lv_at hl 3 rfl) ?_
    refine lv_iconst (v := 0) hx hb dL_close_1 (by decide) ?_
    refine lv_aload_n hx hb dL_close_2 rfl (lv_at hl 0 rfl) ?_
    refine lv_iload_n hx hb dL_close_3 rfl (lv_at hl 1 rfl) ?_
    refine lv_iload_n hx hb dL_close_4 rfl (lv_at hl 2 rfl) ?_
    refine lh_catch (vx_runV (As := [.int x, .int y]) (rest := [.int 0, .ref ou]) ⟨hx, hb, hml, hown, hts⟩ (c_X1_close_1 l hlt G bx bd bo bs bk ca wa (bst b) (bsk b) (btk b) (bbe b) (bso b) (ble b) (ban b) (bfd b) (bfo b) (bro b) (bdg b) (bgv b) x y g_h) (cwV 2 hts gL_close_X1_close rfl rfl rfl (by decide +kernel) ⟨Nat.le_of_ble_eq_true rfl, Nat.le_of_ble_eq_true rfl⟩) ⟨tn_blind, va_recv hK.1 hP (ci := 1) (q0 := 1) rfl rfl, tn_pre _ (sr_P hP) hK hxw (hzz.narrow (fun _ h => h.elim))⟩ rfl rfl hl.1 rfl (lv_room (Nat.le_of_ble_eq_true rfl)) dL_close_5 ⟨Nat.le_of_ble_eq_true rfl, Nat.le_of_ble_eq_true rfl⟩) hS hP hown [] ⟨0, 10, 13, 13⟩ [] (htb.trans rfl) (fun _ h => nomatch h) (by decide) (by decide) hw0 (xcast hxw.1.1) (fun q9 H locs hP hS => ?_)
    refine lv_astore (lv' := [(4, .ref q9), (0, .ref bx), (1, .int x), (2, .int y), (3, .ref ou)]) hx hb dL_close_13 hl (by decide) rfl (fun ls hl => ?_)
    refine lv_iconst (v := 1) hx hb dL_close_15 (by decide) ?_
    exact W.iret (v := 1) hx hb hr (fun t ht hW => ⟨rfl, by rw [ht]; exact hP, hD, hS.F ht⟩) hS.2.2 dL_close_16

def P_load (x : Int32) (k n : Nat) (b : BT) (fl : Nat → Int64) (cd : Int32) (b' : BT) (fl' : Nat → Int64) : Prop :=
  (cd = 0 ∧ n < 6 ∧ outI x 0 ((bst b) - 1) = 0 ∧ b' = mkB (bst b) ((bsk b) + 1) (btk b) (bbe b) (bso b) (ble b) (ban b) (bfd b) (bfo b) (va_up (bro b) (30 + n) (mixf 10 ((bro b) x.toNatClampNeg) ((bro b) (30 + n)))) (va_up (bdg b) (30 + n) ((bdg b) x.toNatClampNeg)) (bgv b) ∧ fl' = fl) ∨
  (cd = 1 ∧ ¬ outI x 0 ((bst b) - 1) = 0 ∧ b' = b ∧ fl' = fl) ∨
  (cd = 2 ∧ outI x 0 ((bst b) - 1) = 0 ∧ (bsk b) = 6 ∧ b' = b ∧ fl' = fl)
abbrev rmL_load : Room := { frames := 8, cells := 1, slots := 6, locals := 122 }
set_option maxHeartbeats 1000000 in
set_option maxRecDepth 100000 in
theorem c_L_load (l : Launch) (hlt : l.stackTraces = false) (G : Gt) (sz ou : Nat) (fl fl' : Nat → Int64) (bx bd bo bs bk : Nat) (ca wa : Nat → Nat) (b b' : BT) (x : Int32) (cd : Int32) (k n : Nat) (est : bst b = nI k) (hk30 : k ≤ 30) (esk : bsk b = nI n) (hn6 : n ≤ 6) (hs : P_load x k n b fl cd b' fl') : Met l yL_load wsL_load rmL_load (tw_P G sz [.ref bx, .int x] (ow G ou fl ++ bw G bx bd bo bs bk ca wa b)) (mu_Q G (some (.int cd)) (ow G ou fl' ++ bw G bx bd bo bs bk ca wa b') (va_A (ow G ou fl ++ bw G bx bd bo bs bk ca wa b) sz)) 1 6 (va_A (ow G ou fl ++ bw G bx bd bo bs bk ca wa b) sz) := by
  unfold P_load at hs
  refine va_MetW (cc := cL_load) (maxL := 3) (ret := some .int) (hh := [(0, 5, 8, 27), (0, 5, 11, 19)]) (by decide) rfl ?_
  intro p e s m args below meth c s₁ B hml hv
  obtain ⟨⟨rfl, hsz, hP, hD0, hK⟩, hxw, hzz⟩ := hv
  have hx := B.exec
  have hb := B.bytes
  have hr := B.returns
  have hts := atoms_spec (ws := wsL_load) B.pre
  have htb := vx_table (x := yL_load) B (hts _ List.mem_cons_self)
  have hown : s.vm.findClass RL = some m.cls := findClass_of_methodNamed B.named
  have hlocks := B.notSynchronized
  subst hsz
  have hD := hD0.self (sz := s.heap.size)
  generalize hAe : va_A (ow G ou fl ++ bw G bx bd bo bs bk ca wa b) s.heap.size = A at hD hzz ⊢
  have hA : ∀ q : Nat, s.heap.size ≤ q → A q := fun q h => by rw [← hAe]; exact Or.inr h
  have hS : va_S A s.heap s.heap [] := va_S.rf
  have hw0 := hts (.classLink RL 27 "java/util/NoSuchElementException") (by decide +kernel)
  have hw1 := hts (.classLink RL 19 "java/lang/IllegalStateException") (by decide +kernel)
  have hl := lv_entry ([.ref bx, .int x]) (n := 3) (Nat.le_of_ble_eq_true rfl)
  rw [lg_entry_eq]
  generalize (lg_sl ([.ref bx, .int x]) ++ List.replicate (3 - (lg_sl ([.ref bx, .int x])).length) Slot.unset).toArray = ls at hl ⊢
  have hl : lv_has ls 3 [(0, .ref bx), (1, .int x)] := hl
  rcases hs with ⟨rfl, g_hn, g_h1, eb9, ef9⟩ | ⟨rfl, g_h, eb9, ef9⟩ | ⟨rfl, g_h1, g_h, eb9, ef9⟩
  · subst b'; subst fl'
    refine lv_aload_n hx hb dL_load_0 rfl (lv_at hl 0 rfl) ?_
    refine lv_iload_n hx hb dL_load_1 rfl (lv_at hl 1 rfl) ?_
    have hF := sr_F hD hS hA
    refine mu_call (va_runV (As := [.int x]) (rest := []) ⟨hx, hb, hml, hown, hts⟩ (c_X1_load l G _ bx bd bo bs bk ca wa (bst b) (bsk b) (btk b) (bbe b) (bso b) (ble b) (ban b) (bfd b) (bfo b) (bro b) (bdg b) (bgv b) x k est hk30 n esk g_hn g_h1) (cwV 1 hts gL_load_X1_load rfl rfl rfl (by decide +kernel) ⟨Nat.le_of_ble_eq_true rfl, Nat.le_of_ble_eq_true rfl⟩) ⟨mu_blind, va_recv hK.1 hP (ci := 1) (q0 := 1) rfl rfl, mu_pre _ (sr_P hP) (sr_D hD) hK⟩ rfl rfl hl.1 rfl (lv_room (Nat.le_of_ble_eq_true rfl)) dL_load_2 ⟨Nat.le_of_ble_eq_true rfl, Nat.le_of_ble_eq_true rfl⟩) hS hF hF (fun H1 locs hP1 hD1 hk1 hS => ?_)
    obtain ⟨hP, hD⟩ := sr_J hP hD hk1 hF (show va_P G.1 vwCl (bw G bx bd bo bs bk ca wa (mkB (bst b) ((bsk b) + 1) (btk b) (bbe b) (bso b) (ble b) (ban b) (bfd b) (bfo b) (va_up (bro b) (30 + n) (mixf 10 ((bro b) x.toNatClampNeg) ((bro b) (30 + n)))) (va_up (bdg b) (30 + n) ((bdg b) x.toNatClampNeg)) (bgv b))) H1 from hP1) hD1
    generalize H1 = H at hP hS ⊢
    refine lv_goto (tgt := 14) hx hb dL_load_5 (by decide) ?_
    refine lv_iconst (v := 0) hx hb dL_load_14 (by decide) ?_
    refine W.widen (k := 1) (n := 6) (by decide) (by decide) ?_
    exact W.iret (v := 0) hx hb hr (fun t ht hW => ⟨rfl, by rw [ht]; exact hP, hD, hS.F ht⟩) hS.2.2 dL_load_15
  · subst b'; subst fl'
    refine lv_aload_n hx hb dL_load_0 rfl (lv_at hl 0 rfl) ?_
    refine lv_iload_n hx hb dL_load_1 rfl (lv_at hl 1 rfl) ?_
    refine lh_catch (vx_runV (As := [.int x]) (rest := []) ⟨hx, hb, hml, hown, hts⟩ (c_X1_load_1 l hlt G bx bd bo bs bk ca wa (bst b) (bsk b) (btk b) (bbe b) (bso b) (ble b) (ban b) (bfd b) (bfo b) (bro b) (bdg b) (bgv b) x g_h) (cwV 1 hts gL_load_X1_load rfl rfl rfl (by decide +kernel) ⟨Nat.le_of_ble_eq_true rfl, Nat.le_of_ble_eq_true rfl⟩) ⟨tn_blind, va_recv hK.1 hP (ci := 1) (q0 := 1) rfl rfl, tn_pre _ (sr_P hP) hK hxw (hzz.narrow (fun _ h => h.elim))⟩ rfl rfl hl.1 rfl (lv_room (Nat.le_of_ble_eq_true rfl)) dL_load_2 ⟨Nat.le_of_ble_eq_true rfl, Nat.le_of_ble_eq_true rfl⟩) hS hP hown [] ⟨0, 5, 8, 27⟩ [⟨0, 5, 11, 19⟩] (htb.trans rfl) (fun _ h => nomatch h) (by decide) (by decide) hw0 (xcast hxw.1.2.2.1) (fun q9 H locs hP hS => ?_)
    refine lv_astore_n (lv' := [(2, .ref q9), (0, .ref bx), (1, .int x)]) hx hb dL_load_8 rfl hl (by decide) rfl (fun ls hl => ?_)
    refine lv_iconst (v := 1) hx hb dL_load_9 (by decide) ?_
    exact W.iret (v := 1) hx hb hr (fun t ht hW => ⟨rfl, by rw [ht]; exact hP, hD, hS.F ht⟩) hS.2.2 dL_load_10
  · subst b'; subst fl'
    refine lv_aload_n hx hb dL_load_0 rfl (lv_at hl 0 rfl) ?_
    refine lv_iload_n hx hb dL_load_1 rfl (lv_at hl 1 rfl) ?_
    refine lh_catch (vx_runV (As := [.int x]) (rest := []) ⟨hx, hb, hml, hown, hts⟩ (c_X1_load_2 l hlt G bx bd bo bs bk ca wa (bst b) (bsk b) (btk b) (bbe b) (bso b) (ble b) (ban b) (bfd b) (bfo b) (bro b) (bdg b) (bgv b) x g_h1 g_h) (cwV 1 hts gL_load_X1_load rfl rfl rfl (by decide +kernel) ⟨Nat.le_of_ble_eq_true rfl, Nat.le_of_ble_eq_true rfl⟩) ⟨tn_blind, va_recv hK.1 hP (ci := 1) (q0 := 1) rfl rfl, tn_pre _ (sr_P hP) hK hxw (hzz.narrow (fun _ h => h.elim))⟩ rfl rfl hl.1 rfl (lv_room (Nat.le_of_ble_eq_true rfl)) dL_load_2 ⟨Nat.le_of_ble_eq_true rfl, Nat.le_of_ble_eq_true rfl⟩) hS hP hown [⟨0, 5, 8, 27⟩] ⟨0, 5, 11, 19⟩ [] (htb.trans rfl) (fun z hz => by
        simp only [List.mem_cons, List.not_mem_nil, or_false] at hz
        rcases hz with rfl
        · exact Or.inr ⟨by decide, _, hw0, hxw.2.2.1.2.1⟩) (by decide) (by decide) hw1 (xcast hxw.1.2.1) (fun q9 H locs hP hS => ?_)
    refine lv_astore_n (lv' := [(2, .ref q9), (0, .ref bx), (1, .int x)]) hx hb dL_load_11 rfl hl (by decide) rfl (fun ls hl => ?_)
    refine lv_iconst (v := 2) hx hb dL_load_12 (by decide) ?_
    exact W.iret (v := 2) hx hb hr (fun t ht hW => ⟨rfl, by rw [ht]; exact hP, hD, hS.F ht⟩) hS.2.2 dL_load_13

def P_axiom (x y : Int32) (k n : Nat) (b : BT) (fl : Nat → Int64) (cd : Int32) (b' : BT) (fl' : Nat → Int64) : Prop :=
  (cd = 0 ∧ n < 6 ∧ outI x 0 9 = 0 ∧ b' = mkB (bst b) ((bsk b) + 1) (btk b) (bbe b) (bso b) (ble b) (ban b) (bfd b) (bfo b) (va_up (bro b) (30 + n) (upd (mixf 10 (fun _ => 0) ((bro b) (30 + n))) x.toNatClampNeg (if y = 0 then -1 else 1))) (va_up (bdg b) (30 + n) 0) (bgv b) ∧ fl' = fl) ∨
  (cd = 1 ∧ ¬ outI x 0 9 = 0 ∧ b' = b ∧ fl' = fl) ∨
  (cd = 2 ∧ outI x 0 9 = 0 ∧ (bsk b) = 6 ∧ b' = b ∧ fl' = fl)
abbrev rmL_axiom : Room := { frames := 8, cells := 1, slots := 6, locals := 123 }
set_option maxHeartbeats 1000000 in
set_option maxRecDepth 100000 in
theorem c_L_axiom (l : Launch) (hlt : l.stackTraces = false) (G : Gt) (sz ou : Nat) (fl fl' : Nat → Int64) (bx bd bo bs bk : Nat) (ca wa : Nat → Nat) (b b' : BT) (x y : Int32) (cd : Int32) (k n : Nat) (est : bst b = nI k) (hk30 : k ≤ 30) (esk : bsk b = nI n) (hn6 : n ≤ 6) (hs : P_axiom x y k n b fl cd b' fl') : Met l yL_axiom wsL_axiom rmL_axiom (tw_P G sz [.ref bx, .int x, .int y] (ow G ou fl ++ bw G bx bd bo bs bk ca wa b)) (mu_Q G (some (.int cd)) (ow G ou fl' ++ bw G bx bd bo bs bk ca wa b') (va_A (ow G ou fl ++ bw G bx bd bo bs bk ca wa b) sz)) 1 6 (va_A (ow G ou fl ++ bw G bx bd bo bs bk ca wa b) sz) := by
  unfold P_axiom at hs
  refine va_MetW (cc := cL_axiom) (maxL := 4) (ret := some .int) (hh := [(0, 6, 9, 27), (0, 6, 12, 19)]) (by decide) rfl ?_
  intro p e s m args below meth c s₁ B hml hv
  obtain ⟨⟨rfl, hsz, hP, hD0, hK⟩, hxw, hzz⟩ := hv
  have hx := B.exec
  have hb := B.bytes
  have hr := B.returns
  have hts := atoms_spec (ws := wsL_axiom) B.pre
  have htb := vx_table (x := yL_axiom) B (hts _ List.mem_cons_self)
  have hown : s.vm.findClass RL = some m.cls := findClass_of_methodNamed B.named
  have hlocks := B.notSynchronized
  subst hsz
  have hD := hD0.self (sz := s.heap.size)
  generalize hAe : va_A (ow G ou fl ++ bw G bx bd bo bs bk ca wa b) s.heap.size = A at hD hzz ⊢
  have hA : ∀ q : Nat, s.heap.size ≤ q → A q := fun q h => by rw [← hAe]; exact Or.inr h
  have hS : va_S A s.heap s.heap [] := va_S.rf
  have hw0 := hts (.classLink RL 27 "java/util/NoSuchElementException") (by decide +kernel)
  have hw1 := hts (.classLink RL 19 "java/lang/IllegalStateException") (by decide +kernel)
  have hl := lv_entry ([.ref bx, .int x, .int y]) (n := 4) (Nat.le_of_ble_eq_true rfl)
  rw [lg_entry_eq]
  generalize (lg_sl ([.ref bx, .int x, .int y]) ++ List.replicate (4 - (lg_sl ([.ref bx, .int x, .int y])).length) Slot.unset).toArray = ls at hl ⊢
  have hl : lv_has ls 4 [(0, .ref bx), (1, .int x), (2, .int y)] := hl
  rcases hs with ⟨rfl, g_hn, g_h1, eb9, ef9⟩ | ⟨rfl, g_h, eb9, ef9⟩ | ⟨rfl, g_h1, g_h, eb9, ef9⟩
  · subst b'; subst fl'
    refine lv_aload_n hx hb dL_axiom_0 rfl (lv_at hl 0 rfl) ?_
    refine lv_iload_n hx hb dL_axiom_1 rfl (lv_at hl 1 rfl) ?_
    refine lv_iload_n hx hb dL_axiom_2 rfl (lv_at hl 2 rfl) ?_
    have hF := sr_F hD hS hA
    refine mu_call (va_runV (As := [.int x, .int y]) (rest := []) ⟨hx, hb, hml, hown, hts⟩ (c_X1_axiom l G _ bx bd bo bs bk ca wa (bst b) (bsk b) (btk b) (bbe b) (bso b) (ble b) (ban b) (bfd b) (bfo b) (bro b) (bdg b) (bgv b) x y n esk g_hn g_h1) (cwV 2 hts gL_axiom_X1_axiom rfl rfl rfl (by decide +kernel) ⟨Nat.le_of_ble_eq_true rfl, Nat.le_of_ble_eq_true rfl⟩) ⟨mu_blind, va_recv hK.1 hP (ci := 1) (q0 := 1) rfl rfl, mu_pre _ (sr_P hP) (sr_D hD) hK⟩ rfl rfl hl.1 rfl (lv_room (Nat.le_of_ble_eq_true rfl)) dL_axiom_3 ⟨Nat.le_of_ble_eq_true rfl, Nat.le_of_ble_eq_true rfl⟩) hS hF hF (fun H1 locs hP1 hD1 hk1 hS => ?_)
    obtain ⟨hP, hD⟩ := sr_J hP hD hk1 hF (show va_P G.1 vwCl (bw G bx bd bo bs bk ca wa (mkB (bst b) ((bsk b) + 1) (btk b) (bbe b) (bso b) (ble b) (ban b) (bfd b) (bfo b) (va_up (bro b) (30 + n) (upd (mixf 10 (fun _ => 0) ((bro b) (30 + n))) x.toNatClampNeg (if y = 0 then -1 else 1))) (va_up (bdg b) (30 + n) 0) (bgv b))) H1 from hP1) hD1
    generalize H1 = H at hP hS ⊢
    refine lv_goto (tgt := 15) hx hb dL_axiom_6 (by decide) ?_
    refine lv_iconst (v := 0) hx hb dL_axiom_15 (by decide) ?_
    refine W.widen (k := 1) (n := 6) (by decide) (by decide) ?_
    exact W.iret (v := 0) hx hb hr (fun t ht hW => ⟨rfl, by rw [ht]; exact hP, hD, hS.F ht⟩) hS.2.2 dL_axiom_16
  · subst b'; subst fl'
    refine lv_aload_n hx hb dL_axiom_0 rfl (lv_at hl 0 rfl) ?_
    refine lv_iload_n hx hb dL_axiom_1 rfl (lv_at hl 1 rfl) ?_
    refine lv_iload_n hx hb dL_axiom_2 rfl (lv_at hl 2 rfl) ?_
    refine lh_catch (vx_runV (As := [.int x, .int y]) (rest := []) ⟨hx, hb, hml, hown, hts⟩ (c_X1_axiom_1 l hlt G bx bd bo bs bk ca wa (bst b) (bsk b) (btk b) (bbe b) (bso b) (ble b) (ban b) (bfd b) (bfo b) (bro b) (bdg b) (bgv b) x y g_h) (cwV 2 hts gL_axiom_X1_axiom rfl rfl rfl (by decide +kernel) ⟨Nat.le_of_ble_eq_true rfl, Nat.le_of_ble_eq_true rfl⟩) ⟨tn_blind, va_recv hK.1 hP (ci := 1) (q0 := 1) rfl rfl, tn_pre _ (sr_P hP) hK hxw (hzz.narrow (fun _ h => h.elim))⟩ rfl rfl hl.1 rfl (lv_room (Nat.le_of_ble_eq_true rfl)) dL_axiom_3 ⟨Nat.le_of_ble_eq_true rfl, Nat.le_of_ble_eq_true rfl⟩) hS hP hown [] ⟨0, 6, 9, 27⟩ [⟨0, 6, 12, 19⟩] (htb.trans rfl) (fun _ h => nomatch h) (by decide) (by decide) hw0 (xcast hxw.1.2.2.1) (fun q9 H locs hP hS => ?_)
    refine lv_astore_n (lv' := [(3, .ref q9), (0, .ref bx), (1, .int x), (2, .int y)]) hx hb dL_axiom_9 rfl hl (by decide) rfl (fun ls hl => ?_)
    refine lv_iconst (v := 1) hx hb dL_axiom_10 (by decide) ?_
    exact W.iret (v := 1) hx hb hr (fun t ht hW => ⟨rfl, by rw [ht]; exact hP, hD, hS.F ht⟩) hS.2.2 dL_axiom_11
  · subst b'; subst fl'
    refine lv_aload_n hx hb dL_axiom_0 rfl (lv_at hl 0 rfl) ?_
    refine lv_iload_n hx hb dL_axiom_1 rfl (lv_at hl 1 rfl) ?_
    refine lv_iload_n hx hb dL_axiom_2 rfl (lv_at hl 2 rfl) ?_
    refine lh_catch (vx_runV (As := [.int x, .int y]) (rest := []) ⟨hx, hb, hml, hown, hts⟩ (c_X1_axiom_2 l hlt G bx bd bo bs bk ca wa (bst b) (bsk b) (btk b) (bbe b) (bso b) (ble b) (ban b) (bfd b) (bfo b) (bro b) (bdg b) (bgv b) x y g_h1 g_h) (cwV 2 hts gL_axiom_X1_axiom rfl rfl rfl (by decide +kernel) ⟨Nat.le_of_ble_eq_true rfl, Nat.le_of_ble_eq_true rfl⟩) ⟨tn_blind, va_recv hK.1 hP (ci := 1) (q0 := 1) rfl rfl, tn_pre _ (sr_P hP) hK hxw (hzz.narrow (fun _ h => h.elim))⟩ rfl rfl hl.1 rfl (lv_room (Nat.le_of_ble_eq_true rfl)) dL_axiom_3 ⟨Nat.le_of_ble_eq_true rfl, Nat.le_of_ble_eq_true rfl⟩) hS hP hown [⟨0, 6, 9, 27⟩] ⟨0, 6, 12, 19⟩ [] (htb.trans rfl) (fun z hz => by
        simp only [List.mem_cons, List.not_mem_nil, or_false] at hz
        rcases hz with rfl
        · exact Or.inr ⟨by decide, _, hw0, hxw.2.2.1.2.1⟩) (by decide) (by decide) hw1 (xcast hxw.1.2.1) (fun q9 H locs hP hS => ?_)
    refine lv_astore_n (lv' := [(3, .ref q9), (0, .ref bx), (1, .int x), (2, .int y)]) hx hb dL_axiom_12 rfl hl (by decide) rfl (fun ls hl => ?_)
    refine lv_iconst (v := 2) hx hb dL_axiom_13 (by decide) ?_
    exact W.iret (v := 2) hx hb hr (fun t ht hW => ⟨rfl, by rw [ht]; exact hP, hD, hS.F ht⟩) hS.2.2 dL_axiom_14

def P_add (k n : Nat) (b : BT) (fl : Nat → Int64) (cd : Int32) (b' : BT) (fl' : Nat → Int64) : Prop :=
  (cd = 0 ∧ 2 ≤ n ∧ tlI (mixf 10 (fun v => ((bro b) (30 + (n - 2)) v) + ((bro b) (30 + (n - 1)) v)) ((bro b) 36)) (smD ((bro b) (30 + (n - 2))) ((bro b) (30 + (n - 1))) ((bdg b) (30 + (n - 2))) ((bdg b) (30 + (n - 1)))) = false ∧ b' = mkB (bst b) ((bsk b) - 1) (btk b) (bbe b) (bso b) (ble b) (ban b) (bfd b) (bfo b) (va_up (va_up (bro b) 36 (mixf 10 (fun v => ((bro b) (30 + (n - 2)) v) + ((bro b) (30 + (n - 1)) v)) ((bro b) 36))) (30 + (n - 2)) (mixf 10 ((va_up (bro b) 36 (mixf 10 (fun v => ((bro b) (30 + (n - 2)) v) + ((bro b) (30 + (n - 1)) v)) ((bro b) 36))) 36) ((va_up (bro b) 36 (mixf 10 (fun v => ((bro b) (30 + (n - 2)) v) + ((bro b) (30 + (n - 1)) v)) ((bro b) 36))) (30 + (n - 2))))) (va_up (va_up (bdg b) 36 (smD ((bro b) (30 + (n - 2))) ((bro b) (30 + (n - 1))) ((bdg b) (30 + (n - 2))) ((bdg b) (30 + (n - 1))))) (30 + (n - 2)) ((va_up (bdg b) 36 (smD ((bro b) (30 + (n - 2))) ((bro b) (30 + (n - 1))) ((bdg b) (30 + (n - 2))) ((bdg b) (30 + (n - 1))))) 36)) (bgv b) ∧ fl' = fl) ∨
  (cd = 1 ∧ (bsk b) < 2 ∧ b' = b ∧ fl' = fl) ∨
  (cd = 2 ∧ 2 ≤ n ∧ tlI (mixf 10 (fun v => ((bro b) (30 + (n - 2)) v) + ((bro b) (30 + (n - 1)) v)) ((bro b) 36)) (smD ((bro b) (30 + (n - 2))) ((bro b) (30 + (n - 1))) ((bdg b) (30 + (n - 2))) ((bdg b) (30 + (n - 1)))) = true ∧ b' = mkB (bst b) (bsk b) (btk b) (bbe b) (bso b) (ble b) (ban b) (bfd b) (bfo b) (va_up (bro b) 36 (mixf 10 (fun v => ((bro b) (30 + (n - 2)) v) + ((bro b) (30 + (n - 1)) v)) ((bro b) 36))) (va_up (bdg b) 36 (smD ((bro b) (30 + (n - 2))) ((bro b) (30 + (n - 1))) ((bdg b) (30 + (n - 2))) ((bdg b) (30 + (n - 1))))) (bgv b) ∧ fl' = fl)
abbrev rmL_add : Room := { frames := 8, cells := 1, slots := 6, locals := 121 }
set_option maxHeartbeats 1000000 in
set_option maxRecDepth 100000 in
theorem c_L_add (l : Launch) (hlt : l.stackTraces = false) (G : Gt) (sz ou : Nat) (fl fl' : Nat → Int64) (bx bd bo bs bk : Nat) (ca wa : Nat → Nat) (b b' : BT) (cd : Int32) (k n : Nat) (est : bst b = nI k) (hk30 : k ≤ 30) (esk : bsk b = nI n) (hn6 : n ≤ 6) (hs : P_add  k n b fl cd b' fl') : Met l yL_add wsL_add rmL_add (tw_P G sz [.ref bx] (ow G ou fl ++ bw G bx bd bo bs bk ca wa b)) (mu_Q G (some (.int cd)) (ow G ou fl' ++ bw G bx bd bo bs bk ca wa b') (va_A (ow G ou fl ++ bw G bx bd bo bs bk ca wa b) sz)) 1 6 (va_A (ow G ou fl ++ bw G bx bd bo bs bk ca wa b) sz) := by
  unfold P_add at hs
  refine va_MetW (cc := cL_add) (maxL := 2) (ret := some .int) (hh := [(0, 4, 7, 19), (0, 4, 10, 43)]) (by decide) rfl ?_
  intro p e s m args below meth c s₁ B hml hv
  obtain ⟨⟨rfl, hsz, hP, hD0, hK⟩, hxw, hzz⟩ := hv
  have hx := B.exec
  have hb := B.bytes
  have hr := B.returns
  have hts := atoms_spec (ws := wsL_add) B.pre
  have htb := vx_table (x := yL_add) B (hts _ List.mem_cons_self)
  have hown : s.vm.findClass RL = some m.cls := findClass_of_methodNamed B.named
  have hlocks := B.notSynchronized
  subst hsz
  have hD := hD0.self (sz := s.heap.size)
  generalize hAe : va_A (ow G ou fl ++ bw G bx bd bo bs bk ca wa b) s.heap.size = A at hD hzz ⊢
  have hA : ∀ q : Nat, s.heap.size ≤ q → A q := fun q h => by rw [← hAe]; exact Or.inr h
  have hS : va_S A s.heap s.heap [] := va_S.rf
  have hw0 := hts (.classLink RL 19 "java/lang/IllegalStateException") (by decide +kernel)
  have hw1 := hts (.classLink RL 43 "java/lang/ArithmeticException") (by decide +kernel)
  have hl := lv_entry ([.ref bx]) (n := 2) (Nat.le_of_ble_eq_true rfl)
  rw [lg_entry_eq]
  generalize (lg_sl ([.ref bx]) ++ List.replicate (2 - (lg_sl ([.ref bx])).length) Slot.unset).toArray = ls at hl ⊢
  have hl : lv_has ls 2 [(0, .ref bx)] := hl
  rcases hs with ⟨rfl, g_hn2, g_hbig, eb9, ef9⟩ | ⟨rfl, g_h, eb9, ef9⟩ | ⟨rfl, g_hn2, g_hbig, eb9, ef9⟩
  · subst b'; subst fl'
    refine lv_aload_n hx hb dL_add_0 rfl (lv_at hl 0 rfl) ?_
    have hF := sr_F hD hS hA
    refine mu_call (va_runV (As := []) (rest := []) ⟨hx, hb, hml, hown, hts⟩ (c_X1_add l G _ bx bd bo bs bk ca wa (bst b) (bsk b) (btk b) (bbe b) (bso b) (ble b) (ban b) (bfd b) (bfo b) (bro b) (bdg b) (bgv b) n esk hn6 g_hn2 g_hbig) (cwV 0 hts gL_add_X1_add rfl rfl rfl (by decide +kernel) ⟨Nat.le_of_ble_eq_true rfl, Nat.le_of_ble_eq_true rfl⟩) ⟨mu_blind, va_recv hK.1 hP (ci := 1) (q0 := 1) rfl rfl, mu_pre _ (sr_P hP) (sr_D hD) hK⟩ rfl rfl hl.1 rfl (lv_room (Nat.le_of_ble_eq_true rfl)) dL_add_1 ⟨Nat.le_of_ble_eq_true rfl, Nat.le_of_ble_eq_true rfl⟩) hS hF hF (fun H1 locs hP1 hD1 hk1 hS => ?_)
    obtain ⟨hP, hD⟩ := sr_J hP hD hk1 hF (show va_P G.1 vwCl (bw G bx bd bo bs bk ca wa (mkB (bst b) ((bsk b) - 1) (btk b) (bbe b) (bso b) (ble b) (ban b) (bfd b) (bfo b) (va_up (va_up (bro b) 36 (mixf 10 (fun v => ((bro b) (30 + (n - 2)) v) + ((bro b) (30 + (n - 1)) v)) ((bro b) 36))) (30 + (n - 2)) (mixf 10 ((va_up (bro b) 36 (mixf 10 (fun v => ((bro b) (30 + (n - 2)) v) + ((bro b) (30 + (n - 1)) v)) ((bro b) 36))) 36) ((va_up (bro b) 36 (mixf 10 (fun v => ((bro b) (30 + (n - 2)) v) + ((bro b) (30 + (n - 1)) v)) ((bro b) 36))) (30 + (n - 2))))) (va_up (va_up (bdg b) 36 (smD ((bro b) (30 + (n - 2))) ((bro b) (30 + (n - 1))) ((bdg b) (30 + (n - 2))) ((bdg b) (30 + (n - 1))))) (30 + (n - 2)) ((va_up (bdg b) 36 (smD ((bro b) (30 + (n - 2))) ((bro b) (30 + (n - 1))) ((bdg b) (30 + (n - 2))) ((bdg b) (30 + (n - 1))))) 36)) (bgv b))) H1 from hP1) hD1
    generalize H1 = H at hP hS ⊢
    refine lv_goto (tgt := 13) hx hb dL_add_4 (by decide) ?_
    refine lv_iconst (v := 0) hx hb dL_add_13 (by decide) ?_
    refine W.widen (k := 1) (n := 6) (by decide) (by decide) ?_
    exact W.iret (v := 0) hx hb hr (fun t ht hW => ⟨rfl, by rw [ht]; exact hP, hD, hS.F ht⟩) hS.2.2 dL_add_14
  · subst b'; subst fl'
    refine lv_aload_n hx hb dL_add_0 rfl (lv_at hl 0 rfl) ?_
    refine lh_catch (vx_runV (As := []) (rest := []) ⟨hx, hb, hml, hown, hts⟩ (c_X1_add_1 l hlt G bx bd bo bs bk ca wa (bst b) (bsk b) (btk b) (bbe b) (bso b) (ble b) (ban b) (bfd b) (bfo b) (bro b) (bdg b) (bgv b) g_h) (cwV 0 hts gL_add_X1_add rfl rfl rfl (by decide +kernel) ⟨Nat.le_of_ble_eq_true rfl, Nat.le_of_ble_eq_true rfl⟩) ⟨tn_blind, va_recv hK.1 hP (ci := 1) (q0 := 1) rfl rfl, tn_pre _ (sr_P hP) hK hxw (hzz.narrow (fun _ h => h.elim))⟩ rfl rfl hl.1 rfl (lv_room (Nat.le_of_ble_eq_true rfl)) dL_add_1 ⟨Nat.le_of_ble_eq_true rfl, Nat.le_of_ble_eq_true rfl⟩) hS hP hown [] ⟨0, 4, 7, 19⟩ [⟨0, 4, 10, 43⟩] (htb.trans rfl) (fun _ h => nomatch h) (by decide) (by decide) hw0 (xcast hxw.1.2.1) (fun q9 H locs hP hS => ?_)
    refine lv_astore_n (lv' := [(1, .ref q9), (0, .ref bx)]) hx hb dL_add_7 rfl hl (by decide) rfl (fun ls hl => ?_)
    refine lv_iconst (v := 1) hx hb dL_add_8 (by decide) ?_
    exact W.iret (v := 1) hx hb hr (fun t ht hW => ⟨rfl, by rw [ht]; exact hP, hD, hS.F ht⟩) hS.2.2 dL_add_9
  · subst b'; subst fl'
    refine lv_aload_n hx hb dL_add_0 rfl (lv_at hl 0 rfl) ?_
    have hF := sr_F hD hS hA
    refine lh_catchw (vx_runV (As := []) (rest := []) ⟨hx, hb, hml, hown, hts⟩ (c_X1_add_2 l hlt G _ bx bd bo bs bk ca wa (bst b) (bsk b) (btk b) (bbe b) (bso b) (ble b) (ban b) (bfd b) (bfo b) (bro b) (bdg b) (bgv b) n esk hn6 g_hn2 g_hbig) (cwV 0 hts gL_add_X1_add rfl rfl rfl (by decide +kernel) ⟨Nat.le_of_ble_eq_true rfl, Nat.le_of_ble_eq_true rfl⟩) ⟨tw_blind, va_recv hK.1 hP (ci := 1) (q0 := 1) rfl rfl, tw_pre _ (sr_P hP) (sr_D hD) hK hxw (hzz.narrow hF)⟩ rfl rfl hl.1 rfl (lv_room (Nat.le_of_ble_eq_true rfl)) dL_add_1 ⟨Nat.le_of_ble_eq_true rfl, Nat.le_of_ble_eq_true rfl⟩) hS hF hown [⟨0, 4, 7, 19⟩] ⟨0, 4, 10, 43⟩ [] (htb.trans rfl) (fun z hz => by
        simp only [List.mem_cons, List.not_mem_nil, or_false] at hz
        rcases hz with rfl
        · exact Or.inr ⟨by decide, _, hw0, hxw.2.2.2.2.2.1⟩) (by decide) (by decide) hw1 (xcast hxw.1.2.2.2) (fun q9 H1 locs hP1 hD1 hk1 hS => ?_)
    obtain ⟨hP, hD⟩ := sr_J hP hD hk1 hF (show va_P G.1 vwCl (bw G bx bd bo bs bk ca wa (mkB (bst b) (bsk b) (btk b) (bbe b) (bso b) (ble b) (ban b) (bfd b) (bfo b) (va_up (bro b) 36 (mixf 10 (fun v => ((bro b) (30 + (n - 2)) v) + ((bro b) (30 + (n - 1)) v)) ((bro b) 36))) (va_up (bdg b) 36 (smD ((bro b) (30 + (n - 2))) ((bro b) (30 + (n - 1))) ((bdg b) (30 + (n - 2))) ((bdg b) (30 + (n - 1))))) (bgv b))) H1 from hP1) hD1
    generalize H1 = H at hP hS ⊢
    refine lv_astore_n (lv' := [(1, .ref q9), (0, .ref bx)]) hx hb dL_add_10 rfl hl (by decide) rfl (fun ls hl => ?_)
    refine lv_iconst (v := 2) hx hb dL_add_11 (by decide) ?_
    exact W.iret (v := 2) hx hb hr (fun t ht hW => ⟨rfl, by rw [ht]; exact hP, hD, hS.F ht⟩) hS.2.2 dL_add_12

def P_times (x : Int32) (k n : Nat) (b : BT) (fl : Nat → Int64) (cd : Int32) (b' : BT) (fl' : Nat → Int64) : Prop :=
  (cd = 0 ∧ 1 ≤ n ∧ outI x 1 1000 = 0 ∧ tlI (mixf 10 (fun v => x * ((bro b) (30 + (n - 1)) v)) ((bro b) 36)) (x * ((bdg b) (30 + (n - 1)))) = false ∧ b' = mkB (bst b) (bsk b) (btk b) (bbe b) (bso b) (ble b) (ban b) (bfd b) (bfo b) (va_up (va_up (bro b) 36 (mixf 10 (fun v => x * ((bro b) (30 + (n - 1)) v)) ((bro b) 36))) (30 + (n - 1)) (mixf 10 ((va_up (bro b) 36 (mixf 10 (fun v => x * ((bro b) (30 + (n - 1)) v)) ((bro b) 36))) 36) ((va_up (bro b) 36 (mixf 10 (fun v => x * ((bro b) (30 + (n - 1)) v)) ((bro b) 36))) (30 + (n - 1))))) (va_up (va_up (bdg b) 36 (x * ((bdg b) (30 + (n - 1))))) (30 + (n - 1)) ((va_up (bdg b) 36 (x * ((bdg b) (30 + (n - 1))))) 36)) (bgv b) ∧ fl' = fl) ∨
  (cd = 1 ∧ (bsk b) < 1 ∧ b' = b ∧ fl' = fl) ∨
  (cd = 2 ∧ 1 ≤ n ∧ ¬ outI x 1 1000 = 0 ∧ b' = b ∧ fl' = fl) ∨
  (cd = 3 ∧ 1 ≤ n ∧ outI x 1 1000 = 0 ∧ tlI (mixf 10 (fun v => x * ((bro b) (30 + (n - 1)) v)) ((bro b) 36)) (x * ((bdg b) (30 + (n - 1)))) = true ∧ b' = mkB (bst b) (bsk b) (btk b) (bbe b) (bso b) (ble b) (ban b) (bfd b) (bfo b) (va_up (bro b) 36 (mixf 10 (fun v => x * ((bro b) (30 + (n - 1)) v)) ((bro b) 36))) (va_up (bdg b) 36 (x * ((bdg b) (30 + (n - 1))))) (bgv b) ∧ fl' = fl)
abbrev rmL_times : Room := { frames := 8, cells := 1, slots := 6, locals := 122 }
set_option maxHeartbeats 1000000 in
set_option maxRecDepth 100000 in
theorem c_L_times (l : Launch) (hlt : l.stackTraces = false) (G : Gt) (sz ou : Nat) (fl fl' : Nat → Int64) (bx bd bo bs bk : Nat) (ca wa : Nat → Nat) (b b' : BT) (x : Int32) (cd : Int32) (k n : Nat) (est : bst b = nI k) (hk30 : k ≤ 30) (esk : bsk b = nI n) (hn6 : n ≤ 6) (hs : P_times x k n b fl cd b' fl') : Met l yL_times wsL_times rmL_times (tw_P G sz [.ref bx, .int x] (ow G ou fl ++ bw G bx bd bo bs bk ca wa b)) (mu_Q G (some (.int cd)) (ow G ou fl' ++ bw G bx bd bo bs bk ca wa b') (va_A (ow G ou fl ++ bw G bx bd bo bs bk ca wa b) sz)) 1 6 (va_A (ow G ou fl ++ bw G bx bd bo bs bk ca wa b) sz) := by
  unfold P_times at hs
  refine va_MetW (cc := cL_times) (maxL := 3) (ret := some .int) (hh := [(0, 5, 8, 19), (0, 5, 11, 13), (0, 5, 14, 43)]) (by decide) rfl ?_
  intro p e s m args below meth c s₁ B hml hv
  obtain ⟨⟨rfl, hsz, hP, hD0, hK⟩, hxw, hzz⟩ := hv
  have hx := B.exec
  have hb := B.bytes
  have hr := B.returns
  have hts := atoms_spec (ws := wsL_times) B.pre
  have htb := vx_table (x := yL_times) B (hts _ List.mem_cons_self)
  have hown : s.vm.findClass RL = some m.cls := findClass_of_methodNamed B.named
  have hlocks := B.notSynchronized
  subst hsz
  have hD := hD0.self (sz := s.heap.size)
  generalize hAe : va_A (ow G ou fl ++ bw G bx bd bo bs bk ca wa b) s.heap.size = A at hD hzz ⊢
  have hA : ∀ q : Nat, s.heap.size ≤ q → A q := fun q h => by rw [← hAe]; exact Or.inr h
  have hS : va_S A s.heap s.heap [] := va_S.rf
  have hw0 := hts (.classLink RL 19 "java/lang/IllegalStateException") (by decide +kernel)
  have hw1 := hts (.classLink RL 13 "java/lang/IllegalArgumentException") (by decide +kernel)
  have hw2 := hts (.classLink RL 43 "java/lang/ArithmeticException") (by decide +kernel)
  have hl := lv_entry ([.ref bx, .int x]) (n := 3) (Nat.le_of_ble_eq_true rfl)
  rw [lg_entry_eq]
  generalize (lg_sl ([.ref bx, .int x]) ++ List.replicate (3 - (lg_sl ([.ref bx, .int x])).length) Slot.unset).toArray = ls at hl ⊢
  have hl : lv_has ls 3 [(0, .ref bx), (1, .int x)] := hl
  rcases hs with ⟨rfl, g_hn1, g_h1, g_hbig, eb9, ef9⟩ | ⟨rfl, g_h, eb9, ef9⟩ | ⟨rfl, g_hn1, g_h, eb9, ef9⟩ | ⟨rfl, g_hn1, g_h1, g_hbig, eb9, ef9⟩
  · subst b'; subst fl'
    refine lv_aload_n hx hb dL_times_0 rfl (lv_at hl 0 rfl) ?_
    refine lv_iload_n hx hb dL_times_1 rfl (lv_at hl 1 rfl) ?_
    have hF := sr_F hD hS hA
    refine mu_call (va_runV (As := [.int x]) (rest := []) ⟨hx, hb, hml, hown, hts⟩ (c_X1_times l G _ bx bd bo bs bk ca wa (bst b) (bsk b) (btk b) (bbe b) (bso b) (ble b) (ban b) (bfd b) (bfo b) (bro b) (bdg b) (bgv b) x n esk hn6 g_hn1 g_h1 g_hbig) (cwV 1 hts gL_times_X1_times rfl rfl rfl (by decide +kernel) ⟨Nat.le_of_ble_eq_true rfl, Nat.le_of_ble_eq_true rfl⟩) ⟨mu_blind, va_recv hK.1 hP (ci := 1) (q0 := 1) rfl rfl, mu_pre _ (sr_P hP) (sr_D hD) hK⟩ rfl rfl hl.1 rfl (lv_room (Nat.le_of_ble_eq_true rfl)) dL_times_2 ⟨Nat.le_of_ble_eq_true rfl, Nat.le_of_ble_eq_true rfl⟩) hS hF hF (fun H1 locs hP1 hD1 hk1 hS => ?_)
    obtain ⟨hP, hD⟩ := sr_J hP hD hk1 hF (show va_P G.1 vwCl (bw G bx bd bo bs bk ca wa (mkB (bst b) (bsk b) (btk b) (bbe b) (bso b) (ble b) (ban b) (bfd b) (bfo b) (va_up (va_up (bro b) 36 (mixf 10 (fun v => x * ((bro b) (30 + (n - 1)) v)) ((bro b) 36))) (30 + (n - 1)) (mixf 10 ((va_up (bro b) 36 (mixf 10 (fun v => x * ((bro b) (30 + (n - 1)) v)) ((bro b) 36))) 36) ((va_up (bro b) 36 (mixf 10 (fun v => x * ((bro b) (30 + (n - 1)) v)) ((bro b) 36))) (30 + (n - 1))))) (va_up (va_up (bdg b) 36 (x * ((bdg b) (30 + (n - 1))))) (30 + (n - 1)) ((va_up (bdg b) 36 (x * ((bdg b) (30 + (n - 1))))) 36)) (bgv b))) H1 from hP1) hD1
    generalize H1 = H at hP hS ⊢
    refine lv_goto (tgt := 17) hx hb dL_times_5 (by decide) ?_
    refine lv_iconst (v := 0) hx hb dL_times_17 (by decide) ?_
    refine W.widen (k := 1) (n := 6) (by decide) (by decide) ?_
    exact W.iret (v := 0) hx hb hr (fun t ht hW => ⟨rfl, by rw [ht]; exact hP, hD, hS.F ht⟩) hS.2.2 dL_times_18
  · subst b'; subst fl'
    refine lv_aload_n hx hb dL_times_0 rfl (lv_at hl 0 rfl) ?_
    refine lv_iload_n hx hb dL_times_1 rfl (lv_at hl 1 rfl) ?_
    refine lh_catch (vx_runV (As := [.int x]) (rest := []) ⟨hx, hb, hml, hown, hts⟩ (c_X1_times_1 l hlt G bx bd bo bs bk ca wa (bst b) (bsk b) (btk b) (bbe b) (bso b) (ble b) (ban b) (bfd b) (bfo b) (bro b) (bdg b) (bgv b) x g_h) (cwV 1 hts gL_times_X1_times rfl rfl rfl (by decide +kernel) ⟨Nat.le_of_ble_eq_true rfl, Nat.le_of_ble_eq_true rfl⟩) ⟨tn_blind, va_recv hK.1 hP (ci := 1) (q0 := 1) rfl rfl, tn_pre _ (sr_P hP) hK hxw (hzz.narrow (fun _ h => h.elim))⟩ rfl rfl hl.1 rfl (lv_room (Nat.le_of_ble_eq_true rfl)) dL_times_2 ⟨Nat.le_of_ble_eq_true rfl, Nat.le_of_ble_eq_true rfl⟩) hS hP hown [] ⟨0, 5, 8, 19⟩ [⟨0, 5, 11, 13⟩, ⟨0, 5, 14, 43⟩] (htb.trans rfl) (fun _ h => nomatch h) (by decide) (by decide) hw0 (xcast hxw.1.2.1) (fun q9 H locs hP hS => ?_)
    refine lv_astore_n (lv' := [(2, .ref q9), (0, .ref bx), (1, .int x)]) hx hb dL_times_8 rfl hl (by decide) rfl (fun ls hl => ?_)
    refine lv_iconst (v := 1) hx hb dL_times_9 (by decide) ?_
    exact W.iret (v := 1) hx hb hr (fun t ht hW => ⟨rfl, by rw [ht]; exact hP, hD, hS.F ht⟩) hS.2.2 dL_times_10
  · subst b'; subst fl'
    refine lv_aload_n hx hb dL_times_0 rfl (lv_at hl 0 rfl) ?_
    refine lv_iload_n hx hb dL_times_1 rfl (lv_at hl 1 rfl) ?_
    refine lh_catch (vx_runV (As := [.int x]) (rest := []) ⟨hx, hb, hml, hown, hts⟩ (c_X1_times_2 l hlt G bx bd bo bs bk ca wa (bst b) (bsk b) (btk b) (bbe b) (bso b) (ble b) (ban b) (bfd b) (bfo b) (bro b) (bdg b) (bgv b) x n esk hn6 g_hn1 g_h) (cwV 1 hts gL_times_X1_times rfl rfl rfl (by decide +kernel) ⟨Nat.le_of_ble_eq_true rfl, Nat.le_of_ble_eq_true rfl⟩) ⟨tn_blind, va_recv hK.1 hP (ci := 1) (q0 := 1) rfl rfl, tn_pre _ (sr_P hP) hK hxw (hzz.narrow (fun _ h => h.elim))⟩ rfl rfl hl.1 rfl (lv_room (Nat.le_of_ble_eq_true rfl)) dL_times_2 ⟨Nat.le_of_ble_eq_true rfl, Nat.le_of_ble_eq_true rfl⟩) hS hP hown [⟨0, 5, 8, 19⟩] ⟨0, 5, 11, 13⟩ [⟨0, 5, 14, 43⟩] (htb.trans rfl) (fun z hz => by
        simp only [List.mem_cons, List.not_mem_nil, or_false] at hz
        rcases hz with rfl
        · exact Or.inr ⟨by decide, _, hw0, hxw.2.1.1⟩) (by decide) (by decide) hw1 (xcast hxw.1.1) (fun q9 H locs hP hS => ?_)
    refine lv_astore_n (lv' := [(2, .ref q9), (0, .ref bx), (1, .int x)]) hx hb dL_times_11 rfl hl (by decide) rfl (fun ls hl => ?_)
    refine lv_iconst (v := 2) hx hb dL_times_12 (by decide) ?_
    exact W.iret (v := 2) hx hb hr (fun t ht hW => ⟨rfl, by rw [ht]; exact hP, hD, hS.F ht⟩) hS.2.2 dL_times_13
  · subst b'; subst fl'
    refine lv_aload_n hx hb dL_times_0 rfl (lv_at hl 0 rfl) ?_
    refine lv_iload_n hx hb dL_times_1 rfl (lv_at hl 1 rfl) ?_
    have hF := sr_F hD hS hA
    refine lh_catchw (vx_runV (As := [.int x]) (rest := []) ⟨hx, hb, hml, hown, hts⟩ (c_X1_times_3 l hlt G _ bx bd bo bs bk ca wa (bst b) (bsk b) (btk b) (bbe b) (bso b) (ble b) (ban b) (bfd b) (bfo b) (bro b) (bdg b) (bgv b) x n esk hn6 g_hn1 g_h1 g_hbig) (cwV 1 hts gL_times_X1_times rfl rfl rfl (by decide +kernel) ⟨Nat.le_of_ble_eq_true rfl, Nat.le_of_ble_eq_true rfl⟩) ⟨tw_blind, va_recv hK.1 hP (ci := 1) (q0 := 1) rfl rfl, tw_pre _ (sr_P hP) (sr_D hD) hK hxw (hzz.narrow hF)⟩ rfl rfl hl.1 rfl (lv_room (Nat.le_of_ble_eq_true rfl)) dL_times_2 ⟨Nat.le_of_ble_eq_true rfl, Nat.le_of_ble_eq_true rfl⟩) hS hF hown [⟨0, 5, 8, 19⟩, ⟨0, 5, 11, 13⟩] ⟨0, 5, 14, 43⟩ [] (htb.trans rfl) (fun z hz => by
        simp only [List.mem_cons, List.not_mem_nil, or_false] at hz
        rcases hz with rfl | rfl
        · exact Or.inr ⟨by decide, _, hw0, hxw.2.2.2.2.2.1⟩
        · exact Or.inr ⟨by decide, _, hw1, hxw.2.2.2.2.1⟩) (by decide) (by decide) hw2 (xcast hxw.1.2.2.2) (fun q9 H1 locs hP1 hD1 hk1 hS => ?_)
    obtain ⟨hP, hD⟩ := sr_J hP hD hk1 hF (show va_P G.1 vwCl (bw G bx bd bo bs bk ca wa (mkB (bst b) (bsk b) (btk b) (bbe b) (bso b) (ble b) (ban b) (bfd b) (bfo b) (va_up (bro b) 36 (mixf 10 (fun v => x * ((bro b) (30 + (n - 1)) v)) ((bro b) 36))) (va_up (bdg b) 36 (x * ((bdg b) (30 + (n - 1))))) (bgv b))) H1 from hP1) hD1
    generalize H1 = H at hP hS ⊢
    refine lv_astore_n (lv' := [(2, .ref q9), (0, .ref bx), (1, .int x)]) hx hb dL_times_14 rfl hl (by decide) rfl (fun ls hl => ?_)
    refine lv_iconst (v := 3) hx hb dL_times_15 (by decide) ?_
    exact W.iret (v := 3) hx hb hr (fun t ht hW => ⟨rfl, by rw [ht]; exact hP, hD, hS.F ht⟩) hS.2.2 dL_times_16

def P_divide (x : Int32) (k n : Nat) (b : BT) (fl : Nat → Int64) (cd : Int32) (b' : BT) (fl' : Nat → Int64) : Prop :=
  (cd = 0 ∧ 1 ≤ n ∧ outI x 1 1000000 = 0 ∧ b' = mkB (bst b) (bsk b) (btk b) (bbe b) (bso b) (ble b) (ban b) (bfd b) (bfo b) (va_up (bro b) (30 + (n - 1)) (mixf 10 (fun v => rsz ((bro b) (30 + (n - 1)) v) (quoI (absI ((bro b) (30 + (n - 1)) v)) x)) ((bro b) (30 + (n - 1))))) (va_up (bdg b) (30 + (n - 1)) (quoI ((bdg b) (30 + (n - 1))) x)) (bgv b) ∧ fl' = fl) ∨
  (cd = 1 ∧ (bsk b) < 1 ∧ b' = b ∧ fl' = fl) ∨
  (cd = 2 ∧ 1 ≤ n ∧ ¬ outI x 1 1000000 = 0 ∧ b' = b ∧ fl' = fl)
abbrev rmL_divide : Room := { frames := 8, cells := 1, slots := 6, locals := 122 }
set_option maxHeartbeats 1000000 in
set_option maxRecDepth 100000 in
theorem c_L_divide (l : Launch) (hlt : l.stackTraces = false) (G : Gt) (sz ou : Nat) (fl fl' : Nat → Int64) (bx bd bo bs bk : Nat) (ca wa : Nat → Nat) (b b' : BT) (x : Int32) (cd : Int32) (k n : Nat) (est : bst b = nI k) (hk30 : k ≤ 30) (esk : bsk b = nI n) (hn6 : n ≤ 6) (hs : P_divide x k n b fl cd b' fl') : Met l yL_divide wsL_divide rmL_divide (tw_P G sz [.ref bx, .int x] (ow G ou fl ++ bw G bx bd bo bs bk ca wa b)) (mu_Q G (some (.int cd)) (ow G ou fl' ++ bw G bx bd bo bs bk ca wa b') (va_A (ow G ou fl ++ bw G bx bd bo bs bk ca wa b) sz)) 1 6 (va_A (ow G ou fl ++ bw G bx bd bo bs bk ca wa b) sz) := by
  unfold P_divide at hs
  refine va_MetW (cc := cL_divide) (maxL := 3) (ret := some .int) (hh := [(0, 5, 8, 19), (0, 5, 11, 13)]) (by decide) rfl ?_
  intro p e s m args below meth c s₁ B hml hv
  obtain ⟨⟨rfl, hsz, hP, hD0, hK⟩, hxw, hzz⟩ := hv
  have hx := B.exec
  have hb := B.bytes
  have hr := B.returns
  have hts := atoms_spec (ws := wsL_divide) B.pre
  have htb := vx_table (x := yL_divide) B (hts _ List.mem_cons_self)
  have hown : s.vm.findClass RL = some m.cls := findClass_of_methodNamed B.named
  have hlocks := B.notSynchronized
  subst hsz
  have hD := hD0.self (sz := s.heap.size)
  generalize hAe : va_A (ow G ou fl ++ bw G bx bd bo bs bk ca wa b) s.heap.size = A at hD hzz ⊢
  have hA : ∀ q : Nat, s.heap.size ≤ q → A q := fun q h => by rw [← hAe]; exact Or.inr h
  have hS : va_S A s.heap s.heap [] := va_S.rf
  have hw0 := hts (.classLink RL 19 "java/lang/IllegalStateException") (by decide +kernel)
  have hw1 := hts (.classLink RL 13 "java/lang/IllegalArgumentException") (by decide +kernel)
  have hl := lv_entry ([.ref bx, .int x]) (n := 3) (Nat.le_of_ble_eq_true rfl)
  rw [lg_entry_eq]
  generalize (lg_sl ([.ref bx, .int x]) ++ List.replicate (3 - (lg_sl ([.ref bx, .int x])).length) Slot.unset).toArray = ls at hl ⊢
  have hl : lv_has ls 3 [(0, .ref bx), (1, .int x)] := hl
  rcases hs with ⟨rfl, g_hn1, g_h1, eb9, ef9⟩ | ⟨rfl, g_h, eb9, ef9⟩ | ⟨rfl, g_hn1, g_h, eb9, ef9⟩
  · subst b'; subst fl'
    refine lv_aload_n hx hb dL_divide_0 rfl (lv_at hl 0 rfl) ?_
    refine lv_iload_n hx hb dL_divide_1 rfl (lv_at hl 1 rfl) ?_
    have hF := sr_F hD hS hA
    refine mu_call (va_runV (As := [.int x]) (rest := []) ⟨hx, hb, hml, hown, hts⟩ (c_X1_divide l G _ bx bd bo bs bk ca wa (bst b) (bsk b) (btk b) (bbe b) (bso b) (ble b) (ban b) (bfd b) (bfo b) (bro b) (bdg b) (bgv b) x n esk hn6 g_hn1 g_h1) (cwV 1 hts gL_divide_X1_divide rfl rfl rfl (by decide +kernel) ⟨Nat.le_of_ble_eq_true rfl, Nat.le_of_ble_eq_true rfl⟩) ⟨mu_blind, va_recv hK.1 hP (ci := 1) (q0 := 1) rfl rfl, mu_pre _ (sr_P hP) (sr_D hD) hK⟩ rfl rfl hl.1 rfl (lv_room (Nat.le_of_ble_eq_true rfl)) dL_divide_2 ⟨Nat.le_of_ble_eq_true rfl, Nat.le_of_ble_eq_true rfl⟩) hS hF hF (fun H1 locs hP1 hD1 hk1 hS => ?_)
    obtain ⟨hP, hD⟩ := sr_J hP hD hk1 hF (show va_P G.1 vwCl (bw G bx bd bo bs bk ca wa (mkB (bst b) (bsk b) (btk b) (bbe b) (bso b) (ble b) (ban b) (bfd b) (bfo b) (va_up (bro b) (30 + (n - 1)) (mixf 10 (fun v => rsz ((bro b) (30 + (n - 1)) v) (quoI (absI ((bro b) (30 + (n - 1)) v)) x)) ((bro b) (30 + (n - 1))))) (va_up (bdg b) (30 + (n - 1)) (quoI ((bdg b) (30 + (n - 1))) x)) (bgv b))) H1 from hP1) hD1
    generalize H1 = H at hP hS ⊢
    refine lv_goto (tgt := 14) hx hb dL_divide_5 (by decide) ?_
    refine lv_iconst (v := 0) hx hb dL_divide_14 (by decide) ?_
    refine W.widen (k := 1) (n := 6) (by decide) (by decide) ?_
    exact W.iret (v := 0) hx hb hr (fun t ht hW => ⟨rfl, by rw [ht]; exact hP, hD, hS.F ht⟩) hS.2.2 dL_divide_15
  · subst b'; subst fl'
    refine lv_aload_n hx hb dL_divide_0 rfl (lv_at hl 0 rfl) ?_
    refine lv_iload_n hx hb dL_divide_1 rfl (lv_at hl 1 rfl) ?_
    refine lh_catch (vx_runV (As := [.int x]) (rest := []) ⟨hx, hb, hml, hown, hts⟩ (c_X1_divide_1 l hlt G bx bd bo bs bk ca wa (bst b) (bsk b) (btk b) (bbe b) (bso b) (ble b) (ban b) (bfd b) (bfo b) (bro b) (bdg b) (bgv b) x g_h) (cwV 1 hts gL_divide_X1_divide rfl rfl rfl (by decide +kernel) ⟨Nat.le_of_ble_eq_true rfl, Nat.le_of_ble_eq_true rfl⟩) ⟨tn_blind, va_recv hK.1 hP (ci := 1) (q0 := 1) rfl rfl, tn_pre _ (sr_P hP) hK hxw (hzz.narrow (fun _ h => h.elim))⟩ rfl rfl hl.1 rfl (lv_room (Nat.le_of_ble_eq_true rfl)) dL_divide_2 ⟨Nat.le_of_ble_eq_true rfl, Nat.le_of_ble_eq_true rfl⟩) hS hP hown [] ⟨0, 5, 8, 19⟩ [⟨0, 5, 11, 13⟩] (htb.trans rfl) (fun _ h => nomatch h) (by decide) (by decide) hw0 (xcast hxw.1.2.1) (fun q9 H locs hP hS => ?_)
    refine lv_astore_n (lv' := [(2, .ref q9), (0, .ref bx), (1, .int x)]) hx hb dL_divide_8 rfl hl (by decide) rfl (fun ls hl => ?_)
    refine lv_iconst (v := 1) hx hb dL_divide_9 (by decide) ?_
    exact W.iret (v := 1) hx hb hr (fun t ht hW => ⟨rfl, by rw [ht]; exact hP, hD, hS.F ht⟩) hS.2.2 dL_divide_10
  · subst b'; subst fl'
    refine lv_aload_n hx hb dL_divide_0 rfl (lv_at hl 0 rfl) ?_
    refine lv_iload_n hx hb dL_divide_1 rfl (lv_at hl 1 rfl) ?_
    refine lh_catch (vx_runV (As := [.int x]) (rest := []) ⟨hx, hb, hml, hown, hts⟩ (c_X1_divide_2 l hlt G bx bd bo bs bk ca wa (bst b) (bsk b) (btk b) (bbe b) (bso b) (ble b) (ban b) (bfd b) (bfo b) (bro b) (bdg b) (bgv b) x n esk hn6 g_hn1 g_h) (cwV 1 hts gL_divide_X1_divide rfl rfl rfl (by decide +kernel) ⟨Nat.le_of_ble_eq_true rfl, Nat.le_of_ble_eq_true rfl⟩) ⟨tn_blind, va_recv hK.1 hP (ci := 1) (q0 := 1) rfl rfl, tn_pre _ (sr_P hP) hK hxw (hzz.narrow (fun _ h => h.elim))⟩ rfl rfl hl.1 rfl (lv_room (Nat.le_of_ble_eq_true rfl)) dL_divide_2 ⟨Nat.le_of_ble_eq_true rfl, Nat.le_of_ble_eq_true rfl⟩) hS hP hown [⟨0, 5, 8, 19⟩] ⟨0, 5, 11, 13⟩ [] (htb.trans rfl) (fun z hz => by
        simp only [List.mem_cons, List.not_mem_nil, or_false] at hz
        rcases hz with rfl
        · exact Or.inr ⟨by decide, _, hw0, hxw.2.1.1⟩) (by decide) (by decide) hw1 (xcast hxw.1.1) (fun q9 H locs hP hS => ?_)
    refine lv_astore_n (lv' := [(2, .ref q9), (0, .ref bx), (1, .int x)]) hx hb dL_divide_11 rfl hl (by decide) rfl (fun ls hl => ?_)
    refine lv_iconst (v := 2) hx hb dL_divide_12 (by decide) ?_
    exact W.iret (v := 2) hx hb hr (fun t ht hW => ⟨rfl, by rw [ht]; exact hP, hD, hS.F ht⟩) hS.2.2 dL_divide_13

def P_saturate (k n : Nat) (b : BT) (fl : Nat → Int64) (cd : Int32) (b' : BT) (fl' : Nat → Int64) : Prop :=
  (cd = 0 ∧ 1 ≤ n ∧ b' = mkB (bst b) (bsk b) (btk b) (bbe b) (bso b) (ble b) (ban b) (bfd b) (bfo b) (va_up (bro b) (30 + (n - 1)) (mixf 10 (fun v => rsz ((bro b) (30 + (n - 1)) v) (minI (absI ((bro b) (30 + (n - 1)) v)) ((bdg b) (30 + (n - 1))))) ((bro b) (30 + (n - 1))))) (bdg b) (bgv b) ∧ fl' = fl) ∨
  (cd = 1 ∧ (bsk b) < 1 ∧ b' = b ∧ fl' = fl)
abbrev rmL_saturate : Room := { frames := 8, cells := 1, slots := 6, locals := 121 }
set_option maxHeartbeats 1000000 in
set_option maxRecDepth 100000 in
theorem c_L_saturate (l : Launch) (hlt : l.stackTraces = false) (G : Gt) (sz ou : Nat) (fl fl' : Nat → Int64) (bx bd bo bs bk : Nat) (ca wa : Nat → Nat) (b b' : BT) (cd : Int32) (k n : Nat) (est : bst b = nI k) (hk30 : k ≤ 30) (esk : bsk b = nI n) (hn6 : n ≤ 6) (hs : P_saturate  k n b fl cd b' fl') : Met l yL_saturate wsL_saturate rmL_saturate (tw_P G sz [.ref bx] (ow G ou fl ++ bw G bx bd bo bs bk ca wa b)) (mu_Q G (some (.int cd)) (ow G ou fl' ++ bw G bx bd bo bs bk ca wa b') (va_A (ow G ou fl ++ bw G bx bd bo bs bk ca wa b) sz)) 1 6 (va_A (ow G ou fl ++ bw G bx bd bo bs bk ca wa b) sz) := by
  unfold P_saturate at hs
  refine va_MetW (cc := cL_saturate) (maxL := 2) (ret := some .int) (hh := [(0, 4, 7, 19)]) (by decide) rfl ?_
  intro p e s m args below meth c s₁ B hml hv
  obtain ⟨⟨rfl, hsz, hP, hD0, hK⟩, hxw, hzz⟩ := hv
  have hx := B.exec
  have hb := B.bytes
  have hr := B.returns
  have hts := atoms_spec (ws := wsL_saturate) B.pre
  have htb := vx_table (x := yL_saturate) B (hts _ List.mem_cons_self)
  have hown : s.vm.findClass RL = some m.cls := findClass_of_methodNamed B.named
  have hlocks := B.notSynchronized
  subst hsz
  have hD := hD0.self (sz := s.heap.size)
  generalize hAe : va_A (ow G ou fl ++ bw G bx bd bo bs bk ca wa b) s.heap.size = A at hD hzz ⊢
  have hA : ∀ q : Nat, s.heap.size ≤ q → A q := fun q h => by rw [← hAe]; exact Or.inr h
  have hS : va_S A s.heap s.heap [] := va_S.rf
  have hw0 := hts (.classLink RL 19 "java/lang/IllegalStateException") (by decide +kernel)
  have hl := lv_entry ([.ref bx]) (n := 2) (Nat.le_of_ble_eq_true rfl)
  rw [lg_entry_eq]
  generalize (lg_sl ([.ref bx]) ++ List.replicate (2 - (lg_sl ([.ref bx])).length) Slot.unset).toArray = ls at hl ⊢
  have hl : lv_has ls 2 [(0, .ref bx)] := hl
  rcases hs with ⟨rfl, g_hn1, eb9, ef9⟩ | ⟨rfl, g_h, eb9, ef9⟩
  · subst b'; subst fl'
    refine lv_aload_n hx hb dL_saturate_0 rfl (lv_at hl 0 rfl) ?_
    have hF := sr_F hD hS hA
    refine mu_call (va_runV (As := []) (rest := []) ⟨hx, hb, hml, hown, hts⟩ (c_X1_saturate l G _ bx bd bo bs bk ca wa (bst b) (bsk b) (btk b) (bbe b) (bso b) (ble b) (ban b) (bfd b) (bfo b) (bro b) (bdg b) (bgv b) n esk hn6 g_hn1) (cwV 0 hts gL_saturate_X1_saturate rfl rfl rfl (by decide +kernel) ⟨Nat.le_of_ble_eq_true rfl, Nat.le_of_ble_eq_true rfl⟩) ⟨mu_blind, va_recv hK.1 hP (ci := 1) (q0 := 1) rfl rfl, mu_pre _ (sr_P hP) (sr_D hD) hK⟩ rfl rfl hl.1 rfl (lv_room (Nat.le_of_ble_eq_true rfl)) dL_saturate_1 ⟨Nat.le_of_ble_eq_true rfl, Nat.le_of_ble_eq_true rfl⟩) hS hF hF (fun H1 locs hP1 hD1 hk1 hS => ?_)
    obtain ⟨hP, hD⟩ := sr_J hP hD hk1 hF (show va_P G.1 vwCl (bw G bx bd bo bs bk ca wa (mkB (bst b) (bsk b) (btk b) (bbe b) (bso b) (ble b) (ban b) (bfd b) (bfo b) (va_up (bro b) (30 + (n - 1)) (mixf 10 (fun v => rsz ((bro b) (30 + (n - 1)) v) (minI (absI ((bro b) (30 + (n - 1)) v)) ((bdg b) (30 + (n - 1))))) ((bro b) (30 + (n - 1))))) (bdg b) (bgv b))) H1 from hP1) hD1
    generalize H1 = H at hP hS ⊢
    refine lv_goto (tgt := 10) hx hb dL_saturate_4 (by decide) ?_
    refine lv_iconst (v := 0) hx hb dL_saturate_10 (by decide) ?_
    refine W.widen (k := 1) (n := 6) (by decide) (by decide) ?_
    exact W.iret (v := 0) hx hb hr (fun t ht hW => ⟨rfl, by rw [ht]; exact hP, hD, hS.F ht⟩) hS.2.2 dL_saturate_11
  · subst b'; subst fl'
    refine lv_aload_n hx hb dL_saturate_0 rfl (lv_at hl 0 rfl) ?_
    refine lh_catch (vx_runV (As := []) (rest := []) ⟨hx, hb, hml, hown, hts⟩ (c_X1_saturate_1 l hlt G bx bd bo bs bk ca wa (bst b) (bsk b) (btk b) (bbe b) (bso b) (ble b) (ban b) (bfd b) (bfo b) (bro b) (bdg b) (bgv b) g_h) (cwV 0 hts gL_saturate_X1_saturate rfl rfl rfl (by decide +kernel) ⟨Nat.le_of_ble_eq_true rfl, Nat.le_of_ble_eq_true rfl⟩) ⟨tn_blind, va_recv hK.1 hP (ci := 1) (q0 := 1) rfl rfl, tn_pre _ (sr_P hP) hK hxw (hzz.narrow (fun _ h => h.elim))⟩ rfl rfl hl.1 rfl (lv_room (Nat.le_of_ble_eq_true rfl)) dL_saturate_1 ⟨Nat.le_of_ble_eq_true rfl, Nat.le_of_ble_eq_true rfl⟩) hS hP hown [] ⟨0, 4, 7, 19⟩ [] (htb.trans rfl) (fun _ h => nomatch h) (by decide) (by decide) hw0 (xcast hxw.1.2.1) (fun q9 H locs hP hS => ?_)
    refine lv_astore_n (lv' := [(1, .ref q9), (0, .ref bx)]) hx hb dL_saturate_7 rfl hl (by decide) rfl (fun ls hl => ?_)
    refine lv_iconst (v := 1) hx hb dL_saturate_8 (by decide) ?_
    exact W.iret (v := 1) hx hb hr (fun t ht hW => ⟨rfl, by rw [ht]; exact hP, hD, hS.F ht⟩) hS.2.2 dL_saturate_9

def P_weaken (x : Int32) (k n : Nat) (b : BT) (fl : Nat → Int64) (cd : Int32) (b' : BT) (fl' : Nat → Int64) : Prop :=
  (cd = 0 ∧ 1 ≤ n ∧ outI x 0 9 = 0 ∧ b' = mkB (bst b) (bsk b) (btk b) (bbe b) (bso b) (ble b) (ban b) (bfd b) (bfo b) (va_up (bro b) (30 + (n - 1)) (upd ((bro b) (30 + (n - 1))) x.toNatClampNeg 0)) (va_up (bdg b) (30 + (n - 1)) (maxI ((bdg b) (30 + (n - 1)) - absI ((bro b) (30 + (n - 1)) x.toNatClampNeg)) 0)) (bgv b) ∧ fl' = fl) ∨
  (cd = 1 ∧ (bsk b) < 1 ∧ b' = b ∧ fl' = fl) ∨
  (cd = 2 ∧ 1 ≤ n ∧ ¬ outI x 0 9 = 0 ∧ b' = b ∧ fl' = fl)
abbrev rmL_weaken : Room := { frames := 8, cells := 1, slots := 6, locals := 122 }
set_option maxHeartbeats 1000000 in
set_option maxRecDepth 100000 in
theorem c_L_weaken (l : Launch) (hlt : l.stackTraces = false) (G : Gt) (sz ou : Nat) (fl fl' : Nat → Int64) (bx bd bo bs bk : Nat) (ca wa : Nat → Nat) (b b' : BT) (x : Int32) (cd : Int32) (k n : Nat) (est : bst b = nI k) (hk30 : k ≤ 30) (esk : bsk b = nI n) (hn6 : n ≤ 6) (hs : P_weaken x k n b fl cd b' fl') : Met l yL_weaken wsL_weaken rmL_weaken (tw_P G sz [.ref bx, .int x] (ow G ou fl ++ bw G bx bd bo bs bk ca wa b)) (mu_Q G (some (.int cd)) (ow G ou fl' ++ bw G bx bd bo bs bk ca wa b') (va_A (ow G ou fl ++ bw G bx bd bo bs bk ca wa b) sz)) 1 6 (va_A (ow G ou fl ++ bw G bx bd bo bs bk ca wa b) sz) := by
  unfold P_weaken at hs
  refine va_MetW (cc := cL_weaken) (maxL := 3) (ret := some .int) (hh := [(0, 5, 8, 19), (0, 5, 11, 27)]) (by decide) rfl ?_
  intro p e s m args below meth c s₁ B hml hv
  obtain ⟨⟨rfl, hsz, hP, hD0, hK⟩, hxw, hzz⟩ := hv
  have hx := B.exec
  have hb := B.bytes
  have hr := B.returns
  have hts := atoms_spec (ws := wsL_weaken) B.pre
  have htb := vx_table (x := yL_weaken) B (hts _ List.mem_cons_self)
  have hown : s.vm.findClass RL = some m.cls := findClass_of_methodNamed B.named
  have hlocks := B.notSynchronized
  subst hsz
  have hD := hD0.self (sz := s.heap.size)
  generalize hAe : va_A (ow G ou fl ++ bw G bx bd bo bs bk ca wa b) s.heap.size = A at hD hzz ⊢
  have hA : ∀ q : Nat, s.heap.size ≤ q → A q := fun q h => by rw [← hAe]; exact Or.inr h
  have hS : va_S A s.heap s.heap [] := va_S.rf
  have hw0 := hts (.classLink RL 19 "java/lang/IllegalStateException") (by decide +kernel)
  have hw1 := hts (.classLink RL 27 "java/util/NoSuchElementException") (by decide +kernel)
  have hl := lv_entry ([.ref bx, .int x]) (n := 3) (Nat.le_of_ble_eq_true rfl)
  rw [lg_entry_eq]
  generalize (lg_sl ([.ref bx, .int x]) ++ List.replicate (3 - (lg_sl ([.ref bx, .int x])).length) Slot.unset).toArray = ls at hl ⊢
  have hl : lv_has ls 3 [(0, .ref bx), (1, .int x)] := hl
  rcases hs with ⟨rfl, g_hn1, g_h1, eb9, ef9⟩ | ⟨rfl, g_h, eb9, ef9⟩ | ⟨rfl, g_hn1, g_h, eb9, ef9⟩
  · subst b'; subst fl'
    refine lv_aload_n hx hb dL_weaken_0 rfl (lv_at hl 0 rfl) ?_
    refine lv_iload_n hx hb dL_weaken_1 rfl (lv_at hl 1 rfl) ?_
    have hF := sr_F hD hS hA
    refine mu_call (va_runV (As := [.int x]) (rest := []) ⟨hx, hb, hml, hown, hts⟩ (c_X1_weaken l G _ bx bd bo bs bk ca wa (bst b) (bsk b) (btk b) (bbe b) (bso b) (ble b) (ban b) (bfd b) (bfo b) (bro b) (bdg b) (bgv b) x n esk hn6 g_hn1 g_h1) (cwV 1 hts gL_weaken_X1_weaken rfl rfl rfl (by decide +kernel) ⟨Nat.le_of_ble_eq_true rfl, Nat.le_of_ble_eq_true rfl⟩) ⟨mu_blind, va_recv hK.1 hP (ci := 1) (q0 := 1) rfl rfl, mu_pre _ (sr_P hP) (sr_D hD) hK⟩ rfl rfl hl.1 rfl (lv_room (Nat.le_of_ble_eq_true rfl)) dL_weaken_2 ⟨Nat.le_of_ble_eq_true rfl, Nat.le_of_ble_eq_true rfl⟩) hS hF hF (fun H1 locs hP1 hD1 hk1 hS => ?_)
    obtain ⟨hP, hD⟩ := sr_J hP hD hk1 hF (show va_P G.1 vwCl (bw G bx bd bo bs bk ca wa (mkB (bst b) (bsk b) (btk b) (bbe b) (bso b) (ble b) (ban b) (bfd b) (bfo b) (va_up (bro b) (30 + (n - 1)) (upd ((bro b) (30 + (n - 1))) x.toNatClampNeg 0)) (va_up (bdg b) (30 + (n - 1)) (maxI ((bdg b) (30 + (n - 1)) - absI ((bro b) (30 + (n - 1)) x.toNatClampNeg)) 0)) (bgv b))) H1 from hP1) hD1
    generalize H1 = H at hP hS ⊢
    refine lv_goto (tgt := 14) hx hb dL_weaken_5 (by decide) ?_
    refine lv_iconst (v := 0) hx hb dL_weaken_14 (by decide) ?_
    refine W.widen (k := 1) (n := 6) (by decide) (by decide) ?_
    exact W.iret (v := 0) hx hb hr (fun t ht hW => ⟨rfl, by rw [ht]; exact hP, hD, hS.F ht⟩) hS.2.2 dL_weaken_15
  · subst b'; subst fl'
    refine lv_aload_n hx hb dL_weaken_0 rfl (lv_at hl 0 rfl) ?_
    refine lv_iload_n hx hb dL_weaken_1 rfl (lv_at hl 1 rfl) ?_
    refine lh_catch (vx_runV (As := [.int x]) (rest := []) ⟨hx, hb, hml, hown, hts⟩ (c_X1_weaken_1 l hlt G bx bd bo bs bk ca wa (bst b) (bsk b) (btk b) (bbe b) (bso b) (ble b) (ban b) (bfd b) (bfo b) (bro b) (bdg b) (bgv b) x g_h) (cwV 1 hts gL_weaken_X1_weaken rfl rfl rfl (by decide +kernel) ⟨Nat.le_of_ble_eq_true rfl, Nat.le_of_ble_eq_true rfl⟩) ⟨tn_blind, va_recv hK.1 hP (ci := 1) (q0 := 1) rfl rfl, tn_pre _ (sr_P hP) hK hxw (hzz.narrow (fun _ h => h.elim))⟩ rfl rfl hl.1 rfl (lv_room (Nat.le_of_ble_eq_true rfl)) dL_weaken_2 ⟨Nat.le_of_ble_eq_true rfl, Nat.le_of_ble_eq_true rfl⟩) hS hP hown [] ⟨0, 5, 8, 19⟩ [⟨0, 5, 11, 27⟩] (htb.trans rfl) (fun _ h => nomatch h) (by decide) (by decide) hw0 (xcast hxw.1.2.1) (fun q9 H locs hP hS => ?_)
    refine lv_astore_n (lv' := [(2, .ref q9), (0, .ref bx), (1, .int x)]) hx hb dL_weaken_8 rfl hl (by decide) rfl (fun ls hl => ?_)
    refine lv_iconst (v := 1) hx hb dL_weaken_9 (by decide) ?_
    exact W.iret (v := 1) hx hb hr (fun t ht hW => ⟨rfl, by rw [ht]; exact hP, hD, hS.F ht⟩) hS.2.2 dL_weaken_10
  · subst b'; subst fl'
    refine lv_aload_n hx hb dL_weaken_0 rfl (lv_at hl 0 rfl) ?_
    refine lv_iload_n hx hb dL_weaken_1 rfl (lv_at hl 1 rfl) ?_
    refine lh_catch (vx_runV (As := [.int x]) (rest := []) ⟨hx, hb, hml, hown, hts⟩ (c_X1_weaken_2 l hlt G bx bd bo bs bk ca wa (bst b) (bsk b) (btk b) (bbe b) (bso b) (ble b) (ban b) (bfd b) (bfo b) (bro b) (bdg b) (bgv b) x n esk hn6 g_hn1 g_h) (cwV 1 hts gL_weaken_X1_weaken rfl rfl rfl (by decide +kernel) ⟨Nat.le_of_ble_eq_true rfl, Nat.le_of_ble_eq_true rfl⟩) ⟨tn_blind, va_recv hK.1 hP (ci := 1) (q0 := 1) rfl rfl, tn_pre _ (sr_P hP) hK hxw (hzz.narrow (fun _ h => h.elim))⟩ rfl rfl hl.1 rfl (lv_room (Nat.le_of_ble_eq_true rfl)) dL_weaken_2 ⟨Nat.le_of_ble_eq_true rfl, Nat.le_of_ble_eq_true rfl⟩) hS hP hown [⟨0, 5, 8, 19⟩] ⟨0, 5, 11, 27⟩ [] (htb.trans rfl) (fun z hz => by
        simp only [List.mem_cons, List.not_mem_nil, or_false] at hz
        rcases hz with rfl
        · exact Or.inr ⟨by decide, _, hw0, hxw.2.2.2.1.2.1⟩) (by decide) (by decide) hw1 (xcast hxw.1.2.2.1) (fun q9 H locs hP hS => ?_)
    refine lv_astore_n (lv' := [(2, .ref q9), (0, .ref bx), (1, .int x)]) hx hb dL_weaken_11 rfl hl (by decide) rfl (fun ls hl => ?_)
    refine lv_iconst (v := 2) hx hb dL_weaken_12 (by decide) ?_
    exact W.iret (v := 2) hx hb hr (fun t ht hW => ⟨rfl, by rw [ht]; exact hP, hD, hS.F ht⟩) hS.2.2 dL_weaken_13

def P_drop (k n : Nat) (b : BT) (fl : Nat → Int64) (cd : Int32) (b' : BT) (fl' : Nat → Int64) : Prop :=
  (cd = 0 ∧ 1 ≤ n ∧ b' = mkB (bst b) ((bsk b) - 1) (btk b) (bbe b) (bso b) (ble b) (ban b) (bfd b) (bfo b) (bro b) (bdg b) (bgv b) ∧ fl' = fl) ∨
  (cd = 1 ∧ (bsk b) < 1 ∧ b' = b ∧ fl' = fl)
abbrev rmL_drop : Room := { frames := 8, cells := 1, slots := 6, locals := 121 }
set_option maxHeartbeats 1000000 in
set_option maxRecDepth 100000 in
theorem c_L_drop (l : Launch) (hlt : l.stackTraces = false) (G : Gt) (sz ou : Nat) (fl fl' : Nat → Int64) (bx bd bo bs bk : Nat) (ca wa : Nat → Nat) (b b' : BT) (cd : Int32) (k n : Nat) (est : bst b = nI k) (hk30 : k ≤ 30) (esk : bsk b = nI n) (hn6 : n ≤ 6) (hs : P_drop  k n b fl cd b' fl') : Met l yL_drop wsL_drop rmL_drop (tw_P G sz [.ref bx] (ow G ou fl ++ bw G bx bd bo bs bk ca wa b)) (mu_Q G (some (.int cd)) (ow G ou fl' ++ bw G bx bd bo bs bk ca wa b') (va_A (ow G ou fl ++ bw G bx bd bo bs bk ca wa b) sz)) 1 6 (va_A (ow G ou fl ++ bw G bx bd bo bs bk ca wa b) sz) := by
  unfold P_drop at hs
  refine va_MetW (cc := cL_drop) (maxL := 2) (ret := some .int) (hh := [(0, 4, 7, 19)]) (by decide) rfl ?_
  intro p e s m args below meth c s₁ B hml hv
  obtain ⟨⟨rfl, hsz, hP, hD0, hK⟩, hxw, hzz⟩ := hv
  have hx := B.exec
  have hb := B.bytes
  have hr := B.returns
  have hts := atoms_spec (ws := wsL_drop) B.pre
  have htb := vx_table (x := yL_drop) B (hts _ List.mem_cons_self)
  have hown : s.vm.findClass RL = some m.cls := findClass_of_methodNamed B.named
  have hlocks := B.notSynchronized
  subst hsz
  have hD := hD0.self (sz := s.heap.size)
  generalize hAe : va_A (ow G ou fl ++ bw G bx bd bo bs bk ca wa b) s.heap.size = A at hD hzz ⊢
  have hA : ∀ q : Nat, s.heap.size ≤ q → A q := fun q h => by rw [← hAe]; exact Or.inr h
  have hS : va_S A s.heap s.heap [] := va_S.rf
  have hw0 := hts (.classLink RL 19 "java/lang/IllegalStateException") (by decide +kernel)
  have hl := lv_entry ([.ref bx]) (n := 2) (Nat.le_of_ble_eq_true rfl)
  rw [lg_entry_eq]
  generalize (lg_sl ([.ref bx]) ++ List.replicate (2 - (lg_sl ([.ref bx])).length) Slot.unset).toArray = ls at hl ⊢
  have hl : lv_has ls 2 [(0, .ref bx)] := hl
  rcases hs with ⟨rfl, g_hn1, eb9, ef9⟩ | ⟨rfl, g_h, eb9, ef9⟩
  · subst b'; subst fl'
    refine lv_aload_n hx hb dL_drop_0 rfl (lv_at hl 0 rfl) ?_
    have hF := sr_F hD hS hA
    refine mu_call (va_runV (As := []) (rest := []) ⟨hx, hb, hml, hown, hts⟩ (c_X1_drop l G _ bx bd bo bs bk ca wa (bst b) (bsk b) (btk b) (bbe b) (bso b) (ble b) (ban b) (bfd b) (bfo b) (bro b) (bdg b) (bgv b) n esk hn6 g_hn1) (cwV 0 hts gL_drop_X1_drop rfl rfl rfl (by decide +kernel) ⟨Nat.le_of_ble_eq_true rfl, Nat.le_of_ble_eq_true rfl⟩) ⟨mu_blind, va_recv hK.1 hP (ci := 1) (q0 := 1) rfl rfl, mu_pre _ (sr_P hP) (sr_D hD) hK⟩ rfl rfl hl.1 rfl (lv_room (Nat.le_of_ble_eq_true rfl)) dL_drop_1 ⟨Nat.le_of_ble_eq_true rfl, Nat.le_of_ble_eq_true rfl⟩) hS hF hF (fun H1 locs hP1 hD1 hk1 hS => ?_)
    obtain ⟨hP, hD⟩ := sr_J hP hD hk1 hF (show va_P G.1 vwCl (bw G bx bd bo bs bk ca wa (mkB (bst b) ((bsk b) - 1) (btk b) (bbe b) (bso b) (ble b) (ban b) (bfd b) (bfo b) (bro b) (bdg b) (bgv b))) H1 from hP1) hD1
    generalize H1 = H at hP hS ⊢
    refine lv_goto (tgt := 10) hx hb dL_drop_4 (by decide) ?_
    refine lv_iconst (v := 0) hx hb dL_drop_10 (by decide) ?_
    refine W.widen (k := 1) (n := 6) (by decide) (by decide) ?_
    exact W.iret (v := 0) hx hb hr (fun t ht hW => ⟨rfl, by rw [ht]; exact hP, hD, hS.F ht⟩) hS.2.2 dL_drop_11
  · subst b'; subst fl'
    refine lv_aload_n hx hb dL_drop_0 rfl (lv_at hl 0 rfl) ?_
    refine lh_catch (vx_runV (As := []) (rest := []) ⟨hx, hb, hml, hown, hts⟩ (c_X1_drop_1 l hlt G bx bd bo bs bk ca wa (bst b) (bsk b) (btk b) (bbe b) (bso b) (ble b) (ban b) (bfd b) (bfo b) (bro b) (bdg b) (bgv b) g_h) (cwV 0 hts gL_drop_X1_drop rfl rfl rfl (by decide +kernel) ⟨Nat.le_of_ble_eq_true rfl, Nat.le_of_ble_eq_true rfl⟩) ⟨tn_blind, va_recv hK.1 hP (ci := 1) (q0 := 1) rfl rfl, tn_pre _ (sr_P hP) hK hxw (hzz.narrow (fun _ h => h.elim))⟩ rfl rfl hl.1 rfl (lv_room (Nat.le_of_ble_eq_true rfl)) dL_drop_1 ⟨Nat.le_of_ble_eq_true rfl, Nat.le_of_ble_eq_true rfl⟩) hS hP hown [] ⟨0, 4, 7, 19⟩ [] (htb.trans rfl) (fun _ h => nomatch h) (by decide) (by decide) hw0 (xcast hxw.1.2.1) (fun q9 H locs hP hS => ?_)
    refine lv_astore_n (lv' := [(1, .ref q9), (0, .ref bx)]) hx hb dL_drop_7 rfl hl (by decide) rfl (fun ls hl => ?_)
    refine lv_iconst (v := 1) hx hb dL_drop_8 (by decide) ?_
    exact W.iret (v := 1) hx hb hr (fun t ht hW => ⟨rfl, by rw [ht]; exact hP, hD, hS.F ht⟩) hS.2.2 dL_drop_9

def P_top (x : Int32) (k n : Nat) (b : BT) (fl : Nat → Int64) (cd : Int32) (b' : BT) (fl' : Nat → Int64) : Prop :=
  (cd = 0 ∧ outI x (-2) 9 = 0 ∧ (¬ x = -2 → 1 ≤ n) ∧ b' = b ∧ fl' = vp_updL fl 0 (txR (bro b) (bdg b) n (bsk b) x).toInt64) ∨
  (cd = 1 ∧ ¬ outI x (-2) 9 = 0 ∧ b' = b ∧ fl' = fl) ∨
  (cd = 2 ∧ outI x (-2) 9 = 0 ∧ ¬ x = -2 ∧ (bsk b) < 1 ∧ b' = b ∧ fl' = fl)
abbrev rmL_top : Room := { frames := 8, cells := 1, slots := 6, locals := 122 }
set_option maxHeartbeats 1000000 in
set_option maxRecDepth 100000 in
theorem c_L_top (l : Launch) (hlt : l.stackTraces = false) (G : Gt) (sz ou : Nat) (fl fl' : Nat → Int64) (bx bd bo bs bk : Nat) (ca wa : Nat → Nat) (b b' : BT) (x : Int32) (cd : Int32) (k n : Nat) (est : bst b = nI k) (hk30 : k ≤ 30) (esk : bsk b = nI n) (hn6 : n ≤ 6) (hs : P_top x k n b fl cd b' fl') : Met l yL_top wsL_top rmL_top (tw_P G sz [.ref bx, .int x, .ref ou] (ow G ou fl ++ bw G bx bd bo bs bk ca wa b)) (mu_Q G (some (.int cd)) (ow G ou fl' ++ bw G bx bd bo bs bk ca wa b') (va_A (ow G ou fl ++ bw G bx bd bo bs bk ca wa b) sz)) 1 6 (va_A (ow G ou fl ++ bw G bx bd bo bs bk ca wa b) sz) := by
  unfold P_top at hs
  refine va_MetW (cc := cL_top) (maxL := 4) (ret := some .int) (hh := [(0, 9, 12, 13), (0, 9, 15, 19)]) (by decide) rfl ?_
  intro p e s m args below meth c s₁ B hml hv
  obtain ⟨⟨rfl, hsz, hP, hD0, hK⟩, hxw, hzz⟩ := hv
  have hx := B.exec
  have hb := B.bytes
  have hr := B.returns
  have hts := atoms_spec (ws := wsL_top) B.pre
  have htb := vx_table (x := yL_top) B (hts _ List.mem_cons_self)
  have hown : s.vm.findClass RL = some m.cls := findClass_of_methodNamed B.named
  have hlocks := B.notSynchronized
  subst hsz
  have hD := hD0.self (sz := s.heap.size)
  generalize hAe : va_A (ow G ou fl ++ bw G bx bd bo bs bk ca wa b) s.heap.size = A at hD hzz ⊢
  have hA : ∀ q : Nat, s.heap.size ≤ q → A q := fun q h => by rw [← hAe]; exact Or.inr h
  have hS : va_S A s.heap s.heap [] := va_S.rf
  have hw0 := hts (.classLink RL 13 "java/lang/IllegalArgumentException") (by decide +kernel)
  have hw1 := hts (.classLink RL 19 "java/lang/IllegalStateException") (by decide +kernel)
  have hl := lv_entry ([.ref bx, .int x, .ref ou]) (n := 4) (Nat.le_of_ble_eq_true rfl)
  rw [lg_entry_eq]
  generalize (lg_sl ([.ref bx, .int x, .ref ou]) ++ List.replicate (4 - (lg_sl ([.ref bx, .int x, .ref ou])).length) Slot.unset).toArray = ls at hl ⊢
  have hl : lv_has ls 4 [(0, .ref bx), (1, .int x), (2, .ref ou)] := hl
  rcases hs with ⟨rfl, g_h1, g_hn1, eb9, ef9⟩ | ⟨rfl, g_h, eb9, ef9⟩ | ⟨rfl, g_h1, g_hx2, g_h, eb9, ef9⟩
  · subst b'; subst fl'
    refine lv_aload_n hx hb dL_top_0 rfl (lv_at hl 2 rfl) ?_
    refine lv_iconst (v := 0) hx hb dL_top_1 (by decide) ?_
    refine lv_aload_n hx hb dL_top_2 rfl (lv_at hl 0 rfl) ?_
    refine lv_iload_n hx hb dL_top_3 rfl (lv_at hl 1 rfl) ?_
    refine ro_call (va_runV (As := [.int x]) (rest := [.int 0, .ref ou]) ⟨hx, hb, hml, hown, hts⟩ (c_X1_top l G bx bd bo bs bk ca wa (bst b) (bsk b) (btk b) (bbe b) (bso b) (ble b) (ban b) (bfd b) (bfo b) (bro b) (bdg b) (bgv b) x n esk hn6 g_h1 g_hn1) (cwV 1 hts gL_top_X1_top rfl rfl rfl (by decide +kernel) ⟨Nat.le_of_ble_eq_true rfl, Nat.le_of_ble_eq_true rfl⟩) ⟨ro_blind, va_recv hK.1 hP (ci := 1) (q0 := 1) rfl rfl, ro_pre _ (sr_P hP) hK⟩ rfl rfl hl.1 rfl (lv_room (Nat.le_of_ble_eq_true rfl)) dL_top_4 ⟨Nat.le_of_ble_eq_true rfl, Nat.le_of_ble_eq_true rfl⟩) ?_
    refine lv_i2l (v := (txR (bro b) (bdg b) n (bsk b) x).toInt64) hx hb dL_top_7 rfl ?_
    refine va_last hx hb hK.1 hP hD hS 0 3 rfl rfl (vp_in_nI (n := 0) (N := 1) (by decide) (by decide)) dL_top_8 (fun H locs hP hD hS => ?_)
    have hP : va_P G.1 vwCl (ow G ou (vp_updL fl 0 ((txR (bro b) (bdg b) n (bsk b) x).toInt64)) ++ bw G bx bd bo bs bk ca wa b) H := hP
    have hD : va_D A (ow G ou (vp_updL fl 0 ((txR (bro b) (bdg b) n (bsk b) x).toInt64)) ++ bw G bx bd bo bs bk ca wa b) := hD
    refine lv_goto (tgt := 18) hx hb dL_top_9 (by decide) ?_
    refine lv_iconst (v := 0) hx hb dL_top_18 (by decide) ?_
    refine W.widen (k := 1) (n := 6) (by decide) (by decide) ?_
    exact W.iret (v := 0) hx hb hr (fun t ht hW => ⟨rfl, by rw [ht]; exact hP, hD, hS.F ht⟩) hS.2.2 dL_top_19
  · subst b'; subst fl'
    refine lv_aload_n hx hb dL_top_0 rfl (lv_at hl 2 rfl) ?_
    refine lv_iconst (v := 0) hx hb dL_top_1 (by decide) ?_
    refine lv_aload_n hx hb dL_top_2 rfl (lv_at hl 0 rfl) ?_
    refine lv_iload_n hx hb dL_top_3 rfl (lv_at hl 1 rfl) ?_
    refine lh_catch (vx_runV (As := [.int x]) (rest := [.int 0, .ref ou]) ⟨hx, hb, hml, hown, hts⟩ (c_X1_top_1 l hlt G bx bd bo bs bk ca wa (bst b) (bsk b) (btk b) (bbe b) (bso b) (ble b) (ban b) (bfd b) (bfo b) (bro b) (bdg b) (bgv b) x g_h) (cwV 1 hts gL_top_X1_top rfl rfl rfl (by decide +kernel) ⟨Nat.le_of_ble_eq_true rfl, Nat.le_of_ble_eq_true rfl⟩) ⟨tn_blind, va_recv hK.1 hP (ci := 1) (q0 := 1) rfl rfl, tn_pre _ (sr_P hP) hK hxw (hzz.narrow (fun _ h => h.elim))⟩ rfl rfl hl.1 rfl (lv_room (Nat.le_of_ble_eq_true rfl)) dL_top_4 ⟨Nat.le_of_ble_eq_true rfl, Nat.le_of_ble_eq_true rfl⟩) hS hP hown [] ⟨0, 9, 12, 13⟩ [⟨0, 9, 15, 19⟩] (htb.trans rfl) (fun _ h => nomatch h) (by decide) (by decide) hw0 (xcast hxw.1.1) (fun q9 H locs hP hS => ?_)
    refine lv_astore_n (lv' := [(3, .ref q9), (0, .ref bx), (1, .int x), (2, .ref ou)]) hx hb dL_top_12 rfl hl (by decide) rfl (fun ls hl => ?_)
    refine lv_iconst (v := 1) hx hb dL_top_13 (by decide) ?_
    exact W.iret (v := 1) hx hb hr (fun t ht hW => ⟨rfl, by rw [ht]; exact hP, hD, hS.F ht⟩) hS.2.2 dL_top_14
  · subst b'; subst fl'
    refine lv_aload_n hx hb dL_top_0 rfl (lv_at hl 2 rfl) ?_
    refine lv_iconst (v := 0) hx hb dL_top_1 (by decide) ?_
    refine lv_aload_n hx hb dL_top_2 rfl (lv_at hl 0 rfl) ?_
    refine lv_iload_n hx hb dL_top_3 rfl (lv_at hl 1 rfl) ?_
    refine lh_catch (vx_runV (As := [.int x]) (rest := [.int 0, .ref ou]) ⟨hx, hb, hml, hown, hts⟩ (c_X1_top_2 l hlt G bx bd bo bs bk ca wa (bst b) (bsk b) (btk b) (bbe b) (bso b) (ble b) (ban b) (bfd b) (bfo b) (bro b) (bdg b) (bgv b) x g_h1 g_hx2 g_h) (cwV 1 hts gL_top_X1_top rfl rfl rfl (by decide +kernel) ⟨Nat.le_of_ble_eq_true rfl, Nat.le_of_ble_eq_true rfl⟩) ⟨tn_blind, va_recv hK.1 hP (ci := 1) (q0 := 1) rfl rfl, tn_pre _ (sr_P hP) hK hxw (hzz.narrow (fun _ h => h.elim))⟩ rfl rfl hl.1 rfl (lv_room (Nat.le_of_ble_eq_true rfl)) dL_top_4 ⟨Nat.le_of_ble_eq_true rfl, Nat.le_of_ble_eq_true rfl⟩) hS hP hown [⟨0, 9, 12, 13⟩] ⟨0, 9, 15, 19⟩ [] (htb.trans rfl) (fun z hz => by
        simp only [List.mem_cons, List.not_mem_nil, or_false] at hz
        rcases hz with rfl
        · exact Or.inr ⟨by decide, _, hw0, hxw.2.2.1.1⟩) (by decide) (by decide) hw1 (xcast hxw.1.2.1) (fun q9 H locs hP hS => ?_)
    refine lv_astore_n (lv' := [(3, .ref q9), (0, .ref bx), (1, .int x), (2, .ref ou)]) hx hb dL_top_15 rfl hl (by decide) rfl (fun ls hl => ?_)
    refine lv_iconst (v := 2) hx hb dL_top_16 (by decide) ?_
    exact W.iret (v := 2) hx hb hr (fun t ht hW => ⟨rfl, by rw [ht]; exact hP, hD, hS.F ht⟩) hS.2.2 dL_top_17

def P_learn (k n : Nat) (b : BT) (fl : Nat → Int64) (cd : Int32) (b' : BT) (fl' : Nat → Int64) : Prop :=
  (cd = 0 ∧ k < 30 ∧ 1 ≤ n ∧ b' = mkB ((bst b) + 1) ((bsk b) - 1) (btk b) (bbe b) (bso b) (ble b) (ban b) (bfd b) (bfo b) (va_up (bro b) k (mixf 10 ((bro b) (30 + (n - 1))) ((bro b) k))) (va_up (bdg b) k ((bdg b) (30 + (n - 1)))) (va_up (bgv b) k 0) ∧ fl' = vp_updL fl 0 ((bst b) + 1 - 1).toInt64) ∨
  (cd = 1 ∧ (bsk b) < 1 ∧ b' = b ∧ fl' = fl) ∨
  (cd = 1 ∧ 1 ≤ n ∧ (bst b) = 30 ∧ b' = b ∧ fl' = fl)
abbrev rmL_learn : Room := { frames := 8, cells := 1, slots := 6, locals := 121 }
set_option maxHeartbeats 1000000 in
set_option maxRecDepth 100000 in
theorem c_L_learn (l : Launch) (hlt : l.stackTraces = false) (G : Gt) (sz ou : Nat) (fl fl' : Nat → Int64) (bx bd bo bs bk : Nat) (ca wa : Nat → Nat) (b b' : BT) (cd : Int32) (k n : Nat) (est : bst b = nI k) (hk30 : k ≤ 30) (esk : bsk b = nI n) (hn6 : n ≤ 6) (hs : P_learn  k n b fl cd b' fl') : Met l yL_learn wsL_learn rmL_learn (tw_P G sz [.ref bx, .ref ou] (ow G ou fl ++ bw G bx bd bo bs bk ca wa b)) (mu_Q G (some (.int cd)) (ow G ou fl' ++ bw G bx bd bo bs bk ca wa b') (va_A (ow G ou fl ++ bw G bx bd bo bs bk ca wa b) sz)) 1 6 (va_A (ow G ou fl ++ bw G bx bd bo bs bk ca wa b) sz) := by
  unfold P_learn at hs
  refine va_MetW (cc := cL_learn) (maxL := 3) (ret := some .int) (hh := [(0, 8, 11, 19)]) (by decide) rfl ?_
  intro p e s m args below meth c s₁ B hml hv
  obtain ⟨⟨rfl, hsz, hP, hD0, hK⟩, hxw, hzz⟩ := hv
  have hx := B.exec
  have hb := B.bytes
  have hr := B.returns
  have hts := atoms_spec (ws := wsL_learn) B.pre
  have htb := vx_table (x := yL_learn) B (hts _ List.mem_cons_self)
  have hown : s.vm.findClass RL = some m.cls := findClass_of_methodNamed B.named
  have hlocks := B.notSynchronized
  subst hsz
  have hD := hD0.self (sz := s.heap.size)
  generalize hAe : va_A (ow G ou fl ++ bw G bx bd bo bs bk ca wa b) s.heap.size = A at hD hzz ⊢
  have hA : ∀ q : Nat, s.heap.size ≤ q → A q := fun q h => by rw [← hAe]; exact Or.inr h
  have hS : va_S A s.heap s.heap [] := va_S.rf
  have hw0 := hts (.classLink RL 19 "java/lang/IllegalStateException") (by decide +kernel)
  have hl := lv_entry ([.ref bx, .ref ou]) (n := 3) (Nat.le_of_ble_eq_true rfl)
  rw [lg_entry_eq]
  generalize (lg_sl ([.ref bx, .ref ou]) ++ List.replicate (3 - (lg_sl ([.ref bx, .ref ou])).length) Slot.unset).toArray = ls at hl ⊢
  have hl : lv_has ls 3 [(0, .ref bx), (1, .ref ou)] := hl
  rcases hs with ⟨rfl, g_hk, g_hn1, eb9, ef9⟩ | ⟨rfl, g_h, eb9, ef9⟩ | ⟨rfl, g_hn1, g_h, eb9, ef9⟩
  · subst b'; subst fl'
    refine lv_aload_n hx hb dL_learn_0 rfl (lv_at hl 1 rfl) ?_
    refine lv_iconst (v := 0) hx hb dL_learn_1 (by decide) ?_
    refine lv_aload_n hx hb dL_learn_2 rfl (lv_at hl 0 rfl) ?_
    have hF := sr_F hD hS hA
    refine mu_call (va_runV (As := []) (rest := [.int 0, .ref ou]) ⟨hx, hb, hml, hown, hts⟩ (c_X1_learn l G _ bx bd bo bs bk ca wa (bst b) (bsk b) (btk b) (bbe b) (bso b) (ble b) (ban b) (bfd b) (bfo b) (bro b) (bdg b) (bgv b) k est g_hk n esk hn6 g_hn1) (cwV 0 hts gL_learn_X1_learn rfl rfl rfl (by decide +kernel) ⟨Nat.le_of_ble_eq_true rfl, Nat.le_of_ble_eq_true rfl⟩) ⟨mu_blind, va_recv hK.1 hP (ci := 1) (q0 := 1) rfl rfl, mu_pre _ (sr_P hP) (sr_D hD) hK⟩ rfl rfl hl.1 rfl (lv_room (Nat.le_of_ble_eq_true rfl)) dL_learn_3 ⟨Nat.le_of_ble_eq_true rfl, Nat.le_of_ble_eq_true rfl⟩) hS hF hF (fun H1 locs hP1 hD1 hk1 hS => ?_)
    obtain ⟨hP, hD⟩ := sr_J hP hD hk1 hF (show va_P G.1 vwCl (bw G bx bd bo bs bk ca wa (mkB ((bst b) + 1) ((bsk b) - 1) (btk b) (bbe b) (bso b) (ble b) (ban b) (bfd b) (bfo b) (va_up (bro b) k (mixf 10 ((bro b) (30 + (n - 1))) ((bro b) k))) (va_up (bdg b) k ((bdg b) (30 + (n - 1)))) (va_up (bgv b) k 0))) H1 from hP1) hD1
    generalize H1 = H at hP hS ⊢
    refine lv_i2l (v := ((bst b) + 1 - 1).toInt64) hx hb dL_learn_6 rfl ?_
    refine va_last hx hb hK.1 hP hD hS 0 3 rfl rfl (vp_in_nI (n := 0) (N := 1) (by decide) (by decide)) dL_learn_7 (fun H locs hP hD hS => ?_)
    have hP : va_P G.1 vwCl (ow G ou (vp_updL fl 0 (((bst b) + 1 - 1).toInt64)) ++ bw G bx bd bo bs bk ca wa (mkB ((bst b) + 1) ((bsk b) - 1) (btk b) (bbe b) (bso b) (ble b) (ban b) (bfd b) (bfo b) (va_up (bro b) k (mixf 10 ((bro b) (30 + (n - 1))) ((bro b) k))) (va_up (bdg b) k ((bdg b) (30 + (n - 1)))) (va_up (bgv b) k 0))) H := hP
    have hD : va_D A (ow G ou (vp_updL fl 0 (((bst b) + 1 - 1).toInt64)) ++ bw G bx bd bo bs bk ca wa (mkB ((bst b) + 1) ((bsk b) - 1) (btk b) (bbe b) (bso b) (ble b) (ban b) (bfd b) (bfo b) (va_up (bro b) k (mixf 10 ((bro b) (30 + (n - 1))) ((bro b) k))) (va_up (bdg b) k ((bdg b) (30 + (n - 1)))) (va_up (bgv b) k 0))) := hD
    refine lv_goto (tgt := 14) hx hb dL_learn_8 (by decide) ?_
    refine lv_iconst (v := 0) hx hb dL_learn_14 (by decide) ?_
    refine W.widen (k := 1) (n := 6) (by decide) (by decide) ?_
    exact W.iret (v := 0) hx hb hr (fun t ht hW => ⟨rfl, by rw [ht]; exact hP, hD, hS.F ht⟩) hS.2.2 dL_learn_15
  · subst b'; subst fl'
    refine lv_aload_n hx hb dL_learn_0 rfl (lv_at hl 1 rfl) ?_
    refine lv_iconst (v := 0) hx hb dL_learn_1 (by decide) ?_
    refine lv_aload_n hx hb dL_learn_2 rfl (lv_at hl 0 rfl) ?_
    refine lh_catch (vx_runV (As := []) (rest := [.int 0, .ref ou]) ⟨hx, hb, hml, hown, hts⟩ (c_X1_learn_1 l hlt G bx bd bo bs bk ca wa (bst b) (bsk b) (btk b) (bbe b) (bso b) (ble b) (ban b) (bfd b) (bfo b) (bro b) (bdg b) (bgv b) g_h) (cwV 0 hts gL_learn_X1_learn rfl rfl rfl (by decide +kernel) ⟨Nat.le_of_ble_eq_true rfl, Nat.le_of_ble_eq_true rfl⟩) ⟨tn_blind, va_recv hK.1 hP (ci := 1) (q0 := 1) rfl rfl, tn_pre _ (sr_P hP) hK hxw (hzz.narrow (fun _ h => h.elim))⟩ rfl rfl hl.1 rfl (lv_room (Nat.le_of_ble_eq_true rfl)) dL_learn_3 ⟨Nat.le_of_ble_eq_true rfl, Nat.le_of_ble_eq_true rfl⟩) hS hP hown [] ⟨0, 8, 11, 19⟩ [] (htb.trans rfl) (fun _ h => nomatch h) (by decide) (by decide) hw0 (xcast hxw.1.2.1) (fun q9 H locs hP hS => ?_)
    refine lv_astore_n (lv' := [(2, .ref q9), (0, .ref bx), (1, .ref ou)]) hx hb dL_learn_11 rfl hl (by decide) rfl (fun ls hl => ?_)
    refine lv_iconst (v := 1) hx hb dL_learn_12 (by decide) ?_
    exact W.iret (v := 1) hx hb hr (fun t ht hW => ⟨rfl, by rw [ht]; exact hP, hD, hS.F ht⟩) hS.2.2 dL_learn_13
  · subst b'; subst fl'
    refine lv_aload_n hx hb dL_learn_0 rfl (lv_at hl 1 rfl) ?_
    refine lv_iconst (v := 0) hx hb dL_learn_1 (by decide) ?_
    refine lv_aload_n hx hb dL_learn_2 rfl (lv_at hl 0 rfl) ?_
    refine lh_catch (vx_runV (As := []) (rest := [.int 0, .ref ou]) ⟨hx, hb, hml, hown, hts⟩ (c_X1_learn_1b l hlt G bx bd bo bs bk ca wa (bst b) (bsk b) (btk b) (bbe b) (bso b) (ble b) (ban b) (bfd b) (bfo b) (bro b) (bdg b) (bgv b) n esk hn6 g_hn1 g_h) (cwV 0 hts gL_learn_X1_learn rfl rfl rfl (by decide +kernel) ⟨Nat.le_of_ble_eq_true rfl, Nat.le_of_ble_eq_true rfl⟩) ⟨tn_blind, va_recv hK.1 hP (ci := 1) (q0 := 1) rfl rfl, tn_pre _ (sr_P hP) hK hxw (hzz.narrow (fun _ h => h.elim))⟩ rfl rfl hl.1 rfl (lv_room (Nat.le_of_ble_eq_true rfl)) dL_learn_3 ⟨Nat.le_of_ble_eq_true rfl, Nat.le_of_ble_eq_true rfl⟩) hS hP hown [] ⟨0, 8, 11, 19⟩ [] (htb.trans rfl) (fun _ h => nomatch h) (by decide) (by decide) hw0 (xcast hxw.1.2.1) (fun q9 H locs hP hS => ?_)
    refine lv_astore_n (lv' := [(2, .ref q9), (0, .ref bx), (1, .ref ou)]) hx hb dL_learn_11 rfl hl (by decide) rfl (fun ls hl => ?_)
    refine lv_iconst (v := 1) hx hb dL_learn_12 (by decide) ?_
    exact W.iret (v := 1) hx hb hr (fun t ht hW => ⟨rfl, by rw [ht]; exact hP, hD, hS.F ht⟩) hS.2.2 dL_learn_13

def P_contradict (x : Int32) (k n : Nat) (b : BT) (fl : Nat → Int64) (cd : Int32) (b' : BT) (fl' : Nat → Int64) : Prop :=
  (∃ r : Int32, cd = 0 ∧ k < 30 ∧ outI x (-9999) 9999 = 0 ∧ r = cxO (va_up (bro b) k (mixf 10 (fun v => -((mixf 10 (nrW (bfd b) 1) ((bro b) k)) v)) (mixf 10 (nrW (bfd b) 1) ((bro b) k)))) (va_up (bdg b) k (maxI (szs (mixf 10 (nrW (bfd b) 1) ((bro b) k)) + 1 - (nrD (bfd b) 1 x)) 0)) (k + 1) 0 11 ∧ b' = mkB (if r = -1 then (bst b) + 1 else (bst b)) (bsk b) (btk b) (bbe b) (bso b) (ble b) (ban b) (if r = -1 then mixf 10 (fun _ => 0) (bfd b) else (bfd b)) (bfo b) (va_up (bro b) k (if r = -1 then mixf 10 (nrW (bfd b) 1) (mixf 10 (fun v => -((mixf 10 (nrW (bfd b) 1) ((bro b) k)) v)) (mixf 10 (nrW (bfd b) 1) ((bro b) k))) else (mixf 10 (fun v => -((mixf 10 (nrW (bfd b) 1) ((bro b) k)) v)) (mixf 10 (nrW (bfd b) 1) ((bro b) k))))) (va_up (bdg b) k (if r = -1 then (nrD (bfd b) 1 x) else (maxI (szs (mixf 10 (nrW (bfd b) 1) ((bro b) k)) + 1 - (nrD (bfd b) 1 x)) 0))) (if r = -1 then va_up (bgv b) k 0 else (bgv b)) ∧ fl' = vp_updL fl 0 (if r = -1 then (bst b) + 1 - 1 else -1).toInt64) ∨
  (cd = 1 ∧ ¬ outI x (-9999) 9999 = 0 ∧ b' = b ∧ fl' = fl) ∨
  (cd = 2 ∧ outI x (-9999) 9999 = 0 ∧ (bst b) = 30 ∧ b' = b ∧ fl' = fl)
abbrev rmL_contradict : Room := { frames := 8, cells := 1, slots := 6, locals := 138 }
set_option maxHeartbeats 1000000 in
set_option maxRecDepth 100000 in
theorem c_L_contradict (l : Launch) (hlt : l.stackTraces = false) (G : Gt) (sz ou : Nat) (fl fl' : Nat → Int64) (bx bd bo bs bk : Nat) (ca wa : Nat → Nat) (b b' : BT) (x : Int32) (cd : Int32) (k n : Nat) (est : bst b = nI k) (hk30 : k ≤ 30) (esk : bsk b = nI n) (hn6 : n ≤ 6) (hs : P_contradict x k n b fl cd b' fl') : Met l yL_contradict wsL_contradict rmL_contradict (tw_P G sz [.ref bx, .int x, .ref ou] (ow G ou fl ++ bw G bx bd bo bs bk ca wa b)) (mu_Q G (some (.int cd)) (ow G ou fl' ++ bw G bx bd bo bs bk ca wa b') (va_A (ow G ou fl ++ bw G bx bd bo bs bk ca wa b) sz)) 1 6 (va_A (ow G ou fl ++ bw G bx bd bo bs bk ca wa b) sz) := by
  unfold P_contradict at hs
  refine va_MetW (cc := cL_contradict) (maxL := 4) (ret := some .int) (hh := [(0, 9, 12, 13), (0, 9, 15, 19)]) (by decide) rfl ?_
  intro p e s m args below meth c s₁ B hml hv
  obtain ⟨⟨rfl, hsz, hP, hD0, hK⟩, hxw, hzz⟩ := hv
  have hx := B.exec
  have hb := B.bytes
  have hr := B.returns
  have hts := atoms_spec (ws := wsL_contradict) B.pre
  have htb := vx_table (x := yL_contradict) B (hts _ List.mem_cons_self)
  have hown : s.vm.findClass RL = some m.cls := findClass_of_methodNamed B.named
  have hlocks := B.notSynchronized
  subst hsz
  have hD := hD0.self (sz := s.heap.size)
  generalize hAe : va_A (ow G ou fl ++ bw G bx bd bo bs bk ca wa b) s.heap.size = A at hD hzz ⊢
  have hA : ∀ q : Nat, s.heap.size ≤ q → A q := fun q h => by rw [← hAe]; exact Or.inr h
  have hS : va_S A s.heap s.heap [] := va_S.rf
  have hw0 := hts (.classLink RL 13 "java/lang/IllegalArgumentException") (by decide +kernel)
  have hw1 := hts (.classLink RL 19 "java/lang/IllegalStateException") (by decide +kernel)
  have hl := lv_entry ([.ref bx, .int x, .ref ou]) (n := 4) (Nat.le_of_ble_eq_true rfl)
  rw [lg_entry_eq]
  generalize (lg_sl ([.ref bx, .int x, .ref ou]) ++ List.replicate (4 - (lg_sl ([.ref bx, .int x, .ref ou])).length) Slot.unset).toArray = ls at hl ⊢
  have hl : lv_has ls 4 [(0, .ref bx), (1, .int x), (2, .ref ou)] := hl
  rcases hs with ⟨r, rfl, g_hk, g_h1, g_hr9, eb9, ef9⟩ | ⟨rfl, g_h, eb9, ef9⟩ | ⟨rfl, g_h1, g_h, eb9, ef9⟩
  · subst b'; subst fl'
    refine lv_aload_n hx hb dL_contradict_0 rfl (lv_at hl 2 rfl) ?_
    refine lv_iconst (v := 0) hx hb dL_contradict_1 (by decide) ?_
    refine lv_aload_n hx hb dL_contradict_2 rfl (lv_at hl 0 rfl) ?_
    refine lv_iload_n hx hb dL_contradict_3 rfl (lv_at hl 1 rfl) ?_
    have hF := sr_F hD hS hA
    refine mu_call (va_runV (As := [.int x]) (rest := [.int 0, .ref ou]) ⟨hx, hb, hml, hown, hts⟩ (c_X1_contradict l G _ bx bd bo bs bk ca wa (bst b) (bsk b) (btk b) (bbe b) (bso b) (ble b) (ban b) (bfd b) (bfo b) (bro b) (bdg b) (bgv b) x k est g_hk g_h1 r g_hr9) (cwV 1 hts gL_contradict_X1_contradict rfl rfl rfl (by decide +kernel) ⟨Nat.le_of_ble_eq_true rfl, Nat.le_of_ble_eq_true rfl⟩) ⟨mu_blind, va_recv hK.1 hP (ci := 1) (q0 := 1) rfl rfl, mu_pre _ (sr_P hP) (sr_D hD) hK⟩ rfl rfl hl.1 rfl (lv_room (Nat.le_of_ble_eq_true rfl)) dL_contradict_4 ⟨Nat.le_of_ble_eq_true rfl, Nat.le_of_ble_eq_true rfl⟩) hS hF hF (fun H1 locs hP1 hD1 hk1 hS => ?_)
    obtain ⟨hP, hD⟩ := sr_J hP hD hk1 hF (show va_P G.1 vwCl (bw G bx bd bo bs bk ca wa (mkB (if r = -1 then (bst b) + 1 else (bst b)) (bsk b) (btk b) (bbe b) (bso b) (ble b) (ban b) (if r = -1 then mixf 10 (fun _ => 0) (bfd b) else (bfd b)) (bfo b) (va_up (bro b) k (if r = -1 then mixf 10 (nrW (bfd b) 1) (mixf 10 (fun v => -((mixf 10 (nrW (bfd b) 1) ((bro b) k)) v)) (mixf 10 (nrW (bfd b) 1) ((bro b) k))) else (mixf 10 (fun v => -((mixf 10 (nrW (bfd b) 1) ((bro b) k)) v)) (mixf 10 (nrW (bfd b) 1) ((bro b) k))))) (va_up (bdg b) k (if r = -1 then (nrD (bfd b) 1 x) else (maxI (szs (mixf 10 (nrW (bfd b) 1) ((bro b) k)) + 1 - (nrD (bfd b) 1 x)) 0))) (if r = -1 then va_up (bgv b) k 0 else (bgv b)))) H1 from hP1) hD1
    generalize H1 = H at hP hS ⊢
    refine lv_i2l (v := (if r = -1 then (bst b) + 1 - 1 else -1).toInt64) hx hb dL_contradict_7 rfl ?_
    refine va_last hx hb hK.1 hP hD hS 0 3 rfl rfl (vp_in_nI (n := 0) (N := 1) (by decide) (by decide)) dL_contradict_8 (fun H locs hP hD hS => ?_)
    have hP : va_P G.1 vwCl (ow G ou (vp_updL fl 0 ((if r = -1 then (bst b) + 1 - 1 else -1).toInt64)) ++ bw G bx bd bo bs bk ca wa (mkB (if r = -1 then (bst b) + 1 else (bst b)) (bsk b) (btk b) (bbe b) (bso b) (ble b) (ban b) (if r = -1 then mixf 10 (fun _ => 0) (bfd b) else (bfd b)) (bfo b) (va_up (bro b) k (if r = -1 then mixf 10 (nrW (bfd b) 1) (mixf 10 (fun v => -((mixf 10 (nrW (bfd b) 1) ((bro b) k)) v)) (mixf 10 (nrW (bfd b) 1) ((bro b) k))) else (mixf 10 (fun v => -((mixf 10 (nrW (bfd b) 1) ((bro b) k)) v)) (mixf 10 (nrW (bfd b) 1) ((bro b) k))))) (va_up (bdg b) k (if r = -1 then (nrD (bfd b) 1 x) else (maxI (szs (mixf 10 (nrW (bfd b) 1) ((bro b) k)) + 1 - (nrD (bfd b) 1 x)) 0))) (if r = -1 then va_up (bgv b) k 0 else (bgv b)))) H := hP
    have hD : va_D A (ow G ou (vp_updL fl 0 ((if r = -1 then (bst b) + 1 - 1 else -1).toInt64)) ++ bw G bx bd bo bs bk ca wa (mkB (if r = -1 then (bst b) + 1 else (bst b)) (bsk b) (btk b) (bbe b) (bso b) (ble b) (ban b) (if r = -1 then mixf 10 (fun _ => 0) (bfd b) else (bfd b)) (bfo b) (va_up (bro b) k (if r = -1 then mixf 10 (nrW (bfd b) 1) (mixf 10 (fun v => -((mixf 10 (nrW (bfd b) 1) ((bro b) k)) v)) (mixf 10 (nrW (bfd b) 1) ((bro b) k))) else (mixf 10 (fun v => -((mixf 10 (nrW (bfd b) 1) ((bro b) k)) v)) (mixf 10 (nrW (bfd b) 1) ((bro b) k))))) (va_up (bdg b) k (if r = -1 then (nrD (bfd b) 1 x) else (maxI (szs (mixf 10 (nrW (bfd b) 1) ((bro b) k)) + 1 - (nrD (bfd b) 1 x)) 0))) (if r = -1 then va_up (bgv b) k 0 else (bgv b)))) := hD
    refine lv_goto (tgt := 18) hx hb dL_contradict_9 (by decide) ?_
    refine lv_iconst (v := 0) hx hb dL_contradict_18 (by decide) ?_
    refine W.widen (k := 1) (n := 6) (by decide) (by decide) ?_
    exact W.iret (v := 0) hx hb hr (fun t ht hW => ⟨rfl, by rw [ht]; exact hP, hD, hS.F ht⟩) hS.2.2 dL_contradict_19
  · subst b'; subst fl'
    refine lv_aload_n hx hb dL_contradict_0 rfl (lv_at hl 2 rfl) ?_
    refine lv_iconst (v := 0) hx hb dL_contradict_1 (by decide) ?_
    refine lv_aload_n hx hb dL_contradict_2 rfl (lv_at hl 0 rfl) ?_
    refine lv_iload_n hx hb dL_contradict_3 rfl (lv_at hl 1 rfl) ?_
    refine lh_catch (vx_runV (As := [.int x]) (rest := [.int 0, .ref ou]) ⟨hx, hb, hml, hown, hts⟩ (c_X1_contradict_1 l hlt G bx bd bo bs bk ca wa (bst b) (bsk b) (btk b) (bbe b) (bso b) (ble b) (ban b) (bfd b) (bfo b) (bro b) (bdg b) (bgv b) x g_h) (cwV 1 hts gL_contradict_X1_contradict rfl rfl rfl (by decide +kernel) ⟨Nat.le_of_ble_eq_true rfl, Nat.le_of_ble_eq_true rfl⟩) ⟨tn_blind, va_recv hK.1 hP (ci := 1) (q0 := 1) rfl rfl, tn_pre _ (sr_P hP) hK hxw (hzz.narrow (fun _ h => h.elim))⟩ rfl rfl hl.1 rfl (lv_room (Nat.le_of_ble_eq_true rfl)) dL_contradict_4 ⟨Nat.le_of_ble_eq_true rfl, Nat.le_of_ble_eq_true rfl⟩) hS hP hown [] ⟨0, 9, 12, 13⟩ [⟨0, 9, 15, 19⟩] (htb.trans rfl) (fun _ h => nomatch h) (by decide) (by decide) hw0 (xcast hxw.1.1) (fun q9 H locs hP hS => ?_)
    refine lv_astore_n (lv' := [(3, .ref q9), (0, .ref bx), (1, .int x), (2, .ref ou)]) hx hb dL_contradict_12 rfl hl (by decide) rfl (fun ls hl => ?_)
    refine lv_iconst (v := 1) hx hb dL_contradict_13 (by decide) ?_
    exact W.iret (v := 1) hx hb hr (fun t ht hW => ⟨rfl, by rw [ht]; exact hP, hD, hS.F ht⟩) hS.2.2 dL_contradict_14
  · subst b'; subst fl'
    refine lv_aload_n hx hb dL_contradict_0 rfl (lv_at hl 2 rfl) ?_
    refine lv_iconst (v := 0) hx hb dL_contradict_1 (by decide) ?_
    refine lv_aload_n hx hb dL_contradict_2 rfl (lv_at hl 0 rfl) ?_
    refine lv_iload_n hx hb dL_contradict_3 rfl (lv_at hl 1 rfl) ?_
    refine lh_catch (vx_runV (As := [.int x]) (rest := [.int 0, .ref ou]) ⟨hx, hb, hml, hown, hts⟩ (c_X1_contradict_2 l hlt G bx bd bo bs bk ca wa (bst b) (bsk b) (btk b) (bbe b) (bso b) (ble b) (ban b) (bfd b) (bfo b) (bro b) (bdg b) (bgv b) x g_h1 g_h) (cwV 1 hts gL_contradict_X1_contradict rfl rfl rfl (by decide +kernel) ⟨Nat.le_of_ble_eq_true rfl, Nat.le_of_ble_eq_true rfl⟩) ⟨tn_blind, va_recv hK.1 hP (ci := 1) (q0 := 1) rfl rfl, tn_pre _ (sr_P hP) hK hxw (hzz.narrow (fun _ h => h.elim))⟩ rfl rfl hl.1 rfl (lv_room (Nat.le_of_ble_eq_true rfl)) dL_contradict_4 ⟨Nat.le_of_ble_eq_true rfl, Nat.le_of_ble_eq_true rfl⟩) hS hP hown [⟨0, 9, 12, 13⟩] ⟨0, 9, 15, 19⟩ [] (htb.trans rfl) (fun z hz => by
        simp only [List.mem_cons, List.not_mem_nil, or_false] at hz
        rcases hz with rfl
        · exact Or.inr ⟨by decide, _, hw0, hxw.2.2.1.1⟩) (by decide) (by decide) hw1 (xcast hxw.1.2.1) (fun q9 H locs hP hS => ?_)
    refine lv_astore_n (lv' := [(3, .ref q9), (0, .ref bx), (1, .int x), (2, .ref ou)]) hx hb dL_contradict_15 rfl hl (by decide) rfl (fun ls hl => ?_)
    refine lv_iconst (v := 2) hx hb dL_contradict_16 (by decide) ?_
    exact W.iret (v := 2) hx hb hr (fun t ht hW => ⟨rfl, by rw [ht]; exact hP, hD, hS.F ht⟩) hS.2.2 dL_contradict_17

def P_found (x : Int32) (k n : Nat) (b : BT) (fl : Nat → Int64) (cd : Int32) (b' : BT) (fl' : Nat → Int64) : Prop :=
  (cd = 0 ∧ k < 30 ∧ outI x 0 1023 = 0 ∧ b' = mkB (if allB (msB (bro b) (bdg b) (bgv b) x 0) k = true then (if hoB (bfo b) = true then (bst b) + 1 else (bst b)) else (bst b)) (bsk b) (if allB (msB (bro b) (bdg b) (bgv b) x 0) k = true then (if hoB (bfo b) = true then 1 else 1) else (btk b)) (if allB (msB (bro b) (bdg b) (bgv b) x 0) k = true then (if hoB (bfo b) = true then ovI (bfo b) x else ovI (bfo b) x) else (bbe b)) (bso b) (ble b) (ban b) (bfd b) (bfo b) (if allB (msB (bro b) (bdg b) (bgv b) x 0) k = true then (if hoB (bfo b) = true then va_up (bro b) k (mixf 10 (nrW (bfo b) (-1)) ((bro b) k)) else (bro b)) else (bro b)) (if allB (msB (bro b) (bdg b) (bgv b) x 0) k = true then (if hoB (bfo b) = true then va_up (bdg b) k (nrD (bfo b) (-1) (-(ovI (bfo b) x - 1))) else (bdg b)) else (bdg b)) (if allB (msB (bro b) (bdg b) (bgv b) x 0) k = true then (if hoB (bfo b) = true then va_up (bgv b) k 0 else (bgv b)) else (bgv b)) ∧ fl' = vp_updL fl 0 (if allB (msB (bro b) (bdg b) (bgv b) x 0) k = true then 1 else 0)) ∨
  (cd = 1 ∧ ¬ outI x 0 1023 = 0 ∧ b' = b ∧ fl' = fl) ∨
  (cd = 2 ∧ outI x 0 1023 = 0 ∧ (bst b) = 30 ∧ b' = b ∧ fl' = fl)
abbrev rmL_found : Room := { frames := 8, cells := 1, slots := 6, locals := 132 }
set_option maxHeartbeats 1000000 in
set_option maxRecDepth 100000 in
theorem c_L_found (l : Launch) (hlt : l.stackTraces = false) (G : Gt) (sz ou : Nat) (fl fl' : Nat → Int64) (bx bd bo bs bk : Nat) (ca wa : Nat → Nat) (b b' : BT) (x : Int32) (cd : Int32) (k n : Nat) (est : bst b = nI k) (hk30 : k ≤ 30) (esk : bsk b = nI n) (hn6 : n ≤ 6) (hs : P_found x k n b fl cd b' fl') : Met l yL_found wsL_found rmL_found (tw_P G sz [.ref bx, .int x, .ref ou] (ow G ou fl ++ bw G bx bd bo bs bk ca wa b)) (mu_Q G (some (.int cd)) (ow G ou fl' ++ bw G bx bd bo bs bk ca wa b') (va_A (ow G ou fl ++ bw G bx bd bo bs bk ca wa b) sz)) 1 6 (va_A (ow G ou fl ++ bw G bx bd bo bs bk ca wa b) sz) := by
  unfold P_found at hs
  refine va_MetW (cc := cL_found) (maxL := 4) (ret := some .int) (hh := [(0, 16, 19, 13), (0, 16, 22, 19)]) (by decide) rfl ?_
  intro p e s m args below meth c s₁ B hml hv
  obtain ⟨⟨rfl, hsz, hP, hD0, hK⟩, hxw, hzz⟩ := hv
  have hx := B.exec
  have hb := B.bytes
  have hr := B.returns
  have hts := atoms_spec (ws := wsL_found) B.pre
  have htb := vx_table (x := yL_found) B (hts _ List.mem_cons_self)
  have hown : s.vm.findClass RL = some m.cls := findClass_of_methodNamed B.named
  have hlocks := B.notSynchronized
  subst hsz
  have hD := hD0.self (sz := s.heap.size)
  generalize hAe : va_A (ow G ou fl ++ bw G bx bd bo bs bk ca wa b) s.heap.size = A at hD hzz ⊢
  have hA : ∀ q : Nat, s.heap.size ≤ q → A q := fun q h => by rw [← hAe]; exact Or.inr h
  have hS : va_S A s.heap s.heap [] := va_S.rf
  have hw0 := hts (.classLink RL 13 "java/lang/IllegalArgumentException") (by decide +kernel)
  have hw1 := hts (.classLink RL 19 "java/lang/IllegalStateException") (by decide +kernel)
  have hl := lv_entry ([.ref bx, .int x, .ref ou]) (n := 4) (Nat.le_of_ble_eq_true rfl)
  rw [lg_entry_eq]
  generalize (lg_sl ([.ref bx, .int x, .ref ou]) ++ List.replicate (4 - (lg_sl ([.ref bx, .int x, .ref ou])).length) Slot.unset).toArray = ls at hl ⊢
  have hl : lv_has ls 4 [(0, .ref bx), (1, .int x), (2, .ref ou)] := hl
  rcases hs with ⟨rfl, g_hk, g_h1, eb9, ef9⟩ | ⟨rfl, g_h, eb9, ef9⟩ | ⟨rfl, g_h1, g_h, eb9, ef9⟩
  · subst b'; subst fl'
    refine lv_aload_n hx hb dL_found_0 rfl (lv_at hl 2 rfl) ?_
    refine lv_iconst (v := 0) hx hb dL_found_1 (by decide) ?_
    refine lv_aload_n hx hb dL_found_2 rfl (lv_at hl 0 rfl) ?_
    refine lv_iload_n hx hb dL_found_3 rfl (lv_at hl 1 rfl) ?_
    have hF := sr_F hD hS hA
    refine mu_call (va_runV (As := [.int x]) (rest := [.int 0, .ref ou]) ⟨hx, hb, hml, hown, hts⟩ (c_X1_found l G _ bx bd bo bs bk ca wa (bst b) (bsk b) (btk b) (bbe b) (bso b) (ble b) (ban b) (bfd b) (bfo b) (bro b) (bdg b) (bgv b) x k est g_hk g_h1) (cwV 1 hts gL_found_X1_found rfl rfl rfl (by decide +kernel) ⟨Nat.le_of_ble_eq_true rfl, Nat.le_of_ble_eq_true rfl⟩) ⟨mu_blind, va_recv hK.1 hP (ci := 1) (q0 := 1) rfl rfl, mu_pre _ (sr_P hP) (sr_D hD) hK⟩ rfl rfl hl.1 rfl (lv_room (Nat.le_of_ble_eq_true rfl)) dL_found_4 ⟨Nat.le_of_ble_eq_true rfl, Nat.le_of_ble_eq_true rfl⟩) hS hF hF (fun H1 locs hP1 hD1 hk1 hS => ?_)
    obtain ⟨hP, hD⟩ := sr_J hP hD hk1 hF (show va_P G.1 vwCl (bw G bx bd bo bs bk ca wa (mkB (if allB (msB (bro b) (bdg b) (bgv b) x 0) k = true then (if hoB (bfo b) = true then (bst b) + 1 else (bst b)) else (bst b)) (bsk b) (if allB (msB (bro b) (bdg b) (bgv b) x 0) k = true then (if hoB (bfo b) = true then 1 else 1) else (btk b)) (if allB (msB (bro b) (bdg b) (bgv b) x 0) k = true then (if hoB (bfo b) = true then ovI (bfo b) x else ovI (bfo b) x) else (bbe b)) (bso b) (ble b) (ban b) (bfd b) (bfo b) (if allB (msB (bro b) (bdg b) (bgv b) x 0) k = true then (if hoB (bfo b) = true then va_up (bro b) k (mixf 10 (nrW (bfo b) (-1)) ((bro b) k)) else (bro b)) else (bro b)) (if allB (msB (bro b) (bdg b) (bgv b) x 0) k = true then (if hoB (bfo b) = true then va_up (bdg b) k (nrD (bfo b) (-1) (-(ovI (bfo b) x - 1))) else (bdg b)) else (bdg b)) (if allB (msB (bro b) (bdg b) (bgv b) x 0) k = true then (if hoB (bfo b) = true then va_up (bgv b) k 0 else (bgv b)) else (bgv b)))) H1 from hP1) hD1
    generalize H1 = H at hP hS ⊢
    refine lv_if_eq (tgt := 14) hx hb dL_found_7 (by decide) (fun c_7 => ?_) (fun c_7 => ?_)
    · have hm : ¬ allB (msB (bro b) (bdg b) (bgv b) x 0) k = true := fun q => by rw [if_pos q] at c_7; exact absurd c_7 (by decide)
      refine lv_lconst (v := 0) hx hb dL_found_14 (by decide) ?_
      refine va_last hx hb hK.1 hP hD hS 0 3 rfl rfl (vp_in_nI (n := 0) (N := 1) (by decide) (by decide)) dL_found_15 (fun H locs hP hD hS => ?_)
      have hP : va_P G.1 vwCl (ow G ou (vp_updL fl 0 0) ++ bw G bx bd bo bs bk ca wa (mkB (if allB (msB (bro b) (bdg b) (bgv b) x 0) k = true then (if hoB (bfo b) = true then (bst b) + 1 else (bst b)) else (bst b)) (bsk b) (if allB (msB (bro b) (bdg b) (bgv b) x 0) k = true then (if hoB (bfo b) = true then 1 else 1) else (btk b)) (if allB (msB (bro b) (bdg b) (bgv b) x 0) k = true then (if hoB (bfo b) = true then ovI (bfo b) x else ovI (bfo b) x) else (bbe b)) (bso b) (ble b) (ban b) (bfd b) (bfo b) (if allB (msB (bro b) (bdg b) (bgv b) x 0) k = true then (if hoB (bfo b) = true then va_up (bro b) k (mixf 10 (nrW (bfo b) (-1)) ((bro b) k)) else (bro b)) else (bro b)) (if allB (msB (bro b) (bdg b) (bgv b) x 0) k = true then (if hoB (bfo b) = true then va_up (bdg b) k (nrD (bfo b) (-1) (-(ovI (bfo b) x - 1))) else (bdg b)) else (bdg b)) (if allB (msB (bro b) (bdg b) (bgv b) x 0) k = true then (if hoB (bfo b) = true then va_up (bgv b) k 0 else (bgv b)) else (bgv b)))) H := hP
      have hD : va_D A (ow G ou (vp_updL fl 0 0) ++ bw G bx bd bo bs bk ca wa (mkB (if allB (msB (bro b) (bdg b) (bgv b) x 0) k = true then (if hoB (bfo b) = true then (bst b) + 1 else (bst b)) else (bst b)) (bsk b) (if allB (msB (bro b) (bdg b) (bgv b) x 0) k = true then (if hoB (bfo b) = true then 1 else 1) else (btk b)) (if allB (msB (bro b) (bdg b) (bgv b) x 0) k = true then (if hoB (bfo b) = true then ovI (bfo b) x else ovI (bfo b) x) else (bbe b)) (bso b) (ble b) (ban b) (bfd b) (bfo b) (if allB (msB (bro b) (bdg b) (bgv b) x 0) k = true then (if hoB (bfo b) = true then va_up (bro b) k (mixf 10 (nrW (bfo b) (-1)) ((bro b) k)) else (bro b)) else (bro b)) (if allB (msB (bro b) (bdg b) (bgv b) x 0) k = true then (if hoB (bfo b) = true then va_up (bdg b) k (nrD (bfo b) (-1) (-(ovI (bfo b) x - 1))) else (bdg b)) else (bdg b)) (if allB (msB (bro b) (bdg b) (bgv b) x 0) k = true then (if hoB (bfo b) = true then va_up (bgv b) k 0 else (bgv b)) else (bgv b)))) := hD
      refine lv_goto (tgt := 25) hx hb dL_found_16 (by decide) ?_
      refine lv_iconst (v := 0) hx hb dL_found_25 (by decide) ?_
      refine W.widen (k := 1) (n := 6) (by decide) (by decide) ?_
      rw [if_neg hm]
      exact W.iret (v := 0) hx hb hr (fun t ht hW => ⟨rfl, by rw [ht]; exact hP, hD, hS.F ht⟩) hS.2.2 dL_found_26
    · have hm : allB (msB (bro b) (bdg b) (bgv b) x 0) k = true := Decidable.byContradiction (fun q => by rw [if_neg q] at c_7; exact c_7 rfl)
      refine lv_lconst (v := 1) hx hb dL_found_10 (by decide) ?_
      refine lv_goto (tgt := 15) hx hb dL_found_11 (by decide) ?_
      refine va_last hx hb hK.1 hP hD hS 0 3 rfl rfl (vp_in_nI (n := 0) (N := 1) (by decide) (by decide)) dL_found_15 (fun H locs hP hD hS => ?_)
      have hP : va_P G.1 vwCl (ow G ou (vp_updL fl 0 1) ++ bw G bx bd bo bs bk ca wa (mkB (if allB (msB (bro b) (bdg b) (bgv b) x 0) k = true then (if hoB (bfo b) = true then (bst b) + 1 else (bst b)) else (bst b)) (bsk b) (if allB (msB (bro b) (bdg b) (bgv b) x 0) k = true then (if hoB (bfo b) = true then 1 else 1) else (btk b)) (if allB (msB (bro b) (bdg b) (bgv b) x 0) k = true then (if hoB (bfo b) = true then ovI (bfo b) x else ovI (bfo b) x) else (bbe b)) (bso b) (ble b) (ban b) (bfd b) (bfo b) (if allB (msB (bro b) (bdg b) (bgv b) x 0) k = true then (if hoB (bfo b) = true then va_up (bro b) k (mixf 10 (nrW (bfo b) (-1)) ((bro b) k)) else (bro b)) else (bro b)) (if allB (msB (bro b) (bdg b) (bgv b) x 0) k = true then (if hoB (bfo b) = true then va_up (bdg b) k (nrD (bfo b) (-1) (-(ovI (bfo b) x - 1))) else (bdg b)) else (bdg b)) (if allB (msB (bro b) (bdg b) (bgv b) x 0) k = true then (if hoB (bfo b) = true then va_up (bgv b) k 0 else (bgv b)) else (bgv b)))) H := hP
      have hD : va_D A (ow G ou (vp_updL fl 0 1) ++ bw G bx bd bo bs bk ca wa (mkB (if allB (msB (bro b) (bdg b) (bgv b) x 0) k = true then (if hoB (bfo b) = true then (bst b) + 1 else (bst b)) else (bst b)) (bsk b) (if allB (msB (bro b) (bdg b) (bgv b) x 0) k = true then (if hoB (bfo b) = true then 1 else 1) else (btk b)) (if allB (msB (bro b) (bdg b) (bgv b) x 0) k = true then (if hoB (bfo b) = true then ovI (bfo b) x else ovI (bfo b) x) else (bbe b)) (bso b) (ble b) (ban b) (bfd b) (bfo b) (if allB (msB (bro b) (bdg b) (bgv b) x 0) k = true then (if hoB (bfo b) = true then va_up (bro b) k (mixf 10 (nrW (bfo b) (-1)) ((bro b) k)) else (bro b)) else (bro b)) (if allB (msB (bro b) (bdg b) (bgv b) x 0) k = true then (if hoB (bfo b) = true then va_up (bdg b) k (nrD (bfo b) (-1) (-(ovI (bfo b) x - 1))) else (bdg b)) else (bdg b)) (if allB (msB (bro b) (bdg b) (bgv b) x 0) k = true then (if hoB (bfo b) = true then va_up (bgv b) k 0 else (bgv b)) else (bgv b)))) := hD
      refine lv_goto (tgt := 25) hx hb dL_found_16 (by decide) ?_
      refine lv_iconst (v := 0) hx hb dL_found_25 (by decide) ?_
      refine W.widen (k := 1) (n := 6) (by decide) (by decide) ?_
      rw [if_pos hm]
      exact W.iret (v := 0) hx hb hr (fun t ht hW => ⟨rfl, by rw [ht]; exact hP, hD, hS.F ht⟩) hS.2.2 dL_found_26
  · subst b'; subst fl'
    refine lv_aload_n hx hb dL_found_0 rfl (lv_at hl 2 rfl) ?_
    refine lv_iconst (v := 0) hx hb dL_found_1 (by decide) ?_
    refine lv_aload_n hx hb dL_found_2 rfl (lv_at hl 0 rfl) ?_
    refine lv_iload_n hx hb dL_found_3 rfl (lv_at hl 1 rfl) ?_
    refine lh_catch (vx_runV (As := [.int x]) (rest := [.int 0, .ref ou]) ⟨hx, hb, hml, hown, hts⟩ (c_X1_found_1 l hlt G bx bd bo bs bk ca wa (bst b) (bsk b) (btk b) (bbe b) (bso b) (ble b) (ban b) (bfd b) (bfo b) (bro b) (bdg b) (bgv b) x g_h) (cwV 1 hts gL_found_X1_found rfl rfl rfl (by decide +kernel) ⟨Nat.le_of_ble_eq_true rfl, Nat.le_of_ble_eq_true rfl⟩) ⟨tn_blind, va_recv hK.1 hP (ci := 1) (q0 := 1) rfl rfl, tn_pre _ (sr_P hP) hK hxw (hzz.narrow (fun _ h => h.elim))⟩ rfl rfl hl.1 rfl (lv_room (Nat.le_of_ble_eq_true rfl)) dL_found_4 ⟨Nat.le_of_ble_eq_true rfl, Nat.le_of_ble_eq_true rfl⟩) hS hP hown [] ⟨0, 16, 19, 13⟩ [⟨0, 16, 22, 19⟩] (htb.trans rfl) (fun _ h => nomatch h) (by decide) (by decide) hw0 (xcast hxw.1.1) (fun q9 H locs hP hS => ?_)
    refine lv_astore_n (lv' := [(3, .ref q9), (0, .ref bx), (1, .int x), (2, .ref ou)]) hx hb dL_found_19 rfl hl (by decide) rfl (fun ls hl => ?_)
    refine lv_iconst (v := 1) hx hb dL_found_20 (by decide) ?_
    exact W.iret (v := 1) hx hb hr (fun t ht hW => ⟨rfl, by rw [ht]; exact hP, hD, hS.F ht⟩) hS.2.2 dL_found_21
  · subst b'; subst fl'
    refine lv_aload_n hx hb dL_found_0 rfl (lv_at hl 2 rfl) ?_
    refine lv_iconst (v := 0) hx hb dL_found_1 (by decide) ?_
    refine lv_aload_n hx hb dL_found_2 rfl (lv_at hl 0 rfl) ?_
    refine lv_iload_n hx hb dL_found_3 rfl (lv_at hl 1 rfl) ?_
    refine lh_catch (vx_runV (As := [.int x]) (rest := [.int 0, .ref ou]) ⟨hx, hb, hml, hown, hts⟩ (c_X1_found_2 l hlt G bx bd bo bs bk ca wa (bst b) (bsk b) (btk b) (bbe b) (bso b) (ble b) (ban b) (bfd b) (bfo b) (bro b) (bdg b) (bgv b) x g_h1 g_h) (cwV 1 hts gL_found_X1_found rfl rfl rfl (by decide +kernel) ⟨Nat.le_of_ble_eq_true rfl, Nat.le_of_ble_eq_true rfl⟩) ⟨tn_blind, va_recv hK.1 hP (ci := 1) (q0 := 1) rfl rfl, tn_pre _ (sr_P hP) hK hxw (hzz.narrow (fun _ h => h.elim))⟩ rfl rfl hl.1 rfl (lv_room (Nat.le_of_ble_eq_true rfl)) dL_found_4 ⟨Nat.le_of_ble_eq_true rfl, Nat.le_of_ble_eq_true rfl⟩) hS hP hown [⟨0, 16, 19, 13⟩] ⟨0, 16, 22, 19⟩ [] (htb.trans rfl) (fun z hz => by
        simp only [List.mem_cons, List.not_mem_nil, or_false] at hz
        rcases hz with rfl
        · exact Or.inr ⟨by decide, _, hw0, hxw.2.2.1.1⟩) (by decide) (by decide) hw1 (xcast hxw.1.2.1) (fun q9 H locs hP hS => ?_)
    refine lv_astore_n (lv' := [(3, .ref q9), (0, .ref bx), (1, .int x), (2, .ref ou)]) hx hb dL_found_22 rfl hl (by decide) rfl (fun ls hl => ?_)
    refine lv_iconst (v := 2) hx hb dL_found_23 (by decide) ?_
    exact W.iret (v := 2) hx hb hr (fun t ht hW => ⟨rfl, by rw [ht]; exact hP, hD, hS.F ht⟩) hS.2.2 dL_found_24

def P_best (k n : Nat) (b : BT) (fl : Nat → Int64) (cd : Int32) (b' : BT) (fl' : Nat → Int64) : Prop :=
  (cd = 0 ∧ ¬ (btk b) = 0 ∧ b' = b ∧ fl' = vp_updL fl 0 ((bbe b)).toInt64) ∨
  (cd = 1 ∧ (btk b) = 0 ∧ b' = b ∧ fl' = fl)
abbrev rmL_best : Room := { frames := 7, cells := 1, slots := 6, locals := 101 }
set_option maxHeartbeats 1000000 in
set_option maxRecDepth 100000 in
theorem c_L_best (l : Launch) (hlt : l.stackTraces = false) (G : Gt) (sz ou : Nat) (fl fl' : Nat → Int64) (bx bd bo bs bk : Nat) (ca wa : Nat → Nat) (b b' : BT) (cd : Int32) (k n : Nat) (est : bst b = nI k) (hk30 : k ≤ 30) (esk : bsk b = nI n) (hn6 : n ≤ 6) (hs : P_best  k n b fl cd b' fl') : Met l yL_best wsL_best rmL_best (tw_P G sz [.ref bx, .ref ou] (ow G ou fl ++ bw G bx bd bo bs bk ca wa b)) (mu_Q G (some (.int cd)) (ow G ou fl' ++ bw G bx bd bo bs bk ca wa b') (va_A (ow G ou fl ++ bw G bx bd bo bs bk ca wa b) sz)) 1 6 (va_A (ow G ou fl ++ bw G bx bd bo bs bk ca wa b) sz) := by
  unfold P_best at hs
  refine va_MetW (cc := cL_best) (maxL := 3) (ret := some .int) (hh := [(0, 8, 11, 27)]) (by decide) rfl ?_
  intro p e s m args below meth c s₁ B hml hv
  obtain ⟨⟨rfl, hsz, hP, hD0, hK⟩, hxw, hzz⟩ := hv
  have hx := B.exec
  have hb := B.bytes
  have hr := B.returns
  have hts := atoms_spec (ws := wsL_best) B.pre
  have htb := vx_table (x := yL_best) B (hts _ List.mem_cons_self)
  have hown : s.vm.findClass RL = some m.cls := findClass_of_methodNamed B.named
  have hlocks := B.notSynchronized
  subst hsz
  have hD := hD0.self (sz := s.heap.size)
  generalize hAe : va_A (ow G ou fl ++ bw G bx bd bo bs bk ca wa b) s.heap.size = A at hD hzz ⊢
  have hA : ∀ q : Nat, s.heap.size ≤ q → A q := fun q h => by rw [← hAe]; exact Or.inr h
  have hS : va_S A s.heap s.heap [] := va_S.rf
  have hw0 := hts (.classLink RL 27 "java/util/NoSuchElementException") (by decide +kernel)
  have hl := lv_entry ([.ref bx, .ref ou]) (n := 3) (Nat.le_of_ble_eq_true rfl)
  rw [lg_entry_eq]
  generalize (lg_sl ([.ref bx, .ref ou]) ++ List.replicate (3 - (lg_sl ([.ref bx, .ref ou])).length) Slot.unset).toArray = ls at hl ⊢
  have hl : lv_has ls 3 [(0, .ref bx), (1, .ref ou)] := hl
  rcases hs with ⟨rfl, g_htk, eb9, ef9⟩ | ⟨rfl, g_h, eb9, ef9⟩
  · subst b'; subst fl'
    refine lv_aload_n hx hb dL_best_0 rfl (lv_at hl 1 rfl) ?_
    refine lv_iconst (v := 0) hx hb dL_best_1 (by decide) ?_
    refine lv_aload_n hx hb dL_best_2 rfl (lv_at hl 0 rfl) ?_
    refine ro_call (va_runV (As := []) (rest := [.int 0, .ref ou]) ⟨hx, hb, hml, hown, hts⟩ (c_X1_best l G bx bd bo bs bk ca wa (bst b) (bsk b) (btk b) (bbe b) (bso b) (ble b) (ban b) (bfd b) (bfo b) (bro b) (bdg b) (bgv b) g_htk) (cwV 0 hts gL_best_X1_best rfl rfl rfl (by decide +kernel) ⟨Nat.le_of_ble_eq_true rfl, Nat.le_of_ble_eq_true rfl⟩) ⟨ro_blind, va_recv hK.1 hP (ci := 1) (q0 := 1) rfl rfl, ro_pre _ (sr_P hP) hK⟩ rfl rfl hl.1 rfl (lv_room (Nat.le_of_ble_eq_true rfl)) dL_best_3 ⟨Nat.le_of_ble_eq_true rfl, Nat.le_of_ble_eq_true rfl⟩) ?_
    refine lv_i2l (v := (bbe b).toInt64) hx hb dL_best_6 rfl ?_
    refine va_last hx hb hK.1 hP hD hS 0 3 rfl rfl (vp_in_nI (n := 0) (N := 1) (by decide) (by decide)) dL_best_7 (fun H locs hP hD hS => ?_)
    have hP : va_P G.1 vwCl (ow G ou (vp_updL fl 0 ((bbe b).toInt64)) ++ bw G bx bd bo bs bk ca wa b) H := hP
    have hD : va_D A (ow G ou (vp_updL fl 0 ((bbe b).toInt64)) ++ bw G bx bd bo bs bk ca wa b) := hD
    refine lv_goto (tgt := 14) hx hb dL_best_8 (by decide) ?_
    refine lv_iconst (v := 0) hx hb dL_best_14 (by decide) ?_
    refine W.widen (k := 1) (n := 6) (by decide) (by decide) ?_
    exact W.iret (v := 0) hx hb hr (fun t ht hW => ⟨rfl, by rw [ht]; exact hP, hD, hS.F ht⟩) hS.2.2 dL_best_15
  · subst b'; subst fl'
    refine lv_aload_n hx hb dL_best_0 rfl (lv_at hl 1 rfl) ?_
    refine lv_iconst (v := 0) hx hb dL_best_1 (by decide) ?_
    refine lv_aload_n hx hb dL_best_2 rfl (lv_at hl 0 rfl) ?_
    refine lh_catch (vx_runV (As := []) (rest := [.int 0, .ref ou]) ⟨hx, hb, hml, hown, hts⟩ (c_X1_best_1 l hlt G bx bd bo bs bk ca wa (bst b) (bsk b) (btk b) (bbe b) (bso b) (ble b) (ban b) (bfd b) (bfo b) (bro b) (bdg b) (bgv b) g_h) (cwV 0 hts gL_best_X1_best rfl rfl rfl (by decide +kernel) ⟨Nat.le_of_ble_eq_true rfl, Nat.le_of_ble_eq_true rfl⟩) ⟨tn_blind, va_recv hK.1 hP (ci := 1) (q0 := 1) rfl rfl, tn_pre _ (sr_P hP) hK hxw (hzz.narrow (fun _ h => h.elim))⟩ rfl rfl hl.1 rfl (lv_room (Nat.le_of_ble_eq_true rfl)) dL_best_3 ⟨Nat.le_of_ble_eq_true rfl, Nat.le_of_ble_eq_true rfl⟩) hS hP hown [] ⟨0, 8, 11, 27⟩ [] (htb.trans rfl) (fun _ h => nomatch h) (by decide) (by decide) hw0 (xcast hxw.1.2.2.1) (fun q9 H locs hP hS => ?_)
    refine lv_astore_n (lv' := [(2, .ref q9), (0, .ref bx), (1, .ref ou)]) hx hb dL_best_11 rfl hl (by decide) rfl (fun ls hl => ?_)
    refine lv_iconst (v := 1) hx hb dL_best_12 (by decide) ?_
    exact W.iret (v := 1) hx hb hr (fun t ht hW => ⟨rfl, by rw [ht]; exact hP, hD, hS.F ht⟩) hS.2.2 dL_best_13

def P_least (k n : Nat) (b : BT) (fl : Nat → Int64) (cd : Int32) (b' : BT) (fl' : Nat → Int64) : Prop :=
  (cd = 0 ∧ ¬ (bso b) = 0 ∧ b' = b ∧ fl' = vp_updL fl 0 ((ble b)).toInt64) ∨
  (cd = 1 ∧ (bso b) = 0 ∧ b' = b ∧ fl' = fl)
abbrev rmL_least : Room := { frames := 8, cells := 1, slots := 6, locals := 121 }
set_option maxHeartbeats 1000000 in
set_option maxRecDepth 100000 in
theorem c_L_least (l : Launch) (hlt : l.stackTraces = false) (G : Gt) (sz ou : Nat) (fl fl' : Nat → Int64) (bx bd bo bs bk : Nat) (ca wa : Nat → Nat) (b b' : BT) (cd : Int32) (k n : Nat) (est : bst b = nI k) (hk30 : k ≤ 30) (esk : bsk b = nI n) (hn6 : n ≤ 6) (hs : P_least  k n b fl cd b' fl') : Met l yL_least wsL_least rmL_least (tw_P G sz [.ref bx, .ref ou] (ow G ou fl ++ bw G bx bd bo bs bk ca wa b)) (mu_Q G (some (.int cd)) (ow G ou fl' ++ bw G bx bd bo bs bk ca wa b') (va_A (ow G ou fl ++ bw G bx bd bo bs bk ca wa b) sz)) 1 6 (va_A (ow G ou fl ++ bw G bx bd bo bs bk ca wa b) sz) := by
  unfold P_least at hs
  refine va_MetW (cc := cL_least) (maxL := 3) (ret := some .int) (hh := [(0, 8, 11, 27)]) (by decide) rfl ?_
  intro p e s m args below meth c s₁ B hml hv
  obtain ⟨⟨rfl, hsz, hP, hD0, hK⟩, hxw, hzz⟩ := hv
  have hx := B.exec
  have hb := B.bytes
  have hr := B.returns
  have hts := atoms_spec (ws := wsL_least) B.pre
  have htb := vx_table (x := yL_least) B (hts _ List.mem_cons_self)
  have hown : s.vm.findClass RL = some m.cls := findClass_of_methodNamed B.named
  have hlocks := B.notSynchronized
  subst hsz
  have hD := hD0.self (sz := s.heap.size)
  generalize hAe : va_A (ow G ou fl ++ bw G bx bd bo bs bk ca wa b) s.heap.size = A at hD hzz ⊢
  have hA : ∀ q : Nat, s.heap.size ≤ q → A q := fun q h => by rw [← hAe]; exact Or.inr h
  have hS : va_S A s.heap s.heap [] := va_S.rf
  have hw0 := hts (.classLink RL 27 "java/util/NoSuchElementException") (by decide +kernel)
  have hl := lv_entry ([.ref bx, .ref ou]) (n := 3) (Nat.le_of_ble_eq_true rfl)
  rw [lg_entry_eq]
  generalize (lg_sl ([.ref bx, .ref ou]) ++ List.replicate (3 - (lg_sl ([.ref bx, .ref ou])).length) Slot.unset).toArray = ls at hl ⊢
  have hl : lv_has ls 3 [(0, .ref bx), (1, .ref ou)] := hl
  rcases hs with ⟨rfl, g_hso, eb9, ef9⟩ | ⟨rfl, g_h, eb9, ef9⟩
  · subst b'; subst fl'
    refine lv_aload_n hx hb dL_least_0 rfl (lv_at hl 1 rfl) ?_
    refine lv_iconst (v := 0) hx hb dL_least_1 (by decide) ?_
    refine lv_aload_n hx hb dL_least_2 rfl (lv_at hl 0 rfl) ?_
    refine ro_call (va_runV (As := []) (rest := [.int 0, .ref ou]) ⟨hx, hb, hml, hown, hts⟩ (c_X1_least l G bx bd bo bs bk ca wa (bst b) (bsk b) (btk b) (bbe b) (bso b) (ble b) (ban b) (bfd b) (bfo b) (bro b) (bdg b) (bgv b) g_hso) (cwV 0 hts gL_least_X1_least rfl rfl rfl (by decide +kernel) ⟨Nat.le_of_ble_eq_true rfl, Nat.le_of_ble_eq_true rfl⟩) ⟨ro_blind, va_recv hK.1 hP (ci := 1) (q0 := 1) rfl rfl, ro_pre _ (sr_P hP) hK⟩ rfl rfl hl.1 rfl (lv_room (Nat.le_of_ble_eq_true rfl)) dL_least_3 ⟨Nat.le_of_ble_eq_true rfl, Nat.le_of_ble_eq_true rfl⟩) ?_
    refine lv_i2l (v := (ble b).toInt64) hx hb dL_least_6 rfl ?_
    refine va_last hx hb hK.1 hP hD hS 0 3 rfl rfl (vp_in_nI (n := 0) (N := 1) (by decide) (by decide)) dL_least_7 (fun H locs hP hD hS => ?_)
    have hP : va_P G.1 vwCl (ow G ou (vp_updL fl 0 ((ble b).toInt64)) ++ bw G bx bd bo bs bk ca wa b) H := hP
    have hD : va_D A (ow G ou (vp_updL fl 0 ((ble b).toInt64)) ++ bw G bx bd bo bs bk ca wa b) := hD
    refine lv_goto (tgt := 14) hx hb dL_least_8 (by decide) ?_
    refine lv_iconst (v := 0) hx hb dL_least_14 (by decide) ?_
    refine W.widen (k := 1) (n := 6) (by decide) (by decide) ?_
    exact W.iret (v := 0) hx hb hr (fun t ht hW => ⟨rfl, by rw [ht]; exact hP, hD, hS.F ht⟩) hS.2.2 dL_least_15
  · subst b'; subst fl'
    refine lv_aload_n hx hb dL_least_0 rfl (lv_at hl 1 rfl) ?_
    refine lv_iconst (v := 0) hx hb dL_least_1 (by decide) ?_
    refine lv_aload_n hx hb dL_least_2 rfl (lv_at hl 0 rfl) ?_
    refine lh_catch (vx_runV (As := []) (rest := [.int 0, .ref ou]) ⟨hx, hb, hml, hown, hts⟩ (c_X1_least_1 l hlt G bx bd bo bs bk ca wa (bst b) (bsk b) (btk b) (bbe b) (bso b) (ble b) (ban b) (bfd b) (bfo b) (bro b) (bdg b) (bgv b) g_h) (cwV 0 hts gL_least_X1_least rfl rfl rfl (by decide +kernel) ⟨Nat.le_of_ble_eq_true rfl, Nat.le_of_ble_eq_true rfl⟩) ⟨tn_blind, va_recv hK.1 hP (ci := 1) (q0 := 1) rfl rfl, tn_pre _ (sr_P hP) hK hxw (hzz.narrow (fun _ h => h.elim))⟩ rfl rfl hl.1 rfl (lv_room (Nat.le_of_ble_eq_true rfl)) dL_least_3 ⟨Nat.le_of_ble_eq_true rfl, Nat.le_of_ble_eq_true rfl⟩) hS hP hown [] ⟨0, 8, 11, 27⟩ [] (htb.trans rfl) (fun _ h => nomatch h) (by decide) (by decide) hw0 (xcast hxw.1.2.2.1) (fun q9 H locs hP hS => ?_)
    refine lv_astore_n (lv' := [(2, .ref q9), (0, .ref bx), (1, .ref ou)]) hx hb dL_least_11 rfl hl (by decide) rfl (fun ls hl => ?_)
    refine lv_iconst (v := 1) hx hb dL_least_12 (by decide) ?_
    exact W.iret (v := 1) hx hb hr (fun t ht hW => ⟨rfl, by rw [ht]; exact hP, hD, hS.F ht⟩) hS.2.2 dL_least_13

def P_value (x : Int32) (k n : Nat) (b : BT) (fl : Nat → Int64) (cd : Int32) (b' : BT) (fl' : Nat → Int64) : Prop :=
  (cd = 0 ∧ ¬ (bso b) = 0 ∧ outI x 0 9 = 0 ∧ b' = b ∧ fl' = vp_updL fl 0 (bitI (ban b) x).toInt64) ∨
  (cd = 1 ∧ (bso b) = 0 ∧ b' = b ∧ fl' = fl) ∨
  (cd = 2 ∧ ¬ (bso b) = 0 ∧ ¬ outI x 0 9 = 0 ∧ b' = b ∧ fl' = fl)
abbrev rmL_value : Room := { frames := 8, cells := 1, slots := 6, locals := 122 }
set_option maxHeartbeats 1000000 in
set_option maxRecDepth 100000 in
theorem c_L_value (l : Launch) (hlt : l.stackTraces = false) (G : Gt) (sz ou : Nat) (fl fl' : Nat → Int64) (bx bd bo bs bk : Nat) (ca wa : Nat → Nat) (b b' : BT) (x : Int32) (cd : Int32) (k n : Nat) (est : bst b = nI k) (hk30 : k ≤ 30) (esk : bsk b = nI n) (hn6 : n ≤ 6) (hs : P_value x k n b fl cd b' fl') : Met l yL_value wsL_value rmL_value (tw_P G sz [.ref bx, .int x, .ref ou] (ow G ou fl ++ bw G bx bd bo bs bk ca wa b)) (mu_Q G (some (.int cd)) (ow G ou fl' ++ bw G bx bd bo bs bk ca wa b') (va_A (ow G ou fl ++ bw G bx bd bo bs bk ca wa b) sz)) 1 6 (va_A (ow G ou fl ++ bw G bx bd bo bs bk ca wa b) sz) := by
  unfold P_value at hs
  refine va_MetW (cc := cL_value) (maxL := 4) (ret := some .int) (hh := [(0, 9, 12, 27), (0, 9, 15, 13)]) (by decide) rfl ?_
  intro p e s m args below meth c s₁ B hml hv
  obtain ⟨⟨rfl, hsz, hP, hD0, hK⟩, hxw, hzz⟩ := hv
  have hx := B.exec
  have hb := B.bytes
  have hr := B.returns
  have hts := atoms_spec (ws := wsL_value) B.pre
  have htb := vx_table (x := yL_value) B (hts _ List.mem_cons_self)
  have hown : s.vm.findClass RL = some m.cls := findClass_of_methodNamed B.named
  have hlocks := B.notSynchronized
  subst hsz
  have hD := hD0.self (sz := s.heap.size)
  generalize hAe : va_A (ow G ou fl ++ bw G bx bd bo bs bk ca wa b) s.heap.size = A at hD hzz ⊢
  have hA : ∀ q : Nat, s.heap.size ≤ q → A q := fun q h => by rw [← hAe]; exact Or.inr h
  have hS : va_S A s.heap s.heap [] := va_S.rf
  have hw0 := hts (.classLink RL 27 "java/util/NoSuchElementException") (by decide +kernel)
  have hw1 := hts (.classLink RL 13 "java/lang/IllegalArgumentException") (by decide +kernel)
  have hl := lv_entry ([.ref bx, .int x, .ref ou]) (n := 4) (Nat.le_of_ble_eq_true rfl)
  rw [lg_entry_eq]
  generalize (lg_sl ([.ref bx, .int x, .ref ou]) ++ List.replicate (4 - (lg_sl ([.ref bx, .int x, .ref ou])).length) Slot.unset).toArray = ls at hl ⊢
  have hl : lv_has ls 4 [(0, .ref bx), (1, .int x), (2, .ref ou)] := hl
  rcases hs with ⟨rfl, g_hso, g_h1, eb9, ef9⟩ | ⟨rfl, g_h, eb9, ef9⟩ | ⟨rfl, g_hso, g_h, eb9, ef9⟩
  · subst b'; subst fl'
    refine lv_aload_n hx hb dL_value_0 rfl (lv_at hl 2 rfl) ?_
    refine lv_iconst (v := 0) hx hb dL_value_1 (by decide) ?_
    refine lv_aload_n hx hb dL_value_2 rfl (lv_at hl 0 rfl) ?_
    refine lv_iload_n hx hb dL_value_3 rfl (lv_at hl 1 rfl) ?_
    refine ro_call (va_runV (As := [.int x]) (rest := [.int 0, .ref ou]) ⟨hx, hb, hml, hown, hts⟩ (c_X1_value l G bx bd bo bs bk ca wa (bst b) (bsk b) (btk b) (bbe b) (bso b) (ble b) (ban b) (bfd b) (bfo b) (bro b) (bdg b) (bgv b) x g_hso g_h1) (cwV 1 hts gL_value_X1_value rfl rfl rfl (by decide +kernel) ⟨Nat.le_of_ble_eq_true rfl, Nat.le_of_ble_eq_true rfl⟩) ⟨ro_blind, va_recv hK.1 hP (ci := 1) (q0 := 1) rfl rfl, ro_pre _ (sr_P hP) hK⟩ rfl rfl hl.1 rfl (lv_room (Nat.le_of_ble_eq_true rfl)) dL_value_4 ⟨Nat.le_of_ble_eq_true rfl, Nat.le_of_ble_eq_true rfl⟩) ?_
    refine lv_i2l (v := (bitI (ban b) x).toInt64) hx hb dL_value_7 rfl ?_
    refine va_last hx hb hK.1 hP hD hS 0 3 rfl rfl (vp_in_nI (n := 0) (N := 1) (by decide) (by decide)) dL_value_8 (fun H locs hP hD hS => ?_)
    have hP : va_P G.1 vwCl (ow G ou (vp_updL fl 0 ((bitI (ban b) x).toInt64)) ++ bw G bx bd bo bs bk ca wa b) H := hP
    have hD : va_D A (ow G ou (vp_updL fl 0 ((bitI (ban b) x).toInt64)) ++ bw G bx bd bo bs bk ca wa b) := hD
    refine lv_goto (tgt := 18) hx hb dL_value_9 (by decide) ?_
    refine lv_iconst (v := 0) hx hb dL_value_18 (by decide) ?_
    refine W.widen (k := 1) (n := 6) (by decide) (by decide) ?_
    exact W.iret (v := 0) hx hb hr (fun t ht hW => ⟨rfl, by rw [ht]; exact hP, hD, hS.F ht⟩) hS.2.2 dL_value_19
  · subst b'; subst fl'
    refine lv_aload_n hx hb dL_value_0 rfl (lv_at hl 2 rfl) ?_
    refine lv_iconst (v := 0) hx hb dL_value_1 (by decide) ?_
    refine lv_aload_n hx hb dL_value_2 rfl (lv_at hl 0 rfl) ?_
    refine lv_iload_n hx hb dL_value_3 rfl (lv_at hl 1 rfl) ?_
    refine lh_catch (vx_runV (As := [.int x]) (rest := [.int 0, .ref ou]) ⟨hx, hb, hml, hown, hts⟩ (c_X1_value_1 l hlt G bx bd bo bs bk ca wa (bst b) (bsk b) (btk b) (bbe b) (bso b) (ble b) (ban b) (bfd b) (bfo b) (bro b) (bdg b) (bgv b) x g_h) (cwV 1 hts gL_value_X1_value rfl rfl rfl (by decide +kernel) ⟨Nat.le_of_ble_eq_true rfl, Nat.le_of_ble_eq_true rfl⟩) ⟨tn_blind, va_recv hK.1 hP (ci := 1) (q0 := 1) rfl rfl, tn_pre _ (sr_P hP) hK hxw (hzz.narrow (fun _ h => h.elim))⟩ rfl rfl hl.1 rfl (lv_room (Nat.le_of_ble_eq_true rfl)) dL_value_4 ⟨Nat.le_of_ble_eq_true rfl, Nat.le_of_ble_eq_true rfl⟩) hS hP hown [] ⟨0, 9, 12, 27⟩ [⟨0, 9, 15, 13⟩] (htb.trans rfl) (fun _ h => nomatch h) (by decide) (by decide) hw0 (xcast hxw.1.2.2.1) (fun q9 H locs hP hS => ?_)
    refine lv_astore_n (lv' := [(3, .ref q9), (0, .ref bx), (1, .int x), (2, .ref ou)]) hx hb dL_value_12 rfl hl (by decide) rfl (fun ls hl => ?_)
    refine lv_iconst (v := 1) hx hb dL_value_13 (by decide) ?_
    exact W.iret (v := 1) hx hb hr (fun t ht hW => ⟨rfl, by rw [ht]; exact hP, hD, hS.F ht⟩) hS.2.2 dL_value_14
  · subst b'; subst fl'
    refine lv_aload_n hx hb dL_value_0 rfl (lv_at hl 2 rfl) ?_
    refine lv_iconst (v := 0) hx hb dL_value_1 (by decide) ?_
    refine lv_aload_n hx hb dL_value_2 rfl (lv_at hl 0 rfl) ?_
    refine lv_iload_n hx hb dL_value_3 rfl (lv_at hl 1 rfl) ?_
    refine lh_catch (vx_runV (As := [.int x]) (rest := [.int 0, .ref ou]) ⟨hx, hb, hml, hown, hts⟩ (c_X1_value_2 l hlt G bx bd bo bs bk ca wa (bst b) (bsk b) (btk b) (bbe b) (bso b) (ble b) (ban b) (bfd b) (bfo b) (bro b) (bdg b) (bgv b) x g_hso g_h) (cwV 1 hts gL_value_X1_value rfl rfl rfl (by decide +kernel) ⟨Nat.le_of_ble_eq_true rfl, Nat.le_of_ble_eq_true rfl⟩) ⟨tn_blind, va_recv hK.1 hP (ci := 1) (q0 := 1) rfl rfl, tn_pre _ (sr_P hP) hK hxw (hzz.narrow (fun _ h => h.elim))⟩ rfl rfl hl.1 rfl (lv_room (Nat.le_of_ble_eq_true rfl)) dL_value_4 ⟨Nat.le_of_ble_eq_true rfl, Nat.le_of_ble_eq_true rfl⟩) hS hP hown [⟨0, 9, 12, 27⟩] ⟨0, 9, 15, 13⟩ [] (htb.trans rfl) (fun z hz => by
        simp only [List.mem_cons, List.not_mem_nil, or_false] at hz
        rcases hz with rfl
        · exact Or.inr ⟨by decide, _, hw0, hxw.2.1.2.1⟩) (by decide) (by decide) hw1 (xcast hxw.1.1) (fun q9 H locs hP hS => ?_)
    refine lv_astore_n (lv' := [(3, .ref q9), (0, .ref bx), (1, .int x), (2, .ref ou)]) hx hb dL_value_15 rfl hl (by decide) rfl (fun ls hl => ?_)
    refine lv_iconst (v := 2) hx hb dL_value_16 (by decide) ?_
    exact W.iret (v := 2) hx hb hr (fun t ht hW => ⟨rfl, by rw [ht]; exact hP, hD, hS.F ht⟩) hS.2.2 dL_value_17
