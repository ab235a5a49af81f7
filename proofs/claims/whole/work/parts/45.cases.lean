/-! ===== the law's cases ===== -/
theorem cmp0 {x y : Int64} (h : x = y) : lg_cmp x y = 0 := by subst h; simp [lg_cmp]
/-- what holds all through the law -/
def LC (p : Program) (l : Launch) (s : State) (m : MethodId) (c : Code) (sb L : Nat) (xs : Nat → Int32) (G : Gt) : Prop :=
  p.tables.exec = Jvm.exec ∧ c.code = code ∧ c.maxLocals = 7 ∧ s.vm.findClass RL = some m.cls ∧ (∀ w ∈ wsL_law, w.before #[Value.ref sb] s = true) ∧ va_X sb L xs s s.heap ∧ sb < s.heap.size ∧ ke G s ∧ xw s ∧ zz (fun q : Nat => s.heap.size ≤ q) s s.heap ∧ l.stackTraces = false
section
variable {p : Program} {l : Launch} {e : Env} {R : Room} {s : State} {m : MethodId} {args : Array Value} {below : List Frame} {meth : Method} {c : Code} {H : Heap} {locs : List Loc} {cells slots : Nat} {Q : State → Prop} {cc : ByteArray} {pc : Nat} {ls : Array Slot} {rest : List Value} {A : Nat → Prop} {H0 : Heap}
theorem ra_sld (hexec : p.tables.exec = Jvm.exec) (hb : c.code = cc) {b L : Nat} {xs : Nat → Int32} (hX : va_X b L xs s H0) (hbl : b < H0.size) (hbA : ¬ A b) (hS : va_S A H0 H locs) {i : Int32} {v : Nat} (hi : i = nI v) (hv : v < L) (hL : L < 2 ^ 31) (hdg : decode cc pc = .ok (.iaload, 1))
    (kk : W p l e R s m args below meth c H locs cells slots Q (F0 m (pc + 1) ls (.int (xs v) :: rest))) : W p l e R s m args below meth c H locs cells slots Q (F0 m pc ls (.int i :: .ref b :: rest)) := by
  subst hi
  exact va_sld hexec hb hX hbl hbA hS (vp_in_nI hv hL) hdg (by rw [nI_clamp (by omega)]; exact kk)
end
set_option maxHeartbeats 1000000 in
set_option maxRecDepth 100000 in
theorem lc_term {p : Program} {e : Env} {s : State} {m : MethodId} {below : List Frame} {meth : Method} {c : Code} {l : Launch} {sb L : Nat} {xs : Nat → Int32} {G : Gt} {Q : State → Prop} {Inv : BT → MT → Prop} {H : Heap} {locs : List Loc} {ls : Array Slot} {cells slots : Nat} {xi : Int32} {i k n : Nat} {mo ce gv dr go sa ou bx bd bo bs bk : Nat} {ca wa : Nat → Nat} {u : MT} {fl : Nat → Int64} {b : BT} (C : LC p l s m c sb L xs G) (hst : St_term Inv) (hI : Inv b u) (est : bst b = nI k) (hk30 : k ≤ 30) (esk : bsk b = nI n) (hn6 : n ≤ 6) (mest : mst u = nI k) (mesk : msk u = nI n) (exi : xi = nI i) (hi3 : i + 3 ≤ L) (hL : L ≤ 1536) (hce : cells + 1 ≤ 640935) (hsl : slots + 6 ≤ 7173298)
    (hP : va_P G.1 vwCl (mw G mo ce gv dr go sa u ++ (ow G ou fl ++ bw G bx bd bo bs bk ca wa b)) H) (hD : va_D (fun q : Nat => s.heap.size ≤ q) (mw G mo ce gv dr go sa u ++ (ow G ou fl ++ bw G bx bd bo bs bk ca wa b))) (hS : va_S (fun q : Nat => s.heap.size ≤ q) s.heap H locs) (hl : lv_has ls 7 [(0, .ref sb), (1, .ref bx), (2, .ref mo), (3, .ref ou), (4, .int xi)])
    (kk : ∀ (b' : BT) (u' : MT) (fl' : Nat → Int64) (H : Heap) (locs : List Loc) (ls : Array Slot), Inv b' u' → va_P G.1 vwCl (mw G mo ce gv dr go sa u' ++ (ow G ou fl' ++ bw G bx bd bo bs bk ca wa b')) H → va_D (fun q : Nat => s.heap.size ≤ q) (mw G mo ce gv dr go sa u' ++ (ow G ou fl' ++ bw G bx bd bo bs bk ca wa b')) → va_S (fun q : Nat => s.heap.size ≤ q) s.heap H locs → lv_has ls 7 [(0, .ref sb), (1, .ref bx), (2, .ref mo), (3, .ref ou), (4, .int xi)] → W p l e room_1 s m #[Value.ref sb] below meth c H locs (cells + 1) (slots + 6) Q (F0 m 1117 ls [])) : W p l e room_1 s m #[Value.ref sb] below meth c H locs cells slots Q (F0 m 148 ls []) := by
  obtain ⟨hx, hb, hml, hown, hts, hX, hbl, hK, hxw, hzz, hlt⟩ := C
  have hbA : ¬ (fun q : Nat => s.heap.size ≤ q) sb := Nat.not_le.mpr hbl
  obtain ⟨u', hq⟩ : ∃ u', Q_term (xs (i + 1)) (xs (i + 2)) k n u u' := by unfold Q_term; exact ⟨_, rfl⟩
  obtain ⟨cd, b', fl', hp, hcd, hI2⟩ := hst k n b u fl (xs (i + 1)) (xs (i + 2)) u' hI est hk30 esk hn6 mest mesk hq
  refine lv_aload_n hx hb dL_law_148 rfl (lv_at hl 1 rfl) ?_
  refine lv_aload_n hx hb dL_law_149 rfl (lv_at hl 0 rfl) ?_
  refine lv_iload hx hb dL_law_150 (lv_at hl 4 rfl) ?_
  refine lv_iconst (v := 1) hx hb dL_law_152 (by decide) ?_
  refine lv_iadd hx hb dL_law_153 ?_
  refine ra_sld hx hb hX hbl hbA hS (v := i + 1) (na_add exi (by decide)) (by omega) (by omega) dL_law_154 ?_
  refine lv_aload_n hx hb dL_law_155 rfl (lv_at hl 0 rfl) ?_
  refine lv_iload hx hb dL_law_156 (lv_at hl 4 rfl) ?_
  refine lv_iconst (v := 2) hx hb dL_law_158 (by decide) ?_
  refine lv_iadd hx hb dL_law_159 ?_
  refine ra_sld hx hb hX hbl hbA hS (v := i + 2) (na_add exi (by decide)) (by omega) (by omega) dL_law_160 ?_
  have hF := sr_F hD hS (fun _ h => h)
  refine mu_call (vx_runSW (As := [.ref bx, .int (xs (i + 1)), .int (xs (i + 2))]) (rest := []) ⟨hx, hb, hml, hown, hts⟩ (c_L_term l hlt G _ ou fl fl' bx bd bo bs bk ca wa b b' (xs (i + 1)) (xs (i + 2)) cd k n est hk30 esk hn6 hp) (vx_cwSW 3 hts gL_law_L_term rfl rfl rfl (by decide +kernel) ⟨Nat.le_of_ble_eq_true rfl, Nat.le_of_ble_eq_true rfl⟩) ⟨tw_blind, tw_pre _ (sr_P hP) (sr_D hD) hK hxw ((hzz.kept hS.2.1).narrow hF)⟩ rfl rfl hl.1 rfl (lv_room (Nat.le_of_ble_eq_true rfl)) dL_law_161 ⟨hce, hsl⟩) hS hF hF (fun H1 locs hP1 hD1 hk1 hS => ?_)
  obtain ⟨hP, hD⟩ := sr_J hP hD hk1 hF hP1 hD1
  generalize H1 = H at hP hS ⊢
  refine lv_istore (lv' := [(5, .int cd), (0, .ref sb), (1, .ref bx), (2, .ref mo), (3, .ref ou), (4, .int xi)]) hx hb dL_law_164 hl (by decide) rfl (fun ls hl => ?_)
  refine lv_aload_n hx hb dL_law_166 rfl (lv_at hl 3 rfl) ?_
  refine lv_aload_n hx hb dL_law_167 rfl (lv_at hl 1 rfl) ?_
  refine lv_iload hx hb dL_law_168 (lv_at hl 5 rfl) ?_
  refine lv_iconst (v := 1) hx hb dL_law_170 (by decide) ?_
  refine lv_iadd hx hb dL_law_171 ?_
  refine ra_sld hx hb hX hbl hbA hS (v := i + 1) (na_add exi (by decide)) (by omega) (by omega) dL_law_172 ?_
  refine lv_aload_n hx hb dL_law_173 rfl (lv_at hl 1 rfl) ?_
  refine lv_iload hx hb dL_law_174 (lv_at hl 5 rfl) ?_
  refine lv_iconst (v := 2) hx hb dL_law_176 (by decide) ?_
  refine lv_iadd hx hb dL_law_177 ?_
  refine ra_sld hx hb hX hbl hbA hS (v := i + 2) (na_add exi (by decide)) (by omega) (by omega) dL_law_178 ?_
  have hF := sl_F hD hS (fun _ h => h)
  refine mu_call (va_runV (As := [.int (xs (i + 1)), .int (xs (i + 2))]) (rest := []) ⟨hx, hb, hml, hown, hts⟩ (m_term l G _ mo ce gv dr go sa u u' (xs (i + 1)) (xs (i + 2)) k n mest hk30 mesk hn6 hq) (cwV 2 hts gL_law_X2_term rfl rfl rfl (by decide +kernel) ⟨Nat.le_of_ble_eq_true rfl, Nat.le_of_ble_eq_true rfl⟩) ⟨mu_blind, va_recv hK.1 hP (ci := 2) (q0 := 0) rfl rfl, mu_pre _ (sl_P hP) (sl_D hD) hK⟩ rfl rfl hl.1 rfl (lv_room (Nat.le_of_ble_eq_true rfl)) dL_law_179 ⟨hce, hsl⟩) hS hF hF (fun H1 locs hP1 hD1 hk1 hS => ?_)
  obtain ⟨hP, hD⟩ := sl_J hP hD hk1 hF hP1 hD1
  generalize H1 = H at hP hS ⊢
  refine lv_aload_n hx hb dL_law_182 rfl (lv_at hl 3 rfl) ?_
  refine ro_call (va_runV (As := []) (rest := []) ⟨hx, hb, hml, hown, hts⟩ (c_X2_thrown l G mo ce gv dr go sa (mth u') (mst u') (msk u') (mtk u') (mbe u') (mso u') (mle u') (man u') (mfc u') (mfg u') (mfd u') (mfo u') (mfs u')) (cwV 0 hts gL_law_X2_thrown rfl rfl rfl (by decide +kernel) ⟨Nat.le_of_ble_eq_true rfl, Nat.le_of_ble_eq_true rfl⟩) ⟨ro_blind, va_recv hK.1 hP (ci := 2) (q0 := 0) rfl rfl, ro_pre _ (sl_P hP) hK⟩ rfl rfl hl.1 rfl (lv_room (Nat.le_of_ble_eq_true rfl)) dL_law_183 ⟨hce, hsl⟩) ?_
  refine lv_iload hx hb dL_law_186 (lv_at hl 0 rfl) ?_
  refine lv_icmp_eq (tgt := 193) hx hb dL_law_188 (by decide) (fun _ => ?_) (fun c_188 => absurd hcd c_188)
  refine lv_goto (tgt := 1117) hx hb dL_law_193 (by decide) ?_
  exact kk b' u' fl' _ _ ls hI2 hP hD hS (lv_sub hl [1, 2, 3, 4, 5] rfl)

set_option maxHeartbeats 1000000 in
set_option maxRecDepth 100000 in
theorem lc_clear {p : Program} {e : Env} {s : State} {m : MethodId} {below : List Frame} {meth : Method} {c : Code} {l : Launch} {sb L : Nat} {xs : Nat → Int32} {G : Gt} {Q : State → Prop} {Inv : BT → MT → Prop} {H : Heap} {locs : List Loc} {ls : Array Slot} {cells slots : Nat} {xi : Int32} {i k n : Nat} {mo ce gv dr go sa ou bx bd bo bs bk : Nat} {ca wa : Nat → Nat} {u : MT} {fl : Nat → Int64} {b : BT} (C : LC p l s m c sb L xs G) (hst : St_clear Inv) (hI : Inv b u) (est : bst b = nI k) (hk30 : k ≤ 30) (esk : bsk b = nI n) (hn6 : n ≤ 6) (mest : mst u = nI k) (mesk : msk u = nI n) (exi : xi = nI i) (hi3 : i + 3 ≤ L) (hL : L ≤ 1536) (hce : cells + 1 ≤ 640935) (hsl : slots + 6 ≤ 7173298)
    (hP : va_P G.1 vwCl (mw G mo ce gv dr go sa u ++ (ow G ou fl ++ bw G bx bd bo bs bk ca wa b)) H) (hD : va_D (fun q : Nat => s.heap.size ≤ q) (mw G mo ce gv dr go sa u ++ (ow G ou fl ++ bw G bx bd bo bs bk ca wa b))) (hS : va_S (fun q : Nat => s.heap.size ≤ q) s.heap H locs) (hl : lv_has ls 7 [(0, .ref sb), (1, .ref bx), (2, .ref mo), (3, .ref ou), (4, .int xi)])
    (kk : ∀ (b' : BT) (u' : MT) (fl' : Nat → Int64) (H : Heap) (locs : List Loc) (ls : Array Slot), Inv b' u' → va_P G.1 vwCl (mw G mo ce gv dr go sa u' ++ (ow G ou fl' ++ bw G bx bd bo bs bk ca wa b')) H → va_D (fun q : Nat => s.heap.size ≤ q) (mw G mo ce gv dr go sa u' ++ (ow G ou fl' ++ bw G bx bd bo bs bk ca wa b')) → va_S (fun q : Nat => s.heap.size ≤ q) s.heap H locs → lv_has ls 7 [(0, .ref sb), (1, .ref bx), (2, .ref mo), (3, .ref ou), (4, .int xi)] → W p l e room_1 s m #[Value.ref sb] below meth c H locs (cells + 1) (slots + 6) Q (F0 m 1117 ls [])) : W p l e room_1 s m #[Value.ref sb] below meth c H locs cells slots Q (F0 m 196 ls []) := by
  obtain ⟨hx, hb, hml, hown, hts, hX, hbl, hK, hxw, hzz, hlt⟩ := C
  have hbA : ¬ (fun q : Nat => s.heap.size ≤ q) sb := Nat.not_le.mpr hbl
  obtain ⟨u', hq⟩ : ∃ u', Q_clear k n u u' := by unfold Q_clear; exact ⟨_, rfl⟩
  obtain ⟨b', hp, hI2⟩ := hst k n b u u' hI est hk30 esk hn6 mest mesk hq
  refine lv_aload_n hx hb dL_law_196 rfl (lv_at hl 1 rfl) ?_
  have hP2 := sr_P (wa := mw G mo ce gv dr go sa u ++ ow G ou fl) (wb := bw G bx bd bo bs bk ca wa b) (by rw [List.append_assoc]; exact hP)
  have hP3 : va_P G.1 vwCl ((mw G mo ce gv dr go sa u ++ ow G ou fl) ++ bw G bx bd bo bs bk ca wa b) H := by rw [List.append_assoc]; exact hP
  have hD3 : va_D (fun q : Nat => s.heap.size ≤ q) ((mw G mo ce gv dr go sa u ++ ow G ou fl) ++ bw G bx bd bo bs bk ca wa b) := by rw [List.append_assoc]; exact hD
  have hF := sr_F hD3 hS (fun _ h => h)
  refine mu_call (va_runV (As := []) (rest := []) ⟨hx, hb, hml, hown, hts⟩ (p_clear l G _ bx bd bo bs bk ca wa b b' k est hk30 hp) (cwV 0 hts gL_law_X1_clear rfl rfl rfl (by decide +kernel) ⟨Nat.le_of_ble_eq_true rfl, Nat.le_of_ble_eq_true rfl⟩) ⟨mu_blind, va_recv hK.1 hP2 (ci := 1) (q0 := 0) rfl rfl, mu_pre _ hP2 (sr_D hD3) hK⟩ rfl rfl hl.1 rfl (lv_room (Nat.le_of_ble_eq_true rfl)) dL_law_197 ⟨Nat.le_of_succ_le hce, Nat.le_trans (Nat.le_add_right _ 6) hsl⟩) hS hF hF (fun H1 locs hP1 hD1 hk1 hS => ?_)
  obtain ⟨hP, hD⟩ := sr_J hP3 hD3 hk1 hF hP1 hD1
  rw [List.append_assoc] at hP hD
  generalize H1 = H at hP hS ⊢
  refine lv_aload_n hx hb dL_law_200 rfl (lv_at hl 2 rfl) ?_
  have hF := sl_F hD hS (fun _ h => h)
  refine mu_call (va_runV (As := []) (rest := []) ⟨hx, hb, hml, hown, hts⟩ (m_clear l G _ mo ce gv dr go sa u u'  k n mest hk30 mesk hn6 hq) (cwV 0 hts gL_law_X2_clear rfl rfl rfl (by decide +kernel) ⟨Nat.le_of_ble_eq_true rfl, Nat.le_of_ble_eq_true rfl⟩) ⟨mu_blind, va_recv hK.1 hP (ci := 2) (q0 := 0) rfl rfl, mu_pre _ (sl_P hP) (sl_D hD) hK⟩ rfl rfl hl.1 rfl (lv_room (Nat.le_of_ble_eq_true rfl)) dL_law_201 ⟨Nat.le_of_succ_le hce, Nat.le_trans (Nat.le_add_right _ 6) hsl⟩) hS hF hF (fun H1 locs hP1 hD1 hk1 hS => ?_)
  obtain ⟨hP, hD⟩ := sl_J hP hD hk1 hF hP1 hD1
  generalize H1 = H at hP hS ⊢
  refine lv_goto (tgt := 1117) hx hb dL_law_204 (by decide) ?_
  refine W.widen (k := cells + 1) (n := slots + 6) (by omega) (by omega) ?_
  exact kk b' u' fl _ _ ls hI2 hP hD hS (lv_sub hl [0, 1, 2, 3, 4] rfl)

set_option maxHeartbeats 1000000 in
set_option maxRecDepth 100000 in
theorem lc_require {p : Program} {e : Env} {s : State} {m : MethodId} {below : List Frame} {meth : Method} {c : Code} {l : Launch} {sb L : Nat} {xs : Nat → Int32} {G : Gt} {Q : State → Prop} {Inv : BT → MT → Prop} {H : Heap} {locs : List Loc} {ls : Array Slot} {cells slots : Nat} {xi : Int32} {i k n : Nat} {mo ce gv dr go sa ou bx bd bo bs bk : Nat} {ca wa : Nat → Nat} {u : MT} {fl : Nat → Int64} {b : BT} (C : LC p l s m c sb L xs G) (hst : St_require Inv) (hI : Inv b u) (est : bst b = nI k) (hk30 : k ≤ 30) (esk : bsk b = nI n) (hn6 : n ≤ 6) (mest : mst u = nI k) (mesk : msk u = nI n) (exi : xi = nI i) (hi3 : i + 3 ≤ L) (hL : L ≤ 1536) (hce : cells + 1 ≤ 640935) (hsl : slots + 6 ≤ 7173298)
    (hP : va_P G.1 vwCl (mw G mo ce gv dr go sa u ++ (ow G ou fl ++ bw G bx bd bo bs bk ca wa b)) H) (hD : va_D (fun q : Nat => s.heap.size ≤ q) (mw G mo ce gv dr go sa u ++ (ow G ou fl ++ bw G bx bd bo bs bk ca wa b))) (hS : va_S (fun q : Nat => s.heap.size ≤ q) s.heap H locs) (hl : lv_has ls 7 [(0, .ref sb), (1, .ref bx), (2, .ref mo), (3, .ref ou), (4, .int xi)])
    (kk : ∀ (b' : BT) (u' : MT) (fl' : Nat → Int64) (H : Heap) (locs : List Loc) (ls : Array Slot), Inv b' u' → va_P G.1 vwCl (mw G mo ce gv dr go sa u' ++ (ow G ou fl' ++ bw G bx bd bo bs bk ca wa b')) H → va_D (fun q : Nat => s.heap.size ≤ q) (mw G mo ce gv dr go sa u' ++ (ow G ou fl' ++ bw G bx bd bo bs bk ca wa b')) → va_S (fun q : Nat => s.heap.size ≤ q) s.heap H locs → lv_has ls 7 [(0, .ref sb), (1, .ref bx), (2, .ref mo), (3, .ref ou), (4, .int xi)] → W p l e room_1 s m #[Value.ref sb] below meth c H locs (cells + 1) (slots + 6) Q (F0 m 1117 ls [])) : W p l e room_1 s m #[Value.ref sb] below meth c H locs cells slots Q (F0 m 207 ls []) := by
  obtain ⟨hx, hb, hml, hown, hts, hX, hbl, hK, hxw, hzz, hlt⟩ := C
  have hbA : ¬ (fun q : Nat => s.heap.size ≤ q) sb := Nat.not_le.mpr hbl
  obtain ⟨u', r, hq⟩ : ∃ u' r, Q_require (xs (i + 1)) (xs (i + 2)) k n u u' r := by unfold Q_require; exact ⟨_, _, rfl, rfl⟩
  obtain ⟨cd, b', fl', hp, hcd, hrr, hI2⟩ := hst k n b u fl (xs (i + 1)) (xs (i + 2)) u' r hI est hk30 esk hn6 mest mesk hq
  refine lv_aload_n hx hb dL_law_207 rfl (lv_at hl 1 rfl) ?_
  refine lv_aload_n hx hb dL_law_208 rfl (lv_at hl 0 rfl) ?_
  refine lv_iload hx hb dL_law_209 (lv_at hl 4 rfl) ?_
  refine lv_iconst (v := 1) hx hb dL_law_211 (by decide) ?_
  refine lv_iadd hx hb dL_law_212 ?_
  refine ra_sld hx hb hX hbl hbA hS (v := i + 1) (na_add exi (by decide)) (by omega) (by omega) dL_law_213 ?_
  refine lv_aload_n hx hb dL_law_214 rfl (lv_at hl 0 rfl) ?_
  refine lv_iload hx hb dL_law_215 (lv_at hl 4 rfl) ?_
  refine lv_iconst (v := 2) hx hb dL_law_217 (by decide) ?_
  refine lv_iadd hx hb dL_law_218 ?_
  refine ra_sld hx hb hX hbl hbA hS (v := i + 2) (na_add exi (by decide)) (by omega) (by omega) dL_law_219 ?_
  refine lv_aload_n hx hb dL_law_220 rfl (lv_at hl 3 rfl) ?_
  have hF := sr_F hD hS (fun _ h => h)
  refine mu_call (vx_runSW (As := [.ref bx, .int (xs (i + 1)), .int (xs (i + 2)), .ref ou]) (rest := []) ⟨hx, hb, hml, hown, hts⟩ (c_L_require l hlt G _ ou fl fl' bx bd bo bs bk ca wa b b' (xs (i + 1)) (xs (i + 2)) cd k n est hk30 esk hn6 hp) (vx_cwSW 4 hts gL_law_L_require rfl rfl rfl (by decide +kernel) ⟨Nat.le_of_ble_eq_true rfl, Nat.le_of_ble_eq_true rfl⟩) ⟨tw_blind, tw_pre _ (sr_P hP) (sr_D hD) hK hxw ((hzz.kept hS.2.1).narrow hF)⟩ rfl rfl hl.1 rfl (lv_room (Nat.le_of_ble_eq_true rfl)) dL_law_221 ⟨hce, hsl⟩) hS hF hF (fun H1 locs hP1 hD1 hk1 hS => ?_)
  obtain ⟨hP, hD⟩ := sr_J hP hD hk1 hF hP1 hD1
  generalize H1 = H at hP hS ⊢
  refine lv_istore (lv' := [(5, .int cd), (0, .ref sb), (1, .ref bx), (2, .ref mo), (3, .ref ou), (4, .int xi)]) hx hb dL_law_224 hl (by decide) rfl (fun ls hl => ?_)
  refine lv_aload_n hx hb dL_law_226 rfl (lv_at hl 3 rfl) ?_
  refine lv_aload_n hx hb dL_law_227 rfl (lv_at hl 1 rfl) ?_
  refine lv_iload hx hb dL_law_228 (lv_at hl 5 rfl) ?_
  refine lv_iconst (v := 1) hx hb dL_law_230 (by decide) ?_
  refine lv_iadd hx hb dL_law_231 ?_
  refine ra_sld hx hb hX hbl hbA hS (v := i + 1) (na_add exi (by decide)) (by omega) (by omega) dL_law_232 ?_
  refine lv_aload_n hx hb dL_law_233 rfl (lv_at hl 1 rfl) ?_
  refine lv_iload hx hb dL_law_234 (lv_at hl 5 rfl) ?_
  refine lv_iconst (v := 2) hx hb dL_law_236 (by decide) ?_
  refine lv_iadd hx hb dL_law_237 ?_
  refine ra_sld hx hb hX hbl hbA hS (v := i + 2) (na_add exi (by decide)) (by omega) (by omega) dL_law_238 ?_
  have hF := sl_F hD hS (fun _ h => h)
  refine mu_call (va_runV (As := [.int (xs (i + 1)), .int (xs (i + 2))]) (rest := []) ⟨hx, hb, hml, hown, hts⟩ (m_require l G _ mo ce gv dr go sa u u' (xs (i + 1)) (xs (i + 2)) k n mest hk30 mesk hn6 r hq) (cwV 2 hts gL_law_X2_require rfl rfl rfl (by decide +kernel) ⟨Nat.le_of_ble_eq_true rfl, Nat.le_of_ble_eq_true rfl⟩) ⟨mu_blind, va_recv hK.1 hP (ci := 2) (q0 := 0) rfl rfl, mu_pre _ (sl_P hP) (sl_D hD) hK⟩ rfl rfl hl.1 rfl (lv_room (Nat.le_of_ble_eq_true rfl)) dL_law_239 ⟨hce, hsl⟩) hS hF hF (fun H1 locs hP1 hD1 hk1 hS => ?_)
  obtain ⟨hP, hD⟩ := sl_J hP hD hk1 hF hP1 hD1
  generalize H1 = H at hP hS ⊢
  refine lv_istore (lv' := [(6, .int r), (5, .int cd), (0, .ref sb), (1, .ref bx), (2, .ref mo), (3, .ref ou), (4, .int xi)]) hx hb dL_law_242 hl (by decide) rfl (fun ls hl => ?_)
  refine lv_aload_n hx hb dL_law_244 rfl (lv_at hl 4 rfl) ?_
  refine ro_call (va_runV (As := []) (rest := []) ⟨hx, hb, hml, hown, hts⟩ (c_X2_thrown l G mo ce gv dr go sa (mth u') (mst u') (msk u') (mtk u') (mbe u') (mso u') (mle u') (man u') (mfc u') (mfg u') (mfd u') (mfo u') (mfs u')) (cwV 0 hts gL_law_X2_thrown rfl rfl rfl (by decide +kernel) ⟨Nat.le_of_ble_eq_true rfl, Nat.le_of_ble_eq_true rfl⟩) ⟨ro_blind, va_recv hK.1 hP (ci := 2) (q0 := 0) rfl rfl, ro_pre _ (sl_P hP) hK⟩ rfl rfl hl.1 rfl (lv_room (Nat.le_of_ble_eq_true rfl)) dL_law_245 ⟨hce, hsl⟩) ?_
  refine lv_iload hx hb dL_law_248 (lv_at hl 1 rfl) ?_
  refine lv_icmp_eq (tgt := 255) hx hb dL_law_250 (by decide) (fun _ => ?_) (fun c_250 => absurd hcd c_250)
  refine lv_iload hx hb dL_law_255 (lv_at hl 1 rfl) ?_
  refine lv_if_ne (tgt := 272) hx hb dL_law_257 (by decide) (fun _ => ?_) (fun c_257 => ?_)
  · refine lv_goto (tgt := 1117) hx hb dL_law_272 (by decide) ?_
    exact kk b' u' fl' _ _ ls hI2 hP hD hS (lv_sub hl [2, 3, 4, 5, 6] rfl)
  · have hrr := hrr c_257
    refine lv_aload_n hx hb dL_law_260 rfl (lv_at hl 5 rfl) ?_
    refine lv_iconst (v := 0) hx hb dL_law_261 (by decide) ?_
    refine va_lald hx hb hK.1 hP 6 3 rfl rfl (vp_in_nI (n := 0) (N := 1) (by decide) (by decide)) dL_law_262 ?_
    refine lv_iload hx hb dL_law_263 (lv_at hl 0 rfl) ?_
    refine lv_i2l (v := r.toInt64) hx hb dL_law_265 rfl ?_
    refine W.lcmp hx hb dL_law_266 ?_
    refine lv_if_eq (tgt := 272) hx hb dL_law_267 (by decide) (fun _ => ?_) (fun c_267 => absurd (cmp0 hrr) c_267)
    refine lv_goto (tgt := 1117) hx hb dL_law_272 (by decide) ?_
    exact kk b' u' fl' _ _ ls hI2 hP hD hS (lv_sub hl [2, 3, 4, 5, 6] rfl)

set_option maxHeartbeats 1000000 in
set_option maxRecDepth 100000 in
theorem lc_objective {p : Program} {e : Env} {s : State} {m : MethodId} {below : List Frame} {meth : Method} {c : Code} {l : Launch} {sb L : Nat} {xs : Nat → Int32} {G : Gt} {Q : State → Prop} {Inv : BT → MT → Prop} {H : Heap} {locs : List Loc} {ls : Array Slot} {cells slots : Nat} {xi : Int32} {i k n : Nat} {mo ce gv dr go sa ou bx bd bo bs bk : Nat} {ca wa : Nat → Nat} {u : MT} {fl : Nat → Int64} {b : BT} (C : LC p l s m c sb L xs G) (hst : St_objective Inv) (hI : Inv b u) (est : bst b = nI k) (hk30 : k ≤ 30) (esk : bsk b = nI n) (hn6 : n ≤ 6) (mest : mst u = nI k) (mesk : msk u = nI n) (exi : xi = nI i) (hi3 : i + 3 ≤ L) (hL : L ≤ 1536) (hce : cells + 1 ≤ 640935) (hsl : slots + 6 ≤ 7173298)
    (hP : va_P G.1 vwCl (mw G mo ce gv dr go sa u ++ (ow G ou fl ++ bw G bx bd bo bs bk ca wa b)) H) (hD : va_D (fun q : Nat => s.heap.size ≤ q) (mw G mo ce gv dr go sa u ++ (ow G ou fl ++ bw G bx bd bo bs bk ca wa b))) (hS : va_S (fun q : Nat => s.heap.size ≤ q) s.heap H locs) (hl : lv_has ls 7 [(0, .ref sb), (1, .ref bx), (2, .ref mo), (3, .ref ou), (4, .int xi)])
    (kk : ∀ (b' : BT) (u' : MT) (fl' : Nat → Int64) (H : Heap) (locs : List Loc) (ls : Array Slot), Inv b' u' → va_P G.1 vwCl (mw G mo ce gv dr go sa u' ++ (ow G ou fl' ++ bw G bx bd bo bs bk ca wa b')) H → va_D (fun q : Nat => s.heap.size ≤ q) (mw G mo ce gv dr go sa u' ++ (ow G ou fl' ++ bw G bx bd bo bs bk ca wa b')) → va_S (fun q : Nat => s.heap.size ≤ q) s.heap H locs → lv_has ls 7 [(0, .ref sb), (1, .ref bx), (2, .ref mo), (3, .ref ou), (4, .int xi)] → W p l e room_1 s m #[Value.ref sb] below meth c H locs (cells + 1) (slots + 6) Q (F0 m 1117 ls [])) : W p l e room_1 s m #[Value.ref sb] below meth c H locs cells slots Q (F0 m 275 ls []) := by
  obtain ⟨hx, hb, hml, hown, hts, hX, hbl, hK, hxw, hzz, hlt⟩ := C
  have hbA : ¬ (fun q : Nat => s.heap.size ≤ q) sb := Nat.not_le.mpr hbl
  obtain ⟨u', hq⟩ : ∃ u', Q_objective  k n u u' := by unfold Q_objective; exact ⟨_, rfl⟩
  obtain ⟨cd, b', fl', hp, hcd, hI2⟩ := hst k n b u fl  u' hI est hk30 esk hn6 mest mesk hq
  refine lv_aload_n hx hb dL_law_275 rfl (lv_at hl 1 rfl) ?_
  have hF := sr_F hD hS (fun _ h => h)
  refine mu_call (vx_runSW (As := [.ref bx]) (rest := []) ⟨hx, hb, hml, hown, hts⟩ (c_L_objective l hlt G _ ou fl fl' bx bd bo bs bk ca wa b b'  cd k n est hk30 esk hn6 hp) (vx_cwSW 1 hts gL_law_L_objective rfl rfl rfl (by decide +kernel) ⟨Nat.le_of_ble_eq_true rfl, Nat.le_of_ble_eq_true rfl⟩) ⟨tw_blind, tw_pre _ (sr_P hP) (sr_D hD) hK hxw ((hzz.kept hS.2.1).narrow hF)⟩ rfl rfl hl.1 rfl (lv_room (Nat.le_of_ble_eq_true rfl)) dL_law_276 ⟨hce, hsl⟩) hS hF hF (fun H1 locs hP1 hD1 hk1 hS => ?_)
  obtain ⟨hP, hD⟩ := sr_J hP hD hk1 hF hP1 hD1
  generalize H1 = H at hP hS ⊢
  refine lv_istore (lv' := [(5, .int cd), (0, .ref sb), (1, .ref bx), (2, .ref mo), (3, .ref ou), (4, .int xi)]) hx hb dL_law_279 hl (by decide) rfl (fun ls hl => ?_)
  refine lv_aload_n hx hb dL_law_281 rfl (lv_at hl 3 rfl) ?_
  have hF := sl_F hD hS (fun _ h => h)
  refine mu_call (va_runV (As := []) (rest := []) ⟨hx, hb, hml, hown, hts⟩ (m_objective l G _ mo ce gv dr go sa u u'  k n mest hk30 mesk hn6 hq) (cwV 0 hts gL_law_X2_objective rfl rfl rfl (by decide +kernel) ⟨Nat.le_of_ble_eq_true rfl, Nat.le_of_ble_eq_true rfl⟩) ⟨mu_blind, va_recv hK.1 hP (ci := 2) (q0 := 0) rfl rfl, mu_pre _ (sl_P hP) (sl_D hD) hK⟩ rfl rfl hl.1 rfl (lv_room (Nat.le_of_ble_eq_true rfl)) dL_law_282 ⟨hce, hsl⟩) hS hF hF (fun H1 locs hP1 hD1 hk1 hS => ?_)
  obtain ⟨hP, hD⟩ := sl_J hP hD hk1 hF hP1 hD1
  generalize H1 = H at hP hS ⊢
  refine lv_aload_n hx hb dL_law_285 rfl (lv_at hl 3 rfl) ?_
  refine ro_call (va_runV (As := []) (rest := []) ⟨hx, hb, hml, hown, hts⟩ (c_X2_thrown l G mo ce gv dr go sa (mth u') (mst u') (msk u') (mtk u') (mbe u') (mso u') (mle u') (man u') (mfc u') (mfg u') (mfd u') (mfo u') (mfs u')) (cwV 0 hts gL_law_X2_thrown rfl rfl rfl (by decide +kernel) ⟨Nat.le_of_ble_eq_true rfl, Nat.le_of_ble_eq_true rfl⟩) ⟨ro_blind, va_recv hK.1 hP (ci := 2) (q0 := 0) rfl rfl, ro_pre _ (sl_P hP) hK⟩ rfl rfl hl.1 rfl (lv_room (Nat.le_of_ble_eq_true rfl)) dL_law_286 ⟨hce, hsl⟩) ?_
  refine lv_iload hx hb dL_law_289 (lv_at hl 0 rfl) ?_
  refine lv_icmp_eq (tgt := 296) hx hb dL_law_291 (by decide) (fun _ => ?_) (fun c_291 => absurd hcd c_291)
  refine lv_goto (tgt := 1117) hx hb dL_law_296 (by decide) ?_
  exact kk b' u' fl' _ _ ls hI2 hP hD hS (lv_sub hl [1, 2, 3, 4, 5] rfl)

set_option maxHeartbeats 1000000 in
set_option maxRecDepth 100000 in
theorem lc_constraints {p : Program} {e : Env} {s : State} {m : MethodId} {below : List Frame} {meth : Method} {c : Code} {l : Launch} {sb L : Nat} {xs : Nat → Int32} {G : Gt} {Q : State → Prop} {Inv : BT → MT → Prop} {H : Heap} {locs : List Loc} {ls : Array Slot} {cells slots : Nat} {xi : Int32} {i k n : Nat} {mo ce gv dr go sa ou bx bd bo bs bk : Nat} {ca wa : Nat → Nat} {u : MT} {fl : Nat → Int64} {b : BT} (C : LC p l s m c sb L xs G) (hst : St_constraints Inv) (hI : Inv b u) (est : bst b = nI k) (hk30 : k ≤ 30) (esk : bsk b = nI n) (hn6 : n ≤ 6) (mest : mst u = nI k) (mesk : msk u = nI n) (exi : xi = nI i) (hi3 : i + 3 ≤ L) (hL : L ≤ 1536) (hce : cells + 1 ≤ 640935) (hsl : slots + 6 ≤ 7173298)
    (hP : va_P G.1 vwCl (mw G mo ce gv dr go sa u ++ (ow G ou fl ++ bw G bx bd bo bs bk ca wa b)) H) (hD : va_D (fun q : Nat => s.heap.size ≤ q) (mw G mo ce gv dr go sa u ++ (ow G ou fl ++ bw G bx bd bo bs bk ca wa b))) (hS : va_S (fun q : Nat => s.heap.size ≤ q) s.heap H locs) (hl : lv_has ls 7 [(0, .ref sb), (1, .ref bx), (2, .ref mo), (3, .ref ou), (4, .int xi)])
    (kk : ∀ (b' : BT) (u' : MT) (fl' : Nat → Int64) (H : Heap) (locs : List Loc) (ls : Array Slot), Inv b' u' → va_P G.1 vwCl (mw G mo ce gv dr go sa u' ++ (ow G ou fl' ++ bw G bx bd bo bs bk ca wa b')) H → va_D (fun q : Nat => s.heap.size ≤ q) (mw G mo ce gv dr go sa u' ++ (ow G ou fl' ++ bw G bx bd bo bs bk ca wa b')) → va_S (fun q : Nat => s.heap.size ≤ q) s.heap H locs → lv_has ls 7 [(0, .ref sb), (1, .ref bx), (2, .ref mo), (3, .ref ou), (4, .int xi)] → W p l e room_1 s m #[Value.ref sb] below meth c H locs (cells + 1) (slots + 6) Q (F0 m 1117 ls [])) : W p l e room_1 s m #[Value.ref sb] below meth c H locs cells slots Q (F0 m 299 ls []) := by
  obtain ⟨hx, hb, hml, hown, hts, hX, hbl, hK, hxw, hzz, hlt⟩ := C
  have hbA : ¬ (fun q : Nat => s.heap.size ≤ q) sb := Nat.not_le.mpr hbl
  obtain ⟨u', r, hq⟩ : ∃ u' r, Q_constraints k n u u' r := ⟨_, _, rfl, rfl⟩
  obtain ⟨hrr, hI2⟩ := hst k n b u u' r hI est hk30 esk hn6 mest mesk hq
  refine lv_aload_n hx hb dL_law_299 rfl (lv_at hl 1 rfl) ?_
  have hP2 := sr_P (wa := mw G mo ce gv dr go sa u ++ ow G ou fl) (wb := bw G bx bd bo bs bk ca wa b) (by rw [List.append_assoc]; exact hP)
  refine ro_call (va_runV (As := []) (rest := []) ⟨hx, hb, hml, hown, hts⟩ (p_constraints l G bx bd bo bs bk ca wa b k est hk30) (cwV 0 hts gL_law_X1_constraints rfl rfl rfl (by decide +kernel) ⟨Nat.le_of_ble_eq_true rfl, Nat.le_of_ble_eq_true rfl⟩) ⟨ro_blind, va_recv hK.1 hP2 (ci := 1) (q0 := 0) rfl rfl, ro_pre _ hP2 hK⟩ rfl rfl hl.1 rfl (lv_room (Nat.le_of_ble_eq_true rfl)) dL_law_300 ⟨Nat.le_of_succ_le hce, Nat.le_trans (Nat.le_add_right _ 6) hsl⟩) ?_
  refine lv_aload_n hx hb dL_law_303 rfl (lv_at hl 2 rfl) ?_
  have hF := sl_F hD hS (fun _ h => h)
  refine mu_call (va_runV (As := []) (rest := [.int (bst b)]) ⟨hx, hb, hml, hown, hts⟩ (m_constraints l G _ mo ce gv dr go sa u u'  k n mest hk30 mesk hn6 r hq) (cwV 0 hts gL_law_X2_constraints rfl rfl rfl (by decide +kernel) ⟨Nat.le_of_ble_eq_true rfl, Nat.le_of_ble_eq_true rfl⟩) ⟨mu_blind, va_recv hK.1 hP (ci := 2) (q0 := 0) rfl rfl, mu_pre _ (sl_P hP) (sl_D hD) hK⟩ rfl rfl hl.1 rfl (lv_room (Nat.le_of_ble_eq_true rfl)) dL_law_304 ⟨Nat.le_of_succ_le hce, Nat.le_trans (Nat.le_add_right _ 6) hsl⟩) hS hF hF (fun H1 locs hP1 hD1 hk1 hS => ?_)
  obtain ⟨hP, hD⟩ := sl_J hP hD hk1 hF hP1 hD1
  generalize H1 = H at hP hS ⊢
  refine lv_icmp_eq (tgt := 1117) hx hb dL_law_307 (by decide) (fun _ => ?_) (fun c_307 => absurd hrr c_307)
  refine W.widen (k := cells + 1) (n := slots + 6) (by omega) (by omega) ?_
  exact kk b u' fl _ _ ls hI2 hP hD hS (lv_sub hl [0, 1, 2, 3, 4] rfl)

set_option maxHeartbeats 1000000 in
set_option maxRecDepth 100000 in
theorem lc_constraint {p : Program} {e : Env} {s : State} {m : MethodId} {below : List Frame} {meth : Method} {c : Code} {l : Launch} {sb L : Nat} {xs : Nat → Int32} {G : Gt} {Q : State → Prop} {Inv : BT → MT → Prop} {H : Heap} {locs : List Loc} {ls : Array Slot} {cells slots : Nat} {xi : Int32} {i k n : Nat} {mo ce gv dr go sa ou bx bd bo bs bk : Nat} {ca wa : Nat → Nat} {u : MT} {fl : Nat → Int64} {b : BT} (C : LC p l s m c sb L xs G) (hst : St_constraint Inv) (hI : Inv b u) (est : bst b = nI k) (hk30 : k ≤ 30) (esk : bsk b = nI n) (hn6 : n ≤ 6) (mest : mst u = nI k) (mesk : msk u = nI n) (exi : xi = nI i) (hi3 : i + 3 ≤ L) (hL : L ≤ 1536) (hce : cells + 1 ≤ 640935) (hsl : slots + 6 ≤ 7173298)
    (hP : va_P G.1 vwCl (mw G mo ce gv dr go sa u ++ (ow G ou fl ++ bw G bx bd bo bs bk ca wa b)) H) (hD : va_D (fun q : Nat => s.heap.size ≤ q) (mw G mo ce gv dr go sa u ++ (ow G ou fl ++ bw G bx bd bo bs bk ca wa b))) (hS : va_S (fun q : Nat => s.heap.size ≤ q) s.heap H locs) (hl : lv_has ls 7 [(0, .ref sb), (1, .ref bx), (2, .ref mo), (3, .ref ou), (4, .int xi)])
    (kk : ∀ (b' : BT) (u' : MT) (fl' : Nat → Int64) (H : Heap) (locs : List Loc) (ls : Array Slot), Inv b' u' → va_P G.1 vwCl (mw G mo ce gv dr go sa u' ++ (ow G ou fl' ++ bw G bx bd bo bs bk ca wa b')) H → va_D (fun q : Nat => s.heap.size ≤ q) (mw G mo ce gv dr go sa u' ++ (ow G ou fl' ++ bw G bx bd bo bs bk ca wa b')) → va_S (fun q : Nat => s.heap.size ≤ q) s.heap H locs → lv_has ls 7 [(0, .ref sb), (1, .ref bx), (2, .ref mo), (3, .ref ou), (4, .int xi)] → W p l e room_1 s m #[Value.ref sb] below meth c H locs (cells + 1) (slots + 6) Q (F0 m 1117 ls [])) : W p l e room_1 s m #[Value.ref sb] below meth c H locs cells slots Q (F0 m 312 ls []) := by
  obtain ⟨hx, hb, hml, hown, hts, hX, hbl, hK, hxw, hzz, hlt⟩ := C
  have hbA : ¬ (fun q : Nat => s.heap.size ≤ q) sb := Nat.not_le.mpr hbl
  obtain ⟨u', r, hq⟩ : ∃ u' r, Q_constraint (xs (i + 1)) (xs (i + 2)) k n u u' r := by unfold Q_constraint; exact ⟨_, _, rfl, rfl⟩
  obtain ⟨cd, b', fl', hp, hcd, hrr, hI2⟩ := hst k n b u fl (xs (i + 1)) (xs (i + 2)) u' r hI est hk30 esk hn6 mest mesk hq
  refine lv_aload_n hx hb dL_law_312 rfl (lv_at hl 1 rfl) ?_
  refine lv_aload_n hx hb dL_law_313 rfl (lv_at hl 0 rfl) ?_
  refine lv_iload hx hb dL_law_314 (lv_at hl 4 rfl) ?_
  refine lv_iconst (v := 1) hx hb dL_law_316 (by decide) ?_
  refine lv_iadd hx hb dL_law_317 ?_
  refine ra_sld hx hb hX hbl hbA hS (v := i + 1) (na_add exi (by decide)) (by omega) (by omega) dL_law_318 ?_
  refine lv_aload_n hx hb dL_law_319 rfl (lv_at hl 0 rfl) ?_
  refine lv_iload hx hb dL_law_320 (lv_at hl 4 rfl) ?_
  refine lv_iconst (v := 2) hx hb dL_law_322 (by decide) ?_
  refine lv_iadd hx hb dL_law_323 ?_
  refine ra_sld hx hb hX hbl hbA hS (v := i + 2) (na_add exi (by decide)) (by omega) (by omega) dL_law_324 ?_
  refine lv_aload_n hx hb dL_law_325 rfl (lv_at hl 3 rfl) ?_
  have hF := sr_F hD hS (fun _ h => h)
  refine mu_call (vx_runSW (As := [.ref bx, .int (xs (i + 1)), .int (xs (i + 2)), .ref ou]) (rest := []) ⟨hx, hb, hml, hown, hts⟩ (c_L_constraint l hlt G _ ou fl fl' bx bd bo bs bk ca wa b b' (xs (i + 1)) (xs (i + 2)) cd k n est hk30 esk hn6 hp) (vx_cwSW 4 hts gL_law_L_constraint rfl rfl rfl (by decide +kernel) ⟨Nat.le_of_ble_eq_true rfl, Nat.le_of_ble_eq_true rfl⟩) ⟨tw_blind, tw_pre _ (sr_P hP) (sr_D hD) hK hxw ((hzz.kept hS.2.1).narrow hF)⟩ rfl rfl hl.1 rfl (lv_room (Nat.le_of_ble_eq_true rfl)) dL_law_326 ⟨hce, hsl⟩) hS hF hF (fun H1 locs hP1 hD1 hk1 hS => ?_)
  obtain ⟨hP, hD⟩ := sr_J hP hD hk1 hF hP1 hD1
  generalize H1 = H at hP hS ⊢
  refine lv_istore (lv' := [(5, .int cd), (0, .ref sb), (1, .ref bx), (2, .ref mo), (3, .ref ou), (4, .int xi)]) hx hb dL_law_329 hl (by decide) rfl (fun ls hl => ?_)
  refine lv_aload_n hx hb dL_law_331 rfl (lv_at hl 3 rfl) ?_
  refine lv_aload_n hx hb dL_law_332 rfl (lv_at hl 1 rfl) ?_
  refine lv_iload hx hb dL_law_333 (lv_at hl 5 rfl) ?_
  refine lv_iconst (v := 1) hx hb dL_law_335 (by decide) ?_
  refine lv_iadd hx hb dL_law_336 ?_
  refine ra_sld hx hb hX hbl hbA hS (v := i + 1) (na_add exi (by decide)) (by omega) (by omega) dL_law_337 ?_
  refine lv_aload_n hx hb dL_law_338 rfl (lv_at hl 1 rfl) ?_
  refine lv_iload hx hb dL_law_339 (lv_at hl 5 rfl) ?_
  refine lv_iconst (v := 2) hx hb dL_law_341 (by decide) ?_
  refine lv_iadd hx hb dL_law_342 ?_
  refine ra_sld hx hb hX hbl hbA hS (v := i + 2) (na_add exi (by decide)) (by omega) (by omega) dL_law_343 ?_
  have hF := sl_F hD hS (fun _ h => h)
  refine mu_call (va_runV (As := [.int (xs (i + 1)), .int (xs (i + 2))]) (rest := []) ⟨hx, hb, hml, hown, hts⟩ (m_constraint l G _ mo ce gv dr go sa u u' (xs (i + 1)) (xs (i + 2)) k n mest hk30 mesk hn6 r hq) (cwV 2 hts gL_law_X2_constraint rfl rfl rfl (by decide +kernel) ⟨Nat.le_of_ble_eq_true rfl, Nat.le_of_ble_eq_true rfl⟩) ⟨mu_blind, va_recv hK.1 hP (ci := 2) (q0 := 0) rfl rfl, mu_pre _ (sl_P hP) (sl_D hD) hK⟩ rfl rfl hl.1 rfl (lv_room (Nat.le_of_ble_eq_true rfl)) dL_law_344 ⟨hce, hsl⟩) hS hF hF (fun H1 locs hP1 hD1 hk1 hS => ?_)
  obtain ⟨hP, hD⟩ := sl_J hP hD hk1 hF hP1 hD1
  generalize H1 = H at hP hS ⊢
  refine lv_istore (lv' := [(6, .int r), (5, .int cd), (0, .ref sb), (1, .ref bx), (2, .ref mo), (3, .ref ou), (4, .int xi)]) hx hb dL_law_347 hl (by decide) rfl (fun ls hl => ?_)
  refine lv_aload_n hx hb dL_law_349 rfl (lv_at hl 4 rfl) ?_
  refine ro_call (va_runV (As := []) (rest := []) ⟨hx, hb, hml, hown, hts⟩ (c_X2_thrown l G mo ce gv dr go sa (mth u') (mst u') (msk u') (mtk u') (mbe u') (mso u') (mle u') (man u') (mfc u') (mfg u') (mfd u') (mfo u') (mfs u')) (cwV 0 hts gL_law_X2_thrown rfl rfl rfl (by decide +kernel) ⟨Nat.le_of_ble_eq_true rfl, Nat.le_of_ble_eq_true rfl⟩) ⟨ro_blind, va_recv hK.1 hP (ci := 2) (q0 := 0) rfl rfl, ro_pre _ (sl_P hP) hK⟩ rfl rfl hl.1 rfl (lv_room (Nat.le_of_ble_eq_true rfl)) dL_law_350 ⟨hce, hsl⟩) ?_
  refine lv_iload hx hb dL_law_353 (lv_at hl 1 rfl) ?_
  refine lv_icmp_eq (tgt := 360) hx hb dL_law_355 (by decide) (fun _ => ?_) (fun c_355 => absurd hcd c_355)
  refine lv_iload hx hb dL_law_360 (lv_at hl 1 rfl) ?_
  refine lv_if_ne (tgt := 377) hx hb dL_law_362 (by decide) (fun _ => ?_) (fun c_362 => ?_)
  · refine lv_goto (tgt := 1117) hx hb dL_law_377 (by decide) ?_
    exact kk b' u' fl' _ _ ls hI2 hP hD hS (lv_sub hl [2, 3, 4, 5, 6] rfl)
  · have hrr := hrr c_362
    refine lv_aload_n hx hb dL_law_365 rfl (lv_at hl 5 rfl) ?_
    refine lv_iconst (v := 0) hx hb dL_law_366 (by decide) ?_
    refine va_lald hx hb hK.1 hP 6 3 rfl rfl (vp_in_nI (n := 0) (N := 1) (by decide) (by decide)) dL_law_367 ?_
    refine lv_iload hx hb dL_law_368 (lv_at hl 0 rfl) ?_
    refine lv_i2l (v := r.toInt64) hx hb dL_law_370 rfl ?_
    refine W.lcmp hx hb dL_law_371 ?_
    refine lv_if_eq (tgt := 377) hx hb dL_law_372 (by decide) (fun _ => ?_) (fun c_372 => absurd (cmp0 hrr) c_372)
    refine lv_goto (tgt := 1117) hx hb dL_law_377 (by decide) ?_
    exact kk b' u' fl' _ _ ls hI2 hP hD hS (lv_sub hl [2, 3, 4, 5, 6] rfl)

set_option maxHeartbeats 1000000 in
set_option maxRecDepth 100000 in
theorem lc_close {p : Program} {e : Env} {s : State} {m : MethodId} {below : List Frame} {meth : Method} {c : Code} {l : Launch} {sb L : Nat} {xs : Nat → Int32} {G : Gt} {Q : State → Prop} {Inv : BT → MT → Prop} {H : Heap} {locs : List Loc} {ls : Array Slot} {cells slots : Nat} {xi : Int32} {i k n : Nat} {mo ce gv dr go sa ou bx bd bo bs bk : Nat} {ca wa : Nat → Nat} {u : MT} {fl : Nat → Int64} {b : BT} (C : LC p l s m c sb L xs G) (hst : St_close Inv) (hI : Inv b u) (est : bst b = nI k) (hk30 : k ≤ 30) (esk : bsk b = nI n) (hn6 : n ≤ 6) (mest : mst u = nI k) (mesk : msk u = nI n) (exi : xi = nI i) (hi3 : i + 3 ≤ L) (hL : L ≤ 1536) (hce : cells + 1 ≤ 640935) (hsl : slots + 6 ≤ 7173298)
    (hP : va_P G.1 vwCl (mw G mo ce gv dr go sa u ++ (ow G ou fl ++ bw G bx bd bo bs bk ca wa b)) H) (hD : va_D (fun q : Nat => s.heap.size ≤ q) (mw G mo ce gv dr go sa u ++ (ow G ou fl ++ bw G bx bd bo bs bk ca wa b))) (hS : va_S (fun q : Nat => s.heap.size ≤ q) s.heap H locs) (hl : lv_has ls 7 [(0, .ref sb), (1, .ref bx), (2, .ref mo), (3, .ref ou), (4, .int xi)])
    (kk : ∀ (b' : BT) (u' : MT) (fl' : Nat → Int64) (H : Heap) (locs : List Loc) (ls : Array Slot), Inv b' u' → va_P G.1 vwCl (mw G mo ce gv dr go sa u' ++ (ow G ou fl' ++ bw G bx bd bo bs bk ca wa b')) H → va_D (fun q : Nat => s.heap.size ≤ q) (mw G mo ce gv dr go sa u' ++ (ow G ou fl' ++ bw G bx bd bo bs bk ca wa b')) → va_S (fun q : Nat => s.heap.size ≤ q) s.heap H locs → lv_has ls 7 [(0, .ref sb), (1, .ref bx), (2, .ref mo), (3, .ref ou), (4, .int xi)] → W p l e room_1 s m #[Value.ref sb] below meth c H locs (cells + 1) (slots + 6) Q (F0 m 1117 ls [])) : W p l e room_1 s m #[Value.ref sb] below meth c H locs cells slots Q (F0 m 380 ls []) := by
  obtain ⟨hx, hb, hml, hown, hts, hX, hbl, hK, hxw, hzz, hlt⟩ := C
  have hbA : ¬ (fun q : Nat => s.heap.size ≤ q) sb := Nat.not_le.mpr hbl
  obtain ⟨u', r, hq⟩ : ∃ u' r, Q_close (xs (i + 1)) (xs (i + 2)) k n u u' r := by unfold Q_close; exact ⟨_, _, rfl, rfl⟩
  obtain ⟨cd, b', fl', hp, hcd, hrr, hI2⟩ := hst k n b u fl (xs (i + 1)) (xs (i + 2)) u' r hI est hk30 esk hn6 mest mesk hq
  refine lv_aload_n hx hb dL_law_380 rfl (lv_at hl 1 rfl) ?_
  refine lv_aload_n hx hb dL_law_381 rfl (lv_at hl 0 rfl) ?_
  refine lv_iload hx hb dL_law_382 (lv_at hl 4 rfl) ?_
  refine lv_iconst (v := 1) hx hb dL_law_384 (by decide) ?_
  refine lv_iadd hx hb dL_law_385 ?_
  refine ra_sld hx hb hX hbl hbA hS (v := i + 1) (na_add exi (by decide)) (by omega) (by omega) dL_law_386 ?_
  refine lv_aload_n hx hb dL_law_387 rfl (lv_at hl 0 rfl) ?_
  refine lv_iload hx hb dL_law_388 (lv_at hl 4 rfl) ?_
  refine lv_iconst (v := 2) hx hb dL_law_390 (by decide) ?_
  refine lv_iadd hx hb dL_law_391 ?_
  refine ra_sld hx hb hX hbl hbA hS (v := i + 2) (na_add exi (by decide)) (by omega) (by omega) dL_law_392 ?_
  refine lv_aload_n hx hb dL_law_393 rfl (lv_at hl 3 rfl) ?_
  have hF := sr_F hD hS (fun _ h => h)
  refine mu_call (vx_runSW (As := [.ref bx, .int (xs (i + 1)), .int (xs (i + 2)), .ref ou]) (rest := []) ⟨hx, hb, hml, hown, hts⟩ (c_L_close l hlt G _ ou fl fl' bx bd bo bs bk ca wa b b' (xs (i + 1)) (xs (i + 2)) cd k n est hk30 esk hn6 hp) (vx_cwSW 4 hts gL_law_L_close rfl rfl rfl (by decide +kernel) ⟨Nat.le_of_ble_eq_true rfl, Nat.le_of_ble_eq_true rfl⟩) ⟨tw_blind, tw_pre _ (sr_P hP) (sr_D hD) hK hxw ((hzz.kept hS.2.1).narrow hF)⟩ rfl rfl hl.1 rfl (lv_room (Nat.le_of_ble_eq_true rfl)) dL_law_394 ⟨hce, hsl⟩) hS hF hF (fun H1 locs hP1 hD1 hk1 hS => ?_)
  obtain ⟨hP, hD⟩ := sr_J hP hD hk1 hF hP1 hD1
  generalize H1 = H at hP hS ⊢
  refine lv_istore (lv' := [(5, .int cd), (0, .ref sb), (1, .ref bx), (2, .ref mo), (3, .ref ou), (4, .int xi)]) hx hb dL_law_397 hl (by decide) rfl (fun ls hl => ?_)
  refine lv_aload_n hx hb dL_law_399 rfl (lv_at hl 3 rfl) ?_
  refine lv_aload_n hx hb dL_law_400 rfl (lv_at hl 1 rfl) ?_
  refine lv_iload hx hb dL_law_401 (lv_at hl 5 rfl) ?_
  refine lv_iconst (v := 1) hx hb dL_law_403 (by decide) ?_
  refine lv_iadd hx hb dL_law_404 ?_
  refine ra_sld hx hb hX hbl hbA hS (v := i + 1) (na_add exi (by decide)) (by omega) (by omega) dL_law_405 ?_
  refine lv_aload_n hx hb dL_law_406 rfl (lv_at hl 1 rfl) ?_
  refine lv_iload hx hb dL_law_407 (lv_at hl 5 rfl) ?_
  refine lv_iconst (v := 2) hx hb dL_law_409 (by decide) ?_
  refine lv_iadd hx hb dL_law_410 ?_
  refine ra_sld hx hb hX hbl hbA hS (v := i + 2) (na_add exi (by decide)) (by omega) (by omega) dL_law_411 ?_
  have hF := sl_F hD hS (fun _ h => h)
  refine mu_call (va_runV (As := [.int (xs (i + 1)), .int (xs (i + 2))]) (rest := []) ⟨hx, hb, hml, hown, hts⟩ (m_close l G _ mo ce gv dr go sa u u' (xs (i + 1)) (xs (i + 2)) k n mest hk30 mesk hn6 r hq) (cwV 2 hts gL_law_X2_close rfl rfl rfl (by decide +kernel) ⟨Nat.le_of_ble_eq_true rfl, Nat.le_of_ble_eq_true rfl⟩) ⟨mu_blind, va_recv hK.1 hP (ci := 2) (q0 := 0) rfl rfl, mu_pre _ (sl_P hP) (sl_D hD) hK⟩ rfl rfl hl.1 rfl (lv_room (Nat.le_of_ble_eq_true rfl)) dL_law_412 ⟨hce, hsl⟩) hS hF hF (fun H1 locs hP1 hD1 hk1 hS => ?_)
  obtain ⟨hP, hD⟩ := sl_J hP hD hk1 hF hP1 hD1
  generalize H1 = H at hP hS ⊢
  refine lv_istore (lv' := [(6, .int r), (5, .int cd), (0, .ref sb), (1, .ref bx), (2, .ref mo), (3, .ref ou), (4, .int xi)]) hx hb dL_law_415 hl (by decide) rfl (fun ls hl => ?_)
  refine lv_aload_n hx hb dL_law_417 rfl (lv_at hl 4 rfl) ?_
  refine ro_call (va_runV (As := []) (rest := []) ⟨hx, hb, hml, hown, hts⟩ (c_X2_thrown l G mo ce gv dr go sa (mth u') (mst u') (msk u') (mtk u') (mbe u') (mso u') (mle u') (man u') (mfc u') (mfg u') (mfd u') (mfo u') (mfs u')) (cwV 0 hts gL_law_X2_thrown rfl rfl rfl (by decide +kernel) ⟨Nat.le_of_ble_eq_true rfl, Nat.le_of_ble_eq_true rfl⟩) ⟨ro_blind, va_recv hK.1 hP (ci := 2) (q0 := 0) rfl rfl, ro_pre _ (sl_P hP) hK⟩ rfl rfl hl.1 rfl (lv_room (Nat.le_of_ble_eq_true rfl)) dL_law_418 ⟨hce, hsl⟩) ?_
  refine lv_iload hx hb dL_law_421 (lv_at hl 1 rfl) ?_
  refine lv_icmp_eq (tgt := 428) hx hb dL_law_423 (by decide) (fun _ => ?_) (fun c_423 => absurd hcd c_423)
  refine lv_iload hx hb dL_law_428 (lv_at hl 1 rfl) ?_
  refine lv_if_ne (tgt := 445) hx hb dL_law_430 (by decide) (fun _ => ?_) (fun c_430 => ?_)
  · refine lv_goto (tgt := 1117) hx hb dL_law_445 (by decide) ?_
    exact kk b' u' fl' _ _ ls hI2 hP hD hS (lv_sub hl [2, 3, 4, 5, 6] rfl)
  · have hrr := hrr c_430
    refine lv_aload_n hx hb dL_law_433 rfl (lv_at hl 5 rfl) ?_
    refine lv_iconst (v := 0) hx hb dL_law_434 (by decide) ?_
    refine va_lald hx hb hK.1 hP 6 3 rfl rfl (vp_in_nI (n := 0) (N := 1) (by decide) (by decide)) dL_law_435 ?_
    refine lv_iload hx hb dL_law_436 (lv_at hl 0 rfl) ?_
    refine lv_i2l (v := r.toInt64) hx hb dL_law_438 rfl ?_
    refine W.lcmp hx hb dL_law_439 ?_
    refine lv_if_eq (tgt := 445) hx hb dL_law_440 (by decide) (fun _ => ?_) (fun c_440 => absurd (cmp0 hrr) c_440)
    refine lv_goto (tgt := 1117) hx hb dL_law_445 (by decide) ?_
    exact kk b' u' fl' _ _ ls hI2 hP hD hS (lv_sub hl [2, 3, 4, 5, 6] rfl)

set_option maxHeartbeats 1000000 in
set_option maxRecDepth 100000 in
theorem lc_load {p : Program} {e : Env} {s : State} {m : MethodId} {below : List Frame} {meth : Method} {c : Code} {l : Launch} {sb L : Nat} {xs : Nat → Int32} {G : Gt} {Q : State → Prop} {Inv : BT → MT → Prop} {H : Heap} {locs : List Loc} {ls : Array Slot} {cells slots : Nat} {xi : Int32} {i k n : Nat} {mo ce gv dr go sa ou bx bd bo bs bk : Nat} {ca wa : Nat → Nat} {u : MT} {fl : Nat → Int64} {b : BT} (C : LC p l s m c sb L xs G) (hst : St_load Inv) (hI : Inv b u) (est : bst b = nI k) (hk30 : k ≤ 30) (esk : bsk b = nI n) (hn6 : n ≤ 6) (mest : mst u = nI k) (mesk : msk u = nI n) (exi : xi = nI i) (hi3 : i + 3 ≤ L) (hL : L ≤ 1536) (hce : cells + 1 ≤ 640935) (hsl : slots + 6 ≤ 7173298)
    (hP : va_P G.1 vwCl (mw G mo ce gv dr go sa u ++ (ow G ou fl ++ bw G bx bd bo bs bk ca wa b)) H) (hD : va_D (fun q : Nat => s.heap.size ≤ q) (mw G mo ce gv dr go sa u ++ (ow G ou fl ++ bw G bx bd bo bs bk ca wa b))) (hS : va_S (fun q : Nat => s.heap.size ≤ q) s.heap H locs) (hl : lv_has ls 7 [(0, .ref sb), (1, .ref bx), (2, .ref mo), (3, .ref ou), (4, .int xi)])
    (kk : ∀ (b' : BT) (u' : MT) (fl' : Nat → Int64) (H : Heap) (locs : List Loc) (ls : Array Slot), Inv b' u' → va_P G.1 vwCl (mw G mo ce gv dr go sa u' ++ (ow G ou fl' ++ bw G bx bd bo bs bk ca wa b')) H → va_D (fun q : Nat => s.heap.size ≤ q) (mw G mo ce gv dr go sa u' ++ (ow G ou fl' ++ bw G bx bd bo bs bk ca wa b')) → va_S (fun q : Nat => s.heap.size ≤ q) s.heap H locs → lv_has ls 7 [(0, .ref sb), (1, .ref bx), (2, .ref mo), (3, .ref ou), (4, .int xi)] → W p l e room_1 s m #[Value.ref sb] below meth c H locs (cells + 1) (slots + 6) Q (F0 m 1117 ls [])) : W p l e room_1 s m #[Value.ref sb] below meth c H locs cells slots Q (F0 m 448 ls []) := by
  obtain ⟨hx, hb, hml, hown, hts, hX, hbl, hK, hxw, hzz, hlt⟩ := C
  have hbA : ¬ (fun q : Nat => s.heap.size ≤ q) sb := Nat.not_le.mpr hbl
  obtain ⟨u', hq⟩ : ∃ u', Q_load (xs (i + 1)) k n u u' := by unfold Q_load; exact ⟨_, rfl⟩
  obtain ⟨cd, b', fl', hp, hcd, hI2⟩ := hst k n b u fl (xs (i + 1)) u' hI est hk30 esk hn6 mest mesk hq
  refine lv_aload_n hx hb dL_law_448 rfl (lv_at hl 1 rfl) ?_
  refine lv_aload_n hx hb dL_law_449 rfl (lv_at hl 0 rfl) ?_
  refine lv_iload hx hb dL_law_450 (lv_at hl 4 rfl) ?_
  refine lv_iconst (v := 1) hx hb dL_law_452 (by decide) ?_
  refine lv_iadd hx hb dL_law_453 ?_
  refine ra_sld hx hb hX hbl hbA hS (v := i + 1) (na_add exi (by decide)) (by omega) (by omega) dL_law_454 ?_
  have hF := sr_F hD hS (fun _ h => h)
  refine mu_call (vx_runSW (As := [.ref bx, .int (xs (i + 1))]) (rest := []) ⟨hx, hb, hml, hown, hts⟩ (c_L_load l hlt G _ ou fl fl' bx bd bo bs bk ca wa b b' (xs (i + 1)) cd k n est hk30 esk hn6 hp) (vx_cwSW 2 hts gL_law_L_load rfl rfl rfl (by decide +kernel) ⟨Nat.le_of_ble_eq_true rfl, Nat.le_of_ble_eq_true rfl⟩) ⟨tw_blind, tw_pre _ (sr_P hP) (sr_D hD) hK hxw ((hzz.kept hS.2.1).narrow hF)⟩ rfl rfl hl.1 rfl (lv_room (Nat.le_of_ble_eq_true rfl)) dL_law_455 ⟨hce, hsl⟩) hS hF hF (fun H1 locs hP1 hD1 hk1 hS => ?_)
  obtain ⟨hP, hD⟩ := sr_J hP hD hk1 hF hP1 hD1
  generalize H1 = H at hP hS ⊢
  refine lv_istore (lv' := [(5, .int cd), (0, .ref sb), (1, .ref bx), (2, .ref mo), (3, .ref ou), (4, .int xi)]) hx hb dL_law_458 hl (by decide) rfl (fun ls hl => ?_)
  refine lv_aload_n hx hb dL_law_460 rfl (lv_at hl 3 rfl) ?_
  refine lv_aload_n hx hb dL_law_461 rfl (lv_at hl 1 rfl) ?_
  refine lv_iload hx hb dL_law_462 (lv_at hl 5 rfl) ?_
  refine lv_iconst (v := 1) hx hb dL_law_464 (by decide) ?_
  refine lv_iadd hx hb dL_law_465 ?_
  refine ra_sld hx hb hX hbl hbA hS (v := i + 1) (na_add exi (by decide)) (by omega) (by omega) dL_law_466 ?_
  have hF := sl_F hD hS (fun _ h => h)
  refine mu_call (va_runV (As := [.int (xs (i + 1))]) (rest := []) ⟨hx, hb, hml, hown, hts⟩ (m_load l G _ mo ce gv dr go sa u u' (xs (i + 1)) k n mest hk30 mesk hn6 hq) (cwV 1 hts gL_law_X2_load rfl rfl rfl (by decide +kernel) ⟨Nat.le_of_ble_eq_true rfl, Nat.le_of_ble_eq_true rfl⟩) ⟨mu_blind, va_recv hK.1 hP (ci := 2) (q0 := 0) rfl rfl, mu_pre _ (sl_P hP) (sl_D hD) hK⟩ rfl rfl hl.1 rfl (lv_room (Nat.le_of_ble_eq_true rfl)) dL_law_467 ⟨hce, hsl⟩) hS hF hF (fun H1 locs hP1 hD1 hk1 hS => ?_)
  obtain ⟨hP, hD⟩ := sl_J hP hD hk1 hF hP1 hD1
  generalize H1 = H at hP hS ⊢
  refine lv_aload_n hx hb dL_law_470 rfl (lv_at hl 3 rfl) ?_
  refine ro_call (va_runV (As := []) (rest := []) ⟨hx, hb, hml, hown, hts⟩ (c_X2_thrown l G mo ce gv dr go sa (mth u') (mst u') (msk u') (mtk u') (mbe u') (mso u') (mle u') (man u') (mfc u') (mfg u') (mfd u') (mfo u') (mfs u')) (cwV 0 hts gL_law_X2_thrown rfl rfl rfl (by decide +kernel) ⟨Nat.le_of_ble_eq_true rfl, Nat.le_of_ble_eq_true rfl⟩) ⟨ro_blind, va_recv hK.1 hP (ci := 2) (q0 := 0) rfl rfl, ro_pre _ (sl_P hP) hK⟩ rfl rfl hl.1 rfl (lv_room (Nat.le_of_ble_eq_true rfl)) dL_law_471 ⟨hce, hsl⟩) ?_
  refine lv_iload hx hb dL_law_474 (lv_at hl 0 rfl) ?_
  refine lv_icmp_eq (tgt := 481) hx hb dL_law_476 (by decide) (fun _ => ?_) (fun c_476 => absurd hcd c_476)
  refine lv_goto (tgt := 1117) hx hb dL_law_481 (by decide) ?_
  exact kk b' u' fl' _ _ ls hI2 hP hD hS (lv_sub hl [1, 2, 3, 4, 5] rfl)

set_option maxHeartbeats 1000000 in
set_option maxRecDepth 100000 in
theorem lc_axiom {p : Program} {e : Env} {s : State} {m : MethodId} {below : List Frame} {meth : Method} {c : Code} {l : Launch} {sb L : Nat} {xs : Nat → Int32} {G : Gt} {Q : State → Prop} {Inv : BT → MT → Prop} {H : Heap} {locs : List Loc} {ls : Array Slot} {cells slots : Nat} {xi : Int32} {i k n : Nat} {mo ce gv dr go sa ou bx bd bo bs bk : Nat} {ca wa : Nat → Nat} {u : MT} {fl : Nat → Int64} {b : BT} (C : LC p l s m c sb L xs G) (hst : St_axiom Inv) (hI : Inv b u) (est : bst b = nI k) (hk30 : k ≤ 30) (esk : bsk b = nI n) (hn6 : n ≤ 6) (mest : mst u = nI k) (mesk : msk u = nI n) (exi : xi = nI i) (hi3 : i + 3 ≤ L) (hL : L ≤ 1536) (hce : cells + 1 ≤ 640935) (hsl : slots + 6 ≤ 7173298)
    (hP : va_P G.1 vwCl (mw G mo ce gv dr go sa u ++ (ow G ou fl ++ bw G bx bd bo bs bk ca wa b)) H) (hD : va_D (fun q : Nat => s.heap.size ≤ q) (mw G mo ce gv dr go sa u ++ (ow G ou fl ++ bw G bx bd bo bs bk ca wa b))) (hS : va_S (fun q : Nat => s.heap.size ≤ q) s.heap H locs) (hl : lv_has ls 7 [(0, .ref sb), (1, .ref bx), (2, .ref mo), (3, .ref ou), (4, .int xi)])
    (kk : ∀ (b' : BT) (u' : MT) (fl' : Nat → Int64) (H : Heap) (locs : List Loc) (ls : Array Slot), Inv b' u' → va_P G.1 vwCl (mw G mo ce gv dr go sa u' ++ (ow G ou fl' ++ bw G bx bd bo bs bk ca wa b')) H → va_D (fun q : Nat => s.heap.size ≤ q) (mw G mo ce gv dr go sa u' ++ (ow G ou fl' ++ bw G bx bd bo bs bk ca wa b')) → va_S (fun q : Nat => s.heap.size ≤ q) s.heap H locs → lv_has ls 7 [(0, .ref sb), (1, .ref bx), (2, .ref mo), (3, .ref ou), (4, .int xi)] → W p l e room_1 s m #[Value.ref sb] below meth c H locs (cells + 1) (slots + 6) Q (F0 m 1117 ls [])) : W p l e room_1 s m #[Value.ref sb] below meth c H locs cells slots Q (F0 m 484 ls []) := by
  obtain ⟨hx, hb, hml, hown, hts, hX, hbl, hK, hxw, hzz, hlt⟩ := C
  have hbA : ¬ (fun q : Nat => s.heap.size ≤ q) sb := Nat.not_le.mpr hbl
  refine lv_aload_n hx hb dL_law_484 rfl (lv_at hl 1 rfl) ?_
  refine lv_aload_n hx hb dL_law_485 rfl (lv_at hl 0 rfl) ?_
  refine lv_iload hx hb dL_law_486 (lv_at hl 4 rfl) ?_
  refine lv_iconst (v := 1) hx hb dL_law_488 (by decide) ?_
  refine lv_iadd hx hb dL_law_489 ?_
  refine ra_sld hx hb hX hbl hbA hS (v := i + 1) (na_add exi (by decide)) (by omega) (by omega) dL_law_490 ?_
  refine lv_aload_n hx hb dL_law_491 rfl (lv_at hl 0 rfl) ?_
  refine lv_iload hx hb dL_law_492 (lv_at hl 4 rfl) ?_
  refine lv_iconst (v := 2) hx hb dL_law_494 (by decide) ?_
  refine lv_iadd hx hb dL_law_495 ?_
  refine ra_sld hx hb hX hbl hbA hS (v := i + 2) (na_add exi (by decide)) (by omega) (by omega) dL_law_496 ?_
  refine lv_if_eq (tgt := 504) hx hb dL_law_497 (by decide) (fun c_497 => ?_) (fun c_497 => ?_)
  · obtain ⟨u', hq⟩ : ∃ u', Q_axiom (xs (i + 1)) 0 k n u u' := by unfold Q_axiom; exact ⟨_, rfl⟩
    obtain ⟨cd, b', fl', hp, hcd, hI2⟩ := hst k n b u fl (xs (i + 1)) 0 u' hI est hk30 esk hn6 mest mesk hq
    refine lv_iconst (v := 0) hx hb dL_law_504 (by decide) ?_
    have hF := sr_F hD hS (fun _ h => h)
    refine mu_call (vx_runSW (As := [.ref bx, .int (xs (i + 1)), .int 0]) (rest := []) ⟨hx, hb, hml, hown, hts⟩ (c_L_axiom l hlt G _ ou fl fl' bx bd bo bs bk ca wa b b' (xs (i + 1)) 0 cd k n est hk30 esk hn6 hp) (vx_cwSW 3 hts gL_law_L_axiom rfl rfl rfl (by decide +kernel) ⟨Nat.le_of_ble_eq_true rfl, Nat.le_of_ble_eq_true rfl⟩) ⟨tw_blind, tw_pre _ (sr_P hP) (sr_D hD) hK hxw ((hzz.kept hS.2.1).narrow hF)⟩ rfl rfl hl.1 rfl (lv_room (Nat.le_of_ble_eq_true rfl)) dL_law_505 ⟨hce, hsl⟩) hS hF hF (fun H1 locs hP1 hD1 hk1 hS => ?_)
    obtain ⟨hP, hD⟩ := sr_J hP hD hk1 hF hP1 hD1
    generalize H1 = H at hP hS ⊢
    refine lv_istore (lv' := [(5, .int cd), (0, .ref sb), (1, .ref bx), (2, .ref mo), (3, .ref ou), (4, .int xi)]) hx hb dL_law_508 hl (by decide) rfl (fun ls hl => ?_)
    refine lv_aload_n hx hb dL_law_510 rfl (lv_at hl 3 rfl) ?_
    refine lv_aload_n hx hb dL_law_511 rfl (lv_at hl 1 rfl) ?_
    refine lv_iload hx hb dL_law_512 (lv_at hl 5 rfl) ?_
    refine lv_iconst (v := 1) hx hb dL_law_514 (by decide) ?_
    refine lv_iadd hx hb dL_law_515 ?_
    refine ra_sld hx hb hX hbl hbA hS (v := i + 1) (na_add exi (by decide)) (by omega) (by omega) dL_law_516 ?_
    refine lv_aload_n hx hb dL_law_517 rfl (lv_at hl 1 rfl) ?_
    refine lv_iload hx hb dL_law_518 (lv_at hl 5 rfl) ?_
    refine lv_iconst (v := 2) hx hb dL_law_520 (by decide) ?_
    refine lv_iadd hx hb dL_law_521 ?_
    refine ra_sld hx hb hX hbl hbA hS (v := i + 2) (na_add exi (by decide)) (by omega) (by omega) dL_law_522 ?_
    refine lv_if_eq (tgt := 530) hx hb dL_law_523 (by decide) (fun c_523 => ?_) (fun c_523 => ?_)
    · refine lv_iconst (v := 0) hx hb dL_law_530 (by decide) ?_
      have hF := sl_F hD hS (fun _ h => h)
      refine mu_call (va_runV (As := [.int (xs (i + 1)), .int 0]) (rest := []) ⟨hx, hb, hml, hown, hts⟩ (m_axiom l G _ mo ce gv dr go sa u u' (xs (i + 1)) 0 k n mest hk30 mesk hn6 hq) (cwV 2 hts gL_law_X2_axiom rfl rfl rfl (by decide +kernel) ⟨Nat.le_of_ble_eq_true rfl, Nat.le_of_ble_eq_true rfl⟩) ⟨mu_blind, va_recv hK.1 hP (ci := 2) (q0 := 0) rfl rfl, mu_pre _ (sl_P hP) (sl_D hD) hK⟩ rfl rfl hl.1 rfl (lv_room (Nat.le_of_ble_eq_true rfl)) dL_law_531 ⟨hce, hsl⟩) hS hF hF (fun H1 locs hP1 hD1 hk1 hS => ?_)
      obtain ⟨hP, hD⟩ := sl_J hP hD hk1 hF hP1 hD1
      generalize H1 = H at hP hS ⊢
      refine lv_aload_n hx hb dL_law_534 rfl (lv_at hl 3 rfl) ?_
      refine ro_call (va_runV (As := []) (rest := []) ⟨hx, hb, hml, hown, hts⟩ (c_X2_thrown l G mo ce gv dr go sa (mth u') (mst u') (msk u') (mtk u') (mbe u') (mso u') (mle u') (man u') (mfc u') (mfg u') (mfd u') (mfo u') (mfs u')) (cwV 0 hts gL_law_X2_thrown rfl rfl rfl (by decide +kernel) ⟨Nat.le_of_ble_eq_true rfl, Nat.le_of_ble_eq_true rfl⟩) ⟨ro_blind, va_recv hK.1 hP (ci := 2) (q0 := 0) rfl rfl, ro_pre _ (sl_P hP) hK⟩ rfl rfl hl.1 rfl (lv_room (Nat.le_of_ble_eq_true rfl)) dL_law_535 ⟨hce, hsl⟩) ?_
      refine lv_iload hx hb dL_law_538 (lv_at hl 0 rfl) ?_
      refine lv_icmp_eq (tgt := 545) hx hb dL_law_540 (by decide) (fun _ => ?_) (fun c_540 => absurd hcd c_540)
      refine lv_goto (tgt := 1117) hx hb dL_law_545 (by decide) ?_
      exact kk b' u' fl' _ _ ls hI2 hP hD hS (lv_sub hl [1, 2, 3, 4, 5] rfl)
    · exact absurd c_497 c_523
  · obtain ⟨u', hq⟩ : ∃ u', Q_axiom (xs (i + 1)) 1 k n u u' := by unfold Q_axiom; exact ⟨_, rfl⟩
    obtain ⟨cd, b', fl', hp, hcd, hI2⟩ := hst k n b u fl (xs (i + 1)) 1 u' hI est hk30 esk hn6 mest mesk hq
    refine lv_iconst (v := 1) hx hb dL_law_500 (by decide) ?_
    refine lv_goto (tgt := 505) hx hb dL_law_501 (by decide) ?_
    have hF := sr_F hD hS (fun _ h => h)
    refine mu_call (vx_runSW (As := [.ref bx, .int (xs (i + 1)), .int 1]) (rest := []) ⟨hx, hb, hml, hown, hts⟩ (c_L_axiom l hlt G _ ou fl fl' bx bd bo bs bk ca wa b b' (xs (i + 1)) 1 cd k n est hk30 esk hn6 hp) (vx_cwSW 3 hts gL_law_L_axiom rfl rfl rfl (by decide +kernel) ⟨Nat.le_of_ble_eq_true rfl, Nat.le_of_ble_eq_true rfl⟩) ⟨tw_blind, tw_pre _ (sr_P hP) (sr_D hD) hK hxw ((hzz.kept hS.2.1).narrow hF)⟩ rfl rfl hl.1 rfl (lv_room (Nat.le_of_ble_eq_true rfl)) dL_law_505 ⟨hce, hsl⟩) hS hF hF (fun H1 locs hP1 hD1 hk1 hS => ?_)
    obtain ⟨hP, hD⟩ := sr_J hP hD hk1 hF hP1 hD1
    generalize H1 = H at hP hS ⊢
    refine lv_istore (lv' := [(5, .int cd), (0, .ref sb), (1, .ref bx), (2, .ref mo), (3, .ref ou), (4, .int xi)]) hx hb dL_law_508 hl (by decide) rfl (fun ls hl => ?_)
    refine lv_aload_n hx hb dL_law_510 rfl (lv_at hl 3 rfl) ?_
    refine lv_aload_n hx hb dL_law_511 rfl (lv_at hl 1 rfl) ?_
    refine lv_iload hx hb dL_law_512 (lv_at hl 5 rfl) ?_
    refine lv_iconst (v := 1) hx hb dL_law_514 (by decide) ?_
    refine lv_iadd hx hb dL_law_515 ?_
    refine ra_sld hx hb hX hbl hbA hS (v := i + 1) (na_add exi (by decide)) (by omega) (by omega) dL_law_516 ?_
    refine lv_aload_n hx hb dL_law_517 rfl (lv_at hl 1 rfl) ?_
    refine lv_iload hx hb dL_law_518 (lv_at hl 5 rfl) ?_
    refine lv_iconst (v := 2) hx hb dL_law_520 (by decide) ?_
    refine lv_iadd hx hb dL_law_521 ?_
    refine ra_sld hx hb hX hbl hbA hS (v := i + 2) (na_add exi (by decide)) (by omega) (by omega) dL_law_522 ?_
    refine lv_if_eq (tgt := 530) hx hb dL_law_523 (by decide) (fun c_523 => ?_) (fun c_523 => ?_)
    · exact absurd c_523 c_497
    · refine lv_iconst (v := 1) hx hb dL_law_526 (by decide) ?_
      refine lv_goto (tgt := 531) hx hb dL_law_527 (by decide) ?_
      have hF := sl_F hD hS (fun _ h => h)
      refine mu_call (va_runV (As := [.int (xs (i + 1)), .int 1]) (rest := []) ⟨hx, hb, hml, hown, hts⟩ (m_axiom l G _ mo ce gv dr go sa u u' (xs (i + 1)) 1 k n mest hk30 mesk hn6 hq) (cwV 2 hts gL_law_X2_axiom rfl rfl rfl (by decide +kernel) ⟨Nat.le_of_ble_eq_true rfl, Nat.le_of_ble_eq_true rfl⟩) ⟨mu_blind, va_recv hK.1 hP (ci := 2) (q0 := 0) rfl rfl, mu_pre _ (sl_P hP) (sl_D hD) hK⟩ rfl rfl hl.1 rfl (lv_room (Nat.le_of_ble_eq_true rfl)) dL_law_531 ⟨hce, hsl⟩) hS hF hF (fun H1 locs hP1 hD1 hk1 hS => ?_)
      obtain ⟨hP, hD⟩ := sl_J hP hD hk1 hF hP1 hD1
      generalize H1 = H at hP hS ⊢
      refine lv_aload_n hx hb dL_law_534 rfl (lv_at hl 3 rfl) ?_
      refine ro_call (va_runV (As := []) (rest := []) ⟨hx, hb, hml, hown, hts⟩ (c_X2_thrown l G mo ce gv dr go sa (mth u') (mst u') (msk u') (mtk u') (mbe u') (mso u') (mle u') (man u') (mfc u') (mfg u') (mfd u') (mfo u') (mfs u')) (cwV 0 hts gL_law_X2_thrown rfl rfl rfl (by decide +kernel) ⟨Nat.le_of_ble_eq_true rfl, Nat.le_of_ble_eq_true rfl⟩) ⟨ro_blind, va_recv hK.1 hP (ci := 2) (q0 := 0) rfl rfl, ro_pre _ (sl_P hP) hK⟩ rfl rfl hl.1 rfl (lv_room (Nat.le_of_ble_eq_true rfl)) dL_law_535 ⟨hce, hsl⟩) ?_
      refine lv_iload hx hb dL_law_538 (lv_at hl 0 rfl) ?_
      refine lv_icmp_eq (tgt := 545) hx hb dL_law_540 (by decide) (fun _ => ?_) (fun c_540 => absurd hcd c_540)
      refine lv_goto (tgt := 1117) hx hb dL_law_545 (by decide) ?_
      exact kk b' u' fl' _ _ ls hI2 hP hD hS (lv_sub hl [1, 2, 3, 4, 5] rfl)

set_option maxHeartbeats 1000000 in
set_option maxRecDepth 100000 in
theorem lc_add {p : Program} {e : Env} {s : State} {m : MethodId} {below : List Frame} {meth : Method} {c : Code} {l : Launch} {sb L : Nat} {xs : Nat → Int32} {G : Gt} {Q : State → Prop} {Inv : BT → MT → Prop} {H : Heap} {locs : List Loc} {ls : Array Slot} {cells slots : Nat} {xi : Int32} {i k n : Nat} {mo ce gv dr go sa ou bx bd bo bs bk : Nat} {ca wa : Nat → Nat} {u : MT} {fl : Nat → Int64} {b : BT} (C : LC p l s m c sb L xs G) (hst : St_add Inv) (hI : Inv b u) (est : bst b = nI k) (hk30 : k ≤ 30) (esk : bsk b = nI n) (hn6 : n ≤ 6) (mest : mst u = nI k) (mesk : msk u = nI n) (exi : xi = nI i) (hi3 : i + 3 ≤ L) (hL : L ≤ 1536) (hce : cells + 1 ≤ 640935) (hsl : slots + 6 ≤ 7173298)
    (hP : va_P G.1 vwCl (mw G mo ce gv dr go sa u ++ (ow G ou fl ++ bw G bx bd bo bs bk ca wa b)) H) (hD : va_D (fun q : Nat => s.heap.size ≤ q) (mw G mo ce gv dr go sa u ++ (ow G ou fl ++ bw G bx bd bo bs bk ca wa b))) (hS : va_S (fun q : Nat => s.heap.size ≤ q) s.heap H locs) (hl : lv_has ls 7 [(0, .ref sb), (1, .ref bx), (2, .ref mo), (3, .ref ou), (4, .int xi)])
    (kk : ∀ (b' : BT) (u' : MT) (fl' : Nat → Int64) (H : Heap) (locs : List Loc) (ls : Array Slot), Inv b' u' → va_P G.1 vwCl (mw G mo ce gv dr go sa u' ++ (ow G ou fl' ++ bw G bx bd bo bs bk ca wa b')) H → va_D (fun q : Nat => s.heap.size ≤ q) (mw G mo ce gv dr go sa u' ++ (ow G ou fl' ++ bw G bx bd bo bs bk ca wa b')) → va_S (fun q : Nat => s.heap.size ≤ q) s.heap H locs → lv_has ls 7 [(0, .ref sb), (1, .ref bx), (2, .ref mo), (3, .ref ou), (4, .int xi)] → W p l e room_1 s m #[Value.ref sb] below meth c H locs (cells + 1) (slots + 6) Q (F0 m 1117 ls [])) : W p l e room_1 s m #[Value.ref sb] below meth c H locs cells slots Q (F0 m 548 ls []) := by
  obtain ⟨hx, hb, hml, hown, hts, hX, hbl, hK, hxw, hzz, hlt⟩ := C
  have hbA : ¬ (fun q : Nat => s.heap.size ≤ q) sb := Nat.not_le.mpr hbl
  obtain ⟨u', hq⟩ : ∃ u', Q_add  k n u u' := by unfold Q_add; exact ⟨_, rfl⟩
  obtain ⟨cd, b', fl', hp, hcd, hI2⟩ := hst k n b u fl  u' hI est hk30 esk hn6 mest mesk hq
  refine lv_aload_n hx hb dL_law_548 rfl (lv_at hl 1 rfl) ?_
  have hF := sr_F hD hS (fun _ h => h)
  refine mu_call (vx_runSW (As := [.ref bx]) (rest := []) ⟨hx, hb, hml, hown, hts⟩ (c_L_add l hlt G _ ou fl fl' bx bd bo bs bk ca wa b b'  cd k n est hk30 esk hn6 hp) (vx_cwSW 1 hts gL_law_L_add rfl rfl rfl (by decide +kernel) ⟨Nat.le_of_ble_eq_true rfl, Nat.le_of_ble_eq_true rfl⟩) ⟨tw_blind, tw_pre _ (sr_P hP) (sr_D hD) hK hxw ((hzz.kept hS.2.1).narrow hF)⟩ rfl rfl hl.1 rfl (lv_room (Nat.le_of_ble_eq_true rfl)) dL_law_549 ⟨hce, hsl⟩) hS hF hF (fun H1 locs hP1 hD1 hk1 hS => ?_)
  obtain ⟨hP, hD⟩ := sr_J hP hD hk1 hF hP1 hD1
  generalize H1 = H at hP hS ⊢
  refine lv_istore (lv' := [(5, .int cd), (0, .ref sb), (1, .ref bx), (2, .ref mo), (3, .ref ou), (4, .int xi)]) hx hb dL_law_552 hl (by decide) rfl (fun ls hl => ?_)
  refine lv_aload_n hx hb dL_law_554 rfl (lv_at hl 3 rfl) ?_
  have hF := sl_F hD hS (fun _ h => h)
  refine mu_call (va_runV (As := []) (rest := []) ⟨hx, hb, hml, hown, hts⟩ (m_add l G _ mo ce gv dr go sa u u'  k n mest hk30 mesk hn6 hq) (cwV 0 hts gL_law_X2_add rfl rfl rfl (by decide +kernel) ⟨Nat.le_of_ble_eq_true rfl, Nat.le_of_ble_eq_true rfl⟩) ⟨mu_blind, va_recv hK.1 hP (ci := 2) (q0 := 0) rfl rfl, mu_pre _ (sl_P hP) (sl_D hD) hK⟩ rfl rfl hl.1 rfl (lv_room (Nat.le_of_ble_eq_true rfl)) dL_law_555 ⟨hce, hsl⟩) hS hF hF (fun H1 locs hP1 hD1 hk1 hS => ?_)
  obtain ⟨hP, hD⟩ := sl_J hP hD hk1 hF hP1 hD1
  generalize H1 = H at hP hS ⊢
  refine lv_aload_n hx hb dL_law_558 rfl (lv_at hl 3 rfl) ?_
  refine ro_call (va_runV (As := []) (rest := []) ⟨hx, hb, hml, hown, hts⟩ (c_X2_thrown l G mo ce gv dr go sa (mth u') (mst u') (msk u') (mtk u') (mbe u') (mso u') (mle u') (man u') (mfc u') (mfg u') (mfd u') (mfo u') (mfs u')) (cwV 0 hts gL_law_X2_thrown rfl rfl rfl (by decide +kernel) ⟨Nat.le_of_ble_eq_true rfl, Nat.le_of_ble_eq_true rfl⟩) ⟨ro_blind, va_recv hK.1 hP (ci := 2) (q0 := 0) rfl rfl, ro_pre _ (sl_P hP) hK⟩ rfl rfl hl.1 rfl (lv_room (Nat.le_of_ble_eq_true rfl)) dL_law_559 ⟨hce, hsl⟩) ?_
  refine lv_iload hx hb dL_law_562 (lv_at hl 0 rfl) ?_
  refine lv_icmp_eq (tgt := 569) hx hb dL_law_564 (by decide) (fun _ => ?_) (fun c_564 => absurd hcd c_564)
  refine lv_goto (tgt := 1117) hx hb dL_law_569 (by decide) ?_
  exact kk b' u' fl' _ _ ls hI2 hP hD hS (lv_sub hl [1, 2, 3, 4, 5] rfl)

set_option maxHeartbeats 1000000 in
set_option maxRecDepth 100000 in
theorem lc_times {p : Program} {e : Env} {s : State} {m : MethodId} {below : List Frame} {meth : Method} {c : Code} {l : Launch} {sb L : Nat} {xs : Nat → Int32} {G : Gt} {Q : State → Prop} {Inv : BT → MT → Prop} {H : Heap} {locs : List Loc} {ls : Array Slot} {cells slots : Nat} {xi : Int32} {i k n : Nat} {mo ce gv dr go sa ou bx bd bo bs bk : Nat} {ca wa : Nat → Nat} {u : MT} {fl : Nat → Int64} {b : BT} (C : LC p l s m c sb L xs G) (hst : St_times Inv) (hI : Inv b u) (est : bst b = nI k) (hk30 : k ≤ 30) (esk : bsk b = nI n) (hn6 : n ≤ 6) (mest : mst u = nI k) (mesk : msk u = nI n) (exi : xi = nI i) (hi3 : i + 3 ≤ L) (hL : L ≤ 1536) (hce : cells + 1 ≤ 640935) (hsl : slots + 6 ≤ 7173298)
    (hP : va_P G.1 vwCl (mw G mo ce gv dr go sa u ++ (ow G ou fl ++ bw G bx bd bo bs bk ca wa b)) H) (hD : va_D (fun q : Nat => s.heap.size ≤ q) (mw G mo ce gv dr go sa u ++ (ow G ou fl ++ bw G bx bd bo bs bk ca wa b))) (hS : va_S (fun q : Nat => s.heap.size ≤ q) s.heap H locs) (hl : lv_has ls 7 [(0, .ref sb), (1, .ref bx), (2, .ref mo), (3, .ref ou), (4, .int xi)])
    (kk : ∀ (b' : BT) (u' : MT) (fl' : Nat → Int64) (H : Heap) (locs : List Loc) (ls : Array Slot), Inv b' u' → va_P G.1 vwCl (mw G mo ce gv dr go sa u' ++ (ow G ou fl' ++ bw G bx bd bo bs bk ca wa b')) H → va_D (fun q : Nat => s.heap.size ≤ q) (mw G mo ce gv dr go sa u' ++ (ow G ou fl' ++ bw G bx bd bo bs bk ca wa b')) → va_S (fun q : Nat => s.heap.size ≤ q) s.heap H locs → lv_has ls 7 [(0, .ref sb), (1, .ref bx), (2, .ref mo), (3, .ref ou), (4, .int xi)] → W p l e room_1 s m #[Value.ref sb] below meth c H locs (cells + 1) (slots + 6) Q (F0 m 1117 ls [])) : W p l e room_1 s m #[Value.ref sb] below meth c H locs cells slots Q (F0 m 572 ls []) := by
  obtain ⟨hx, hb, hml, hown, hts, hX, hbl, hK, hxw, hzz, hlt⟩ := C
  have hbA : ¬ (fun q : Nat => s.heap.size ≤ q) sb := Nat.not_le.mpr hbl
  obtain ⟨u', hq⟩ : ∃ u', Q_times (xs (i + 1)) k n u u' := by unfold Q_times; exact ⟨_, rfl⟩
  obtain ⟨cd, b', fl', hp, hcd, hI2⟩ := hst k n b u fl (xs (i + 1)) u' hI est hk30 esk hn6 mest mesk hq
  refine lv_aload_n hx hb dL_law_572 rfl (lv_at hl 1 rfl) ?_
  refine lv_aload_n hx hb dL_law_573 rfl (lv_at hl 0 rfl) ?_
  refine lv_iload hx hb dL_law_574 (lv_at hl 4 rfl) ?_
  refine lv_iconst (v := 1) hx hb dL_law_576 (by decide) ?_
  refine lv_iadd hx hb dL_law_577 ?_
  refine ra_sld hx hb hX hbl hbA hS (v := i + 1) (na_add exi (by decide)) (by omega) (by omega) dL_law_578 ?_
  have hF := sr_F hD hS (fun _ h => h)
  refine mu_call (vx_runSW (As := [.ref bx, .int (xs (i + 1))]) (rest := []) ⟨hx, hb, hml, hown, hts⟩ (c_L_times l hlt G _ ou fl fl' bx bd bo bs bk ca wa b b' (xs (i + 1)) cd k n est hk30 esk hn6 hp) (vx_cwSW 2 hts gL_law_L_times rfl rfl rfl (by decide +kernel) ⟨Nat.le_of_ble_eq_true rfl, Nat.le_of_ble_eq_true rfl⟩) ⟨tw_blind, tw_pre _ (sr_P hP) (sr_D hD) hK hxw ((hzz.kept hS.2.1).narrow hF)⟩ rfl rfl hl.1 rfl (lv_room (Nat.le_of_ble_eq_true rfl)) dL_law_579 ⟨hce, hsl⟩) hS hF hF (fun H1 locs hP1 hD1 hk1 hS => ?_)
  obtain ⟨hP, hD⟩ := sr_J hP hD hk1 hF hP1 hD1
  generalize H1 = H at hP hS ⊢
  refine lv_istore (lv' := [(5, .int cd), (0, .ref sb), (1, .ref bx), (2, .ref mo), (3, .ref ou), (4, .int xi)]) hx hb dL_law_582 hl (by decide) rfl (fun ls hl => ?_)
  refine lv_aload_n hx hb dL_law_584 rfl (lv_at hl 3 rfl) ?_
  refine lv_aload_n hx hb dL_law_585 rfl (lv_at hl 1 rfl) ?_
  refine lv_iload hx hb dL_law_586 (lv_at hl 5 rfl) ?_
  refine lv_iconst (v := 1) hx hb dL_law_588 (by decide) ?_
  refine lv_iadd hx hb dL_law_589 ?_
  refine ra_sld hx hb hX hbl hbA hS (v := i + 1) (na_add exi (by decide)) (by omega) (by omega) dL_law_590 ?_
  have hF := sl_F hD hS (fun _ h => h)
  refine mu_call (va_runV (As := [.int (xs (i + 1))]) (rest := []) ⟨hx, hb, hml, hown, hts⟩ (m_times l G _ mo ce gv dr go sa u u' (xs (i + 1)) k n mest hk30 mesk hn6 hq) (cwV 1 hts gL_law_X2_times rfl rfl rfl (by decide +kernel) ⟨Nat.le_of_ble_eq_true rfl, Nat.le_of_ble_eq_true rfl⟩) ⟨mu_blind, va_recv hK.1 hP (ci := 2) (q0 := 0) rfl rfl, mu_pre _ (sl_P hP) (sl_D hD) hK⟩ rfl rfl hl.1 rfl (lv_room (Nat.le_of_ble_eq_true rfl)) dL_law_591 ⟨hce, hsl⟩) hS hF hF (fun H1 locs hP1 hD1 hk1 hS => ?_)
  obtain ⟨hP, hD⟩ := sl_J hP hD hk1 hF hP1 hD1
  generalize H1 = H at hP hS ⊢
  refine lv_aload_n hx hb dL_law_594 rfl (lv_at hl 3 rfl) ?_
  refine ro_call (va_runV (As := []) (rest := []) ⟨hx, hb, hml, hown, hts⟩ (c_X2_thrown l G mo ce gv dr go sa (mth u') (mst u') (msk u') (mtk u') (mbe u') (mso u') (mle u') (man u') (mfc u') (mfg u') (mfd u') (mfo u') (mfs u')) (cwV 0 hts gL_law_X2_thrown rfl rfl rfl (by decide +kernel) ⟨Nat.le_of_ble_eq_true rfl, Nat.le_of_ble_eq_true rfl⟩) ⟨ro_blind, va_recv hK.1 hP (ci := 2) (q0 := 0) rfl rfl, ro_pre _ (sl_P hP) hK⟩ rfl rfl hl.1 rfl (lv_room (Nat.le_of_ble_eq_true rfl)) dL_law_595 ⟨hce, hsl⟩) ?_
  refine lv_iload hx hb dL_law_598 (lv_at hl 0 rfl) ?_
  refine lv_icmp_eq (tgt := 605) hx hb dL_law_600 (by decide) (fun _ => ?_) (fun c_600 => absurd hcd c_600)
  refine lv_goto (tgt := 1117) hx hb dL_law_605 (by decide) ?_
  exact kk b' u' fl' _ _ ls hI2 hP hD hS (lv_sub hl [1, 2, 3, 4, 5] rfl)

set_option maxHeartbeats 1000000 in
set_option maxRecDepth 100000 in
theorem lc_divide {p : Program} {e : Env} {s : State} {m : MethodId} {below : List Frame} {meth : Method} {c : Code} {l : Launch} {sb L : Nat} {xs : Nat → Int32} {G : Gt} {Q : State → Prop} {Inv : BT → MT → Prop} {H : Heap} {locs : List Loc} {ls : Array Slot} {cells slots : Nat} {xi : Int32} {i k n : Nat} {mo ce gv dr go sa ou bx bd bo bs bk : Nat} {ca wa : Nat → Nat} {u : MT} {fl : Nat → Int64} {b : BT} (C : LC p l s m c sb L xs G) (hst : St_divide Inv) (hI : Inv b u) (est : bst b = nI k) (hk30 : k ≤ 30) (esk : bsk b = nI n) (hn6 : n ≤ 6) (mest : mst u = nI k) (mesk : msk u = nI n) (exi : xi = nI i) (hi3 : i + 3 ≤ L) (hL : L ≤ 1536) (hce : cells + 1 ≤ 640935) (hsl : slots + 6 ≤ 7173298)
    (hP : va_P G.1 vwCl (mw G mo ce gv dr go sa u ++ (ow G ou fl ++ bw G bx bd bo bs bk ca wa b)) H) (hD : va_D (fun q : Nat => s.heap.size ≤ q) (mw G mo ce gv dr go sa u ++ (ow G ou fl ++ bw G bx bd bo bs bk ca wa b))) (hS : va_S (fun q : Nat => s.heap.size ≤ q) s.heap H locs) (hl : lv_has ls 7 [(0, .ref sb), (1, .ref bx), (2, .ref mo), (3, .ref ou), (4, .int xi)])
    (kk : ∀ (b' : BT) (u' : MT) (fl' : Nat → Int64) (H : Heap) (locs : List Loc) (ls : Array Slot), Inv b' u' → va_P G.1 vwCl (mw G mo ce gv dr go sa u' ++ (ow G ou fl' ++ bw G bx bd bo bs bk ca wa b')) H → va_D (fun q : Nat => s.heap.size ≤ q) (mw G mo ce gv dr go sa u' ++ (ow G ou fl' ++ bw G bx bd bo bs bk ca wa b')) → va_S (fun q : Nat => s.heap.size ≤ q) s.heap H locs → lv_has ls 7 [(0, .ref sb), (1, .ref bx), (2, .ref mo), (3, .ref ou), (4, .int xi)] → W p l e room_1 s m #[Value.ref sb] below meth c H locs (cells + 1) (slots + 6) Q (F0 m 1117 ls [])) : W p l e room_1 s m #[Value.ref sb] below meth c H locs cells slots Q (F0 m 608 ls []) := by
  obtain ⟨hx, hb, hml, hown, hts, hX, hbl, hK, hxw, hzz, hlt⟩ := C
  have hbA : ¬ (fun q : Nat => s.heap.size ≤ q) sb := Nat.not_le.mpr hbl
  obtain ⟨u', hq⟩ : ∃ u', Q_divide (xs (i + 1)) k n u u' := by unfold Q_divide; exact ⟨_, rfl⟩
  obtain ⟨cd, b', fl', hp, hcd, hI2⟩ := hst k n b u fl (xs (i + 1)) u' hI est hk30 esk hn6 mest mesk hq
  refine lv_aload_n hx hb dL_law_608 rfl (lv_at hl 1 rfl) ?_
  refine lv_aload_n hx hb dL_law_609 rfl (lv_at hl 0 rfl) ?_
  refine lv_iload hx hb dL_law_610 (lv_at hl 4 rfl) ?_
  refine lv_iconst (v := 1) hx hb dL_law_612 (by decide) ?_
  refine lv_iadd hx hb dL_law_613 ?_
  refine ra_sld hx hb hX hbl hbA hS (v := i + 1) (na_add exi (by decide)) (by omega) (by omega) dL_law_614 ?_
  have hF := sr_F hD hS (fun _ h => h)
  refine mu_call (vx_runSW (As := [.ref bx, .int (xs (i + 1))]) (rest := []) ⟨hx, hb, hml, hown, hts⟩ (c_L_divide l hlt G _ ou fl fl' bx bd bo bs bk ca wa b b' (xs (i + 1)) cd k n est hk30 esk hn6 hp) (vx_cwSW 2 hts gL_law_L_divide rfl rfl rfl (by decide +kernel) ⟨Nat.le_of_ble_eq_true rfl, Nat.le_of_ble_eq_true rfl⟩) ⟨tw_blind, tw_pre _ (sr_P hP) (sr_D hD) hK hxw ((hzz.kept hS.2.1).narrow hF)⟩ rfl rfl hl.1 rfl (lv_room (Nat.le_of_ble_eq_true rfl)) dL_law_615 ⟨hce, hsl⟩) hS hF hF (fun H1 locs hP1 hD1 hk1 hS => ?_)
  obtain ⟨hP, hD⟩ := sr_J hP hD hk1 hF hP1 hD1
  generalize H1 = H at hP hS ⊢
  refine lv_istore (lv' := [(5, .int cd), (0, .ref sb), (1, .ref bx), (2, .ref mo), (3, .ref ou), (4, .int xi)]) hx hb dL_law_618 hl (by decide) rfl (fun ls hl => ?_)
  refine lv_aload_n hx hb dL_law_620 rfl (lv_at hl 3 rfl) ?_
  refine lv_aload_n hx hb dL_law_621 rfl (lv_at hl 1 rfl) ?_
  refine lv_iload hx hb dL_law_622 (lv_at hl 5 rfl) ?_
  refine lv_iconst (v := 1) hx hb dL_law_624 (by decide) ?_
  refine lv_iadd hx hb dL_law_625 ?_
  refine ra_sld hx hb hX hbl hbA hS (v := i + 1) (na_add exi (by decide)) (by omega) (by omega) dL_law_626 ?_
  have hF := sl_F hD hS (fun _ h => h)
  refine mu_call (va_runV (As := [.int (xs (i + 1))]) (rest := []) ⟨hx, hb, hml, hown, hts⟩ (m_divide l G _ mo ce gv dr go sa u u' (xs (i + 1)) k n mest hk30 mesk hn6 hq) (cwV 1 hts gL_law_X2_divide rfl rfl rfl (by decide +kernel) ⟨Nat.le_of_ble_eq_true rfl, Nat.le_of_ble_eq_true rfl⟩) ⟨mu_blind, va_recv hK.1 hP (ci := 2) (q0 := 0) rfl rfl, mu_pre _ (sl_P hP) (sl_D hD) hK⟩ rfl rfl hl.1 rfl (lv_room (Nat.le_of_ble_eq_true rfl)) dL_law_627 ⟨hce, hsl⟩) hS hF hF (fun H1 locs hP1 hD1 hk1 hS => ?_)
  obtain ⟨hP, hD⟩ := sl_J hP hD hk1 hF hP1 hD1
  generalize H1 = H at hP hS ⊢
  refine lv_aload_n hx hb dL_law_630 rfl (lv_at hl 3 rfl) ?_
  refine ro_call (va_runV (As := []) (rest := []) ⟨hx, hb, hml, hown, hts⟩ (c_X2_thrown l G mo ce gv dr go sa (mth u') (mst u') (msk u') (mtk u') (mbe u') (mso u') (mle u') (man u') (mfc u') (mfg u') (mfd u') (mfo u') (mfs u')) (cwV 0 hts gL_law_X2_thrown rfl rfl rfl (by decide +kernel) ⟨Nat.le_of_ble_eq_true rfl, Nat.le_of_ble_eq_true rfl⟩) ⟨ro_blind, va_recv hK.1 hP (ci := 2) (q0 := 0) rfl rfl, ro_pre _ (sl_P hP) hK⟩ rfl rfl hl.1 rfl (lv_room (Nat.le_of_ble_eq_true rfl)) dL_law_631 ⟨hce, hsl⟩) ?_
  refine lv_iload hx hb dL_law_634 (lv_at hl 0 rfl) ?_
  refine lv_icmp_eq (tgt := 641) hx hb dL_law_636 (by decide) (fun _ => ?_) (fun c_636 => absurd hcd c_636)
  refine lv_goto (tgt := 1117) hx hb dL_law_641 (by decide) ?_
  exact kk b' u' fl' _ _ ls hI2 hP hD hS (lv_sub hl [1, 2, 3, 4, 5] rfl)

set_option maxHeartbeats 1000000 in
set_option maxRecDepth 100000 in
theorem lc_saturate {p : Program} {e : Env} {s : State} {m : MethodId} {below : List Frame} {meth : Method} {c : Code} {l : Launch} {sb L : Nat} {xs : Nat → Int32} {G : Gt} {Q : State → Prop} {Inv : BT → MT → Prop} {H : Heap} {locs : List Loc} {ls : Array Slot} {cells slots : Nat} {xi : Int32} {i k n : Nat} {mo ce gv dr go sa ou bx bd bo bs bk : Nat} {ca wa : Nat → Nat} {u : MT} {fl : Nat → Int64} {b : BT} (C : LC p l s m c sb L xs G) (hst : St_saturate Inv) (hI : Inv b u) (est : bst b = nI k) (hk30 : k ≤ 30) (esk : bsk b = nI n) (hn6 : n ≤ 6) (mest : mst u = nI k) (mesk : msk u = nI n) (exi : xi = nI i) (hi3 : i + 3 ≤ L) (hL : L ≤ 1536) (hce : cells + 1 ≤ 640935) (hsl : slots + 6 ≤ 7173298)
    (hP : va_P G.1 vwCl (mw G mo ce gv dr go sa u ++ (ow G ou fl ++ bw G bx bd bo bs bk ca wa b)) H) (hD : va_D (fun q : Nat => s.heap.size ≤ q) (mw G mo ce gv dr go sa u ++ (ow G ou fl ++ bw G bx bd bo bs bk ca wa b))) (hS : va_S (fun q : Nat => s.heap.size ≤ q) s.heap H locs) (hl : lv_has ls 7 [(0, .ref sb), (1, .ref bx), (2, .ref mo), (3, .ref ou), (4, .int xi)])
    (kk : ∀ (b' : BT) (u' : MT) (fl' : Nat → Int64) (H : Heap) (locs : List Loc) (ls : Array Slot), Inv b' u' → va_P G.1 vwCl (mw G mo ce gv dr go sa u' ++ (ow G ou fl' ++ bw G bx bd bo bs bk ca wa b')) H → va_D (fun q : Nat => s.heap.size ≤ q) (mw G mo ce gv dr go sa u' ++ (ow G ou fl' ++ bw G bx bd bo bs bk ca wa b')) → va_S (fun q : Nat => s.heap.size ≤ q) s.heap H locs → lv_has ls 7 [(0, .ref sb), (1, .ref bx), (2, .ref mo), (3, .ref ou), (4, .int xi)] → W p l e room_1 s m #[Value.ref sb] below meth c H locs (cells + 1) (slots + 6) Q (F0 m 1117 ls [])) : W p l e room_1 s m #[Value.ref sb] below meth c H locs cells slots Q (F0 m 644 ls []) := by
  obtain ⟨hx, hb, hml, hown, hts, hX, hbl, hK, hxw, hzz, hlt⟩ := C
  have hbA : ¬ (fun q : Nat => s.heap.size ≤ q) sb := Nat.not_le.mpr hbl
  obtain ⟨u', hq⟩ : ∃ u', Q_saturate  k n u u' := by unfold Q_saturate; exact ⟨_, rfl⟩
  obtain ⟨cd, b', fl', hp, hcd, hI2⟩ := hst k n b u fl  u' hI est hk30 esk hn6 mest mesk hq
  refine lv_aload_n hx hb dL_law_644 rfl (lv_at hl 1 rfl) ?_
  have hF := sr_F hD hS (fun _ h => h)
  refine mu_call (vx_runSW (As := [.ref bx]) (rest := []) ⟨hx, hb, hml, hown, hts⟩ (c_L_saturate l hlt G _ ou fl fl' bx bd bo bs bk ca wa b b'  cd k n est hk30 esk hn6 hp) (vx_cwSW 1 hts gL_law_L_saturate rfl rfl rfl (by decide +kernel) ⟨Nat.le_of_ble_eq_true rfl, Nat.le_of_ble_eq_true rfl⟩) ⟨tw_blind, tw_pre _ (sr_P hP) (sr_D hD) hK hxw ((hzz.kept hS.2.1).narrow hF)⟩ rfl rfl hl.1 rfl (lv_room (Nat.le_of_ble_eq_true rfl)) dL_law_645 ⟨hce, hsl⟩) hS hF hF (fun H1 locs hP1 hD1 hk1 hS => ?_)
  obtain ⟨hP, hD⟩ := sr_J hP hD hk1 hF hP1 hD1
  generalize H1 = H at hP hS ⊢
  refine lv_istore (lv' := [(5, .int cd), (0, .ref sb), (1, .ref bx), (2, .ref mo), (3, .ref ou), (4, .int xi)]) hx hb dL_law_648 hl (by decide) rfl (fun ls hl => ?_)
  refine lv_aload_n hx hb dL_law_650 rfl (lv_at hl 3 rfl) ?_
  have hF := sl_F hD hS (fun _ h => h)
  refine mu_call (va_runV (As := []) (rest := []) ⟨hx, hb, hml, hown, hts⟩ (m_saturate l G _ mo ce gv dr go sa u u'  k n mest hk30 mesk hn6 hq) (cwV 0 hts gL_law_X2_saturate rfl rfl rfl (by decide +kernel) ⟨Nat.le_of_ble_eq_true rfl, Nat.le_of_ble_eq_true rfl⟩) ⟨mu_blind, va_recv hK.1 hP (ci := 2) (q0 := 0) rfl rfl, mu_pre _ (sl_P hP) (sl_D hD) hK⟩ rfl rfl hl.1 rfl (lv_room (Nat.le_of_ble_eq_true rfl)) dL_law_651 ⟨hce, hsl⟩) hS hF hF (fun H1 locs hP1 hD1 hk1 hS => ?_)
  obtain ⟨hP, hD⟩ := sl_J hP hD hk1 hF hP1 hD1
  generalize H1 = H at hP hS ⊢
  refine lv_aload_n hx hb dL_law_654 rfl (lv_at hl 3 rfl) ?_
  refine ro_call (va_runV (As := []) (rest := []) ⟨hx, hb, hml, hown, hts⟩ (c_X2_thrown l G mo ce gv dr go sa (mth u') (mst u') (msk u') (mtk u') (mbe u') (mso u') (mle u') (man u') (mfc u') (mfg u') (mfd u') (mfo u') (mfs u')) (cwV 0 hts gL_law_X2_thrown rfl rfl rfl (by decide +kernel) ⟨Nat.le_of_ble_eq_true rfl, Nat.le_of_ble_eq_true rfl⟩) ⟨ro_blind, va_recv hK.1 hP (ci := 2) (q0 := 0) rfl rfl, ro_pre _ (sl_P hP) hK⟩ rfl rfl hl.1 rfl (lv_room (Nat.le_of_ble_eq_true rfl)) dL_law_655 ⟨hce, hsl⟩) ?_
  refine lv_iload hx hb dL_law_658 (lv_at hl 0 rfl) ?_
  refine lv_icmp_eq (tgt := 665) hx hb dL_law_660 (by decide) (fun _ => ?_) (fun c_660 => absurd hcd c_660)
  refine lv_goto (tgt := 1117) hx hb dL_law_665 (by decide) ?_
  exact kk b' u' fl' _ _ ls hI2 hP hD hS (lv_sub hl [1, 2, 3, 4, 5] rfl)

set_option maxHeartbeats 1000000 in
set_option maxRecDepth 100000 in
theorem lc_weaken {p : Program} {e : Env} {s : State} {m : MethodId} {below : List Frame} {meth : Method} {c : Code} {l : Launch} {sb L : Nat} {xs : Nat → Int32} {G : Gt} {Q : State → Prop} {Inv : BT → MT → Prop} {H : Heap} {locs : List Loc} {ls : Array Slot} {cells slots : Nat} {xi : Int32} {i k n : Nat} {mo ce gv dr go sa ou bx bd bo bs bk : Nat} {ca wa : Nat → Nat} {u : MT} {fl : Nat → Int64} {b : BT} (C : LC p l s m c sb L xs G) (hst : St_weaken Inv) (hI : Inv b u) (est : bst b = nI k) (hk30 : k ≤ 30) (esk : bsk b = nI n) (hn6 : n ≤ 6) (mest : mst u = nI k) (mesk : msk u = nI n) (exi : xi = nI i) (hi3 : i + 3 ≤ L) (hL : L ≤ 1536) (hce : cells + 1 ≤ 640935) (hsl : slots + 6 ≤ 7173298)
    (hP : va_P G.1 vwCl (mw G mo ce gv dr go sa u ++ (ow G ou fl ++ bw G bx bd bo bs bk ca wa b)) H) (hD : va_D (fun q : Nat => s.heap.size ≤ q) (mw G mo ce gv dr go sa u ++ (ow G ou fl ++ bw G bx bd bo bs bk ca wa b))) (hS : va_S (fun q : Nat => s.heap.size ≤ q) s.heap H locs) (hl : lv_has ls 7 [(0, .ref sb), (1, .ref bx), (2, .ref mo), (3, .ref ou), (4, .int xi)])
    (kk : ∀ (b' : BT) (u' : MT) (fl' : Nat → Int64) (H : Heap) (locs : List Loc) (ls : Array Slot), Inv b' u' → va_P G.1 vwCl (mw G mo ce gv dr go sa u' ++ (ow G ou fl' ++ bw G bx bd bo bs bk ca wa b')) H → va_D (fun q : Nat => s.heap.size ≤ q) (mw G mo ce gv dr go sa u' ++ (ow G ou fl' ++ bw G bx bd bo bs bk ca wa b')) → va_S (fun q : Nat => s.heap.size ≤ q) s.heap H locs → lv_has ls 7 [(0, .ref sb), (1, .ref bx), (2, .ref mo), (3, .ref ou), (4, .int xi)] → W p l e room_1 s m #[Value.ref sb] below meth c H locs (cells + 1) (slots + 6) Q (F0 m 1117 ls [])) : W p l e room_1 s m #[Value.ref sb] below meth c H locs cells slots Q (F0 m 668 ls []) := by
  obtain ⟨hx, hb, hml, hown, hts, hX, hbl, hK, hxw, hzz, hlt⟩ := C
  have hbA : ¬ (fun q : Nat => s.heap.size ≤ q) sb := Nat.not_le.mpr hbl
  obtain ⟨u', hq⟩ : ∃ u', Q_weaken (xs (i + 1)) k n u u' := by unfold Q_weaken; exact ⟨_, rfl⟩
  obtain ⟨cd, b', fl', hp, hcd, hI2⟩ := hst k n b u fl (xs (i + 1)) u' hI est hk30 esk hn6 mest mesk hq
  refine lv_aload_n hx hb dL_law_668 rfl (lv_at hl 1 rfl) ?_
  refine lv_aload_n hx hb dL_law_669 rfl (lv_at hl 0 rfl) ?_
  refine lv_iload hx hb dL_law_670 (lv_at hl 4 rfl) ?_
  refine lv_iconst (v := 1) hx hb dL_law_672 (by decide) ?_
  refine lv_iadd hx hb dL_law_673 ?_
  refine ra_sld hx hb hX hbl hbA hS (v := i + 1) (na_add exi (by decide)) (by omega) (by omega) dL_law_674 ?_
  have hF := sr_F hD hS (fun _ h => h)
  refine mu_call (vx_runSW (As := [.ref bx, .int (xs (i + 1))]) (rest := []) ⟨hx, hb, hml, hown, hts⟩ (c_L_weaken l hlt G _ ou fl fl' bx bd bo bs bk ca wa b b' (xs (i + 1)) cd k n est hk30 esk hn6 hp) (vx_cwSW 2 hts gL_law_L_weaken rfl rfl rfl (by decide +kernel) ⟨Nat.le_of_ble_eq_true rfl, Nat.le_of_ble_eq_true rfl⟩) ⟨tw_blind, tw_pre _ (sr_P hP) (sr_D hD) hK hxw ((hzz.kept hS.2.1).narrow hF)⟩ rfl rfl hl.1 rfl (lv_room (Nat.le_of_ble_eq_true rfl)) dL_law_675 ⟨hce, hsl⟩) hS hF hF (fun H1 locs hP1 hD1 hk1 hS => ?_)
  obtain ⟨hP, hD⟩ := sr_J hP hD hk1 hF hP1 hD1
  generalize H1 = H at hP hS ⊢
  refine lv_istore (lv' := [(5, .int cd), (0, .ref sb), (1, .ref bx), (2, .ref mo), (3, .ref ou), (4, .int xi)]) hx hb dL_law_678 hl (by decide) rfl (fun ls hl => ?_)
  refine lv_aload_n hx hb dL_law_680 rfl (lv_at hl 3 rfl) ?_
  refine lv_aload_n hx hb dL_law_681 rfl (lv_at hl 1 rfl) ?_
  refine lv_iload hx hb dL_law_682 (lv_at hl 5 rfl) ?_
  refine lv_iconst (v := 1) hx hb dL_law_684 (by decide) ?_
  refine lv_iadd hx hb dL_law_685 ?_
  refine ra_sld hx hb hX hbl hbA hS (v := i + 1) (na_add exi (by decide)) (by omega) (by omega) dL_law_686 ?_
  have hF := sl_F hD hS (fun _ h => h)
  refine mu_call (va_runV (As := [.int (xs (i + 1))]) (rest := []) ⟨hx, hb, hml, hown, hts⟩ (m_weaken l G _ mo ce gv dr go sa u u' (xs (i + 1)) k n mest hk30 mesk hn6 hq) (cwV 1 hts gL_law_X2_weaken rfl rfl rfl (by decide +kernel) ⟨Nat.le_of_ble_eq_true rfl, Nat.le_of_ble_eq_true rfl⟩) ⟨mu_blind, va_recv hK.1 hP (ci := 2) (q0 := 0) rfl rfl, mu_pre _ (sl_P hP) (sl_D hD) hK⟩ rfl rfl hl.1 rfl (lv_room (Nat.le_of_ble_eq_true rfl)) dL_law_687 ⟨hce, hsl⟩) hS hF hF (fun H1 locs hP1 hD1 hk1 hS => ?_)
  obtain ⟨hP, hD⟩ := sl_J hP hD hk1 hF hP1 hD1
  generalize H1 = H at hP hS ⊢
  refine lv_aload_n hx hb dL_law_690 rfl (lv_at hl 3 rfl) ?_
  refine ro_call (va_runV (As := []) (rest := []) ⟨hx, hb, hml, hown, hts⟩ (c_X2_thrown l G mo ce gv dr go sa (mth u') (mst u') (msk u') (mtk u') (mbe u') (mso u') (mle u') (man u') (mfc u') (mfg u') (mfd u') (mfo u') (mfs u')) (cwV 0 hts gL_law_X2_thrown rfl rfl rfl (by decide +kernel) ⟨Nat.le_of_ble_eq_true rfl, Nat.le_of_ble_eq_true rfl⟩) ⟨ro_blind, va_recv hK.1 hP (ci := 2) (q0 := 0) rfl rfl, ro_pre _ (sl_P hP) hK⟩ rfl rfl hl.1 rfl (lv_room (Nat.le_of_ble_eq_true rfl)) dL_law_691 ⟨hce, hsl⟩) ?_
  refine lv_iload hx hb dL_law_694 (lv_at hl 0 rfl) ?_
  refine lv_icmp_eq (tgt := 701) hx hb dL_law_696 (by decide) (fun _ => ?_) (fun c_696 => absurd hcd c_696)
  refine lv_goto (tgt := 1117) hx hb dL_law_701 (by decide) ?_
  exact kk b' u' fl' _ _ ls hI2 hP hD hS (lv_sub hl [1, 2, 3, 4, 5] rfl)

set_option maxHeartbeats 1000000 in
set_option maxRecDepth 100000 in
theorem lc_drop {p : Program} {e : Env} {s : State} {m : MethodId} {below : List Frame} {meth : Method} {c : Code} {l : Launch} {sb L : Nat} {xs : Nat → Int32} {G : Gt} {Q : State → Prop} {Inv : BT → MT → Prop} {H : Heap} {locs : List Loc} {ls : Array Slot} {cells slots : Nat} {xi : Int32} {i k n : Nat} {mo ce gv dr go sa ou bx bd bo bs bk : Nat} {ca wa : Nat → Nat} {u : MT} {fl : Nat → Int64} {b : BT} (C : LC p l s m c sb L xs G) (hst : St_drop Inv) (hI : Inv b u) (est : bst b = nI k) (hk30 : k ≤ 30) (esk : bsk b = nI n) (hn6 : n ≤ 6) (mest : mst u = nI k) (mesk : msk u = nI n) (exi : xi = nI i) (hi3 : i + 3 ≤ L) (hL : L ≤ 1536) (hce : cells + 1 ≤ 640935) (hsl : slots + 6 ≤ 7173298)
    (hP : va_P G.1 vwCl (mw G mo ce gv dr go sa u ++ (ow G ou fl ++ bw G bx bd bo bs bk ca wa b)) H) (hD : va_D (fun q : Nat => s.heap.size ≤ q) (mw G mo ce gv dr go sa u ++ (ow G ou fl ++ bw G bx bd bo bs bk ca wa b))) (hS : va_S (fun q : Nat => s.heap.size ≤ q) s.heap H locs) (hl : lv_has ls 7 [(0, .ref sb), (1, .ref bx), (2, .ref mo), (3, .ref ou), (4, .int xi)])
    (kk : ∀ (b' : BT) (u' : MT) (fl' : Nat → Int64) (H : Heap) (locs : List Loc) (ls : Array Slot), Inv b' u' → va_P G.1 vwCl (mw G mo ce gv dr go sa u' ++ (ow G ou fl' ++ bw G bx bd bo bs bk ca wa b')) H → va_D (fun q : Nat => s.heap.size ≤ q) (mw G mo ce gv dr go sa u' ++ (ow G ou fl' ++ bw G bx bd bo bs bk ca wa b')) → va_S (fun q : Nat => s.heap.size ≤ q) s.heap H locs → lv_has ls 7 [(0, .ref sb), (1, .ref bx), (2, .ref mo), (3, .ref ou), (4, .int xi)] → W p l e room_1 s m #[Value.ref sb] below meth c H locs (cells + 1) (slots + 6) Q (F0 m 1117 ls [])) : W p l e room_1 s m #[Value.ref sb] below meth c H locs cells slots Q (F0 m 704 ls []) := by
  obtain ⟨hx, hb, hml, hown, hts, hX, hbl, hK, hxw, hzz, hlt⟩ := C
  have hbA : ¬ (fun q : Nat => s.heap.size ≤ q) sb := Nat.not_le.mpr hbl
  obtain ⟨u', hq⟩ : ∃ u', Q_drop  k n u u' := by unfold Q_drop; exact ⟨_, rfl⟩
  obtain ⟨cd, b', fl', hp, hcd, hI2⟩ := hst k n b u fl  u' hI est hk30 esk hn6 mest mesk hq
  refine lv_aload_n hx hb dL_law_704 rfl (lv_at hl 1 rfl) ?_
  have hF := sr_F hD hS (fun _ h => h)
  refine mu_call (vx_runSW (As := [.ref bx]) (rest := []) ⟨hx, hb, hml, hown, hts⟩ (c_L_drop l hlt G _ ou fl fl' bx bd bo bs bk ca wa b b'  cd k n est hk30 esk hn6 hp) (vx_cwSW 1 hts gL_law_L_drop rfl rfl rfl (by decide +kernel) ⟨Nat.le_of_ble_eq_true rfl, Nat.le_of_ble_eq_true rfl⟩) ⟨tw_blind, tw_pre _ (sr_P hP) (sr_D hD) hK hxw ((hzz.kept hS.2.1).narrow hF)⟩ rfl rfl hl.1 rfl (lv_room (Nat.le_of_ble_eq_true rfl)) dL_law_705 ⟨hce, hsl⟩) hS hF hF (fun H1 locs hP1 hD1 hk1 hS => ?_)
  obtain ⟨hP, hD⟩ := sr_J hP hD hk1 hF hP1 hD1
  generalize H1 = H at hP hS ⊢
  refine lv_istore (lv' := [(5, .int cd), (0, .ref sb), (1, .ref bx), (2, .ref mo), (3, .ref ou), (4, .int xi)]) hx hb dL_law_708 hl (by decide) rfl (fun ls hl => ?_)
  refine lv_aload_n hx hb dL_law_710 rfl (lv_at hl 3 rfl) ?_
  have hF := sl_F hD hS (fun _ h => h)
  refine mu_call (va_runV (As := []) (rest := []) ⟨hx, hb, hml, hown, hts⟩ (m_drop l G _ mo ce gv dr go sa u u'  k n mest hk30 mesk hn6 hq) (cwV 0 hts gL_law_X2_drop rfl rfl rfl (by decide +kernel) ⟨Nat.le_of_ble_eq_true rfl, Nat.le_of_ble_eq_true rfl⟩) ⟨mu_blind, va_recv hK.1 hP (ci := 2) (q0 := 0) rfl rfl, mu_pre _ (sl_P hP) (sl_D hD) hK⟩ rfl rfl hl.1 rfl (lv_room (Nat.le_of_ble_eq_true rfl)) dL_law_711 ⟨hce, hsl⟩) hS hF hF (fun H1 locs hP1 hD1 hk1 hS => ?_)
  obtain ⟨hP, hD⟩ := sl_J hP hD hk1 hF hP1 hD1
  generalize H1 = H at hP hS ⊢
  refine lv_aload_n hx hb dL_law_714 rfl (lv_at hl 3 rfl) ?_
  refine ro_call (va_runV (As := []) (rest := []) ⟨hx, hb, hml, hown, hts⟩ (c_X2_thrown l G mo ce gv dr go sa (mth u') (mst u') (msk u') (mtk u') (mbe u') (mso u') (mle u') (man u') (mfc u') (mfg u') (mfd u') (mfo u') (mfs u')) (cwV 0 hts gL_law_X2_thrown rfl rfl rfl (by decide +kernel) ⟨Nat.le_of_ble_eq_true rfl, Nat.le_of_ble_eq_true rfl⟩) ⟨ro_blind, va_recv hK.1 hP (ci := 2) (q0 := 0) rfl rfl, ro_pre _ (sl_P hP) hK⟩ rfl rfl hl.1 rfl (lv_room (Nat.le_of_ble_eq_true rfl)) dL_law_715 ⟨hce, hsl⟩) ?_
  refine lv_iload hx hb dL_law_718 (lv_at hl 0 rfl) ?_
  refine lv_icmp_eq (tgt := 725) hx hb dL_law_720 (by decide) (fun _ => ?_) (fun c_720 => absurd hcd c_720)
  refine lv_goto (tgt := 1117) hx hb dL_law_725 (by decide) ?_
  exact kk b' u' fl' _ _ ls hI2 hP hD hS (lv_sub hl [1, 2, 3, 4, 5] rfl)

set_option maxHeartbeats 1000000 in
set_option maxRecDepth 100000 in
theorem lc_top {p : Program} {e : Env} {s : State} {m : MethodId} {below : List Frame} {meth : Method} {c : Code} {l : Launch} {sb L : Nat} {xs : Nat → Int32} {G : Gt} {Q : State → Prop} {Inv : BT → MT → Prop} {H : Heap} {locs : List Loc} {ls : Array Slot} {cells slots : Nat} {xi : Int32} {i k n : Nat} {mo ce gv dr go sa ou bx bd bo bs bk : Nat} {ca wa : Nat → Nat} {u : MT} {fl : Nat → Int64} {b : BT} (C : LC p l s m c sb L xs G) (hst : St_top Inv) (hI : Inv b u) (est : bst b = nI k) (hk30 : k ≤ 30) (esk : bsk b = nI n) (hn6 : n ≤ 6) (mest : mst u = nI k) (mesk : msk u = nI n) (exi : xi = nI i) (hi3 : i + 3 ≤ L) (hL : L ≤ 1536) (hce : cells + 1 ≤ 640935) (hsl : slots + 6 ≤ 7173298)
    (hP : va_P G.1 vwCl (mw G mo ce gv dr go sa u ++ (ow G ou fl ++ bw G bx bd bo bs bk ca wa b)) H) (hD : va_D (fun q : Nat => s.heap.size ≤ q) (mw G mo ce gv dr go sa u ++ (ow G ou fl ++ bw G bx bd bo bs bk ca wa b))) (hS : va_S (fun q : Nat => s.heap.size ≤ q) s.heap H locs) (hl : lv_has ls 7 [(0, .ref sb), (1, .ref bx), (2, .ref mo), (3, .ref ou), (4, .int xi)])
    (kk : ∀ (b' : BT) (u' : MT) (fl' : Nat → Int64) (H : Heap) (locs : List Loc) (ls : Array Slot), Inv b' u' → va_P G.1 vwCl (mw G mo ce gv dr go sa u' ++ (ow G ou fl' ++ bw G bx bd bo bs bk ca wa b')) H → va_D (fun q : Nat => s.heap.size ≤ q) (mw G mo ce gv dr go sa u' ++ (ow G ou fl' ++ bw G bx bd bo bs bk ca wa b')) → va_S (fun q : Nat => s.heap.size ≤ q) s.heap H locs → lv_has ls 7 [(0, .ref sb), (1, .ref bx), (2, .ref mo), (3, .ref ou), (4, .int xi)] → W p l e room_1 s m #[Value.ref sb] below meth c H locs (cells + 1) (slots + 6) Q (F0 m 1117 ls [])) : W p l e room_1 s m #[Value.ref sb] below meth c H locs cells slots Q (F0 m 728 ls []) := by
  obtain ⟨hx, hb, hml, hown, hts, hX, hbl, hK, hxw, hzz, hlt⟩ := C
  have hbA : ¬ (fun q : Nat => s.heap.size ≤ q) sb := Nat.not_le.mpr hbl
  obtain ⟨u', r, hq⟩ : ∃ u' r, Q_top (xs (i + 1)) k n u u' r := by unfold Q_top; exact ⟨_, _, rfl, rfl⟩
  obtain ⟨cd, b', fl', hp, hcd, hrr, hI2⟩ := hst k n b u fl (xs (i + 1)) u' r hI est hk30 esk hn6 mest mesk hq
  refine lv_aload_n hx hb dL_law_728 rfl (lv_at hl 1 rfl) ?_
  refine lv_aload_n hx hb dL_law_729 rfl (lv_at hl 0 rfl) ?_
  refine lv_iload hx hb dL_law_730 (lv_at hl 4 rfl) ?_
  refine lv_iconst (v := 1) hx hb dL_law_732 (by decide) ?_
  refine lv_iadd hx hb dL_law_733 ?_
  refine ra_sld hx hb hX hbl hbA hS (v := i + 1) (na_add exi (by decide)) (by omega) (by omega) dL_law_734 ?_
  refine lv_aload_n hx hb dL_law_735 rfl (lv_at hl 3 rfl) ?_
  have hF := sr_F hD hS (fun _ h => h)
  refine mu_call (vx_runSW (As := [.ref bx, .int (xs (i + 1)), .ref ou]) (rest := []) ⟨hx, hb, hml, hown, hts⟩ (c_L_top l hlt G _ ou fl fl' bx bd bo bs bk ca wa b b' (xs (i + 1)) cd k n est hk30 esk hn6 hp) (vx_cwSW 3 hts gL_law_L_top rfl rfl rfl (by decide +kernel) ⟨Nat.le_of_ble_eq_true rfl, Nat.le_of_ble_eq_true rfl⟩) ⟨tw_blind, tw_pre _ (sr_P hP) (sr_D hD) hK hxw ((hzz.kept hS.2.1).narrow hF)⟩ rfl rfl hl.1 rfl (lv_room (Nat.le_of_ble_eq_true rfl)) dL_law_736 ⟨hce, hsl⟩) hS hF hF (fun H1 locs hP1 hD1 hk1 hS => ?_)
  obtain ⟨hP, hD⟩ := sr_J hP hD hk1 hF hP1 hD1
  generalize H1 = H at hP hS ⊢
  refine lv_istore (lv' := [(5, .int cd), (0, .ref sb), (1, .ref bx), (2, .ref mo), (3, .ref ou), (4, .int xi)]) hx hb dL_law_739 hl (by decide) rfl (fun ls hl => ?_)
  refine lv_aload_n hx hb dL_law_741 rfl (lv_at hl 3 rfl) ?_
  refine lv_aload_n hx hb dL_law_742 rfl (lv_at hl 1 rfl) ?_
  refine lv_iload hx hb dL_law_743 (lv_at hl 5 rfl) ?_
  refine lv_iconst (v := 1) hx hb dL_law_745 (by decide) ?_
  refine lv_iadd hx hb dL_law_746 ?_
  refine ra_sld hx hb hX hbl hbA hS (v := i + 1) (na_add exi (by decide)) (by omega) (by omega) dL_law_747 ?_
  have hF := sl_F hD hS (fun _ h => h)
  refine mu_call (va_runV (As := [.int (xs (i + 1))]) (rest := []) ⟨hx, hb, hml, hown, hts⟩ (m_top l G _ mo ce gv dr go sa u u' (xs (i + 1)) k n mest hk30 mesk hn6 r hq) (cwV 1 hts gL_law_X2_top rfl rfl rfl (by decide +kernel) ⟨Nat.le_of_ble_eq_true rfl, Nat.le_of_ble_eq_true rfl⟩) ⟨mu_blind, va_recv hK.1 hP (ci := 2) (q0 := 0) rfl rfl, mu_pre _ (sl_P hP) (sl_D hD) hK⟩ rfl rfl hl.1 rfl (lv_room (Nat.le_of_ble_eq_true rfl)) dL_law_748 ⟨hce, hsl⟩) hS hF hF (fun H1 locs hP1 hD1 hk1 hS => ?_)
  obtain ⟨hP, hD⟩ := sl_J hP hD hk1 hF hP1 hD1
  generalize H1 = H at hP hS ⊢
  refine lv_istore (lv' := [(6, .int r), (5, .int cd), (0, .ref sb), (1, .ref bx), (2, .ref mo), (3, .ref ou), (4, .int xi)]) hx hb dL_law_751 hl (by decide) rfl (fun ls hl => ?_)
  refine lv_aload_n hx hb dL_law_753 rfl (lv_at hl 4 rfl) ?_
  refine ro_call (va_runV (As := []) (rest := []) ⟨hx, hb, hml, hown, hts⟩ (c_X2_thrown l G mo ce gv dr go sa (mth u') (mst u') (msk u') (mtk u') (mbe u') (mso u') (mle u') (man u') (mfc u') (mfg u') (mfd u') (mfo u') (mfs u')) (cwV 0 hts gL_law_X2_thrown rfl rfl rfl (by decide +kernel) ⟨Nat.le_of_ble_eq_true rfl, Nat.le_of_ble_eq_true rfl⟩) ⟨ro_blind, va_recv hK.1 hP (ci := 2) (q0 := 0) rfl rfl, ro_pre _ (sl_P hP) hK⟩ rfl rfl hl.1 rfl (lv_room (Nat.le_of_ble_eq_true rfl)) dL_law_754 ⟨hce, hsl⟩) ?_
  refine lv_iload hx hb dL_law_757 (lv_at hl 1 rfl) ?_
  refine lv_icmp_eq (tgt := 764) hx hb dL_law_759 (by decide) (fun _ => ?_) (fun c_759 => absurd hcd c_759)
  refine lv_iload hx hb dL_law_764 (lv_at hl 1 rfl) ?_
  refine lv_if_ne (tgt := 781) hx hb dL_law_766 (by decide) (fun _ => ?_) (fun c_766 => ?_)
  · refine lv_goto (tgt := 1117) hx hb dL_law_781 (by decide) ?_
    exact kk b' u' fl' _ _ ls hI2 hP hD hS (lv_sub hl [2, 3, 4, 5, 6] rfl)
  · have hrr := hrr c_766
    refine lv_aload_n hx hb dL_law_769 rfl (lv_at hl 5 rfl) ?_
    refine lv_iconst (v := 0) hx hb dL_law_770 (by decide) ?_
    refine va_lald hx hb hK.1 hP 6 3 rfl rfl (vp_in_nI (n := 0) (N := 1) (by decide) (by decide)) dL_law_771 ?_
    refine lv_iload hx hb dL_law_772 (lv_at hl 0 rfl) ?_
    refine lv_i2l (v := r.toInt64) hx hb dL_law_774 rfl ?_
    refine W.lcmp hx hb dL_law_775 ?_
    refine lv_if_eq (tgt := 781) hx hb dL_law_776 (by decide) (fun _ => ?_) (fun c_776 => absurd (cmp0 hrr) c_776)
    refine lv_goto (tgt := 1117) hx hb dL_law_781 (by decide) ?_
    exact kk b' u' fl' _ _ ls hI2 hP hD hS (lv_sub hl [2, 3, 4, 5, 6] rfl)

set_option maxHeartbeats 1000000 in
set_option maxRecDepth 100000 in
theorem lc_learn {p : Program} {e : Env} {s : State} {m : MethodId} {below : List Frame} {meth : Method} {c : Code} {l : Launch} {sb L : Nat} {xs : Nat → Int32} {G : Gt} {Q : State → Prop} {Inv : BT → MT → Prop} {H : Heap} {locs : List Loc} {ls : Array Slot} {cells slots : Nat} {xi : Int32} {i k n : Nat} {mo ce gv dr go sa ou bx bd bo bs bk : Nat} {ca wa : Nat → Nat} {u : MT} {fl : Nat → Int64} {b : BT} (C : LC p l s m c sb L xs G) (hst : St_learn Inv) (hI : Inv b u) (est : bst b = nI k) (hk30 : k ≤ 30) (esk : bsk b = nI n) (hn6 : n ≤ 6) (mest : mst u = nI k) (mesk : msk u = nI n) (exi : xi = nI i) (hi3 : i + 3 ≤ L) (hL : L ≤ 1536) (hce : cells + 1 ≤ 640935) (hsl : slots + 6 ≤ 7173298)
    (hP : va_P G.1 vwCl (mw G mo ce gv dr go sa u ++ (ow G ou fl ++ bw G bx bd bo bs bk ca wa b)) H) (hD : va_D (fun q : Nat => s.heap.size ≤ q) (mw G mo ce gv dr go sa u ++ (ow G ou fl ++ bw G bx bd bo bs bk ca wa b))) (hS : va_S (fun q : Nat => s.heap.size ≤ q) s.heap H locs) (hl : lv_has ls 7 [(0, .ref sb), (1, .ref bx), (2, .ref mo), (3, .ref ou), (4, .int xi)])
    (kk : ∀ (b' : BT) (u' : MT) (fl' : Nat → Int64) (H : Heap) (locs : List Loc) (ls : Array Slot), Inv b' u' → va_P G.1 vwCl (mw G mo ce gv dr go sa u' ++ (ow G ou fl' ++ bw G bx bd bo bs bk ca wa b')) H → va_D (fun q : Nat => s.heap.size ≤ q) (mw G mo ce gv dr go sa u' ++ (ow G ou fl' ++ bw G bx bd bo bs bk ca wa b')) → va_S (fun q : Nat => s.heap.size ≤ q) s.heap H locs → lv_has ls 7 [(0, .ref sb), (1, .ref bx), (2, .ref mo), (3, .ref ou), (4, .int xi)] → W p l e room_1 s m #[Value.ref sb] below meth c H locs (cells + 1) (slots + 6) Q (F0 m 1117 ls [])) : W p l e room_1 s m #[Value.ref sb] below meth c H locs cells slots Q (F0 m 784 ls []) := by
  obtain ⟨hx, hb, hml, hown, hts, hX, hbl, hK, hxw, hzz, hlt⟩ := C
  have hbA : ¬ (fun q : Nat => s.heap.size ≤ q) sb := Nat.not_le.mpr hbl
  obtain ⟨u', r, hq⟩ : ∃ u' r, Q_learn  k n u u' r := by unfold Q_learn; exact ⟨_, _, rfl, rfl⟩
  obtain ⟨cd, b', fl', hp, hcd, hrr, hI2⟩ := hst k n b u fl  u' r hI est hk30 esk hn6 mest mesk hq
  refine lv_aload_n hx hb dL_law_784 rfl (lv_at hl 1 rfl) ?_
  refine lv_aload_n hx hb dL_law_785 rfl (lv_at hl 3 rfl) ?_
  have hF := sr_F hD hS (fun _ h => h)
  refine mu_call (vx_runSW (As := [.ref bx, .ref ou]) (rest := []) ⟨hx, hb, hml, hown, hts⟩ (c_L_learn l hlt G _ ou fl fl' bx bd bo bs bk ca wa b b'  cd k n est hk30 esk hn6 hp) (vx_cwSW 2 hts gL_law_L_learn rfl rfl rfl (by decide +kernel) ⟨Nat.le_of_ble_eq_true rfl, Nat.le_of_ble_eq_true rfl⟩) ⟨tw_blind, tw_pre _ (sr_P hP) (sr_D hD) hK hxw ((hzz.kept hS.2.1).narrow hF)⟩ rfl rfl hl.1 rfl (lv_room (Nat.le_of_ble_eq_true rfl)) dL_law_786 ⟨hce, hsl⟩) hS hF hF (fun H1 locs hP1 hD1 hk1 hS => ?_)
  obtain ⟨hP, hD⟩ := sr_J hP hD hk1 hF hP1 hD1
  generalize H1 = H at hP hS ⊢
  refine lv_istore (lv' := [(5, .int cd), (0, .ref sb), (1, .ref bx), (2, .ref mo), (3, .ref ou), (4, .int xi)]) hx hb dL_law_789 hl (by decide) rfl (fun ls hl => ?_)
  refine lv_aload_n hx hb dL_law_791 rfl (lv_at hl 3 rfl) ?_
  have hF := sl_F hD hS (fun _ h => h)
  refine mu_call (va_runV (As := []) (rest := []) ⟨hx, hb, hml, hown, hts⟩ (m_learn l G _ mo ce gv dr go sa u u'  k n mest hk30 mesk hn6 r hq) (cwV 0 hts gL_law_X2_learn rfl rfl rfl (by decide +kernel) ⟨Nat.le_of_ble_eq_true rfl, Nat.le_of_ble_eq_true rfl⟩) ⟨mu_blind, va_recv hK.1 hP (ci := 2) (q0 := 0) rfl rfl, mu_pre _ (sl_P hP) (sl_D hD) hK⟩ rfl rfl hl.1 rfl (lv_room (Nat.le_of_ble_eq_true rfl)) dL_law_792 ⟨hce, hsl⟩) hS hF hF (fun H1 locs hP1 hD1 hk1 hS => ?_)
  obtain ⟨hP, hD⟩ := sl_J hP hD hk1 hF hP1 hD1
  generalize H1 = H at hP hS ⊢
  refine lv_istore (lv' := [(6, .int r), (5, .int cd), (0, .ref sb), (1, .ref bx), (2, .ref mo), (3, .ref ou), (4, .int xi)]) hx hb dL_law_795 hl (by decide) rfl (fun ls hl => ?_)
  refine lv_aload_n hx hb dL_law_797 rfl (lv_at hl 4 rfl) ?_
  refine ro_call (va_runV (As := []) (rest := []) ⟨hx, hb, hml, hown, hts⟩ (c_X2_thrown l G mo ce gv dr go sa (mth u') (mst u') (msk u') (mtk u') (mbe u') (mso u') (mle u') (man u') (mfc u') (mfg u') (mfd u') (mfo u') (mfs u')) (cwV 0 hts gL_law_X2_thrown rfl rfl rfl (by decide +kernel) ⟨Nat.le_of_ble_eq_true rfl, Nat.le_of_ble_eq_true rfl⟩) ⟨ro_blind, va_recv hK.1 hP (ci := 2) (q0 := 0) rfl rfl, ro_pre _ (sl_P hP) hK⟩ rfl rfl hl.1 rfl (lv_room (Nat.le_of_ble_eq_true rfl)) dL_law_798 ⟨hce, hsl⟩) ?_
  refine lv_iload hx hb dL_law_801 (lv_at hl 1 rfl) ?_
  refine lv_icmp_eq (tgt := 808) hx hb dL_law_803 (by decide) (fun _ => ?_) (fun c_803 => absurd hcd c_803)
  refine lv_iload hx hb dL_law_808 (lv_at hl 1 rfl) ?_
  refine lv_if_ne (tgt := 825) hx hb dL_law_810 (by decide) (fun _ => ?_) (fun c_810 => ?_)
  · refine lv_goto (tgt := 1117) hx hb dL_law_825 (by decide) ?_
    exact kk b' u' fl' _ _ ls hI2 hP hD hS (lv_sub hl [2, 3, 4, 5, 6] rfl)
  · have hrr := hrr c_810
    refine lv_aload_n hx hb dL_law_813 rfl (lv_at hl 5 rfl) ?_
    refine lv_iconst (v := 0) hx hb dL_law_814 (by decide) ?_
    refine va_lald hx hb hK.1 hP 6 3 rfl rfl (vp_in_nI (n := 0) (N := 1) (by decide) (by decide)) dL_law_815 ?_
    refine lv_iload hx hb dL_law_816 (lv_at hl 0 rfl) ?_
    refine lv_i2l (v := r.toInt64) hx hb dL_law_818 rfl ?_
    refine W.lcmp hx hb dL_law_819 ?_
    refine lv_if_eq (tgt := 825) hx hb dL_law_820 (by decide) (fun _ => ?_) (fun c_820 => absurd (cmp0 hrr) c_820)
    refine lv_goto (tgt := 1117) hx hb dL_law_825 (by decide) ?_
    exact kk b' u' fl' _ _ ls hI2 hP hD hS (lv_sub hl [2, 3, 4, 5, 6] rfl)

set_option maxHeartbeats 1000000 in
set_option maxRecDepth 100000 in
theorem lc_contradict {p : Program} {e : Env} {s : State} {m : MethodId} {below : List Frame} {meth : Method} {c : Code} {l : Launch} {sb L : Nat} {xs : Nat → Int32} {G : Gt} {Q : State → Prop} {Inv : BT → MT → Prop} {H : Heap} {locs : List Loc} {ls : Array Slot} {cells slots : Nat} {xi : Int32} {i k n : Nat} {mo ce gv dr go sa ou bx bd bo bs bk : Nat} {ca wa : Nat → Nat} {u : MT} {fl : Nat → Int64} {b : BT} (C : LC p l s m c sb L xs G) (hst : St_contradict Inv) (hI : Inv b u) (est : bst b = nI k) (hk30 : k ≤ 30) (esk : bsk b = nI n) (hn6 : n ≤ 6) (mest : mst u = nI k) (mesk : msk u = nI n) (exi : xi = nI i) (hi3 : i + 3 ≤ L) (hL : L ≤ 1536) (hce : cells + 1 ≤ 640935) (hsl : slots + 6 ≤ 7173298)
    (hP : va_P G.1 vwCl (mw G mo ce gv dr go sa u ++ (ow G ou fl ++ bw G bx bd bo bs bk ca wa b)) H) (hD : va_D (fun q : Nat => s.heap.size ≤ q) (mw G mo ce gv dr go sa u ++ (ow G ou fl ++ bw G bx bd bo bs bk ca wa b))) (hS : va_S (fun q : Nat => s.heap.size ≤ q) s.heap H locs) (hl : lv_has ls 7 [(0, .ref sb), (1, .ref bx), (2, .ref mo), (3, .ref ou), (4, .int xi)])
    (kk : ∀ (b' : BT) (u' : MT) (fl' : Nat → Int64) (H : Heap) (locs : List Loc) (ls : Array Slot), Inv b' u' → va_P G.1 vwCl (mw G mo ce gv dr go sa u' ++ (ow G ou fl' ++ bw G bx bd bo bs bk ca wa b')) H → va_D (fun q : Nat => s.heap.size ≤ q) (mw G mo ce gv dr go sa u' ++ (ow G ou fl' ++ bw G bx bd bo bs bk ca wa b')) → va_S (fun q : Nat => s.heap.size ≤ q) s.heap H locs → lv_has ls 7 [(0, .ref sb), (1, .ref bx), (2, .ref mo), (3, .ref ou), (4, .int xi)] → W p l e room_1 s m #[Value.ref sb] below meth c H locs (cells + 1) (slots + 6) Q (F0 m 1117 ls [])) : W p l e room_1 s m #[Value.ref sb] below meth c H locs cells slots Q (F0 m 828 ls []) := by
  obtain ⟨hx, hb, hml, hown, hts, hX, hbl, hK, hxw, hzz, hlt⟩ := C
  have hbA : ¬ (fun q : Nat => s.heap.size ≤ q) sb := Nat.not_le.mpr hbl
  obtain ⟨u', r, hq⟩ : ∃ u' r, Q_contradict (xs (i + 1)) k n u u' r := by unfold Q_contradict; exact ⟨_, _, rfl, rfl⟩
  obtain ⟨cd, b', fl', hp, hcd, hrr, hI2⟩ := hst k n b u fl (xs (i + 1)) u' r hI est hk30 esk hn6 mest mesk hq
  refine lv_aload_n hx hb dL_law_828 rfl (lv_at hl 1 rfl) ?_
  refine lv_aload_n hx hb dL_law_829 rfl (lv_at hl 0 rfl) ?_
  refine lv_iload hx hb dL_law_830 (lv_at hl 4 rfl) ?_
  refine lv_iconst (v := 1) hx hb dL_law_832 (by decide) ?_
  refine lv_iadd hx hb dL_law_833 ?_
  refine ra_sld hx hb hX hbl hbA hS (v := i + 1) (na_add exi (by decide)) (by omega) (by omega) dL_law_834 ?_
  refine lv_aload_n hx hb dL_law_835 rfl (lv_at hl 3 rfl) ?_
  have hF := sr_F hD hS (fun _ h => h)
  refine mu_call (vx_runSW (As := [.ref bx, .int (xs (i + 1)), .ref ou]) (rest := []) ⟨hx, hb, hml, hown, hts⟩ (c_L_contradict l hlt G _ ou fl fl' bx bd bo bs bk ca wa b b' (xs (i + 1)) cd k n est hk30 esk hn6 hp) (vx_cwSW 3 hts gL_law_L_contradict rfl rfl rfl (by decide +kernel) ⟨Nat.le_of_ble_eq_true rfl, Nat.le_of_ble_eq_true rfl⟩) ⟨tw_blind, tw_pre _ (sr_P hP) (sr_D hD) hK hxw ((hzz.kept hS.2.1).narrow hF)⟩ rfl rfl hl.1 rfl (lv_room (Nat.le_of_ble_eq_true rfl)) dL_law_836 ⟨hce, hsl⟩) hS hF hF (fun H1 locs hP1 hD1 hk1 hS => ?_)
  obtain ⟨hP, hD⟩ := sr_J hP hD hk1 hF hP1 hD1
  generalize H1 = H at hP hS ⊢
  refine lv_istore (lv' := [(5, .int cd), (0, .ref sb), (1, .ref bx), (2, .ref mo), (3, .ref ou), (4, .int xi)]) hx hb dL_law_839 hl (by decide) rfl (fun ls hl => ?_)
  refine lv_aload_n hx hb dL_law_841 rfl (lv_at hl 3 rfl) ?_
  refine lv_aload_n hx hb dL_law_842 rfl (lv_at hl 1 rfl) ?_
  refine lv_iload hx hb dL_law_843 (lv_at hl 5 rfl) ?_
  refine lv_iconst (v := 1) hx hb dL_law_845 (by decide) ?_
  refine lv_iadd hx hb dL_law_846 ?_
  refine ra_sld hx hb hX hbl hbA hS (v := i + 1) (na_add exi (by decide)) (by omega) (by omega) dL_law_847 ?_
  have hF := sl_F hD hS (fun _ h => h)
  refine mu_call (va_runV (As := [.int (xs (i + 1))]) (rest := []) ⟨hx, hb, hml, hown, hts⟩ (m_contradict l G _ mo ce gv dr go sa u u' (xs (i + 1)) k n mest hk30 mesk hn6 r hq) (cwV 1 hts gL_law_X2_contradict rfl rfl rfl (by decide +kernel) ⟨Nat.le_of_ble_eq_true rfl, Nat.le_of_ble_eq_true rfl⟩) ⟨mu_blind, va_recv hK.1 hP (ci := 2) (q0 := 0) rfl rfl, mu_pre _ (sl_P hP) (sl_D hD) hK⟩ rfl rfl hl.1 rfl (lv_room (Nat.le_of_ble_eq_true rfl)) dL_law_848 ⟨hce, hsl⟩) hS hF hF (fun H1 locs hP1 hD1 hk1 hS => ?_)
  obtain ⟨hP, hD⟩ := sl_J hP hD hk1 hF hP1 hD1
  generalize H1 = H at hP hS ⊢
  refine lv_istore (lv' := [(6, .int r), (5, .int cd), (0, .ref sb), (1, .ref bx), (2, .ref mo), (3, .ref ou), (4, .int xi)]) hx hb dL_law_851 hl (by decide) rfl (fun ls hl => ?_)
  refine lv_aload_n hx hb dL_law_853 rfl (lv_at hl 4 rfl) ?_
  refine ro_call (va_runV (As := []) (rest := []) ⟨hx, hb, hml, hown, hts⟩ (c_X2_thrown l G mo ce gv dr go sa (mth u') (mst u') (msk u') (mtk u') (mbe u') (mso u') (mle u') (man u') (mfc u') (mfg u') (mfd u') (mfo u') (mfs u')) (cwV 0 hts gL_law_X2_thrown rfl rfl rfl (by decide +kernel) ⟨Nat.le_of_ble_eq_true rfl, Nat.le_of_ble_eq_true rfl⟩) ⟨ro_blind, va_recv hK.1 hP (ci := 2) (q0 := 0) rfl rfl, ro_pre _ (sl_P hP) hK⟩ rfl rfl hl.1 rfl (lv_room (Nat.le_of_ble_eq_true rfl)) dL_law_854 ⟨hce, hsl⟩) ?_
  refine lv_iload hx hb dL_law_857 (lv_at hl 1 rfl) ?_
  refine lv_icmp_eq (tgt := 864) hx hb dL_law_859 (by decide) (fun _ => ?_) (fun c_859 => absurd hcd c_859)
  refine lv_iload hx hb dL_law_864 (lv_at hl 1 rfl) ?_
  refine lv_if_ne (tgt := 881) hx hb dL_law_866 (by decide) (fun _ => ?_) (fun c_866 => ?_)
  · refine lv_goto (tgt := 1117) hx hb dL_law_881 (by decide) ?_
    exact kk b' u' fl' _ _ ls hI2 hP hD hS (lv_sub hl [2, 3, 4, 5, 6] rfl)
  · have hrr := hrr c_866
    refine lv_aload_n hx hb dL_law_869 rfl (lv_at hl 5 rfl) ?_
    refine lv_iconst (v := 0) hx hb dL_law_870 (by decide) ?_
    refine va_lald hx hb hK.1 hP 6 3 rfl rfl (vp_in_nI (n := 0) (N := 1) (by decide) (by decide)) dL_law_871 ?_
    refine lv_iload hx hb dL_law_872 (lv_at hl 0 rfl) ?_
    refine lv_i2l (v := r.toInt64) hx hb dL_law_874 rfl ?_
    refine W.lcmp hx hb dL_law_875 ?_
    refine lv_if_eq (tgt := 881) hx hb dL_law_876 (by decide) (fun _ => ?_) (fun c_876 => absurd (cmp0 hrr) c_876)
    refine lv_goto (tgt := 1117) hx hb dL_law_881 (by decide) ?_
    exact kk b' u' fl' _ _ ls hI2 hP hD hS (lv_sub hl [2, 3, 4, 5, 6] rfl)

set_option maxHeartbeats 1000000 in
set_option maxRecDepth 100000 in
theorem lc_found {p : Program} {e : Env} {s : State} {m : MethodId} {below : List Frame} {meth : Method} {c : Code} {l : Launch} {sb L : Nat} {xs : Nat → Int32} {G : Gt} {Q : State → Prop} {Inv : BT → MT → Prop} {H : Heap} {locs : List Loc} {ls : Array Slot} {cells slots : Nat} {xi : Int32} {i k n : Nat} {mo ce gv dr go sa ou bx bd bo bs bk : Nat} {ca wa : Nat → Nat} {u : MT} {fl : Nat → Int64} {b : BT} (C : LC p l s m c sb L xs G) (hst : St_found Inv) (hI : Inv b u) (est : bst b = nI k) (hk30 : k ≤ 30) (esk : bsk b = nI n) (hn6 : n ≤ 6) (mest : mst u = nI k) (mesk : msk u = nI n) (exi : xi = nI i) (hi3 : i + 3 ≤ L) (hL : L ≤ 1536) (hce : cells + 1 ≤ 640935) (hsl : slots + 6 ≤ 7173298)
    (hP : va_P G.1 vwCl (mw G mo ce gv dr go sa u ++ (ow G ou fl ++ bw G bx bd bo bs bk ca wa b)) H) (hD : va_D (fun q : Nat => s.heap.size ≤ q) (mw G mo ce gv dr go sa u ++ (ow G ou fl ++ bw G bx bd bo bs bk ca wa b))) (hS : va_S (fun q : Nat => s.heap.size ≤ q) s.heap H locs) (hl : lv_has ls 7 [(0, .ref sb), (1, .ref bx), (2, .ref mo), (3, .ref ou), (4, .int xi)])
    (kk : ∀ (b' : BT) (u' : MT) (fl' : Nat → Int64) (H : Heap) (locs : List Loc) (ls : Array Slot), Inv b' u' → va_P G.1 vwCl (mw G mo ce gv dr go sa u' ++ (ow G ou fl' ++ bw G bx bd bo bs bk ca wa b')) H → va_D (fun q : Nat => s.heap.size ≤ q) (mw G mo ce gv dr go sa u' ++ (ow G ou fl' ++ bw G bx bd bo bs bk ca wa b')) → va_S (fun q : Nat => s.heap.size ≤ q) s.heap H locs → lv_has ls 7 [(0, .ref sb), (1, .ref bx), (2, .ref mo), (3, .ref ou), (4, .int xi)] → W p l e room_1 s m #[Value.ref sb] below meth c H locs (cells + 1) (slots + 6) Q (F0 m 1117 ls [])) : W p l e room_1 s m #[Value.ref sb] below meth c H locs cells slots Q (F0 m 884 ls []) := by
  obtain ⟨hx, hb, hml, hown, hts, hX, hbl, hK, hxw, hzz, hlt⟩ := C
  have hbA : ¬ (fun q : Nat => s.heap.size ≤ q) sb := Nat.not_le.mpr hbl
  obtain ⟨u', r, hq⟩ : ∃ u' r, Q_found (xs (i + 1)) k n u u' r := by unfold Q_found; exact ⟨_, _, rfl, rfl⟩
  obtain ⟨cd, b', fl', hp, hcd, hrr, hI2⟩ := hst k n b u fl (xs (i + 1)) u' r hI est hk30 esk hn6 mest mesk hq
  refine lv_aload_n hx hb dL_law_884 rfl (lv_at hl 1 rfl) ?_
  refine lv_aload_n hx hb dL_law_885 rfl (lv_at hl 0 rfl) ?_
  refine lv_iload hx hb dL_law_886 (lv_at hl 4 rfl) ?_
  refine lv_iconst (v := 1) hx hb dL_law_888 (by decide) ?_
  refine lv_iadd hx hb dL_law_889 ?_
  refine ra_sld hx hb hX hbl hbA hS (v := i + 1) (na_add exi (by decide)) (by omega) (by omega) dL_law_890 ?_
  refine lv_aload_n hx hb dL_law_891 rfl (lv_at hl 3 rfl) ?_
  have hF := sr_F hD hS (fun _ h => h)
  refine mu_call (vx_runSW (As := [.ref bx, .int (xs (i + 1)), .ref ou]) (rest := []) ⟨hx, hb, hml, hown, hts⟩ (c_L_found l hlt G _ ou fl fl' bx bd bo bs bk ca wa b b' (xs (i + 1)) cd k n est hk30 esk hn6 hp) (vx_cwSW 3 hts gL_law_L_found rfl rfl rfl (by decide +kernel) ⟨Nat.le_of_ble_eq_true rfl, Nat.le_of_ble_eq_true rfl⟩) ⟨tw_blind, tw_pre _ (sr_P hP) (sr_D hD) hK hxw ((hzz.kept hS.2.1).narrow hF)⟩ rfl rfl hl.1 rfl (lv_room (Nat.le_of_ble_eq_true rfl)) dL_law_892 ⟨hce, hsl⟩) hS hF hF (fun H1 locs hP1 hD1 hk1 hS => ?_)
  obtain ⟨hP, hD⟩ := sr_J hP hD hk1 hF hP1 hD1
  generalize H1 = H at hP hS ⊢
  refine lv_istore (lv' := [(5, .int cd), (0, .ref sb), (1, .ref bx), (2, .ref mo), (3, .ref ou), (4, .int xi)]) hx hb dL_law_895 hl (by decide) rfl (fun ls hl => ?_)
  refine lv_aload_n hx hb dL_law_897 rfl (lv_at hl 3 rfl) ?_
  refine lv_aload_n hx hb dL_law_898 rfl (lv_at hl 1 rfl) ?_
  refine lv_iload hx hb dL_law_899 (lv_at hl 5 rfl) ?_
  refine lv_iconst (v := 1) hx hb dL_law_901 (by decide) ?_
  refine lv_iadd hx hb dL_law_902 ?_
  refine ra_sld hx hb hX hbl hbA hS (v := i + 1) (na_add exi (by decide)) (by omega) (by omega) dL_law_903 ?_
  have hF := sl_F hD hS (fun _ h => h)
  refine mu_call (va_runV (As := [.int (xs (i + 1))]) (rest := []) ⟨hx, hb, hml, hown, hts⟩ (m_found l G _ mo ce gv dr go sa u u' (xs (i + 1)) k n mest hk30 mesk hn6 r hq) (cwV 1 hts gL_law_X2_found rfl rfl rfl (by decide +kernel) ⟨Nat.le_of_ble_eq_true rfl, Nat.le_of_ble_eq_true rfl⟩) ⟨mu_blind, va_recv hK.1 hP (ci := 2) (q0 := 0) rfl rfl, mu_pre _ (sl_P hP) (sl_D hD) hK⟩ rfl rfl hl.1 rfl (lv_room (Nat.le_of_ble_eq_true rfl)) dL_law_904 ⟨hce, hsl⟩) hS hF hF (fun H1 locs hP1 hD1 hk1 hS => ?_)
  obtain ⟨hP, hD⟩ := sl_J hP hD hk1 hF hP1 hD1
  generalize H1 = H at hP hS ⊢
  refine lv_istore (lv' := [(6, .int r), (5, .int cd), (0, .ref sb), (1, .ref bx), (2, .ref mo), (3, .ref ou), (4, .int xi)]) hx hb dL_law_907 hl (by decide) rfl (fun ls hl => ?_)
  refine lv_aload_n hx hb dL_law_909 rfl (lv_at hl 4 rfl) ?_
  refine ro_call (va_runV (As := []) (rest := []) ⟨hx, hb, hml, hown, hts⟩ (c_X2_thrown l G mo ce gv dr go sa (mth u') (mst u') (msk u') (mtk u') (mbe u') (mso u') (mle u') (man u') (mfc u') (mfg u') (mfd u') (mfo u') (mfs u')) (cwV 0 hts gL_law_X2_thrown rfl rfl rfl (by decide +kernel) ⟨Nat.le_of_ble_eq_true rfl, Nat.le_of_ble_eq_true rfl⟩) ⟨ro_blind, va_recv hK.1 hP (ci := 2) (q0 := 0) rfl rfl, ro_pre _ (sl_P hP) hK⟩ rfl rfl hl.1 rfl (lv_room (Nat.le_of_ble_eq_true rfl)) dL_law_910 ⟨hce, hsl⟩) ?_
  refine lv_iload hx hb dL_law_913 (lv_at hl 1 rfl) ?_
  refine lv_icmp_eq (tgt := 920) hx hb dL_law_915 (by decide) (fun _ => ?_) (fun c_915 => absurd hcd c_915)
  refine lv_iload hx hb dL_law_920 (lv_at hl 1 rfl) ?_
  refine lv_if_ne (tgt := 944) hx hb dL_law_922 (by decide) (fun _ => ?_) (fun c_922 => ?_)
  · refine lv_goto (tgt := 1117) hx hb dL_law_944 (by decide) ?_
    exact kk b' u' fl' _ _ ls hI2 hP hD hS (lv_sub hl [2, 3, 4, 5, 6] rfl)
  · have hrr := hrr c_922
    refine lv_aload_n hx hb dL_law_925 rfl (lv_at hl 5 rfl) ?_
    refine lv_iconst (v := 0) hx hb dL_law_926 (by decide) ?_
    refine va_lald hx hb hK.1 hP 6 3 rfl rfl (vp_in_nI (n := 0) (N := 1) (by decide) (by decide)) dL_law_927 ?_
    refine lv_iload hx hb dL_law_928 (lv_at hl 0 rfl) ?_
    refine lv_if_eq (tgt := 937) hx hb dL_law_930 (by decide) (fun c_930 => ?_) (fun c_930 => ?_)
    · rw [if_pos c_930] at hrr
      refine lv_lconst (v := 0) hx hb dL_law_937 (by decide) ?_
      refine W.lcmp hx hb dL_law_938 ?_
      refine lv_if_eq (tgt := 944) hx hb dL_law_939 (by decide) (fun _ => ?_) (fun c_939 => absurd (cmp0 hrr) c_939)
      refine lv_goto (tgt := 1117) hx hb dL_law_944 (by decide) ?_
      exact kk b' u' fl' _ _ ls hI2 hP hD hS (lv_sub hl [2, 3, 4, 5, 6] rfl)
    · rw [if_neg c_930] at hrr
      refine lv_lconst (v := 1) hx hb dL_law_933 (by decide) ?_
      refine lv_goto (tgt := 938) hx hb dL_law_934 (by decide) ?_
      refine W.lcmp hx hb dL_law_938 ?_
      refine lv_if_eq (tgt := 944) hx hb dL_law_939 (by decide) (fun _ => ?_) (fun c_939 => absurd (cmp0 hrr) c_939)
      refine lv_goto (tgt := 1117) hx hb dL_law_944 (by decide) ?_
      exact kk b' u' fl' _ _ ls hI2 hP hD hS (lv_sub hl [2, 3, 4, 5, 6] rfl)

set_option maxHeartbeats 1000000 in
set_option maxRecDepth 100000 in
theorem lc_verdict {p : Program} {e : Env} {s : State} {m : MethodId} {below : List Frame} {meth : Method} {c : Code} {l : Launch} {sb L : Nat} {xs : Nat → Int32} {G : Gt} {Q : State → Prop} {Inv : BT → MT → Prop} {H : Heap} {locs : List Loc} {ls : Array Slot} {cells slots : Nat} {xi : Int32} {i k n : Nat} {mo ce gv dr go sa ou bx bd bo bs bk : Nat} {ca wa : Nat → Nat} {u : MT} {fl : Nat → Int64} {b : BT} (C : LC p l s m c sb L xs G) (hst : St_verdict Inv) (hI : Inv b u) (est : bst b = nI k) (hk30 : k ≤ 30) (esk : bsk b = nI n) (hn6 : n ≤ 6) (mest : mst u = nI k) (mesk : msk u = nI n) (exi : xi = nI i) (hi3 : i + 3 ≤ L) (hL : L ≤ 1536) (hce : cells + 1 ≤ 640935) (hsl : slots + 6 ≤ 7173298)
    (hP : va_P G.1 vwCl (mw G mo ce gv dr go sa u ++ (ow G ou fl ++ bw G bx bd bo bs bk ca wa b)) H) (hD : va_D (fun q : Nat => s.heap.size ≤ q) (mw G mo ce gv dr go sa u ++ (ow G ou fl ++ bw G bx bd bo bs bk ca wa b))) (hS : va_S (fun q : Nat => s.heap.size ≤ q) s.heap H locs) (hl : lv_has ls 7 [(0, .ref sb), (1, .ref bx), (2, .ref mo), (3, .ref ou), (4, .int xi)])
    (kk : ∀ (b' : BT) (u' : MT) (fl' : Nat → Int64) (H : Heap) (locs : List Loc) (ls : Array Slot), Inv b' u' → va_P G.1 vwCl (mw G mo ce gv dr go sa u' ++ (ow G ou fl' ++ bw G bx bd bo bs bk ca wa b')) H → va_D (fun q : Nat => s.heap.size ≤ q) (mw G mo ce gv dr go sa u' ++ (ow G ou fl' ++ bw G bx bd bo bs bk ca wa b')) → va_S (fun q : Nat => s.heap.size ≤ q) s.heap H locs → lv_has ls 7 [(0, .ref sb), (1, .ref bx), (2, .ref mo), (3, .ref ou), (4, .int xi)] → W p l e room_1 s m #[Value.ref sb] below meth c H locs (cells + 1) (slots + 6) Q (F0 m 1117 ls [])) : W p l e room_1 s m #[Value.ref sb] below meth c H locs cells slots Q (F0 m 947 ls []) := by
  obtain ⟨hx, hb, hml, hown, hts, hX, hbl, hK, hxw, hzz, hlt⟩ := C
  have hbA : ¬ (fun q : Nat => s.heap.size ≤ q) sb := Nat.not_le.mpr hbl
  obtain ⟨u', r, hq⟩ : ∃ u' r, Q_verdict k n u u' r := ⟨_, _, rfl, rfl⟩
  obtain ⟨hrr, hI2⟩ := hst k n b u u' r hI est hk30 esk hn6 mest mesk hq
  refine lv_aload_n hx hb dL_law_947 rfl (lv_at hl 1 rfl) ?_
  have hP2 := sr_P (wa := mw G mo ce gv dr go sa u ++ ow G ou fl) (wb := bw G bx bd bo bs bk ca wa b) (by rw [List.append_assoc]; exact hP)
  refine ro_call (va_runV (As := []) (rest := []) ⟨hx, hb, hml, hown, hts⟩ (p_verdict l G bx bd bo bs bk ca wa b k est hk30) (cwV 0 hts gL_law_X1_verdict rfl rfl rfl (by decide +kernel) ⟨Nat.le_of_ble_eq_true rfl, Nat.le_of_ble_eq_true rfl⟩) ⟨ro_blind, va_recv hK.1 hP2 (ci := 1) (q0 := 0) rfl rfl, ro_pre _ hP2 hK⟩ rfl rfl hl.1 rfl (lv_room (Nat.le_of_ble_eq_true rfl)) dL_law_948 ⟨Nat.le_of_succ_le hce, Nat.le_trans (Nat.le_add_right _ 6) hsl⟩) ?_
  refine lv_aload_n hx hb dL_law_951 rfl (lv_at hl 2 rfl) ?_
  have hF := sl_F hD hS (fun _ h => h)
  refine mu_call (va_runV (As := []) (rest := [.int (vxR (bro b) (bdg b) (bfo b) k (btk b))]) ⟨hx, hb, hml, hown, hts⟩ (m_verdict l G _ mo ce gv dr go sa u u'  k n mest hk30 mesk hn6 r hq) (cwV 0 hts gL_law_X2_verdict rfl rfl rfl (by decide +kernel) ⟨Nat.le_of_ble_eq_true rfl, Nat.le_of_ble_eq_true rfl⟩) ⟨mu_blind, va_recv hK.1 hP (ci := 2) (q0 := 0) rfl rfl, mu_pre _ (sl_P hP) (sl_D hD) hK⟩ rfl rfl hl.1 rfl (lv_room (Nat.le_of_ble_eq_true rfl)) dL_law_952 ⟨Nat.le_of_succ_le hce, Nat.le_trans (Nat.le_add_right _ 6) hsl⟩) hS hF hF (fun H1 locs hP1 hD1 hk1 hS => ?_)
  obtain ⟨hP, hD⟩ := sl_J hP hD hk1 hF hP1 hD1
  generalize H1 = H at hP hS ⊢
  refine lv_icmp_eq (tgt := 1117) hx hb dL_law_955 (by decide) (fun _ => ?_) (fun c_955 => absurd hrr c_955)
  refine W.widen (k := cells + 1) (n := slots + 6) (by omega) (by omega) ?_
  exact kk b u' fl _ _ ls hI2 hP hD hS (lv_sub hl [0, 1, 2, 3, 4] rfl)

set_option maxHeartbeats 1000000 in
set_option maxRecDepth 100000 in
theorem lc_best {p : Program} {e : Env} {s : State} {m : MethodId} {below : List Frame} {meth : Method} {c : Code} {l : Launch} {sb L : Nat} {xs : Nat → Int32} {G : Gt} {Q : State → Prop} {Inv : BT → MT → Prop} {H : Heap} {locs : List Loc} {ls : Array Slot} {cells slots : Nat} {xi : Int32} {i k n : Nat} {mo ce gv dr go sa ou bx bd bo bs bk : Nat} {ca wa : Nat → Nat} {u : MT} {fl : Nat → Int64} {b : BT} (C : LC p l s m c sb L xs G) (hst : St_best Inv) (hI : Inv b u) (est : bst b = nI k) (hk30 : k ≤ 30) (esk : bsk b = nI n) (hn6 : n ≤ 6) (mest : mst u = nI k) (mesk : msk u = nI n) (exi : xi = nI i) (hi3 : i + 3 ≤ L) (hL : L ≤ 1536) (hce : cells + 1 ≤ 640935) (hsl : slots + 6 ≤ 7173298)
    (hP : va_P G.1 vwCl (mw G mo ce gv dr go sa u ++ (ow G ou fl ++ bw G bx bd bo bs bk ca wa b)) H) (hD : va_D (fun q : Nat => s.heap.size ≤ q) (mw G mo ce gv dr go sa u ++ (ow G ou fl ++ bw G bx bd bo bs bk ca wa b))) (hS : va_S (fun q : Nat => s.heap.size ≤ q) s.heap H locs) (hl : lv_has ls 7 [(0, .ref sb), (1, .ref bx), (2, .ref mo), (3, .ref ou), (4, .int xi)])
    (kk : ∀ (b' : BT) (u' : MT) (fl' : Nat → Int64) (H : Heap) (locs : List Loc) (ls : Array Slot), Inv b' u' → va_P G.1 vwCl (mw G mo ce gv dr go sa u' ++ (ow G ou fl' ++ bw G bx bd bo bs bk ca wa b')) H → va_D (fun q : Nat => s.heap.size ≤ q) (mw G mo ce gv dr go sa u' ++ (ow G ou fl' ++ bw G bx bd bo bs bk ca wa b')) → va_S (fun q : Nat => s.heap.size ≤ q) s.heap H locs → lv_has ls 7 [(0, .ref sb), (1, .ref bx), (2, .ref mo), (3, .ref ou), (4, .int xi)] → W p l e room_1 s m #[Value.ref sb] below meth c H locs (cells + 1) (slots + 6) Q (F0 m 1117 ls [])) : W p l e room_1 s m #[Value.ref sb] below meth c H locs cells slots Q (F0 m 960 ls []) := by
  obtain ⟨hx, hb, hml, hown, hts, hX, hbl, hK, hxw, hzz, hlt⟩ := C
  have hbA : ¬ (fun q : Nat => s.heap.size ≤ q) sb := Nat.not_le.mpr hbl
  obtain ⟨u', r, hq⟩ : ∃ u' r, Q_best  k n u u' r := by unfold Q_best; exact ⟨_, _, rfl, rfl⟩
  obtain ⟨cd, b', fl', hp, hcd, hrr, hI2⟩ := hst k n b u fl  u' r hI est hk30 esk hn6 mest mesk hq
  refine lv_aload_n hx hb dL_law_960 rfl (lv_at hl 1 rfl) ?_
  refine lv_aload_n hx hb dL_law_961 rfl (lv_at hl 3 rfl) ?_
  have hF := sr_F hD hS (fun _ h => h)
  refine mu_call (vx_runSW (As := [.ref bx, .ref ou]) (rest := []) ⟨hx, hb, hml, hown, hts⟩ (c_L_best l hlt G _ ou fl fl' bx bd bo bs bk ca wa b b'  cd k n est hk30 esk hn6 hp) (vx_cwSW 2 hts gL_law_L_best rfl rfl rfl (by decide +kernel) ⟨Nat.le_of_ble_eq_true rfl, Nat.le_of_ble_eq_true rfl⟩) ⟨tw_blind, tw_pre _ (sr_P hP) (sr_D hD) hK hxw ((hzz.kept hS.2.1).narrow hF)⟩ rfl rfl hl.1 rfl (lv_room (Nat.le_of_ble_eq_true rfl)) dL_law_962 ⟨hce, hsl⟩) hS hF hF (fun H1 locs hP1 hD1 hk1 hS => ?_)
  obtain ⟨hP, hD⟩ := sr_J hP hD hk1 hF hP1 hD1
  generalize H1 = H at hP hS ⊢
  refine lv_istore (lv' := [(5, .int cd), (0, .ref sb), (1, .ref bx), (2, .ref mo), (3, .ref ou), (4, .int xi)]) hx hb dL_law_965 hl (by decide) rfl (fun ls hl => ?_)
  refine lv_aload_n hx hb dL_law_967 rfl (lv_at hl 3 rfl) ?_
  have hF := sl_F hD hS (fun _ h => h)
  refine mu_call (va_runV (As := []) (rest := []) ⟨hx, hb, hml, hown, hts⟩ (m_best l G _ mo ce gv dr go sa u u'  k n mest hk30 mesk hn6 r hq) (cwV 0 hts gL_law_X2_best rfl rfl rfl (by decide +kernel) ⟨Nat.le_of_ble_eq_true rfl, Nat.le_of_ble_eq_true rfl⟩) ⟨mu_blind, va_recv hK.1 hP (ci := 2) (q0 := 0) rfl rfl, mu_pre _ (sl_P hP) (sl_D hD) hK⟩ rfl rfl hl.1 rfl (lv_room (Nat.le_of_ble_eq_true rfl)) dL_law_968 ⟨hce, hsl⟩) hS hF hF (fun H1 locs hP1 hD1 hk1 hS => ?_)
  obtain ⟨hP, hD⟩ := sl_J hP hD hk1 hF hP1 hD1
  generalize H1 = H at hP hS ⊢
  refine lv_istore (lv' := [(6, .int r), (5, .int cd), (0, .ref sb), (1, .ref bx), (2, .ref mo), (3, .ref ou), (4, .int xi)]) hx hb dL_law_971 hl (by decide) rfl (fun ls hl => ?_)
  refine lv_aload_n hx hb dL_law_973 rfl (lv_at hl 4 rfl) ?_
  refine ro_call (va_runV (As := []) (rest := []) ⟨hx, hb, hml, hown, hts⟩ (c_X2_thrown l G mo ce gv dr go sa (mth u') (mst u') (msk u') (mtk u') (mbe u') (mso u') (mle u') (man u') (mfc u') (mfg u') (mfd u') (mfo u') (mfs u')) (cwV 0 hts gL_law_X2_thrown rfl rfl rfl (by decide +kernel) ⟨Nat.le_of_ble_eq_true rfl, Nat.le_of_ble_eq_true rfl⟩) ⟨ro_blind, va_recv hK.1 hP (ci := 2) (q0 := 0) rfl rfl, ro_pre _ (sl_P hP) hK⟩ rfl rfl hl.1 rfl (lv_room (Nat.le_of_ble_eq_true rfl)) dL_law_974 ⟨hce, hsl⟩) ?_
  refine lv_iload hx hb dL_law_977 (lv_at hl 1 rfl) ?_
  refine lv_icmp_eq (tgt := 984) hx hb dL_law_979 (by decide) (fun _ => ?_) (fun c_979 => absurd hcd c_979)
  refine lv_iload hx hb dL_law_984 (lv_at hl 1 rfl) ?_
  refine lv_if_ne (tgt := 1001) hx hb dL_law_986 (by decide) (fun _ => ?_) (fun c_986 => ?_)
  · refine lv_goto (tgt := 1117) hx hb dL_law_1001 (by decide) ?_
    exact kk b' u' fl' _ _ ls hI2 hP hD hS (lv_sub hl [2, 3, 4, 5, 6] rfl)
  · have hrr := hrr c_986
    refine lv_aload_n hx hb dL_law_989 rfl (lv_at hl 5 rfl) ?_
    refine lv_iconst (v := 0) hx hb dL_law_990 (by decide) ?_
    refine va_lald hx hb hK.1 hP 6 3 rfl rfl (vp_in_nI (n := 0) (N := 1) (by decide) (by decide)) dL_law_991 ?_
    refine lv_iload hx hb dL_law_992 (lv_at hl 0 rfl) ?_
    refine lv_i2l (v := r.toInt64) hx hb dL_law_994 rfl ?_
    refine W.lcmp hx hb dL_law_995 ?_
    refine lv_if_eq (tgt := 1001) hx hb dL_law_996 (by decide) (fun _ => ?_) (fun c_996 => absurd (cmp0 hrr) c_996)
    refine lv_goto (tgt := 1117) hx hb dL_law_1001 (by decide) ?_
    exact kk b' u' fl' _ _ ls hI2 hP hD hS (lv_sub hl [2, 3, 4, 5, 6] rfl)

set_option maxHeartbeats 1000000 in
set_option maxRecDepth 100000 in
theorem lc_solve {p : Program} {e : Env} {s : State} {m : MethodId} {below : List Frame} {meth : Method} {c : Code} {l : Launch} {sb L : Nat} {xs : Nat → Int32} {G : Gt} {Q : State → Prop} {Inv : BT → MT → Prop} {H : Heap} {locs : List Loc} {ls : Array Slot} {cells slots : Nat} {xi : Int32} {i k n : Nat} {mo ce gv dr go sa ou bx bd bo bs bk : Nat} {ca wa : Nat → Nat} {u : MT} {fl : Nat → Int64} {b : BT} (C : LC p l s m c sb L xs G) (hst : St_solve Inv) (hI : Inv b u) (est : bst b = nI k) (hk30 : k ≤ 30) (esk : bsk b = nI n) (hn6 : n ≤ 6) (mest : mst u = nI k) (mesk : msk u = nI n) (exi : xi = nI i) (hi3 : i + 3 ≤ L) (hL : L ≤ 1536) (hce : cells + 1 ≤ 640935) (hsl : slots + 6 ≤ 7173298)
    (hP : va_P G.1 vwCl (mw G mo ce gv dr go sa u ++ (ow G ou fl ++ bw G bx bd bo bs bk ca wa b)) H) (hD : va_D (fun q : Nat => s.heap.size ≤ q) (mw G mo ce gv dr go sa u ++ (ow G ou fl ++ bw G bx bd bo bs bk ca wa b))) (hS : va_S (fun q : Nat => s.heap.size ≤ q) s.heap H locs) (hl : lv_has ls 7 [(0, .ref sb), (1, .ref bx), (2, .ref mo), (3, .ref ou), (4, .int xi)])
    (kk : ∀ (b' : BT) (u' : MT) (fl' : Nat → Int64) (H : Heap) (locs : List Loc) (ls : Array Slot), Inv b' u' → va_P G.1 vwCl (mw G mo ce gv dr go sa u' ++ (ow G ou fl' ++ bw G bx bd bo bs bk ca wa b')) H → va_D (fun q : Nat => s.heap.size ≤ q) (mw G mo ce gv dr go sa u' ++ (ow G ou fl' ++ bw G bx bd bo bs bk ca wa b')) → va_S (fun q : Nat => s.heap.size ≤ q) s.heap H locs → lv_has ls 7 [(0, .ref sb), (1, .ref bx), (2, .ref mo), (3, .ref ou), (4, .int xi)] → W p l e room_1 s m #[Value.ref sb] below meth c H locs (cells + 1) (slots + 6) Q (F0 m 1117 ls [])) : W p l e room_1 s m #[Value.ref sb] below meth c H locs cells slots Q (F0 m 1004 ls []) := by
  obtain ⟨hx, hb, hml, hown, hts, hX, hbl, hK, hxw, hzz, hlt⟩ := C
  have hbA : ¬ (fun q : Nat => s.heap.size ≤ q) sb := Nat.not_le.mpr hbl
  obtain ⟨N, hN24⟩ : ∃ N, N = 1024 := ⟨_, rfl⟩
  obtain ⟨u', r, hq⟩ : ∃ u' r, Q_solve N k n u u' r := ⟨_, _, rfl, rfl⟩
  obtain ⟨b', hp, hI2⟩ := hst N k n b u u' r hN24 hI est hk30 esk hn6 mest mesk hq
  refine lv_aload_n hx hb dL_law_1004 rfl (lv_at hl 1 rfl) ?_
  have hP2 := sr_P (wa := mw G mo ce gv dr go sa u ++ ow G ou fl) (wb := bw G bx bd bo bs bk ca wa b) (by rw [List.append_assoc]; exact hP)
  have hP3 : va_P G.1 vwCl ((mw G mo ce gv dr go sa u ++ ow G ou fl) ++ bw G bx bd bo bs bk ca wa b) H := by rw [List.append_assoc]; exact hP
  have hD3 : va_D (fun q : Nat => s.heap.size ≤ q) ((mw G mo ce gv dr go sa u ++ ow G ou fl) ++ bw G bx bd bo bs bk ca wa b) := by rw [List.append_assoc]; exact hD
  have hF := sr_F hD3 hS (fun _ h => h)
  refine mu_call (va_runV (As := []) (rest := []) ⟨hx, hb, hml, hown, hts⟩ (p_solve l G _ bx bd bo bs bk ca wa b b' N r k est hk30 hN24 hp) (cwV 0 hts gL_law_X1_solve rfl rfl rfl (by decide +kernel) ⟨Nat.le_of_ble_eq_true rfl, Nat.le_of_ble_eq_true rfl⟩) ⟨mu_blind, va_recv hK.1 hP2 (ci := 1) (q0 := 0) rfl rfl, mu_pre _ hP2 (sr_D hD3) hK⟩ rfl rfl hl.1 rfl (lv_room (Nat.le_of_ble_eq_true rfl)) dL_law_1005 ⟨Nat.le_of_succ_le hce, Nat.le_trans (Nat.le_add_right _ 6) hsl⟩) hS hF hF (fun H1 locs hP1 hD1 hk1 hS => ?_)
  obtain ⟨hP, hD⟩ := sr_J hP3 hD3 hk1 hF hP1 hD1
  rw [List.append_assoc] at hP hD
  generalize H1 = H at hP hS ⊢
  refine lv_aload_n hx hb dL_law_1008 rfl (lv_at hl 2 rfl) ?_
  have hF := sl_F hD hS (fun _ h => h)
  refine mu_call (va_runV (As := []) (rest := [.int r]) ⟨hx, hb, hml, hown, hts⟩ (m_solve l G _ mo ce gv dr go sa u u' N k n mest hk30 mesk hn6 r hN24 hq) (cwV 0 hts gL_law_X2_solve rfl rfl rfl (by decide +kernel) ⟨Nat.le_of_ble_eq_true rfl, Nat.le_of_ble_eq_true rfl⟩) ⟨mu_blind, va_recv hK.1 hP (ci := 2) (q0 := 0) rfl rfl, mu_pre _ (sl_P hP) (sl_D hD) hK⟩ rfl rfl hl.1 rfl (lv_room (Nat.le_of_ble_eq_true rfl)) dL_law_1009 ⟨Nat.le_of_succ_le hce, Nat.le_trans (Nat.le_add_right _ 6) hsl⟩) hS hF hF (fun H1 locs hP1 hD1 hk1 hS => ?_)
  obtain ⟨hP, hD⟩ := sl_J hP hD hk1 hF hP1 hD1
  generalize H1 = H at hP hS ⊢
  refine lv_icmp_eq (tgt := 1117) hx hb dL_law_1012 (by decide) (fun _ => ?_) (fun c_1012 => absurd rfl c_1012)
  refine W.widen (k := cells + 1) (n := slots + 6) (by omega) (by omega) ?_
  exact kk b' u' fl _ _ ls hI2 hP hD hS (lv_sub hl [0, 1, 2, 3, 4] rfl)

set_option maxHeartbeats 1000000 in
set_option maxRecDepth 100000 in
theorem lc_least {p : Program} {e : Env} {s : State} {m : MethodId} {below : List Frame} {meth : Method} {c : Code} {l : Launch} {sb L : Nat} {xs : Nat → Int32} {G : Gt} {Q : State → Prop} {Inv : BT → MT → Prop} {H : Heap} {locs : List Loc} {ls : Array Slot} {cells slots : Nat} {xi : Int32} {i k n : Nat} {mo ce gv dr go sa ou bx bd bo bs bk : Nat} {ca wa : Nat → Nat} {u : MT} {fl : Nat → Int64} {b : BT} (C : LC p l s m c sb L xs G) (hst : St_least Inv) (hI : Inv b u) (est : bst b = nI k) (hk30 : k ≤ 30) (esk : bsk b = nI n) (hn6 : n ≤ 6) (mest : mst u = nI k) (mesk : msk u = nI n) (exi : xi = nI i) (hi3 : i + 3 ≤ L) (hL : L ≤ 1536) (hce : cells + 1 ≤ 640935) (hsl : slots + 6 ≤ 7173298)
    (hP : va_P G.1 vwCl (mw G mo ce gv dr go sa u ++ (ow G ou fl ++ bw G bx bd bo bs bk ca wa b)) H) (hD : va_D (fun q : Nat => s.heap.size ≤ q) (mw G mo ce gv dr go sa u ++ (ow G ou fl ++ bw G bx bd bo bs bk ca wa b))) (hS : va_S (fun q : Nat => s.heap.size ≤ q) s.heap H locs) (hl : lv_has ls 7 [(0, .ref sb), (1, .ref bx), (2, .ref mo), (3, .ref ou), (4, .int xi)])
    (kk : ∀ (b' : BT) (u' : MT) (fl' : Nat → Int64) (H : Heap) (locs : List Loc) (ls : Array Slot), Inv b' u' → va_P G.1 vwCl (mw G mo ce gv dr go sa u' ++ (ow G ou fl' ++ bw G bx bd bo bs bk ca wa b')) H → va_D (fun q : Nat => s.heap.size ≤ q) (mw G mo ce gv dr go sa u' ++ (ow G ou fl' ++ bw G bx bd bo bs bk ca wa b')) → va_S (fun q : Nat => s.heap.size ≤ q) s.heap H locs → lv_has ls 7 [(0, .ref sb), (1, .ref bx), (2, .ref mo), (3, .ref ou), (4, .int xi)] → W p l e room_1 s m #[Value.ref sb] below meth c H locs (cells + 1) (slots + 6) Q (F0 m 1117 ls [])) : W p l e room_1 s m #[Value.ref sb] below meth c H locs cells slots Q (F0 m 1017 ls []) := by
  obtain ⟨hx, hb, hml, hown, hts, hX, hbl, hK, hxw, hzz, hlt⟩ := C
  have hbA : ¬ (fun q : Nat => s.heap.size ≤ q) sb := Nat.not_le.mpr hbl
  obtain ⟨u', r, hq⟩ : ∃ u' r, Q_least  k n u u' r := by unfold Q_least; exact ⟨_, _, rfl, rfl⟩
  obtain ⟨cd, b', fl', hp, hcd, hrr, hI2⟩ := hst k n b u fl  u' r hI est hk30 esk hn6 mest mesk hq
  refine lv_aload_n hx hb dL_law_1017 rfl (lv_at hl 1 rfl) ?_
  refine lv_aload_n hx hb dL_law_1018 rfl (lv_at hl 3 rfl) ?_
  have hF := sr_F hD hS (fun _ h => h)
  refine mu_call (vx_runSW (As := [.ref bx, .ref ou]) (rest := []) ⟨hx, hb, hml, hown, hts⟩ (c_L_least l hlt G _ ou fl fl' bx bd bo bs bk ca wa b b'  cd k n est hk30 esk hn6 hp) (vx_cwSW 2 hts gL_law_L_least rfl rfl rfl (by decide +kernel) ⟨Nat.le_of_ble_eq_true rfl, Nat.le_of_ble_eq_true rfl⟩) ⟨tw_blind, tw_pre _ (sr_P hP) (sr_D hD) hK hxw ((hzz.kept hS.2.1).narrow hF)⟩ rfl rfl hl.1 rfl (lv_room (Nat.le_of_ble_eq_true rfl)) dL_law_1019 ⟨hce, hsl⟩) hS hF hF (fun H1 locs hP1 hD1 hk1 hS => ?_)
  obtain ⟨hP, hD⟩ := sr_J hP hD hk1 hF hP1 hD1
  generalize H1 = H at hP hS ⊢
  refine lv_istore (lv' := [(5, .int cd), (0, .ref sb), (1, .ref bx), (2, .ref mo), (3, .ref ou), (4, .int xi)]) hx hb dL_law_1022 hl (by decide) rfl (fun ls hl => ?_)
  refine lv_aload_n hx hb dL_law_1024 rfl (lv_at hl 3 rfl) ?_
  have hF := sl_F hD hS (fun _ h => h)
  refine mu_call (va_runV (As := []) (rest := []) ⟨hx, hb, hml, hown, hts⟩ (m_least l G _ mo ce gv dr go sa u u'  k n mest hk30 mesk hn6 r hq) (cwV 0 hts gL_law_X2_least rfl rfl rfl (by decide +kernel) ⟨Nat.le_of_ble_eq_true rfl, Nat.le_of_ble_eq_true rfl⟩) ⟨mu_blind, va_recv hK.1 hP (ci := 2) (q0 := 0) rfl rfl, mu_pre _ (sl_P hP) (sl_D hD) hK⟩ rfl rfl hl.1 rfl (lv_room (Nat.le_of_ble_eq_true rfl)) dL_law_1025 ⟨hce, hsl⟩) hS hF hF (fun H1 locs hP1 hD1 hk1 hS => ?_)
  obtain ⟨hP, hD⟩ := sl_J hP hD hk1 hF hP1 hD1
  generalize H1 = H at hP hS ⊢
  refine lv_istore (lv' := [(6, .int r), (5, .int cd), (0, .ref sb), (1, .ref bx), (2, .ref mo), (3, .ref ou), (4, .int xi)]) hx hb dL_law_1028 hl (by decide) rfl (fun ls hl => ?_)
  refine lv_aload_n hx hb dL_law_1030 rfl (lv_at hl 4 rfl) ?_
  refine ro_call (va_runV (As := []) (rest := []) ⟨hx, hb, hml, hown, hts⟩ (c_X2_thrown l G mo ce gv dr go sa (mth u') (mst u') (msk u') (mtk u') (mbe u') (mso u') (mle u') (man u') (mfc u') (mfg u') (mfd u') (mfo u') (mfs u')) (cwV 0 hts gL_law_X2_thrown rfl rfl rfl (by decide +kernel) ⟨Nat.le_of_ble_eq_true rfl, Nat.le_of_ble_eq_true rfl⟩) ⟨ro_blind, va_recv hK.1 hP (ci := 2) (q0 := 0) rfl rfl, ro_pre _ (sl_P hP) hK⟩ rfl rfl hl.1 rfl (lv_room (Nat.le_of_ble_eq_true rfl)) dL_law_1031 ⟨hce, hsl⟩) ?_
  refine lv_iload hx hb dL_law_1034 (lv_at hl 1 rfl) ?_
  refine lv_icmp_eq (tgt := 1041) hx hb dL_law_1036 (by decide) (fun _ => ?_) (fun c_1036 => absurd hcd c_1036)
  refine lv_iload hx hb dL_law_1041 (lv_at hl 1 rfl) ?_
  refine lv_if_ne (tgt := 1058) hx hb dL_law_1043 (by decide) (fun _ => ?_) (fun c_1043 => ?_)
  · refine lv_goto (tgt := 1117) hx hb dL_law_1058 (by decide) ?_
    exact kk b' u' fl' _ _ ls hI2 hP hD hS (lv_sub hl [2, 3, 4, 5, 6] rfl)
  · have hrr := hrr c_1043
    refine lv_aload_n hx hb dL_law_1046 rfl (lv_at hl 5 rfl) ?_
    refine lv_iconst (v := 0) hx hb dL_law_1047 (by decide) ?_
    refine va_lald hx hb hK.1 hP 6 3 rfl rfl (vp_in_nI (n := 0) (N := 1) (by decide) (by decide)) dL_law_1048 ?_
    refine lv_iload hx hb dL_law_1049 (lv_at hl 0 rfl) ?_
    refine lv_i2l (v := r.toInt64) hx hb dL_law_1051 rfl ?_
    refine W.lcmp hx hb dL_law_1052 ?_
    refine lv_if_eq (tgt := 1058) hx hb dL_law_1053 (by decide) (fun _ => ?_) (fun c_1053 => absurd (cmp0 hrr) c_1053)
    refine lv_goto (tgt := 1117) hx hb dL_law_1058 (by decide) ?_
    exact kk b' u' fl' _ _ ls hI2 hP hD hS (lv_sub hl [2, 3, 4, 5, 6] rfl)

set_option maxHeartbeats 1000000 in
set_option maxRecDepth 100000 in
theorem lc_value {p : Program} {e : Env} {s : State} {m : MethodId} {below : List Frame} {meth : Method} {c : Code} {l : Launch} {sb L : Nat} {xs : Nat → Int32} {G : Gt} {Q : State → Prop} {Inv : BT → MT → Prop} {H : Heap} {locs : List Loc} {ls : Array Slot} {cells slots : Nat} {xi : Int32} {i k n : Nat} {mo ce gv dr go sa ou bx bd bo bs bk : Nat} {ca wa : Nat → Nat} {u : MT} {fl : Nat → Int64} {b : BT} (C : LC p l s m c sb L xs G) (hst : St_value Inv) (hI : Inv b u) (est : bst b = nI k) (hk30 : k ≤ 30) (esk : bsk b = nI n) (hn6 : n ≤ 6) (mest : mst u = nI k) (mesk : msk u = nI n) (exi : xi = nI i) (hi3 : i + 3 ≤ L) (hL : L ≤ 1536) (hce : cells + 1 ≤ 640935) (hsl : slots + 6 ≤ 7173298)
    (hP : va_P G.1 vwCl (mw G mo ce gv dr go sa u ++ (ow G ou fl ++ bw G bx bd bo bs bk ca wa b)) H) (hD : va_D (fun q : Nat => s.heap.size ≤ q) (mw G mo ce gv dr go sa u ++ (ow G ou fl ++ bw G bx bd bo bs bk ca wa b))) (hS : va_S (fun q : Nat => s.heap.size ≤ q) s.heap H locs) (hl : lv_has ls 7 [(0, .ref sb), (1, .ref bx), (2, .ref mo), (3, .ref ou), (4, .int xi)])
    (kk : ∀ (b' : BT) (u' : MT) (fl' : Nat → Int64) (H : Heap) (locs : List Loc) (ls : Array Slot), Inv b' u' → va_P G.1 vwCl (mw G mo ce gv dr go sa u' ++ (ow G ou fl' ++ bw G bx bd bo bs bk ca wa b')) H → va_D (fun q : Nat => s.heap.size ≤ q) (mw G mo ce gv dr go sa u' ++ (ow G ou fl' ++ bw G bx bd bo bs bk ca wa b')) → va_S (fun q : Nat => s.heap.size ≤ q) s.heap H locs → lv_has ls 7 [(0, .ref sb), (1, .ref bx), (2, .ref mo), (3, .ref ou), (4, .int xi)] → W p l e room_1 s m #[Value.ref sb] below meth c H locs (cells + 1) (slots + 6) Q (F0 m 1117 ls [])) : W p l e room_1 s m #[Value.ref sb] below meth c H locs cells slots Q (F0 m 1061 ls []) := by
  obtain ⟨hx, hb, hml, hown, hts, hX, hbl, hK, hxw, hzz, hlt⟩ := C
  have hbA : ¬ (fun q : Nat => s.heap.size ≤ q) sb := Nat.not_le.mpr hbl
  obtain ⟨u', r, hq⟩ : ∃ u' r, Q_value (xs (i + 1)) k n u u' r := by unfold Q_value; exact ⟨_, _, rfl, rfl⟩
  obtain ⟨cd, b', fl', hp, hcd, hrr, hI2⟩ := hst k n b u fl (xs (i + 1)) u' r hI est hk30 esk hn6 mest mesk hq
  refine lv_aload_n hx hb dL_law_1061 rfl (lv_at hl 1 rfl) ?_
  refine lv_aload_n hx hb dL_law_1062 rfl (lv_at hl 0 rfl) ?_
  refine lv_iload hx hb dL_law_1063 (lv_at hl 4 rfl) ?_
  refine lv_iconst (v := 1) hx hb dL_law_1065 (by decide) ?_
  refine lv_iadd hx hb dL_law_1066 ?_
  refine ra_sld hx hb hX hbl hbA hS (v := i + 1) (na_add exi (by decide)) (by omega) (by omega) dL_law_1067 ?_
  refine lv_aload_n hx hb dL_law_1068 rfl (lv_at hl 3 rfl) ?_
  have hF := sr_F hD hS (fun _ h => h)
  refine mu_call (vx_runSW (As := [.ref bx, .int (xs (i + 1)), .ref ou]) (rest := []) ⟨hx, hb, hml, hown, hts⟩ (c_L_value l hlt G _ ou fl fl' bx bd bo bs bk ca wa b b' (xs (i + 1)) cd k n est hk30 esk hn6 hp) (vx_cwSW 3 hts gL_law_L_value rfl rfl rfl (by decide +kernel) ⟨Nat.le_of_ble_eq_true rfl, Nat.le_of_ble_eq_true rfl⟩) ⟨tw_blind, tw_pre _ (sr_P hP) (sr_D hD) hK hxw ((hzz.kept hS.2.1).narrow hF)⟩ rfl rfl hl.1 rfl (lv_room (Nat.le_of_ble_eq_true rfl)) dL_law_1069 ⟨hce, hsl⟩) hS hF hF (fun H1 locs hP1 hD1 hk1 hS => ?_)
  obtain ⟨hP, hD⟩ := sr_J hP hD hk1 hF hP1 hD1
  generalize H1 = H at hP hS ⊢
  refine lv_istore (lv' := [(5, .int cd), (0, .ref sb), (1, .ref bx), (2, .ref mo), (3, .ref ou), (4, .int xi)]) hx hb dL_law_1072 hl (by decide) rfl (fun ls hl => ?_)
  refine lv_aload_n hx hb dL_law_1074 rfl (lv_at hl 3 rfl) ?_
  refine lv_aload_n hx hb dL_law_1075 rfl (lv_at hl 1 rfl) ?_
  refine lv_iload hx hb dL_law_1076 (lv_at hl 5 rfl) ?_
  refine lv_iconst (v := 1) hx hb dL_law_1078 (by decide) ?_
  refine lv_iadd hx hb dL_law_1079 ?_
  refine ra_sld hx hb hX hbl hbA hS (v := i + 1) (na_add exi (by decide)) (by omega) (by omega) dL_law_1080 ?_
  have hF := sl_F hD hS (fun _ h => h)
  refine mu_call (va_runV (As := [.int (xs (i + 1))]) (rest := []) ⟨hx, hb, hml, hown, hts⟩ (m_value l G _ mo ce gv dr go sa u u' (xs (i + 1)) k n mest hk30 mesk hn6 r hq) (cwV 1 hts gL_law_X2_value rfl rfl rfl (by decide +kernel) ⟨Nat.le_of_ble_eq_true rfl, Nat.le_of_ble_eq_true rfl⟩) ⟨mu_blind, va_recv hK.1 hP (ci := 2) (q0 := 0) rfl rfl, mu_pre _ (sl_P hP) (sl_D hD) hK⟩ rfl rfl hl.1 rfl (lv_room (Nat.le_of_ble_eq_true rfl)) dL_law_1081 ⟨hce, hsl⟩) hS hF hF (fun H1 locs hP1 hD1 hk1 hS => ?_)
  obtain ⟨hP, hD⟩ := sl_J hP hD hk1 hF hP1 hD1
  generalize H1 = H at hP hS ⊢
  refine lv_istore (lv' := [(6, .int r), (5, .int cd), (0, .ref sb), (1, .ref bx), (2, .ref mo), (3, .ref ou), (4, .int xi)]) hx hb dL_law_1084 hl (by decide) rfl (fun ls hl => ?_)
  refine lv_aload_n hx hb dL_law_1086 rfl (lv_at hl 4 rfl) ?_
  refine ro_call (va_runV (As := []) (rest := []) ⟨hx, hb, hml, hown, hts⟩ (c_X2_thrown l G mo ce gv dr go sa (mth u') (mst u') (msk u') (mtk u') (mbe u') (mso u') (mle u') (man u') (mfc u') (mfg u') (mfd u') (mfo u') (mfs u')) (cwV 0 hts gL_law_X2_thrown rfl rfl rfl (by decide +kernel) ⟨Nat.le_of_ble_eq_true rfl, Nat.le_of_ble_eq_true rfl⟩) ⟨ro_blind, va_recv hK.1 hP (ci := 2) (q0 := 0) rfl rfl, ro_pre _ (sl_P hP) hK⟩ rfl rfl hl.1 rfl (lv_room (Nat.le_of_ble_eq_true rfl)) dL_law_1087 ⟨hce, hsl⟩) ?_
  refine lv_iload hx hb dL_law_1090 (lv_at hl 1 rfl) ?_
  refine lv_icmp_eq (tgt := 1097) hx hb dL_law_1092 (by decide) (fun _ => ?_) (fun c_1092 => absurd hcd c_1092)
  refine lv_iload hx hb dL_law_1097 (lv_at hl 1 rfl) ?_
  refine lv_if_ne (tgt := 1114) hx hb dL_law_1099 (by decide) (fun _ => ?_) (fun c_1099 => ?_)
  · refine lv_goto (tgt := 1117) hx hb dL_law_1114 (by decide) ?_
    exact kk b' u' fl' _ _ ls hI2 hP hD hS (lv_sub hl [2, 3, 4, 5, 6] rfl)
  · have hrr := hrr c_1099
    refine lv_aload_n hx hb dL_law_1102 rfl (lv_at hl 5 rfl) ?_
    refine lv_iconst (v := 0) hx hb dL_law_1103 (by decide) ?_
    refine va_lald hx hb hK.1 hP 6 3 rfl rfl (vp_in_nI (n := 0) (N := 1) (by decide) (by decide)) dL_law_1104 ?_
    refine lv_iload hx hb dL_law_1105 (lv_at hl 0 rfl) ?_
    refine lv_i2l (v := r.toInt64) hx hb dL_law_1107 rfl ?_
    refine W.lcmp hx hb dL_law_1108 ?_
    refine lv_if_eq (tgt := 1114) hx hb dL_law_1109 (by decide) (fun _ => ?_) (fun c_1109 => absurd (cmp0 hrr) c_1109)
    refine lv_goto (tgt := 1117) hx hb dL_law_1114 (by decide) ?_
    exact kk b' u' fl' _ _ ls hI2 hP hD hS (lv_sub hl [2, 3, 4, 5, 6] rfl)
