/-! THE CLAIM OUT OF ONE WALK OF THE LAW'S BODY. Your part is whole_start (and what it stands on); all else here is the same for every law, but numbers. -/
def R_law : String := "ChoiceBoardLaw"
def lw_P (b : Addr) (xs : List Int32) (args : Array Value) (s : State) : Prop := args = #[.ref b] ∧ s.IntsAt b xs ∧ xs.length ≤ 1536 ∧ (Jvm.Cond.and given_1 narrow_1).before args s = true
def lw_Q (_ : Array Value) (s : State) (o : Outcome) (t : State) : Prop := o = .returned (some (.int 1)) ∧ Framed s o t [] 640935 7173298
def lw_Z (below : List Frame) (a : Array Value) (s : State) : State → Prop := fun t => ∃ o, t.status = .running ∧ Ended t below o ∧ lw_Q a s o t
/-- the law's own end, with 1 on the stack, nothing written that was there before, its room as the claim has it -/
theorem lw_ret {p : Program} {l : Launch} {e : Env} {s : State} {m : MethodId} {below : List Frame} {meth : Method} {c : Code} {b : Nat} (hx : p.tables.exec = Jvm.exec) (hb : c.code = code) (hr : meth.sig.returnType = ret) (hlocks : meth.locks = false) {pc : Nat} {H : Heap} {ls : Array Slot} (hdg : decode code pc = .ok (.ireturn, 1)) : W p l e room_1 s m #[Value.ref b] below meth c H [] 640935 7173298 (lw_Z below #[Value.ref b] s) (F0 m pc ls [.int 1]) := by
  intro T hT X
  obtain ⟨fs, hret, hrun, hended, hW, hframe⟩ := X.leave (v := some (.int 1)) (hlocks := hlocks) (fun h => by rw [hr] at h; cases h)
  have hmeth' : T.vm.method? m = some meth := X.method'
  refine ⟨T.setFrames fs, ?_, .returned (some (.int 1)), hrun, hended, rfl, ⟨_, rfl⟩, hW, hframe⟩
  jvm_step X.here [X.here.top, hx, hb, hdg, hmeth', hr, ret, narrow_b1]
  (try refine ⟨rfl, ?_⟩); (try refine ⟨rfl, ?_⟩)
  first | (intro acts; rw [hret _ acts rfl rfl rfl]) | rw [hret _ _ rfl rfl rfl]
  exact Steps.refl _
/-- what holds at the law's entry: the machine, the code, the tables' words (any of lw_tbl by 'hts w (by decide +kernel)'), the script of L ints xs at the cell b, what the Statement gives of the start (any of its parts by flat_of_before) -/
def lw_At (p : Program) (s : State) (m : MethodId) (meth : Method) (c : Code) (b L : Nat) (xs : Nat → Int32) : Prop :=
  p.tables.exec = Jvm.exec ∧ c.code = code ∧ meth.sig.returnType = ret ∧ c.maxLocals = 7 ∧ s.vm.findClass R_law = some m.cls ∧ (∀ w ∈ lw_tbl, w.before #[Value.ref b] s = true) ∧ va_X b L xs s s.heap ∧ b < s.heap.size ∧ meth.locks = false ∧ (Jvm.Cond.and given_1 narrow_1).before #[Value.ref b] s = true

def StAll (Inv : BT → MT → Prop) : Prop := St_term Inv ∧ St_clear Inv ∧ St_require Inv ∧ St_objective Inv ∧ St_constraints Inv ∧ St_constraint Inv ∧ St_close Inv ∧ St_load Inv ∧ St_axiom Inv ∧ St_add Inv ∧ St_times Inv ∧ St_divide Inv ∧ St_saturate Inv ∧ St_weaken Inv ∧ St_drop Inv ∧ St_top Inv ∧ St_learn Inv ∧ St_contradict Inv ∧ St_found Inv ∧ St_verdict Inv ∧ St_best Inv ∧ St_solve Inv ∧ St_least Inv ∧ St_value Inv
theorem lw_and31 (x : Int32) : ∃ j, j < 32 ∧ x &&& 31 = nI j := by
  have h31 : x.toBitVec.toNat &&& 31 ≤ 31 := Nat.and_le_right
  refine ⟨x.toBitVec.toNat &&& 31, by omega, ?_⟩
  apply Int32.toBitVec_inj.mp
  rw [Int32.toBitVec_and]
  apply BitVec.eq_of_toNat_eq
  rw [BitVec.toNat_and]
  show x.toBitVec.toNat &&& 31 = (BitVec.ofNat 32 (x.toBitVec.toNat &&& 31)).toNat
  rw [BitVec.toNat_ofNat, Nat.mod_eq_of_lt (by omega)]
theorem lw_more {i L : Nat} (hi : i ≤ L) (hL : L ≤ 1536) (h : ¬ Int32.ofNat L - 3 < nI i) : i + 3 ≤ L := by
  by_cases h3 : 3 ≤ L
  · have e : Int32.ofNat L - 3 = nI (L - 3) := pk_sub h3
    rw [e, nI_ltI (by omega) (by omega)] at h
    omega
  · exfalso
    rcases (show L = 0 ∨ L = 1 ∨ L = 2 by omega) with rfl | rfl | rfl
    · obtain rfl : i = 0 := by omega
      exact h (by decide)
    · rcases (show i = 0 ∨ i = 1 by omega) with rfl | rfl <;> exact h (by decide)
    · rcases (show i = 0 ∨ i = 1 ∨ i = 2 by omega) with rfl | rfl | rfl <;> exact h (by decide)
theorem lw_out {j : Nat} (h : 24 ≤ j) (h2 : j < 32) : (nI j).toInt < 0 ∨ 23 < (nI j).toInt := by
  rcases (show j = 24 ∨ j = 25 ∨ j = 26 ∨ j = 27 ∨ j = 28 ∨ j = 29 ∨ j = 30 ∨ j = 31 by omega) with rfl | rfl | rfl | rfl | rfl | rfl | rfl | rfl <;> exact Or.inr (by decide)
set_option maxHeartbeats 1000000 in
set_option maxRecDepth 100000 in
theorem law_loop {p : Program} {e : Env} {s : State} {m : MethodId} {below : List Frame} {meth : Method} {c : Code} {l : Launch} {sb L : Nat} {xs : Nat → Int32} {G : Gt} {Inv : BT → MT → Prop} {mo ce gv dr go sa ou bx bd bo bs bk : Nat} {ca wa : Nat → Nat} (hL : L ≤ 1536) (C : LC p l s m c sb L xs G) (hr : meth.sig.returnType = ret) (hlocks : meth.locks = false) (hall : StAll Inv) (hI0 : ∀ (b : BT) (u : MT), Inv b u → ∃ k n : Nat, bst b = nI k ∧ k ≤ 30 ∧ bsk b = nI n ∧ n ≤ 6 ∧ mst u = nI k ∧ msk u = nI n) :
    ∀ (f i : Nat) (b : BT) (u : MT) (fl : Nat → Int64) (xi : Int32), i ≤ L → L + 1 ≤ i + f → xi = nI i → Inv b u → ∀ (H : Heap) (locs : List Loc) (ls : Array Slot), va_P G.1 vwCl (mw G mo ce gv dr go sa u ++ (ow G ou fl ++ bw G bx bd bo bs bk ca wa b)) H → va_D (fun q : Nat => s.heap.size ≤ q) (mw G mo ce gv dr go sa u ++ (ow G ou fl ++ bw G bx bd bo bs bk ca wa b)) → va_S (fun q : Nat => s.heap.size ≤ q) s.heap H locs → lv_has ls 7 [(0, .ref sb), (1, .ref bx), (2, .ref mo), (3, .ref ou), (4, .int xi)] → W p l e room_1 s m #[Value.ref sb] below meth c H locs (90 + i) (1200 + 6 * i) (lw_Z below #[Value.ref sb] s) (F0 m 23 ls []) := by
  intro f
  induction f with
  | zero => intro i b u fl xi h1 h2; exact absurd h2 (by omega)
  | succ f ih =>
    intro i b u fl xi hi hf exi hI H locs ls hP hD hS hl
    obtain ⟨hx, hb, hml, hown, hts, hX, hbl, hK, hxw, hzz, hlt⟩ := id C
    have hbA : ¬ (fun q : Nat => s.heap.size ≤ q) sb := Nat.not_le.mpr hbl
    obtain ⟨k, n, est, hk30, esk, hn6, mest, mesk⟩ := hI0 b u hI
    refine lv_iload hx hb dL_law_23 (lv_at hl 4 rfl) ?_
    refine lv_aload_n hx hb dL_law_25 rfl (lv_at hl 0 rfl) ?_
    refine va_slen hx hb hX hbl hbA hS dL_law_26 ?_
    refine lv_iconst (v := 3) hx hb dL_law_27 (by decide) ?_
    refine lv_isub hx hb dL_law_28 ?_
    refine lv_icmp_gt (tgt := 1123) hx hb dL_law_29 (by decide) (fun c_29 => ?_) (fun c_29 => ?_)
    · refine lv_iconst (v := 1) hx hb dL_law_1123 (by decide) ?_
      refine va_forget hS.2.2 ?_
      refine W.widen (k := 640935) (n := 7173298) (by omega) (by omega) ?_
      exact lw_ret hx hb hr hlocks dL_law_1124
    · have hi3 : i + 3 ≤ L := lw_more hi hL (by rw [← exi]; exact c_29)
      have hce : 90 + i + 1 ≤ 640935 := by omega
      have hsl : 1200 + 6 * i + 6 ≤ 7173298 := by omega
      have kk : ∀ (b' : BT) (u' : MT) (fl' : Nat → Int64) (H : Heap) (locs : List Loc) (ls : Array Slot), Inv b' u' → va_P G.1 vwCl (mw G mo ce gv dr go sa u' ++ (ow G ou fl' ++ bw G bx bd bo bs bk ca wa b')) H → va_D (fun q : Nat => s.heap.size ≤ q) (mw G mo ce gv dr go sa u' ++ (ow G ou fl' ++ bw G bx bd bo bs bk ca wa b')) → va_S (fun q : Nat => s.heap.size ≤ q) s.heap H locs → lv_has ls 7 [(0, .ref sb), (1, .ref bx), (2, .ref mo), (3, .ref ou), (4, .int xi)] → W p l e room_1 s m #[Value.ref sb] below meth c H locs (90 + i + 1) (1200 + 6 * i + 6) (lw_Z below #[Value.ref sb] s) (F0 m 1117 ls []) := by
        intro b' u' fl' H locs ls hI2 hP hD hS hl
        refine lv_iinc (v := xi + 3) (lv' := [(4, .int (xi + 3)), (0, .ref sb), (1, .ref bx), (2, .ref mo), (3, .ref ou)]) hx hb dL_law_1117 hl (k := 4) rfl rfl (by decide) rfl (fun ls hl => ?_)
        refine lv_goto (tgt := 23) hx hb dL_law_1120 (by decide) ?_
        refine W.widen (k := 90 + (i + 3)) (n := 1200 + 6 * (i + 3)) (by omega) (by omega) ?_
        exact ih (i + 3) b' u' fl' (xi + 3) (by omega) (by omega) (na_add exi (show (3 : Int32) = nI 3 from rfl)) hI2 _ _ ls hP hD hS (lv_sub hl [1, 2, 3, 4, 0] rfl)
      refine lv_aload_n hx hb dL_law_32 rfl (lv_at hl 0 rfl) ?_
      refine lv_iload hx hb dL_law_33 (lv_at hl 4 rfl) ?_
      refine ra_sld hx hb hX hbl hbA hS (v := i) exi (by omega) (by omega) dL_law_35 ?_
      refine lv_bipush (v := 31) hx hb dL_law_36 (by decide) ?_
      refine lv_iand hx hb dL_law_38 ?_
      obtain ⟨j, hj, ej⟩ := lw_and31 (xs i)
      rw [ej]
      by_cases h24 : 24 ≤ j
      · refine lv_tableOut (tgt := 1117) hx hb dL_law_39 (lw_out h24 hj) (by decide) ?_
        refine W.widen (k := 90 + i + 1) (n := 1200 + 6 * i + 6) (by omega) (by omega) ?_
        exact kk b u fl _ _ ls hI hP hD hS hl
      · have h9 : j < 24 := by omega
        clear h24 hj ej
        match j, h9 with
        | 0, _ =>
          refine lv_tableIn (off := 109) (tgt := 148) hx hb dL_law_39 (by decide) (by decide) (by decide) (by decide) ?_
          exact lc_term C hall.1 hI est hk30 esk hn6 mest mesk exi hi3 hL hce hsl hP hD hS hl kk
        | 1, _ =>
          refine lv_tableIn (off := 157) (tgt := 196) hx hb dL_law_39 (by decide) (by decide) (by decide) (by decide) ?_
          exact lc_clear C hall.2.1 hI est hk30 esk hn6 mest mesk exi hi3 hL hce hsl hP hD hS hl kk
        | 2, _ =>
          refine lv_tableIn (off := 168) (tgt := 207) hx hb dL_law_39 (by decide) (by decide) (by decide) (by decide) ?_
          exact lc_require C hall.2.2.1 hI est hk30 esk hn6 mest mesk exi hi3 hL hce hsl hP hD hS hl kk
        | 3, _ =>
          refine lv_tableIn (off := 236) (tgt := 275) hx hb dL_law_39 (by decide) (by decide) (by decide) (by decide) ?_
          exact lc_objective C hall.2.2.2.1 hI est hk30 esk hn6 mest mesk exi hi3 hL hce hsl hP hD hS hl kk
        | 4, _ =>
          refine lv_tableIn (off := 260) (tgt := 299) hx hb dL_law_39 (by decide) (by decide) (by decide) (by decide) ?_
          exact lc_constraints C hall.2.2.2.2.1 hI est hk30 esk hn6 mest mesk exi hi3 hL hce hsl hP hD hS hl kk
        | 5, _ =>
          refine lv_tableIn (off := 273) (tgt := 312) hx hb dL_law_39 (by decide) (by decide) (by decide) (by decide) ?_
          exact lc_constraint C hall.2.2.2.2.2.1 hI est hk30 esk hn6 mest mesk exi hi3 hL hce hsl hP hD hS hl kk
        | 6, _ =>
          refine lv_tableIn (off := 341) (tgt := 380) hx hb dL_law_39 (by decide) (by decide) (by decide) (by decide) ?_
          exact lc_close C hall.2.2.2.2.2.2.1 hI est hk30 esk hn6 mest mesk exi hi3 hL hce hsl hP hD hS hl kk
        | 7, _ =>
          refine lv_tableIn (off := 409) (tgt := 448) hx hb dL_law_39 (by decide) (by decide) (by decide) (by decide) ?_
          exact lc_load C hall.2.2.2.2.2.2.2.1 hI est hk30 esk hn6 mest mesk exi hi3 hL hce hsl hP hD hS hl kk
        | 8, _ =>
          refine lv_tableIn (off := 445) (tgt := 484) hx hb dL_law_39 (by decide) (by decide) (by decide) (by decide) ?_
          exact lc_axiom C hall.2.2.2.2.2.2.2.2.1 hI est hk30 esk hn6 mest mesk exi hi3 hL hce hsl hP hD hS hl kk
        | 9, _ =>
          refine lv_tableIn (off := 509) (tgt := 548) hx hb dL_law_39 (by decide) (by decide) (by decide) (by decide) ?_
          exact lc_add C hall.2.2.2.2.2.2.2.2.2.1 hI est hk30 esk hn6 mest mesk exi hi3 hL hce hsl hP hD hS hl kk
        | 10, _ =>
          refine lv_tableIn (off := 533) (tgt := 572) hx hb dL_law_39 (by decide) (by decide) (by decide) (by decide) ?_
          exact lc_times C hall.2.2.2.2.2.2.2.2.2.2.1 hI est hk30 esk hn6 mest mesk exi hi3 hL hce hsl hP hD hS hl kk
        | 11, _ =>
          refine lv_tableIn (off := 569) (tgt := 608) hx hb dL_law_39 (by decide) (by decide) (by decide) (by decide) ?_
          exact lc_divide C hall.2.2.2.2.2.2.2.2.2.2.2.1 hI est hk30 esk hn6 mest mesk exi hi3 hL hce hsl hP hD hS hl kk
        | 12, _ =>
          refine lv_tableIn (off := 605) (tgt := 644) hx hb dL_law_39 (by decide) (by decide) (by decide) (by decide) ?_
          exact lc_saturate C hall.2.2.2.2.2.2.2.2.2.2.2.2.1 hI est hk30 esk hn6 mest mesk exi hi3 hL hce hsl hP hD hS hl kk
        | 13, _ =>
          refine lv_tableIn (off := 629) (tgt := 668) hx hb dL_law_39 (by decide) (by decide) (by decide) (by decide) ?_
          exact lc_weaken C hall.2.2.2.2.2.2.2.2.2.2.2.2.2.1 hI est hk30 esk hn6 mest mesk exi hi3 hL hce hsl hP hD hS hl kk
        | 14, _ =>
          refine lv_tableIn (off := 665) (tgt := 704) hx hb dL_law_39 (by decide) (by decide) (by decide) (by decide) ?_
          exact lc_drop C hall.2.2.2.2.2.2.2.2.2.2.2.2.2.2.1 hI est hk30 esk hn6 mest mesk exi hi3 hL hce hsl hP hD hS hl kk
        | 15, _ =>
          refine lv_tableIn (off := 689) (tgt := 728) hx hb dL_law_39 (by decide) (by decide) (by decide) (by decide) ?_
          exact lc_top C hall.2.2.2.2.2.2.2.2.2.2.2.2.2.2.2.1 hI est hk30 esk hn6 mest mesk exi hi3 hL hce hsl hP hD hS hl kk
        | 16, _ =>
          refine lv_tableIn (off := 745) (tgt := 784) hx hb dL_law_39 (by decide) (by decide) (by decide) (by decide) ?_
          exact lc_learn C hall.2.2.2.2.2.2.2.2.2.2.2.2.2.2.2.2.1 hI est hk30 esk hn6 mest mesk exi hi3 hL hce hsl hP hD hS hl kk
        | 17, _ =>
          refine lv_tableIn (off := 789) (tgt := 828) hx hb dL_law_39 (by decide) (by decide) (by decide) (by decide) ?_
          exact lc_contradict C hall.2.2.2.2.2.2.2.2.2.2.2.2.2.2.2.2.2.1 hI est hk30 esk hn6 mest mesk exi hi3 hL hce hsl hP hD hS hl kk
        | 18, _ =>
          refine lv_tableIn (off := 845) (tgt := 884) hx hb dL_law_39 (by decide) (by decide) (by decide) (by decide) ?_
          exact lc_found C hall.2.2.2.2.2.2.2.2.2.2.2.2.2.2.2.2.2.2.1 hI est hk30 esk hn6 mest mesk exi hi3 hL hce hsl hP hD hS hl kk
        | 19, _ =>
          refine lv_tableIn (off := 908) (tgt := 947) hx hb dL_law_39 (by decide) (by decide) (by decide) (by decide) ?_
          exact lc_verdict C hall.2.2.2.2.2.2.2.2.2.2.2.2.2.2.2.2.2.2.2.1 hI est hk30 esk hn6 mest mesk exi hi3 hL hce hsl hP hD hS hl kk
        | 20, _ =>
          refine lv_tableIn (off := 921) (tgt := 960) hx hb dL_law_39 (by decide) (by decide) (by decide) (by decide) ?_
          exact lc_best C hall.2.2.2.2.2.2.2.2.2.2.2.2.2.2.2.2.2.2.2.2.1 hI est hk30 esk hn6 mest mesk exi hi3 hL hce hsl hP hD hS hl kk
        | 21, _ =>
          refine lv_tableIn (off := 965) (tgt := 1004) hx hb dL_law_39 (by decide) (by decide) (by decide) (by decide) ?_
          exact lc_solve C hall.2.2.2.2.2.2.2.2.2.2.2.2.2.2.2.2.2.2.2.2.2.1 hI est hk30 esk hn6 mest mesk exi hi3 hL hce hsl hP hD hS hl kk
        | 22, _ =>
          refine lv_tableIn (off := 978) (tgt := 1017) hx hb dL_law_39 (by decide) (by decide) (by decide) (by decide) ?_
          exact lc_least C hall.2.2.2.2.2.2.2.2.2.2.2.2.2.2.2.2.2.2.2.2.2.2.1 hI est hk30 esk hn6 mest mesk exi hi3 hL hce hsl hP hD hS hl kk
        | 23, _ =>
          refine lv_tableIn (off := 1022) (tgt := 1061) hx hb dL_law_39 (by decide) (by decide) (by decide) (by decide) ?_
          exact lc_value C hall.2.2.2.2.2.2.2.2.2.2.2.2.2.2.2.2.2.2.2.2.2.2.2 hI est hk30 esk hn6 mest mesk exi hi3 hL hce hsl hP hD hS hl kk
        | j + 24, h9 => exact absurd h9 (by omega)
theorem lw_turn {G : Gt} {A : Nat → Prop} {wa wb wc : va_W} {H : Heap} (hP : va_P G.1 vwCl ((wa ++ wb) ++ wc) H) (hD : va_D A ((wa ++ wb) ++ wc)) : va_P G.1 vwCl (wb ++ (wc ++ wa)) H ∧ va_D A (wb ++ (wc ++ wa)) := by
  have h1 := sl_P hP
  have h2 := sl_D hD
  refine ⟨va_P.app (sr_P h1) (va_P.app (sr_P hP) (sl_P h1)), va_D.app (sr_D h2) (va_D.app (sr_D hD) (sl_D h2) (fun i j x y hx hy hxy => ?_)) (fun i j x y hx hy hxy => ?_)⟩
  · exact sd_X hD j i y x (by rw [List.getElem?_append_left (List.getElem?_eq_some_iff.mp hy).1]; exact hy) hx hxy.symm
  · by_cases hj : j < wc.length
    · rw [List.getElem?_append_left hj] at hy
      exact sd_X hD (wa.length + i) j x y (by rw [List.getElem?_append_right (Nat.le_add_right _ _), Nat.add_sub_cancel_left]; exact hx) hy hxy
    · rw [List.getElem?_append_right (by omega)] at hy
      exact sd_X h2 _ i y x hy hx hxy.symm
theorem lw_arr {s : State} {args : Array Value} {ty : FieldType} (h : (Cond.arrayClass ty).before args s = true) (hra : ∀ q, s.vm.findClass ("[" ++ ty.toString) = some q → va_RA s q ty) : ∃ q : ClassId, ArrOfT s q ty ∧ va_RA s q ty := by
  obtain ⟨cA, kA, comp, h1, h2, h3⟩ := Cond.arrayClass_spec h
  exact ⟨cA, fun n z => ⟨fun k h => (by cases h), kA, h2, comp, h3⟩, hra cA h1⟩
theorem lw_xB {E : String} {s : State} {args : Array Value} (h1 : (Cond.declares (Bundle.init0 "java/lang/RuntimeException")).before args s = true) (h2 : (Cond.declares (Bundle.init0 "java/lang/Exception")).before args s = true) (h3 : (Cond.declares (Bundle.init0 "java/lang/Throwable")).before args s = true) (h4 : (Cond.castable E E).before args s = true) : ∀ w ∈ xB E, va_Nw w s := by
  intro w hw
  simp only [xB, List.mem_cons, List.not_mem_nil, or_false] at hw
  rcases hw with rfl | rfl | rfl | rfl
  · exact va_tabs rfl rfl h1
  · exact va_tabs rfl rfl h2
  · exact va_tabs rfl rfl h3
  · exact va_tabs rfl rfl h4
theorem mo_blind {G : Gt} {sz : Nat} {av : List Value} {ws : va_W} : FrameBlind (mo_P G sz av ws) := fun a U g mk h => ⟨mu_blind a U g mk h.1, va_AO.moved (u := U) (U := U.calling g mk a) (Vm.Alike.refl U.vm) h.2⟩
set_option maxHeartbeats 1000000 in
set_option maxRecDepth 100000 in
theorem law_from {p : Program} {e : Env} {s : State} {m : MethodId} {below : List Frame} {meth : Method} {c : Code} (l : Launch) (hlt : l.stackTraces = false) {sb L : Nat} {xs : Nat → Int32} (hL : L ≤ 1536) (C0 : lw_At p s m meth c sb L xs) {Inv : BT → MT → Prop} (hall : StAll Inv) (hI0 : ∀ (b : BT) (u : MT), Inv b u → ∃ k n : Nat, bst b = nI k ∧ k ≤ 30 ∧ bsk b = nI n ∧ n ≤ 6 ∧ mst u = nI k ∧ msk u = nI n) (hin : Inv (mkB 0 0 0 0 0 0 0 (fun _ => 0) (fun _ => 0) (fun _ _ => 0) (fun _ => 0) (fun _ => 0)) (mkM 0 0 0 0 0 0 0 0 (fun _ => 0) (fun _ => 0) (fun _ => 0) (fun _ => 0) (fun _ => 0))) : W p l e room_1 s m #[Value.ref sb] below meth c s.heap [] 0 0 (lw_Z below #[Value.ref sb] s) (entryFrame m ([Value.ref sb] : List Value).toArray 7) := by
  obtain ⟨hx, hb, hr, hml, hown, hts, hX, hbl, hlocks, hgv⟩ := id C0
  have hA : ∀ q : Nat, s.heap.size ≤ q → (fun q : Nat => s.heap.size ≤ q) q := fun _ h => h
  have hbA : ¬ (fun q : Nat => s.heap.size ≤ q) sb := Nat.not_le.mpr hbl
  have hg := flat_of_before _ hgv
  have htl : ∀ w ∈ wsL_law, w.before #[Value.ref sb] s = true := fun w h => hts w (wsL_law_in w h)
  obtain ⟨c0, iS0, hKn0⟩ := u_known (C := RX0) (T := TX0) (N := 3) (n := 3) hts inX0 (hts (.instantiable RX0 3) (by decide +kernel))
  obtain ⟨c1, iS1, hKn1⟩ := u_known (C := RX1) (T := TX1) (N := 12) (n := 12) hts inX1 (hts (.instantiable RX1 12) (by decide +kernel))
  obtain ⟨c2, iS2, hKn2⟩ := u_known (C := RX2) (T := TX2) (N := 13) (n := 13) hts inX2 (hts (.instantiable RX2 13) (by decide +kernel))
  obtain ⟨aI, hI1, hI2⟩ := lw_arr (hts (.arrayClass .int) (by decide +kernel)) (fun _ h => h)
  obtain ⟨aZ, hZ1, hZ2⟩ := lw_arr (hts (.arrayClass .boolean) (by decide +kernel)) (fun _ h => h)
  obtain ⟨aL, hL1, hL2⟩ := lw_arr (hts (.arrayClass .long) (by decide +kernel)) (fun _ h => h)
  have hao : va_AO RX0 s := va_AO.of (hts (.arrayOver (.object RX0)) (by decide +kernel))
  obtain ⟨comp, aQ, kQ, q1, q2, q3, q4, q5⟩ := Cond.arrayOver_spec (hts (.arrayOver (.object RX0)) (by decide +kernel))
  obtain ⟨G, hK0⟩ : ∃ G : Gt, va_K G.1 vwCl (tyA G) s := by
    refine ⟨((fun k => if k = 0 then c0 else if k = 1 then c1 else c2, fun k => if k = 0 then iS0 else if k = 1 then iS1 else iS2), aI, aZ, aQ, aL), ?_, ?_⟩
    · intro k q hq
      match k, hq with
      | 0, hq => cases hq; exact hKn0
      | 1, hq => cases hq; exact hKn1
      | 2, hq => cases hq; exact hKn2
      | k + 3, hq => simp [vwCl] at hq
    · intro k q hq
      match k, hq with
      | 0, hq => cases hq; exact ⟨hI1, hI2⟩
      | 1, hq => cases hq; exact ⟨hZ1, hZ2⟩
      | 2, hq => cases hq; exact ⟨fun N z => ⟨(fun k h => by cases h), kQ, q3, comp, q4⟩, kQ, comp, q3, q4, q1, q5⟩
      | 3, hq => cases hq; exact ⟨hL1, hL2⟩
      | k + 4, hq => simp [tyA] at hq
  have hK : ke G s := ⟨hK0, va_tabs rfl rfl (hts nwInit (by decide +kernel)), va_tabs rfl rfl (hts nwGiven (by decide +kernel)), va_tabs rfl rfl (hts nwBit (by decide +kernel))⟩
  have d1 := hts (.declares (Bundle.init0 "java/lang/RuntimeException")) (by decide +kernel)
  have d2 := hts (.declares (Bundle.init0 "java/lang/Exception")) (by decide +kernel)
  have d3 := hts (.declares (Bundle.init0 "java/lang/Throwable")) (by decide +kernel)
  have x_eIA := lw_xB (E := eIA) d1 d2 d3 (hts (.castable eIA eIA) (by decide +kernel))
  have x_eIS := lw_xB (E := eIS) d1 d2 d3 (hts (.castable eIS eIS) (by decide +kernel))
  have x_eNS := lw_xB (E := eNS) d1 d2 d3 (hts (.castable eNS eNS) (by decide +kernel))
  have x_eAR := lw_xB (E := eAR) d1 d2 d3 (hts (.castable eAR eAR) (by decide +kernel))
  have n_eIA_eIS := va_Nc.of (hg (.not (.castable eIA eIS)) (by decide +kernel))
  have n_eIA_eNS := va_Nc.of (hg (.not (.castable eIA eNS)) (by decide +kernel))
  have n_eIA_eAR := va_Nc.of (hg (.not (.castable eIA eAR)) (by decide +kernel))
  have n_eIS_eIA := va_Nc.of (hg (.not (.castable eIS eIA)) (by decide +kernel))
  have n_eIS_eNS := va_Nc.of (hg (.not (.castable eIS eNS)) (by decide +kernel))
  have n_eIS_eAR := va_Nc.of (hg (.not (.castable eIS eAR)) (by decide +kernel))
  have n_eNS_eIA := va_Nc.of (hg (.not (.castable eNS eIA)) (by decide +kernel))
  have n_eNS_eIS := va_Nc.of (hg (.not (.castable eNS eIS)) (by decide +kernel))
  have n_eNS_eAR := va_Nc.of (hg (.not (.castable eNS eAR)) (by decide +kernel))
  have n_eAR_eIA := va_Nc.of (hg (.not (.castable eAR eIA)) (by decide +kernel))
  have n_eAR_eIS := va_Nc.of (hg (.not (.castable eAR eIS)) (by decide +kernel))
  have n_eAR_eNS := va_Nc.of (hg (.not (.castable eAR eNS)) (by decide +kernel))
  have hxw : xw s := ⟨⟨x_eIA, x_eIS, x_eNS, x_eAR⟩, ⟨n_eIA_eIS, n_eIA_eNS, n_eIA_eAR⟩, ⟨n_eIS_eIA, n_eIS_eNS, n_eIS_eAR⟩, ⟨n_eNS_eIA, n_eNS_eIS, n_eNS_eAR⟩, ⟨n_eAR_eIA, n_eAR_eIS, n_eAR_eNS⟩⟩
  have hzz : zz (fun q : Nat => s.heap.size ≤ q) s s.heap := ⟨vx_Zqof (hts (.laysStatic Bundle.tN "UNASSIGNED_STACK" Bundle.steD) (by decide +kernel)) (hts (.initialized Bundle.tN) (by decide +kernel)) (hg (.isRef (.static Bundle.tN "UNASSIGNED_STACK" Bundle.steD)) (by decide +kernel)) (fun a h => Nat.not_le.mpr h), vx_Zqof (hts (.laysStatic Bundle.tN "SUPPRESSED_SENTINEL" Bundle.listD) (by decide +kernel)) (hts (.initialized Bundle.tN) (by decide +kernel)) (hg (.isRef (.static Bundle.tN "SUPPRESSED_SENTINEL" Bundle.listD)) (by decide +kernel)) (fun a h => Nat.not_le.mpr h)⟩
  have C : LC p l s m c sb L xs G := ⟨hx, hb, hml, hown, htl, hX, hbl, hK, hxw, hzz, hlt⟩
  have hS : va_S (fun q : Nat => s.heap.size ≤ q) s.heap s.heap [] := va_S.rf
  have hP : va_P G.1 vwCl [] s.heap := fun k q h => by simp at h
  have hD : va_D (fun q : Nat => s.heap.size ≤ q) [] := ⟨fun i j p q h => by simp at h, fun k q h => by simp at h⟩
  have hl := lv_entry ([.ref sb]) (n := 7) (Nat.le_of_ble_eq_true rfl)
  rw [lg_entry_eq]
  generalize (lg_sl ([.ref sb]) ++ List.replicate (7 - (lg_sl ([.ref sb])).length) Slot.unset).toArray = ls at hl ⊢
  have hl : lv_has ls 7 [(0, .ref sb)] := hl
  refine va_new (D := G.1) (ci := 1) (fs := [.null, .null, .null, .int 0, .null, .int 0, .null, .int 0, .int 0, .int 0, .int 0, .int 0]) (C := RX1) (T := TX1) (N := 12) hx hb hts inX1 tyX1 tyX1_ok hown (hts (.classLink RL 8 RX1) (by decide +kernel)) (hts (.instantiable RX1 12) (by decide +kernel)) (hts (.initialized RX1) (by decide +kernel)) hK.1 hP hD hS hA rfl (fun j hj => by rcases (show j = 0 ∨ j = 1 ∨ j = 2 ∨ j = 3 ∨ j = 4 ∨ j = 5 ∨ j = 6 ∨ j = 7 ∨ j = 8 ∨ j = 9 ∨ j = 10 ∨ j = 11 by omega) with rfl | rfl | rfl | rfl | rfl | rfl | rfl | rfl | rfl | rfl | rfl | rfl <;> rfl) (Nat.le_of_ble_eq_true rfl) (Nat.le_of_ble_eq_true rfl) dL_law_0 (fun bx H hP hD hS => ?_)
  refine lv_dup hx hb dL_law_3 rfl ?_
  have hF := in_free hD hS hA
  refine in_call (va_runI (As := []) (rest := [.ref bx]) ⟨hx, hb, hml, hown, htl⟩ (c_X1_init l G _ bx) (cwI 0 htl gL_law_X1_init rfl rfl rfl (hts (.initialized RX1) (by decide +kernel)) (hts (.methodLink RL 84 yX1_init) (by decide +kernel)) (hts (.instanceMethod yX1_init) (by decide +kernel)) rfl (by decide +kernel) ⟨Nat.le_of_ble_eq_true rfl, Nat.le_of_ble_eq_true rfl⟩) ⟨mo_blind, fun U hU hW => ⟨mu_pre _ (in_last hP) (in_lastD hD) hK U hU hW, va_AO.moved hW.alike hao⟩⟩ rfl rfl hl.1 rfl (lv_room (Nat.le_of_ble_eq_true rfl)) dL_law_4 ⟨(Nat.le_of_ble_eq_true rfl), (Nat.le_of_ble_eq_true rfl)⟩) hS hF hF (fun w H1 locs hP1 hD1 hk1 hS => ?_)
  obtain ⟨⟨bd, bo, bs, bk⟩, ca, wa⟩ := w
  obtain ⟨hP, hD⟩ := in_join hP hD hk1 hF hP1 hD1
  generalize H1 = H at hP hS ⊢
  have hP : va_P G.1 vwCl (bw G bx bd bo bs bk ca wa (mkB 0 0 0 0 0 0 0 (fun _ => 0) (fun _ => 0) (fun _ _ => 0) (fun _ => 0) (fun _ => 0))) H := hP
  have hD : va_D (fun q : Nat => s.heap.size ≤ q) (bw G bx bd bo bs bk ca wa (mkB 0 0 0 0 0 0 0 (fun _ => 0) (fun _ => 0) (fun _ _ => 0) (fun _ => 0) (fun _ => 0))) := hD
  refine lv_astore_n (lv' := [(1, .ref bx), (0, .ref sb)]) hx hb dL_law_7 rfl hl (by decide) rfl (fun ls hl => ?_)
  generalize hb0 : (mkB 0 0 0 0 0 0 0 (fun _ => 0) (fun _ => 0) (fun _ _ => 0) (fun _ => 0) (fun _ => 0) : BT) = b0 at hP hD hin
  refine va_new (D := G.1) (ci := 2) (fs := [.int 0, .null, .null, .int 0, .int 0, .null, .null, .int 0, .int 0, .int 0, .int 0, .int 0, .null]) (C := RX2) (T := TX2) (N := 13) hx hb hts inX2 tyX2 tyX2_ok hown (hts (.classLink RL 85 RX2) (by decide +kernel)) (hts (.instantiable RX2 13) (by decide +kernel)) (hts (.initialized RX2) (by decide +kernel)) hK.1 hP hD hS hA rfl (fun j hj => by rcases (show j = 0 ∨ j = 1 ∨ j = 2 ∨ j = 3 ∨ j = 4 ∨ j = 5 ∨ j = 6 ∨ j = 7 ∨ j = 8 ∨ j = 9 ∨ j = 10 ∨ j = 11 ∨ j = 12 by omega) with rfl | rfl | rfl | rfl | rfl | rfl | rfl | rfl | rfl | rfl | rfl | rfl | rfl <;> rfl) (Nat.le_of_ble_eq_true rfl) (Nat.le_of_ble_eq_true rfl) dL_law_8 (fun mo H hP hD hS => ?_)
  refine lv_dup hx hb dL_law_11 rfl ?_
  have hF := in_free hD hS hA
  refine in_call (va_runI (As := []) (rest := [.ref mo]) ⟨hx, hb, hml, hown, htl⟩ (c_X2_init l G _ mo) (cwI 0 htl gL_law_X2_init rfl rfl rfl (hts (.initialized RX2) (by decide +kernel)) (hts (.methodLink RL 87 yX2_init) (by decide +kernel)) (hts (.instanceMethod yX2_init) (by decide +kernel)) rfl (by decide +kernel) ⟨Nat.le_of_ble_eq_true rfl, Nat.le_of_ble_eq_true rfl⟩) ⟨mu_blind, mu_pre _ (in_last hP) (in_lastD hD) hK⟩ rfl rfl hl.1 rfl (lv_room (Nat.le_of_ble_eq_true rfl)) dL_law_12 ⟨(Nat.le_of_ble_eq_true rfl), (Nat.le_of_ble_eq_true rfl)⟩) hS hF hF (fun w H1 locs hP1 hD1 hk1 hS => ?_)
  obtain ⟨ce, gv, dr, go, sa⟩ := w
  obtain ⟨hP, hD⟩ := in_join hP hD hk1 hF hP1 hD1
  generalize H1 = H at hP hS ⊢
  have hP : va_P G.1 vwCl (bw G bx bd bo bs bk ca wa b0 ++ mw G mo ce gv dr go sa (mkM 0 0 0 0 0 0 0 0 (fun _ => 0) (fun _ => 0) (fun _ => 0) (fun _ => 0) (fun _ => 0))) H := hP
  have hD : va_D (fun q : Nat => s.heap.size ≤ q) (bw G bx bd bo bs bk ca wa b0 ++ mw G mo ce gv dr go sa (mkM 0 0 0 0 0 0 0 0 (fun _ => 0) (fun _ => 0) (fun _ => 0) (fun _ => 0) (fun _ => 0))) := hD
  generalize hu0 : (mkM 0 0 0 0 0 0 0 0 (fun _ => 0) (fun _ => 0) (fun _ => 0) (fun _ => 0) (fun _ => 0) : MT) = u0 at hP hD hin
  refine lv_astore_n (lv' := [(2, .ref mo), (1, .ref bx), (0, .ref sb)]) hx hb dL_law_15 rfl hl (by decide) rfl (fun ls hl => ?_)
  refine lv_iconst (v := 1) hx hb dL_law_16 (by decide) ?_
  refine ra_newa (atype := .long) (n := 1) (N' := 1) (a0 := (1, .inr (.inl (fun _ => 0)))) (t0 := 3) (ty := .long) hx hb (hts (.arrayClass .long) (by decide +kernel)) rfl hK.1 hP hD hS hA rfl (fun _ h => h) (fun _ => rfl) (by decide) (by decide) (by decide) (Nat.le_of_ble_eq_true rfl) (Nat.le_of_ble_eq_true rfl) dL_law_17 (fun ou H hP hD hS => ?_)
  obtain ⟨hP, hD⟩ := lw_turn hP hD
  refine lv_astore_n (lv' := [(3, .ref ou), (2, .ref mo), (1, .ref bx), (0, .ref sb)]) hx hb dL_law_19 rfl hl (by decide) rfl (fun ls hl => ?_)
  refine lv_iconst (v := 0) hx hb dL_law_20 (by decide) ?_
  refine lv_istore (lv' := [(4, .int 0), (3, .ref ou), (2, .ref mo), (1, .ref bx), (0, .ref sb)]) hx hb dL_law_21 hl (by decide) rfl (fun ls hl => ?_)
  refine W.widen (k := 90 + 0) (n := 1200 + 6 * 0) (by decide) (by decide) ?_
  exact law_loop hL C hr hlocks hall hI0 (L + 1) 0 b0 u0 (fun _ => 0) 0 (Nat.zero_le _) (by omega) rfl hin _ _ ls hP hD hS (lv_sub hl [4, 3, 2, 1, 0] rfl)
