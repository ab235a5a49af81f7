/-! ===== calls that lay rows ===== -/
theorem rows_gen {ro ro' : Nat → Nat → Int32} {dg dg' fc fc' : Nat → Int32} {k n k' n' j : Nat} (h : ∀ i, LV k n i → RW (ro i) (dg i) fc i) (hj : RW (ro' j) (dg' j) fc' j) (ho : ∀ i, i ≠ j → i < 36 → ro' i = ro i ∧ dg' i = dg i ∧ SR fc fc' i) (hl : ∀ i, LV k' n' i → i = j ∨ LV k n i) (hk : k ≤ 30) (hn : n ≤ 6) : ∀ i, LV k' n' i → RW (ro' i) (dg' i) fc' i := by
  intro i hi
  by_cases e : i = j
  · subst e; exact hj
  · have h1 := (hl i hi).resolve_left e
    have h2 : i < 36 := by unfold LV at h1; omega
    obtain ⟨e1, e2, e3⟩ := ho i e h2
    rw [e1, e2]
    exact (h i h1).mv e3
theorem gv_up {g f : Nat → Int32} {k : Nat} {x : Int32} (h : ∀ i, i < k → g i = f i) : ∀ i, i < k + 1 → va_up g k x i = upd f k x i := by
  intro i hi
  by_cases e : i = k
  · subst e; simp [va_up, upd]
  · rw [va_up_ne _ _ e, upd_ne _ e]; exact h i (by omega)
theorem sn_pm (x : Int32) : snI x = 1 ∨ snI x = -1 := by
  unfold snI; split
  · exact Or.inl rfl
  · exact Or.inr rfl
theorem bd_bd {x y : Int32} (h : -9999 ≤ y.toInt ∧ y.toInt ≤ 9999) : -100000 ≤ (bdI x y).toInt ∧ (bdI x y).toInt ≤ 100000 := by
  unfold bdI; split
  · omega
  · rw [i_neg (by omega)]; omega
theorem req_0 {st tk x y : Int32} (h1 : outI x 0 1 = 0) (h2 : outI y (-9999) 9999 = 0) (h3 : ¬ st = 30) (h4 : tk = 0) : thReq st tk x y = 0 := fl_0 (or_00 h1 h2) (by unfold orS; rw [if_neg h3, if_pos h4]) rfl
theorem req_1 {st tk x y : Int32} (h : ¬ outI x 0 1 = 0 ∨ ¬ outI y (-9999) 9999 = 0) : thReq st tk x y = 1 := fl_1 (or_n h)
theorem req_2 {st tk x y : Int32} (h1 : outI x 0 1 = 0) (h2 : outI y (-9999) 9999 = 0) (h : st = 30 ∨ ¬ tk = 0) : thReq st tk x y = 2 := fl_2 (or_00 h1 h2) (by
  unfold orS
  by_cases q : st = 30
  · rw [if_pos q]; decide
  · rw [if_neg q, if_neg (h.resolve_left q)]; decide)
theorem two_or {p q : Prop} (h : ¬ (p ∧ q)) : ¬ p ∨ ¬ q := by
  by_cases a : p
  · exact Or.inr (fun z => h ⟨a, z⟩)
  · exact Or.inl a
/-- a call that throws changes nothing: the rows that it may have laid behind are not counted -/
theorem iv_th {k n : Nat} {b : BT} {u : MT} (h : IV k n b u) (t : Int32) {st sk tk be : Int32} {fc fg fd fs : Nat → Int32} (e1 : st = mst u) (e2 : sk = msk u) (e3 : tk = mtk u) (e4 : be = mbe u) (e5 : fc = mfc u) (e6 : fg = mfg u) (e7 : fd = mfd u) : IV k n b (mkM t st sk tk be (mso u) (mle u) (man u) fc fg fd (mfo u) fs) := by
  subst e1; subst e2; subst e3; subst e4; subst e5; subst e6; subst e7
  exact h
theorem st_require : St_require Inv0 := by
  intro k n b u fl x y u' r hI est hk esk hn mest mesk hq
  have h := iv hI est hk esk hn
  obtain ⟨e1, e2⟩ := hq
  subst e1; subst e2
  have et : btk b = mtk u := h.2.2.2.2.2.1
  by_cases h1 : outI x 0 1 = 0 ∧ outI y (-9999) 9999 = 0
  · by_cases h2 : mst u = 30 ∨ ¬ mtk u = 0
    · have e := req_2 h1.1 h1.2 h2
      have e0 : ¬ thReq (mst u) (mtk u) x y = 0 := by rw [e]; decide
      exact ⟨2, b, fl, Or.inr (Or.inr ⟨rfl, h1.1, h1.2, by rw [et, est, ← mest]; exact h2, rfl, rfl⟩), e, fun q => absurd q (by decide), k, n, iv_th h _ (if_neg e0) rfl rfl rfl (if_neg e0) (if_neg e0) (if_neg e0)⟩
    · have h3 : ¬ mst u = 30 := fun q => h2 (Or.inl q)
      have h4 : mtk u = 0 := Decidable.byContradiction (fun q => h2 (Or.inr q))
      have hk30 : k < 30 := by
        have : ¬ k = 30 := fun q => h3 (by rw [mest, q]; rfl)
        omega
      have e := req_0 h1.1 h1.2 h3 h4
      refine ⟨0, _, _, Or.inl ⟨rfl, h1.1, h1.2, hk30, et.trans h4, rfl, rfl⟩, e, fun _ => ?_, k + 1, n, ?_⟩
      · rw [updL0, if_pos e, est, mest]
      · simp only [e, if_true]
        refine ⟨⟨?_, by omega, esk, hn, ?_, mesk⟩, ?_, ?_, FQ.zero _ _, h.2.2.2.2.1, h.2.2.2.2.2⟩
        · show bst b + 1 = _; rw [est, nI_1]
        · show mst u + 1 = _; rw [mest, nI_1]
        · have hb := bd_bd (x := x) (outB h1.2)
          refine rows_gen (j := k) h.2.1 ?_ (fun i hi h36 => ⟨va_up_ne _ _ hi, va_up_ne _ _ hi, (sr_nm h36).tr (sr_cpy hi)⟩) (fun i hi => by unfold LV at hi ⊢; omega) hk hn
          show RW (va_up (bro b) k _ k) (va_up (bdg b) k _ k) _ k
          rw [va_up_self, va_up_self]
          exact (rw_nm (fc := mfc u) (sn_pm x) h.2.2.2.1 hb.1 hb.2).at (fun v hv => cpy_at hv)
        · exact gv_up h.2.2.1
  · have h2 := two_or h1
    have e := req_1 (st := mst u) (tk := mtk u) h2
    have e0 : ¬ thReq (mst u) (mtk u) x y = 0 := by rw [e]; decide
    exact ⟨1, b, fl, Or.inr (Or.inl ⟨rfl, h2, rfl, rfl⟩), e, fun q => absurd q (by decide), k, n, iv_th h _ (if_neg e0) rfl rfl rfl (if_neg e0) (if_neg e0) (if_neg e0)⟩
theorem outK {x : Int32} {k : Nat} (hk : k ≤ 30) (h : outI x 0 (nI k - 1) = 0) : x.toNatClampNeg < k := (outS (st := nI k) rfl (by omega) h).2
theorem st_constraint : St_constraint Inv0 := by
  intro k n b u fl x y u' r hI est hk esk hn mest mesk hq
  have h := iv hI est hk esk hn
  obtain ⟨e1, e2⟩ := hq
  subst e1; subst e2
  have es : bst b = mst u := est.trans mest.symm
  by_cases h1 : outI x 0 (mst u - 1) = 0
  · by_cases h2 : outI y (-2) 9 = 0
    · have e : thCon (mst u) x y = 0 := fl_0 h1 h2 rfl
      refine ⟨0, b, _, Or.inl ⟨rfl, by rw [es]; exact h1, h2, rfl, rfl⟩, e, fun _ => ?_, k, n, h⟩
      rw [updL0, if_pos e]
      congr 1
      have hx : x.toNatClampNeg < k := outK hk (by rw [← mest]; exact h1)
      have hr := h.2.1 _ (Or.inl hx)
      unfold cxC coR
      by_cases q : y = -2
      · rw [if_pos q, if_pos q, h.2.2.1 _ hx]
      · rw [if_neg q, if_neg q]
        unfold wod
        by_cases q1 : y = -1
        · rw [if_pos q1, if_pos q1, hr.2.1]
        · rw [if_neg q1, if_neg q1]
          exact (hr.1 _ (by have := (outV h2 q q1).2; omega)).1
    · have e : thCon (mst u) x y = 2 := fl_2 h1 h2
      exact ⟨2, b, fl, Or.inr (Or.inr ⟨rfl, by rw [es]; exact h1, h2, rfl, rfl⟩), e, fun q => absurd q (by decide), k, n, h⟩
  · have e : thCon (mst u) x y = 1 := fl_1 h1
    exact ⟨1, b, fl, Or.inr (Or.inl ⟨rfl, by rw [es]; exact h1, rfl, rfl⟩), e, fun q => absurd q (by decide), k, n, h⟩
theorem eq6_0 {n : Nat} (hn : n ≤ 6) (h : n < 6) : eqI (nI n) 6 = 0 := by unfold eqI; rw [if_neg (by rw [nI6 hn]; omega)]
theorem eq6_1 {n : Nat} (h : n = 6) : ¬ eqI (nI n) 6 = 0 := by subst h; decide
theorem st_load : St_load Inv0 := by
  intro k n b u fl x u' hI est hk esk hn mest mesk hq
  have h := iv hI est hk esk hn
  unfold Q_load at hq
  subst hq
  have es : bst b = mst u := est.trans mest.symm
  by_cases h1 : outI x 0 (mst u - 1) = 0
  · have hx : x.toNatClampNeg < k := outK hk (by rw [← mest]; exact h1)
    by_cases h2 : n < 6
    · have e : thLoad (mst u) (msk u) x = 0 := fl_0 h1 (by rw [mesk]; exact eq6_0 hn h2) rfl
      refine ⟨0, _, fl, Or.inl ⟨rfl, h2, by rw [es]; exact h1, rfl, rfl⟩, e, k, n + 1, ?_⟩
      simp only [e, if_true]
      refine ⟨⟨est, hk, ?_, by omega, mest, ?_⟩, ?_, h.2.2⟩
      · show bsk b + 1 = _; rw [esk, nI_1]
      · show msk u + 1 = _; rw [mesk, nI_1]
      · refine rows_gen (j := 30 + n) h.2.1 ?_ (fun i hi h36 => ⟨va_up_ne _ _ hi, va_up_ne _ _ hi, sr_cpy (by omega)⟩) (fun i hi => by unfold LV at hi ⊢; omega) hk hn
        show RW (va_up (bro b) (30 + n) _ (30 + n)) (va_up (bdg b) (30 + n) _ (30 + n)) _ (30 + n)
        rw [va_up_self, va_up_self]
        refine RW.at (i := x.toNatClampNeg) ((h.2.1 _ (Or.inl hx)).cg (fun v hv => mixf_lo _ _ hv)) (fun v hv => ?_)
        rw [show 30 + n = 29 + (n + 1) by omega]
        exact cpy_at hv
    · have h6 : n = 6 := by omega
      have e : thLoad (mst u) (msk u) x = 2 := fl_2 h1 (by rw [mesk]; exact eq6_1 h6)
      have e0 : ¬ thLoad (mst u) (msk u) x = 0 := by rw [e]; decide
      exact ⟨2, b, fl, Or.inr (Or.inr ⟨rfl, by rw [es]; exact h1, by rw [esk, h6]; rfl, rfl, rfl⟩), e, k, n, iv_th h _ rfl (if_neg e0) rfl rfl (if_neg e0) rfl rfl⟩
  · have e : thLoad (mst u) (msk u) x = 1 := fl_1 h1
    have e0 : ¬ thLoad (mst u) (msk u) x = 0 := by rw [e]; decide
    exact ⟨1, b, fl, Or.inr (Or.inl ⟨rfl, by rw [es]; exact h1, rfl, rfl⟩), e, k, n, iv_th h _ rfl (if_neg e0) rfl rfl (if_neg e0) rfl rfl⟩
theorem sr_ax {fc : Nat → Int32} {w v i : Nat} {y : Int32} (hv : v < 10) (hi : i ≠ w) : SR fc (axC fc w v y) i := fun z hz => by
  unfold axC
  rw [upd_ne _ (by omega)]
  exact seg_out _ _ (by omega)
theorem rw_ax {fc h0 : Nat → Int32} {w j : Nat} {y : Int32} (hj : j < 10) : RW (upd (mixf 10 (fun _ => 0) h0) j (if y = 0 then -1 else 1)) 0 (axC fc w j y) w := by
  have hw : -1000000 ≤ (if y = 0 then (-1 : Int32) else 1).toInt ∧ (if y = 0 then (-1 : Int32) else 1).toInt ≤ 1000000 := by split <;> decide
  refine ⟨fun v hv => ?_, ?_, by decide, by decide⟩
  · unfold axC
    by_cases q : v = j
    · subst q
      simp only [upd, if_true]
      exact ⟨trivial, hw⟩
    · rw [upd_ne _ q, upd_ne _ (by omega), mixf_lo _ _ hv]
      exact ⟨(seg_in (b := 11 * w) (n := 11) (fun _ => (0 : Int32)) fc (show v < 11 by omega)).symm, by decide, by decide⟩
  · unfold axC
    rw [upd_ne _ (by omega)]
    exact (seg_in (b := 11 * w) (n := 11) (fun _ => (0 : Int32)) fc (show 10 < 11 by omega)).symm
theorem st_axiom : St_axiom Inv0 := by
  intro k n b u fl x y u' hI est hk esk hn mest mesk hq
  have h := iv hI est hk esk hn
  unfold Q_axiom at hq
  subst hq
  by_cases h1 : outI x 0 9 = 0
  · have hx : x.toNatClampNeg ≤ 9 := (out0 (N := 9) rfl (by decide) h1).2
    by_cases h2 : n < 6
    · have e : thAx (msk u) x = 0 := fl_0 h1 (by rw [mesk]; exact eq6_0 hn h2) rfl
      refine ⟨0, _, fl, Or.inl ⟨rfl, h2, h1, rfl, rfl⟩, e, k, n + 1, ?_⟩
      simp only [e, if_true]
      refine ⟨⟨est, hk, ?_, by omega, mest, ?_⟩, ?_, h.2.2⟩
      · show bsk b + 1 = _; rw [esk, nI_1]
      · show msk u + 1 = _; rw [mesk, nI_1]
      · refine rows_gen (j := 30 + n) h.2.1 ?_ (fun i hi h36 => ⟨va_up_ne _ _ hi, va_up_ne _ _ hi, sr_ax (by omega) (by omega)⟩) (fun i hi => by unfold LV at hi ⊢; omega) hk hn
        show RW (va_up (bro b) (30 + n) _ (30 + n)) (va_up (bdg b) (30 + n) _ (30 + n)) (axC (mfc u) (29 + (n + 1)) x.toNatClampNeg y) (30 + n)
        rw [va_up_self, va_up_self, show 29 + (n + 1) = 30 + n by omega]
        exact rw_ax (by omega)
    · have h6 : n = 6 := by omega
      have e : thAx (msk u) x = 2 := fl_2 h1 (by rw [mesk]; exact eq6_1 h6)
      have e0 : ¬ thAx (msk u) x = 0 := by rw [e]; decide
      exact ⟨2, b, fl, Or.inr (Or.inr ⟨rfl, h1, by rw [esk, h6]; rfl, rfl, rfl⟩), e, k, n, iv_th h _ rfl (if_neg e0) rfl rfl (if_neg e0) rfl rfl⟩
  · have e : thAx (msk u) x = 1 := fl_1 h1
    have e0 : ¬ thAx (msk u) x = 0 := by rw [e]; decide
    exact ⟨1, b, fl, Or.inr (Or.inl ⟨rfl, h1, rfl, rfl⟩), e, k, n, iv_th h _ rfl (if_neg e0) rfl rfl (if_neg e0) rfl rfl⟩
