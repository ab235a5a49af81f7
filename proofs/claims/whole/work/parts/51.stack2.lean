/-! divide -/
theorem i_div {a b : Int32} (ha : 0 ≤ a.toInt) (hb : 0 < b.toInt) : (a / b).toInt = a.toInt / b.toInt := by
  have h := Int32.toInt_div a b
  rw [h]
  have l := a.toInt_lt
  have q1 : Int.tdiv a.toInt b.toInt = a.toInt / b.toInt := Int.tdiv_eq_ediv_of_nonneg ha
  have q2 : a.toInt / b.toInt ≤ a.toInt := Int.ediv_le_self _ ha
  have q3 : 0 ≤ a.toInt / b.toInt := Int.ediv_nonneg ha (by omega)
  rw [q1, bm32 (by omega) (by omega)]
theorem quo_pt {a m : Int32} (ha : 0 ≤ a.toInt ∧ a.toInt ≤ 1000000) (hm : 1 ≤ m.toInt ∧ m.toInt ≤ 1000000) : quoI a m = ptI a m ∧ 0 ≤ (ptI a m).toInt ∧ (ptI a m).toInt ≤ 1000000 := by
  have e1 : (1 : Int32).toInt = 1 := by decide
  have s1 : (a + m).toInt = a.toInt + m.toInt := i_add (by omega) (by omega)
  have s2 : (a + m - 1).toInt = a.toInt + m.toInt - 1 := by rw [i_sub (by rw [s1, e1]; omega) (by rw [s1, e1]; omega), s1, e1]
  have s3 : (quoI a m).toInt = (a.toInt + m.toInt - 1) / m.toInt := by
    unfold quoI; rw [i_div (by omega) (by omega), s2]
  by_cases h0 : a = 0
  · have z : a.toInt = 0 := by rw [h0]; decide
    have q : (quoI a m).toInt = 0 := by
      rw [s3, z]
      exact Int.ediv_eq_zero_of_lt (by omega) (by omega)
    have p : ptI a m = 0 := if_pos h0
    refine ⟨Int32.toInt_inj.mp (by rw [q, p]; decide), ?_⟩
    rw [p]; decide
  · have z : 1 ≤ a.toInt := by
      have : ¬ a.toInt = 0 := fun q => h0 (Int32.toInt_inj.mp (by rw [q]; decide))
      omega
    have t1 : (a - 1).toInt = a.toInt - 1 := by rw [i_sub (by rw [e1]; omega) (by rw [e1]; omega), e1]
    have t2 : ((a - 1) / m).toInt = (a.toInt - 1) / m.toInt := by rw [i_div (by omega) (by omega), t1]
    have d1 : (a.toInt - 1) / m.toInt ≤ a.toInt - 1 := Int.ediv_le_self _ (by omega)
    have d2 : 0 ≤ (a.toInt - 1) / m.toInt := Int.ediv_nonneg (by omega) (by omega)
    have t3 : ((a - 1) / m + 1).toInt = (a.toInt - 1) / m.toInt + 1 := by rw [i_add (by rw [t2, e1]; omega) (by rw [t2, e1]; omega), t2, e1]
    have p : ptI a m = (a - 1) / m + 1 := if_neg h0
    have e : (a.toInt + m.toInt - 1) / m.toInt = (a.toInt - 1) / m.toInt + 1 := by
      rw [show a.toInt + m.toInt - 1 = (a.toInt - 1) + m.toInt by omega, Int.add_ediv_of_dvd_right (Int.dvd_refl _), Int.ediv_self (by omega)]
    refine ⟨Int32.toInt_inj.mp (by rw [s3, p, t3, e]), ?_⟩
    rw [p, t3]; omega
theorem negneg (x : Int32) : - -x = x := Int32.neg_neg
theorem dv_eq {w x : Int32} (hw : -1000000 ≤ w.toInt ∧ w.toInt ≤ 1000000) (hx : 1 ≤ x.toInt ∧ x.toInt ≤ 1000000) : rsz w (quoI (absI w) x) = dvI w x ∧ -1000000 ≤ (dvI w x).toInt ∧ (dvI w x).toInt ≤ 1000000 := by
  rw [abs_sz]
  unfold rsz dvI szI
  by_cases q : w < 0
  · simp only [if_pos q]
    have n1 := i_neg (a := w) (by omega)
    rw [i_lt, e0I] at q
    have k := quo_pt (a := -w) (m := x) (by omega) hx
    rw [k.1]
    refine ⟨rfl, ?_⟩
    rw [i_neg (by omega)]; omega
  · simp only [if_neg q]
    rw [i_lt, e0I] at q
    have k := quo_pt (a := w) (m := x) (by omega) hx
    rw [k.1]
    exact ⟨rfl, by omega, by omega⟩
theorem dvC_at {fc : Nat → Int32} {w v : Nat} {x : Int32} (hv : v < 11) : dvC fc w x (11 * w + v) = dvI (fc (11 * w + v)) x := seg_in (b := 11 * w) (n := 11) (fun v => dvI (fc (11 * w + v)) x) fc hv
theorem sr_dv {fc : Nat → Int32} {w i : Nat} {x : Int32} (h : i ≠ w) : SR fc (dvC fc w x) i := fun v hv => seg_out _ _ (by omega)
theorem st_divide : St_divide Inv0 := by
  intro k n b u fl x u' hI est hk esk hn mest mesk hq
  have h := iv hI est hk esk hn
  unfold Q_divide at hq
  subst hq
  by_cases h2 : 1 ≤ n
  · by_cases hx : outI x 1 1000000 = 0
    · have e : thDiv (msk u) x = 0 := fl_0 (emp_0 hn h2 mesk) hx rfl
      have hxb : 1 ≤ x.toInt ∧ x.toInt ≤ 1000000 := outB hx
      have r2 := h.2.1 (30 + (n - 1)) (Or.inr ⟨by omega, by omega⟩)
      refine ⟨0, _, fl, Or.inl ⟨rfl, h2, hx, rfl, rfl⟩, e, k, n, ?_⟩
      simp only [e, if_true]
      refine ⟨⟨est, hk, esk, hn, mest, mesk⟩, ?_, h.2.2⟩
      rw [show 29 + n = 30 + (n - 1) by omega]
      refine rows_gen (j := 30 + (n - 1)) h.2.1 ?_ (fun i hi h36 => ⟨va_up_ne _ _ hi, va_up_ne _ _ hi, sr_dv hi⟩) (fun i hi => Or.inr hi) hk hn
      show RW (va_up _ (30 + (n - 1)) _ (30 + (n - 1))) (va_up _ (30 + (n - 1)) _ (30 + (n - 1))) (dvC (mfc u) (30 + (n - 1)) x) (30 + (n - 1))
      rw [va_up_self, va_up_self]
      refine ⟨fun v hv => ?_, ?_, ?_⟩
      · rw [mixf_lo _ _ hv, dvC_at (by omega)]
        have k1 := dv_eq (r2.1 v hv).2 hxb
        rw [← (r2.1 v hv).1]
        exact ⟨k1.1, by rw [k1.1]; exact k1.2⟩
      · rw [dvC_at (by omega), ← r2.2.1]
        unfold dvI
        have q : ¬ bdg b (30 + (n - 1)) < 0 := by rw [i_lt, e0I]; have := r2.2.2.1; omega
        rw [if_neg q]
        exact (quo_pt r2.2.2 hxb).1
      · rw [(quo_pt r2.2.2 hxb).1]
        exact (quo_pt r2.2.2 hxb).2
    · have e : thDiv (msk u) x = 2 := fl_2 (emp_0 hn h2 mesk) hx
      have e0 : ¬ thDiv (msk u) x = 0 := by rw [e]; decide
      exact ⟨2, b, fl, Or.inr (Or.inr ⟨rfl, h2, hx, rfl, rfl⟩), e, k, n, iv_th h _ rfl rfl rfl rfl (if_neg e0) rfl rfl⟩
  · have e : thDiv (msk u) x = 1 := emp_1 hn h2 mesk
    have e0 : ¬ thDiv (msk u) x = 0 := by rw [e]; decide
    exact ⟨1, b, fl, Or.inr (Or.inl ⟨rfl, emp_s hn h2 esk, rfl, rfl⟩), e, k, n, iv_th h _ rfl rfl rfl rfl (if_neg e0) rfl rfl⟩
/-! saturate -/
theorem sa_eq {w d : Int32} (hw : -1000000 ≤ w.toInt ∧ w.toInt ≤ 1000000) (hd : 0 ≤ d.toInt ∧ d.toInt ≤ 1000000) : rsz w (minI (absI w) d) = saI w d ∧ -1000000 ≤ (saI w d).toInt ∧ (saI w d).toInt ≤ 1000000 := by
  rw [abs_sz]
  unfold rsz saI
  show (if w < 0 then -(if d < szI w then d else szI w) else (if d < szI w then d else szI w)) = _ ∧ _
  by_cases q : d < szI w
  · simp only [if_pos q]
    by_cases z : w < 0
    · simp only [if_pos z]
      refine ⟨trivial, ?_⟩
      rw [i_neg (by omega)]; omega
    · simp only [if_neg z]
      exact ⟨trivial, by omega, by omega⟩
  · simp only [if_neg q]
    refine ⟨?_, hw⟩
    unfold szI
    by_cases z : w < 0
    · simp only [if_pos z]; exact negneg w
    · simp only [if_neg z]
theorem saC_at {fc : Nat → Int32} {w v : Nat} (hv : v < 10) : saC fc w (11 * w + v) = saI (fc (11 * w + v)) (fc (11 * w + 10)) := seg_in (b := 11 * w) (n := 10) (fun v => saI (fc (11 * w + v)) (fc (11 * w + 10))) fc hv
theorem sr_sa {fc : Nat → Int32} {w i : Nat} (h : i ≠ w) : SR fc (saC fc w) i := fun v hv => seg_out _ _ (by omega)
theorem st_saturate : St_saturate Inv0 := by
  intro k n b u fl u' hI est hk esk hn mest mesk hq
  have h := iv hI est hk esk hn
  unfold Q_saturate at hq
  subst hq
  by_cases h2 : 1 ≤ n
  · have e : thSat (msk u) = 0 := fl_0 (emp_0 hn h2 mesk) rfl rfl
    have r2 := h.2.1 (30 + (n - 1)) (Or.inr ⟨by omega, by omega⟩)
    refine ⟨0, _, fl, Or.inl ⟨rfl, h2, rfl, rfl⟩, e, k, n, ?_⟩
    simp only [e, if_true]
    refine ⟨⟨est, hk, esk, hn, mest, mesk⟩, ?_, h.2.2⟩
    rw [show 29 + n = 30 + (n - 1) by omega]
    refine rows_gen (j := 30 + (n - 1)) h.2.1 ?_ (fun i hi h36 => ⟨va_up_ne _ _ hi, rfl, sr_sa hi⟩) (fun i hi => Or.inr hi) hk hn
    show RW (va_up _ (30 + (n - 1)) _ (30 + (n - 1))) (bdg b (30 + (n - 1))) (saC (mfc u) (30 + (n - 1))) (30 + (n - 1))
    rw [va_up_self]
    refine ⟨fun v hv => ?_, ?_, r2.2.2⟩
    · rw [mixf_lo _ _ hv, saC_at hv, ← (r2.1 v hv).1, ← r2.2.1]
      have k1 := sa_eq (r2.1 v hv).2 r2.2.2
      exact ⟨k1.1, by rw [k1.1]; exact k1.2⟩
    · rw [show saC (mfc u) (30 + (n - 1)) (11 * (30 + (n - 1)) + 10) = mfc u (11 * (30 + (n - 1)) + 10) from seg_out _ _ (by omega)]
      exact r2.2.1
  · have e : thSat (msk u) = 1 := emp_1 hn h2 mesk
    have e0 : ¬ thSat (msk u) = 0 := by rw [e]; decide
    exact ⟨1, b, fl, Or.inr ⟨rfl, emp_s hn h2 esk, rfl, rfl⟩, e, k, n, iv_th h _ rfl rfl rfl rfl (if_neg e0) rfl rfl⟩
/-! weaken -/
theorem st_weaken : St_weaken Inv0 := by
  intro k n b u fl x u' hI est hk esk hn mest mesk hq
  have h := iv hI est hk esk hn
  unfold Q_weaken at hq
  subst hq
  by_cases h2 : 1 ≤ n
  · by_cases hx : outI x 0 9 = 0
    · have e : thWea (msk u) x = 0 := fl_0 (emp_0 hn h2 mesk) hx rfl
      have hx9 : x.toNatClampNeg ≤ 9 := (out0 (N := 9) rfl (by decide) hx).2
      have r2 := h.2.1 (30 + (n - 1)) (Or.inr ⟨by omega, by omega⟩)
      refine ⟨0, _, fl, Or.inl ⟨rfl, h2, hx, rfl, rfl⟩, e, k, n, ?_⟩
      simp only [e, if_true]
      refine ⟨⟨est, hk, esk, hn, mest, mesk⟩, ?_, h.2.2⟩
      rw [show 29 + n = 30 + (n - 1) by omega]
      refine rows_gen (j := 30 + (n - 1)) h.2.1 ?_ (fun i hi h36 => ⟨va_up_ne _ _ hi, va_up_ne _ _ hi, fun v hv => ?_⟩) (fun i hi => Or.inr hi) hk hn
      · show RW (va_up _ (30 + (n - 1)) _ (30 + (n - 1))) (va_up _ (30 + (n - 1)) _ (30 + (n - 1))) (weC (mfc u) (30 + (n - 1)) x.toNatClampNeg) (30 + (n - 1))
        rw [va_up_self, va_up_self]
        refine ⟨fun v hv => ?_, ?_, ?_⟩
        · unfold weC
          by_cases q : v = x.toNatClampNeg
          · subst q
            simp only [upd, if_true]
            exact ⟨trivial, by decide, by decide⟩
          · rw [upd_ne _ q, upd_ne _ (by omega), upd_ne _ (by omega)]
            exact r2.1 v hv
        · unfold weC
          rw [upd_ne _ (by omega), max_cl, abs_sz, r2.2.1, (r2.1 x.toNatClampNeg (by omega)).1]
          simp [upd]
        · rw [max_cl]
          refine ⟨cl_nn _, ?_⟩
          have s := sz_pos (w := bro b (30 + (n - 1)) x.toNatClampNeg) (by have := (r2.1 x.toNatClampNeg (by omega)).2; omega)
          have w := (r2.1 x.toNatClampNeg (by omega)).2
          have d := r2.2.2
          rw [abs_sz]
          have m := i_sub (a := bdg b (30 + (n - 1))) (b := szI (bro b (30 + (n - 1)) x.toNatClampNeg)) (by omega) (by omega)
          unfold cl0
          by_cases q : bdg b (30 + (n - 1)) - szI (bro b (30 + (n - 1)) x.toNatClampNeg) < 0
          · rw [if_pos q]; decide
          · rw [if_neg q]; omega
      · show weC (mfc u) (30 + (n - 1)) x.toNatClampNeg (11 * i + v) = mfc u (11 * i + v)
        unfold weC
        rw [upd_ne _ (by omega), upd_ne _ (by omega)]
    · have e : thWea (msk u) x = 2 := fl_2 (emp_0 hn h2 mesk) hx
      have e0 : ¬ thWea (msk u) x = 0 := by rw [e]; decide
      exact ⟨2, b, fl, Or.inr (Or.inr ⟨rfl, h2, hx, rfl, rfl⟩), e, k, n, iv_th h _ rfl rfl rfl rfl (if_neg e0) rfl rfl⟩
  · have e : thWea (msk u) x = 1 := emp_1 hn h2 mesk
    have e0 : ¬ thWea (msk u) x = 0 := by rw [e]; decide
    exact ⟨1, b, fl, Or.inr (Or.inl ⟨rfl, emp_s hn h2 esk, rfl, rfl⟩), e, k, n, iv_th h _ rfl rfl rfl rfl (if_neg e0) rfl rfl⟩
theorem st_drop : St_drop Inv0 := by
  intro k n b u fl u' hI est hk esk hn mest mesk hq
  have h := iv hI est hk esk hn
  unfold Q_drop at hq
  subst hq
  by_cases h2 : 1 ≤ n
  · have e : thSat (msk u) = 0 := fl_0 (emp_0 hn h2 mesk) rfl rfl
    refine ⟨0, _, fl, Or.inl ⟨rfl, h2, rfl, rfl⟩, e, k, n - 1, ?_⟩
    simp only [e, if_true]
    exact ⟨⟨est, hk, na_pred esk (by omega), by omega, mest, na_pred mesk (by omega)⟩, fun i hi => h.2.1 i (by unfold LV at hi ⊢; omega), h.2.2⟩
  · have e : thSat (msk u) = 1 := emp_1 hn h2 mesk
    have e0 : ¬ thSat (msk u) = 0 := by rw [e]; decide
    exact ⟨1, b, fl, Or.inr ⟨rfl, emp_s hn h2 esk, rfl, rfl⟩, e, k, n, iv_th h _ rfl (if_neg e0) rfl rfl rfl rfl rfl⟩
theorem st_top : St_top Inv0 := by
  intro k n b u fl x u' r hI est hk esk hn mest mesk hq
  have h := iv hI est hk esk hn
  obtain ⟨e1, e2⟩ := hq
  subst e1; subst e2
  by_cases hx : outI x (-2) 9 = 0
  · by_cases h2 : x = -2
    · have e : thTop (msk u) x = 0 := fl_0 hx (by unfold tpI; rw [if_pos h2]) rfl
      refine ⟨0, b, _, Or.inl ⟨rfl, hx, fun q => absurd h2 q, rfl, rfl⟩, e, fun _ => ?_, k, n, h⟩
      rw [updL0, if_pos e]
      unfold txR tpR
      rw [if_pos h2, if_pos h2, esk, mesk]
    · by_cases h1 : 1 ≤ n
      · have e : thTop (msk u) x = 0 := fl_0 hx (by unfold tpI; rw [if_neg h2, if_neg (by rw [mesk, nIl1 hn]; omega)]) rfl
        refine ⟨0, b, _, Or.inl ⟨rfl, hx, fun _ => h1, rfl, rfl⟩, e, fun _ => ?_, k, n, h⟩
        rw [updL0, if_pos e]
        have r2 := h.2.1 (30 + (n - 1)) (Or.inr ⟨by omega, by omega⟩)
        unfold txR tpR wod
        rw [if_neg h2, if_neg h2, show 29 + n = 30 + (n - 1) by omega]
        by_cases q1 : x = -1
        · rw [if_pos q1, if_pos q1, r2.2.1]
        · rw [if_neg q1, if_neg q1, (r2.1 _ (by have := (outV hx h2 q1).2; omega)).1]
      · have e : thTop (msk u) x = 2 := fl_2 hx (by unfold tpI; rw [if_neg h2, if_pos (emp_s hn h1 mesk)]; decide)
        exact ⟨2, b, fl, Or.inr (Or.inr ⟨rfl, hx, h2, emp_s hn h1 esk, rfl, rfl⟩), e, fun q => absurd q (by decide), k, n, h⟩
  · have e : thTop (msk u) x = 1 := fl_1 hx
    exact ⟨1, b, fl, Or.inr (Or.inl ⟨rfl, hx, rfl, rfl⟩), e, fun q => absurd q (by decide), k, n, h⟩
theorem st_learn : St_learn Inv0 := by
  intro k n b u fl u' r hI est hk esk hn mest mesk hq
  have h := iv hI est hk esk hn
  obtain ⟨e1, e2⟩ := hq
  subst e1; subst e2
  by_cases h1 : 1 ≤ n
  · by_cases h2 : k < 30
    · have e : thLea (msk u) (mst u) = 0 := fl_0 (by unfold lrI; rw [if_neg (by rw [mesk, nIl1 hn]; omega), if_neg (by rw [mest, nI30 hk]; omega)]) rfl rfl
      have r2 := h.2.1 (30 + (n - 1)) (Or.inr ⟨by omega, by omega⟩)
      refine ⟨0, _, _, Or.inl ⟨rfl, h2, h1, rfl, rfl⟩, e, fun _ => ?_, k + 1, n - 1, ?_⟩
      · rw [updL0, if_pos e, est, mest]
      · simp only [e, if_true]
        refine ⟨⟨?_, by omega, na_pred esk (by omega), by omega, ?_, na_pred mesk (by omega)⟩, ?_, gv_up h.2.2.1, h.2.2.2⟩
        · show bst b + 1 = _; rw [est, nI_1]
        · show mst u + 1 = _; rw [mest, nI_1]
        · refine rows_gen (j := k) h.2.1 ?_ (fun i hi h36 => ⟨va_up_ne _ _ hi, va_up_ne _ _ hi, sr_cpy hi⟩) (fun i hi => by unfold LV at hi ⊢; omega) hk hn
          show RW (va_up (bro b) k _ k) (va_up (bdg b) k _ k) (cpy11 (mfc u) (29 + n) k) k
          rw [va_up_self, va_up_self, show 29 + n = 30 + (n - 1) by omega]
          exact (r2.cg (fun v hv => mixf_lo _ _ hv)).at (fun v hv => cpy_at hv)
    · have h30 : k = 30 := by omega
      have e : thLea (msk u) (mst u) = 1 := fl_1 (by unfold lrI; rw [if_neg (by rw [mesk, nIl1 hn]; omega), if_pos (by rw [mest, h30]; rfl)]; decide)
      have e0 : ¬ thLea (msk u) (mst u) = 0 := by rw [e]; decide
      exact ⟨1, b, fl, Or.inr (Or.inr ⟨rfl, h1, by rw [est, h30]; rfl, rfl, rfl⟩), e, fun q => absurd q (by decide), k, n, iv_th h _ (if_neg e0) (if_neg e0) rfl rfl (if_neg e0) (if_neg e0) rfl⟩
  · have e : thLea (msk u) (mst u) = 1 := fl_1 (by unfold lrI; rw [if_pos (emp_s hn h1 mesk)]; decide)
    have e0 : ¬ thLea (msk u) (mst u) = 0 := by rw [e]; decide
    exact ⟨1, b, fl, Or.inr (Or.inl ⟨rfl, emp_s hn h1 esk, rfl, rfl⟩), e, fun q => absurd q (by decide), k, n, iv_th h _ (if_neg e0) (if_neg e0) rfl rfl (if_neg e0) (if_neg e0) rfl⟩
