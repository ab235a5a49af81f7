/-! ===== the stack's calls ===== -/
theorem e0I : (0 : Int32).toInt = 0 := by decide
theorem sz_pos {w : Int32} (h : -2147483648 < w.toInt) : 0 ≤ (szI w).toInt ∧ (w.toInt ≤ (szI w).toInt ∧ -w.toInt ≤ (szI w).toInt) ∧ ((szI w).toInt = w.toInt ∨ (szI w).toInt = -w.toInt) := by
  unfold szI
  by_cases q : w < 0
  · rw [if_pos q, i_neg h]; rw [i_lt, e0I] at q; omega
  · rw [if_neg q]; rw [i_lt, e0I] at q; omega
theorem cl_nn (x : Int32) : 0 ≤ (cl0 x).toInt := by
  unfold cl0
  by_cases q : x < 0
  · rw [if_pos q]; decide
  · rw [if_neg q]; rw [i_lt, e0I] at q; omega
theorem any_f {g : Nat → Bool} : ∀ n, anyB g n = false → ∀ v, v < n → g v = false
  | 0, _, v, hv => absurd hv (by omega)
  | n + 1, h, v, hv => by
    have h' : (anyB g n || g n) = false := h
    rw [Bool.or_eq_false_iff] at h'
    by_cases e : v = n
    · subst e; exact h'.2
    · exact any_f n h'.1 v (by omega)
theorem tl_bd {f : Nat → Int32} {d : Int32} (h : tlI f d = false) : (∀ v, v < 10 → (szI (f v)).toInt ≤ 1000000) ∧ d.toInt ≤ 1000000 := by
  unfold tlI at h
  rw [Bool.or_eq_false_iff] at h
  have em : (1000000 : Int32).toInt = 1000000 := by decide
  refine ⟨fun v hv => ?_, ?_⟩
  · have q := any_f 10 h.1 v hv
    have q2 : ¬ (1000000 : Int32) < absI (f v) := of_decide_eq_false q
    rw [abs_sz, i_lt, em] at q2
    omega
  · have q2 : ¬ (1000000 : Int32) < d := of_decide_eq_false h.2
    rw [i_lt, em] at q2
    omega
theorem tl_lg {f : Nat → Int32} {d : Int32} {fc : Nat → Int32} {i : Nat} (h : ∀ v, v < 10 → f v = fc (11 * i + v)) (hd : d = fc (11 * i + 10)) : tlI f d = lgM fc i := by
  unfold tlI lgM
  rw [Bool.or_comm, hd, any_eq 10 (fun v hv => by rw [abs_sz, h v hv])]
theorem bI0 {b : Bool} : bI b = 0 ↔ b = false := by cases b <;> simp [bI]
theorem cpy_row {f f' fc : Nat → Int32} {d : Int32} {j : Nat} (h : RW f d fc 36) (s : ∀ v, v < 10 → f' v = f v) : RW f' d (cpy11 fc 36 j) j := (h.cg s).at (fun v hv => cpy_at hv)
/-! add -/
theorem ad_w {fc : Nat → Int32} {p q v : Nat} (hv : v < 10) : adC fc p q (11 * 36 + v) = fc (p + v) + fc (q + v) := by
  unfold adC; rw [upd_ne _ (by omega)]; exact seg_in (b := 396) (n := 10) (fun v => fc (p + v) + fc (q + v)) fc hv
theorem ad_d {fc : Nat → Int32} {p q : Nat} : adC fc p q (11 * 36 + 10) = cl0 (sgm (fc (p + 10) + fc (q + 10)) (adT fc p q) 10) := by unfold adC; simp [upd]
theorem sr_ad {fc : Nat → Int32} {p q i : Nat} (h : i < 36) : SR fc (adC fc p q) i := fun v hv => by
  unfold adC; rw [upd_ne _ (by omega)]; exact seg_out _ _ (by omega)
theorem sm_d {f1 f2 : Nat → Int32} {d1 d2 : Int32} {fc : Nat → Int32} {i j : Nat} (h1 : RW f1 d1 fc i) (h2 : RW f2 d2 fc j) : smD f1 f2 d1 d2 = cl0 (sgm (fc (11 * j + 10) + fc (11 * i + 10)) (adT fc (11 * j) (11 * i)) 10) := by
  unfold smD
  rw [max_cl, sgm_eq (by rw [h1.2.1, h2.2.1, Int32.add_comm]) 10 (fun v hv => ?_)]
  unfold adT
  rw [sm_ad, (h1.1 v hv).1, (h2.1 v hv).1]
theorem ad_bd {a b : Int32} (h1 : -1000000 ≤ a.toInt ∧ a.toInt ≤ 1000000) (h2 : -1000000 ≤ b.toInt ∧ b.toInt ≤ 1000000) (h : (szI (a + b)).toInt ≤ 1000000) : -1000000 ≤ (a + b).toInt ∧ (a + b).toInt ≤ 1000000 := by
  have e := i_add (a := a) (b := b) (by omega) (by omega)
  have q := sz_pos (w := a + b) (by omega)
  omega
theorem st_add : St_add Inv0 := by
  intro k n b u fl u' hI est hk esk hn mest mesk hq
  have h := iv hI est hk esk hn
  unfold Q_add at hq
  subst hq
  by_cases h2 : 2 ≤ n
  · have e : thAdd (msk u) = 0 := fl_0 (by unfold ltI; rw [if_neg (by rw [mesk, nIl2 hn]; omega)]) rfl rfl
    have r1 := h.2.1 (30 + (n - 2)) (Or.inr ⟨by omega, by omega⟩)
    have r2 := h.2.1 (30 + (n - 1)) (Or.inr ⟨by omega, by omega⟩)
    have ep : 11 * (29 + n) = 11 * (30 + (n - 1)) := by omega
    have eq : 11 * (28 + n) = 11 * (30 + (n - 2)) := by omega
    have ew : ∀ v, v < 10 → mixf 10 (fun v => bro b (30 + (n - 2)) v + bro b (30 + (n - 1)) v) (bro b 36) v = adC (mfc u) (11 * (29 + n)) (11 * (28 + n)) (11 * 36 + v) := fun v hv => by
      rw [mixf_lo _ _ hv, ad_w hv, ep, eq, (r1.1 v hv).1, (r2.1 v hv).1, Int32.add_comm]
    have ed : smD (bro b (30 + (n - 2))) (bro b (30 + (n - 1))) (bdg b (30 + (n - 2))) (bdg b (30 + (n - 1))) = adC (mfc u) (11 * (29 + n)) (11 * (28 + n)) (11 * 36 + 10) := by
      rw [ad_d, ep, eq, sm_d r1 r2]
    have et := tl_lg ew ed
    by_cases hb : lgM (adC (mfc u) (11 * (29 + n)) (11 * (28 + n))) 36 = true
    · have e2 : thAdd2 (mfc u) (11 * (29 + n)) (11 * (28 + n)) = 2 := fl_2 rfl (by rw [hb]; decide)
      refine ⟨2, _, fl, Or.inr (Or.inr ⟨rfl, h2, et.trans hb, rfl, rfl⟩), by show (if thAdd (msk u) = 0 then _ else _) = _; rw [if_pos e, e2], k, n, ?_⟩
      simp only [e, if_true, e2]
      refine ⟨⟨est, hk, esk, hn, mest, mesk⟩, ?_, h.2.2⟩
      intro i hi
      have h36 : i < 36 := by unfold LV at hi; omega
      show RW (va_up (bro b) 36 _ i) (va_up (bdg b) 36 _ i) (adC _ _ _) i
      rw [va_up_ne _ _ (by omega), va_up_ne _ _ (by omega)]
      exact (h.2.1 i hi).mv (sr_ad h36)
    · have hb' : lgM (adC (mfc u) (11 * (29 + n)) (11 * (28 + n))) 36 = false := by simpa using hb
      have e2 : thAdd2 (mfc u) (11 * (29 + n)) (11 * (28 + n)) = 0 := fl_0 rfl (by rw [hb']; rfl) rfl
      refine ⟨0, _, fl, Or.inl ⟨rfl, h2, et.trans hb', rfl, rfl⟩, by show (if thAdd (msk u) = 0 then _ else _) = _; rw [if_pos e, e2], k, n - 1, ?_⟩
      simp only [e, if_true, e2]
      refine ⟨⟨est, hk, na_pred esk (by omega), by omega, mest, na_pred mesk (by omega)⟩, ?_, h.2.2⟩
      have tb := tl_bd (et.trans hb')
      have rr : RW (fun v => bro b (30 + (n - 2)) v + bro b (30 + (n - 1)) v) (smD (bro b (30 + (n - 2))) (bro b (30 + (n - 1))) (bdg b (30 + (n - 2))) (bdg b (30 + (n - 1)))) (adC (mfc u) (11 * (29 + n)) (11 * (28 + n))) 36 := by
        refine ⟨fun v hv => ⟨?_, ?_⟩, ed, ?_, tb.2⟩
        · rw [← ew v hv, mixf_lo _ _ hv]
        · have t1 := tb.1 v hv
          rw [mixf_lo _ _ hv] at t1
          exact ad_bd (r1.1 v hv).2 (r2.1 v hv).2 t1
        · rw [sm_d r1 r2]; exact cl_nn _
      refine rows_gen (j := 30 + (n - 2)) h.2.1 ?_ (fun i hi h36 => ⟨?_, ?_, (sr_ad h36).tr (sr_cpy (by omega))⟩) (fun i hi => by unfold LV at hi ⊢; omega) hk hn
      · show RW (va_up _ (30 + (n - 2)) _ (30 + (n - 2))) (va_up _ (30 + (n - 2)) _ (30 + (n - 2))) (cpy11 _ 36 (29 + (n - 1))) (30 + (n - 2))
        rw [va_up_self, va_up_self, va_up_self, va_up_self, show 29 + (n - 1) = 30 + (n - 2) by omega]
        exact cpy_row rr (fun v hv => by rw [mixf_lo _ _ hv, mixf_lo _ _ hv])
      · show va_up (va_up _ 36 _) (30 + (n - 2)) _ i = _
        rw [va_up_ne _ _ hi, va_up_ne _ _ (by omega)]
      · show va_up (va_up _ 36 _) (30 + (n - 2)) _ i = _
        rw [va_up_ne _ _ hi, va_up_ne _ _ (by omega)]
  · have hl : nI n < 2 := (nIl2 hn).mpr (by omega)
    have e : thAdd (msk u) = 1 := fl_1 (by unfold ltI; rw [if_pos (by rw [mesk]; exact hl)]; decide)
    have e0 : ¬ thAdd (msk u) = 0 := by rw [e]; decide
    exact ⟨1, b, fl, Or.inr (Or.inl ⟨rfl, by rw [esk]; exact hl, rfl, rfl⟩), by show (if thAdd (msk u) = 0 then _ else _) = _; rw [if_neg e0, e], k, n, iv_th h _ rfl (if_neg e0) rfl rfl (if_neg e0) rfl rfl⟩
/-! times -/
theorem ti_at {fc : Nat → Int32} {w v : Nat} {x : Int32} (hv : v < 11) : tiC fc w x (11 * 36 + v) = x * fc (11 * w + v) := seg_in (b := 396) (n := 11) (fun v => x * fc (11 * w + v)) fc hv
theorem sr_ti {fc : Nat → Int32} {w i : Nat} {x : Int32} (h : i < 36) : SR fc (tiC fc w x) i := fun v hv => seg_out _ _ (by omega)
theorem mul_bd {x a : Int32} (hx : 1 ≤ x.toInt ∧ x.toInt ≤ 1000) (ha : -1000000 ≤ a.toInt ∧ a.toInt ≤ 1000000) : (x * a).toInt = x.toInt * a.toInt ∧ -1000000000 ≤ x.toInt * a.toInt ∧ x.toInt * a.toInt ≤ 1000000000 := by
  have h1 : x.toInt * a.toInt ≤ 1000 * 1000000 := by
    by_cases q : 0 ≤ a.toInt
    · exact Int.mul_le_mul hx.2 ha.2 q (by decide)
    · have : x.toInt * a.toInt ≤ x.toInt * 0 := Int.mul_le_mul_of_nonneg_left (by omega) (by omega)
      omega
  have h2 : -(1000 * 1000000) ≤ x.toInt * a.toInt := by
    have h3 : x.toInt * (-a.toInt) ≤ 1000 * 1000000 := by
      by_cases q : 0 ≤ -a.toInt
      · exact Int.mul_le_mul hx.2 (by omega) q (by decide)
      · have : x.toInt * (-a.toInt) ≤ x.toInt * 0 := Int.mul_le_mul_of_nonneg_left (by omega) (by omega)
        omega
    rw [Int.mul_neg] at h3
    omega
  exact ⟨i_mul (by omega) (by omega), by omega, by omega⟩
theorem emp_1 {n : Nat} {sk y z : Int32} (hn : n ≤ 6) (h : ¬ 1 ≤ n) (es : sk = nI n) : flI (ltI sk 1) y z = 1 := fl_1 (by unfold ltI; rw [if_pos (by rw [es, nIl1 hn]; omega)]; decide)
theorem emp_0 {n : Nat} {sk : Int32} (hn : n ≤ 6) (h : 1 ≤ n) (es : sk = nI n) : ltI sk 1 = 0 := by unfold ltI; rw [if_neg (by rw [es, nIl1 hn]; omega)]
theorem emp_s {n : Nat} {sk : Int32} (hn : n ≤ 6) (h : ¬ 1 ≤ n) (es : sk = nI n) : sk < 1 := by rw [es, nIl1 hn]; omega
theorem st_times : St_times Inv0 := by
  intro k n b u fl x u' hI est hk esk hn mest mesk hq
  have h := iv hI est hk esk hn
  unfold Q_times at hq
  subst hq
  by_cases h2 : 1 ≤ n
  · by_cases hx : outI x 1 1000 = 0
    · have e : thTim (msk u) x = 0 := fl_0 (emp_0 hn h2 mesk) hx rfl
      have hxb := outB hx
      have hxb : 1 ≤ x.toInt ∧ x.toInt ≤ 1000 := hxb
      have r2 := h.2.1 (30 + (n - 1)) (Or.inr ⟨by omega, by omega⟩)
      have ep : 29 + n = 30 + (n - 1) := by omega
      have ew : ∀ v, v < 10 → mixf 10 (fun v => x * bro b (30 + (n - 1)) v) (bro b 36) v = tiC (mfc u) (29 + n) x (11 * 36 + v) := fun v hv => by
        rw [mixf_lo _ _ hv, ti_at (by omega), ep, (r2.1 v hv).1]
      have ed : x * bdg b (30 + (n - 1)) = tiC (mfc u) (29 + n) x (11 * 36 + 10) := by
        rw [ti_at (by omega), ep, r2.2.1]
      have et := tl_lg ew ed
      by_cases hb : lgM (tiC (mfc u) (29 + n) x) 36 = true
      · have e2 : thTim2 (mfc u) (29 + n) x = 3 := fl_3 rfl rfl (by rw [hb]; decide)
        refine ⟨3, _, fl, Or.inr (Or.inr (Or.inr ⟨rfl, h2, hx, et.trans hb, rfl, rfl⟩)), by show (if thTim (msk u) x = 0 then _ else _) = _; rw [if_pos e, e2], k, n, ?_⟩
        simp only [e, if_true, e2]
        refine ⟨⟨est, hk, esk, hn, mest, mesk⟩, ?_, h.2.2⟩
        intro i hi
        have h36 : i < 36 := by unfold LV at hi; omega
        show RW (va_up (bro b) 36 _ i) (va_up (bdg b) 36 _ i) (tiC _ _ _) i
        rw [va_up_ne _ _ (by omega), va_up_ne _ _ (by omega)]
        exact (h.2.1 i hi).mv (sr_ti h36)
      · have hb' : lgM (tiC (mfc u) (29 + n) x) 36 = false := by simpa using hb
        have e2 : thTim2 (mfc u) (29 + n) x = 0 := fl_0 rfl rfl (by rw [hb']; rfl)
        refine ⟨0, _, fl, Or.inl ⟨rfl, h2, hx, et.trans hb', rfl, rfl⟩, by show (if thTim (msk u) x = 0 then _ else _) = _; rw [if_pos e, e2], k, n, ?_⟩
        simp only [e, if_true, e2]
        refine ⟨⟨est, hk, esk, hn, mest, mesk⟩, ?_, h.2.2⟩
        have tb := tl_bd (et.trans hb')
        have rr : RW (fun v => x * bro b (30 + (n - 1)) v) (x * bdg b (30 + (n - 1))) (tiC (mfc u) (29 + n) x) 36 := by
          refine ⟨fun v hv => ⟨?_, ?_⟩, ed, ?_, tb.2⟩
          · rw [← ew v hv, mixf_lo _ _ hv]
          · have t1 := tb.1 v hv
            rw [mixf_lo _ _ hv] at t1
            have m1 := mul_bd hxb (r2.1 v hv).2
            have q := sz_pos (w := x * bro b (30 + (n - 1)) v) (by omega)
            have t1 : (szI (x * bro b (30 + (n - 1)) v)).toInt ≤ 1000000 := t1
            show -1000000 ≤ (x * bro b (30 + (n - 1)) v).toInt ∧ (x * bro b (30 + (n - 1)) v).toInt ≤ 1000000
            omega
          · have m1 := mul_bd hxb (a := bdg b (30 + (n - 1))) (by have := r2.2.2; omega)
            rw [m1.1]
            exact Int.mul_nonneg (by omega) r2.2.2.1
        refine rows_gen (j := 30 + (n - 1)) h.2.1 ?_ (fun i hi h36 => ⟨?_, ?_, (sr_ti h36).tr (sr_cpy (by omega))⟩) (fun i hi => by unfold LV at hi ⊢; omega) hk hn
        · show RW (va_up _ (30 + (n - 1)) _ (30 + (n - 1))) (va_up _ (30 + (n - 1)) _ (30 + (n - 1))) (cpy11 _ 36 (29 + n)) (30 + (n - 1))
          rw [va_up_self, va_up_self, va_up_self, va_up_self]
          have c := cpy_row (j := 30 + (n - 1)) (f' := mixf 10 (mixf 10 (fun v => x * bro b (30 + (n - 1)) v) (bro b 36)) (va_up (bro b) 36 (mixf 10 (fun v => x * bro b (30 + (n - 1)) v) (bro b 36)) (30 + (n - 1)))) rr (fun v hv => by rw [mixf_lo _ _ hv, mixf_lo _ _ hv])
          rw [← ep] at c ⊢
          exact c
        · show va_up (va_up _ 36 _) (30 + (n - 1)) _ i = _
          rw [va_up_ne _ _ hi, va_up_ne _ _ (by omega)]
        · show va_up (va_up _ 36 _) (30 + (n - 1)) _ i = _
          rw [va_up_ne _ _ hi, va_up_ne _ _ (by omega)]
    · have e : thTim (msk u) x = 2 := fl_2 (emp_0 hn h2 mesk) hx
      have e0 : ¬ thTim (msk u) x = 0 := by rw [e]; decide
      exact ⟨2, b, fl, Or.inr (Or.inr (Or.inl ⟨rfl, h2, hx, rfl, rfl⟩)), by show (if thTim (msk u) x = 0 then _ else _) = _; rw [if_neg e0, e], k, n, iv_th h _ rfl rfl rfl rfl (if_neg e0) rfl rfl⟩
  · have e : thTim (msk u) x = 1 := emp_1 hn h2 mesk
    have e0 : ¬ thTim (msk u) x = 0 := by rw [e]; decide
    exact ⟨1, b, fl, Or.inr (Or.inl ⟨rfl, emp_s hn h2 esk, rfl, rfl⟩), by show (if thTim (msk u) x = 0 then _ else _) = _; rw [if_neg e0, e], k, n, iv_th h _ rfl rfl rfl rfl (if_neg e0) rfl rfl⟩
