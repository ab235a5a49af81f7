/-! ===== the calls, but closing and solving ===== -/
theorem fl_0 {x y z : Int32} (hx : x = 0) (hy : y = 0) (hz : z = 0) : flI x y z = 0 := by subst hx; subst hy; subst hz; rfl
theorem fl_1 {x y z : Int32} (hx : ¬ x = 0) : flI x y z = 1 := if_neg hx
theorem fl_2 {x y z : Int32} (hx : x = 0) (hy : ¬ y = 0) : flI x y z = 2 := by unfold flI; rw [if_pos hx, if_neg hy]
theorem fl_3 {x y z : Int32} (hx : x = 0) (hy : y = 0) (hz : ¬ z = 0) : flI x y z = 3 := by unfold flI; rw [if_pos hx, if_pos hy, if_neg hz]
theorem or_00 {x y : Int32} (hx : x = 0) (hy : y = 0) : orI x y = 0 := by subst hx; subst hy; rfl
theorem or_n {x y : Int32} (h : ¬ x = 0 ∨ ¬ y = 0) : ¬ orI x y = 0 := by
  unfold orI
  by_cases hx : x = 0
  · rw [if_pos hx, if_neg (h.elim (fun q => absurd hx q) id)]; decide
  · rw [if_neg hx]; decide
theorem updL0 (fl : Nat → Int64) (x : Int64) : vp_updL fl 0 x 0 = x := by simp [vp_updL]
theorem nI30 {k : Nat} (hk : k ≤ 30) : nI k = 30 ↔ k = 30 := nI_eq (b := 30) (by omega) (by decide)
theorem nI6 {n : Nat} (hn : n ≤ 6) : nI n = 6 ↔ n = 6 := nI_eq (b := 6) (by omega) (by decide)
theorem nIl1 {n : Nat} (hn : n ≤ 6) : nI n < 1 ↔ n < 1 := nI_ltI (b := 1) (by omega) (by decide)
theorem nIl2 {n : Nat} (hn : n ≤ 6) : nI n < 2 ↔ n < 2 := nI_ltI (b := 2) (by omega) (by decide)
theorem st_term : St_term Inv0 := by
  intro k n b u fl v a u' hI est hk esk hn mest mesk hq
  have h := iv hI est hk esk hn
  unfold Q_term at hq
  subst hq
  by_cases h1 : outI v 0 9 = 0 ∧ outI a (-99) 99 = 0
  · have e : thTerm v a = 0 := fl_0 (or_00 h1.1 h1.2) rfl rfl
    refine ⟨0, _, fl, Or.inl ⟨rfl, h1.1, h1.2, rfl, rfl⟩, e, k, n, h.1, h.2.1, h.2.2.1, ?_, h.2.2.2.2⟩
    show FQ (upd (bfd b) v.toNatClampNeg a) (if thTerm v a = 0 then upd (mfd u) v.toNatClampNeg a else mfd u)
    rw [if_pos e]
    have hb := outB h1.2
    exact FQ_upd h.2.2.2.1 hb.1 hb.2
  · have h2 : ¬ outI v 0 9 = 0 ∨ ¬ outI a (-99) 99 = 0 := by
      by_cases q : outI v 0 9 = 0
      · exact Or.inr (fun z => h1 ⟨q, z⟩)
      · exact Or.inl q
    have e : thTerm v a = 1 := fl_1 (or_n h2)
    refine ⟨1, b, fl, Or.inr ⟨rfl, h2, rfl, rfl⟩, e, k, n, h.1, h.2.1, h.2.2.1, ?_, h.2.2.2.2⟩
    show FQ (bfd b) (if thTerm v a = 0 then upd (mfd u) v.toNatClampNeg a else mfd u)
    rw [if_neg (by rw [e]; decide)]
    exact h.2.2.2.1
theorem st_clear : St_clear Inv0 := by
  intro k n b u u' hI est hk esk hn mest mesk hq
  have h := iv hI est hk esk hn
  unfold Q_clear at hq
  subst hq
  exact ⟨_, rfl, k, n, h.1, h.2.1, h.2.2.1, FQ.zero _ _, h.2.2.2.2⟩
theorem st_objective : St_objective Inv0 := by
  intro k n b u fl u' hI est hk esk hn mest mesk hq
  have h := iv hI est hk esk hn
  unfold Q_objective at hq
  subst hq
  have et : btk b = mtk u := h.2.2.2.2.2.1
  by_cases h1 : mtk u = 0
  · have e : thObj (mtk u) = 0 := fl_0 h1 rfl rfl
    refine ⟨0, _, fl, Or.inl ⟨rfl, et.trans h1, rfl, rfl⟩, e, k, n, h.1, h.2.1, h.2.2.1, ?_, ?_, h.2.2.2.2.2⟩
    · show FQ (mixf 10 (fun _ => 0) (bfd b)) (if thObj (mtk u) = 0 then mixf 10 (fun _ => 0) (mfd u) else mfd u)
      rw [if_pos e]; exact FQ.zero _ _
    · show FQ (mixf 10 (bfd b) (bfo b)) (if thObj (mtk u) = 0 then mixf 10 (mfd u) (mfo u) else mfo u)
      rw [if_pos e]; exact h.2.2.2.1.copy
  · have e : thObj (mtk u) = 1 := fl_1 h1
    have e0 : ¬ thObj (mtk u) = 0 := by rw [e]; decide
    refine ⟨1, b, fl, Or.inr ⟨rfl, by rw [et]; exact h1, rfl, rfl⟩, e, k, n, h.1, h.2.1, h.2.2.1, ?_, ?_, h.2.2.2.2.2⟩
    · show FQ (bfd b) (if thObj (mtk u) = 0 then mixf 10 (fun _ => 0) (mfd u) else mfd u)
      rw [if_neg e0]; exact h.2.2.2.1
    · show FQ (bfo b) (if thObj (mtk u) = 0 then mixf 10 (mfd u) (mfo u) else mfo u)
      rw [if_neg e0]; exact h.2.2.2.2.1
theorem st_constraints : St_constraints Inv0 := by
  intro k n b u u' r hI est hk esk hn mest mesk hq
  have h := iv hI est hk esk hn
  obtain ⟨e1, e2⟩ := hq
  subst e1; subst e2
  exact ⟨est.trans mest.symm, k, n, h⟩
theorem st_best : St_best Inv0 := by
  intro k n b u fl u' r hI est hk esk hn mest mesk hq
  have h := iv hI est hk esk hn
  obtain ⟨e1, e2⟩ := hq
  subst e1; subst e2
  have et : btk b = mtk u := h.2.2.2.2.2.1
  by_cases h1 : mtk u = 0
  · have e : thBst (mtk u) = 1 := fl_1 (by rw [show ntI (mtk u) = 1 from if_pos h1]; decide)
    exact ⟨1, b, fl, Or.inr ⟨rfl, et.trans h1, rfl, rfl⟩, e, fun q => absurd q (by decide), k, n, h⟩
  · have e : thBst (mtk u) = 0 := fl_0 (if_neg h1) rfl rfl
    refine ⟨0, b, _, Or.inl ⟨rfl, by rw [et]; exact h1, rfl, rfl⟩, e, fun _ => ?_, k, n, h⟩
    rw [updL0, if_pos e, h.2.2.2.2.2.2.1]
theorem st_least : St_least Inv0 := by
  intro k n b u fl u' r hI est hk esk hn mest mesk hq
  have h := iv hI est hk esk hn
  obtain ⟨e1, e2⟩ := hq
  subst e1; subst e2
  have et : bso b = mso u := h.2.2.2.2.2.2.2.1
  by_cases h1 : mso u = 0
  · have e : thBst (mso u) = 1 := fl_1 (by rw [show ntI (mso u) = 1 from if_pos h1]; decide)
    exact ⟨1, b, fl, Or.inr ⟨rfl, et.trans h1, rfl, rfl⟩, e, fun q => absurd q (by decide), k, n, h⟩
  · have e : thBst (mso u) = 0 := fl_0 (if_neg h1) rfl rfl
    refine ⟨0, b, _, Or.inl ⟨rfl, by rw [et]; exact h1, rfl, rfl⟩, e, fun _ => ?_, k, n, h⟩
    rw [updL0, if_pos e, h.2.2.2.2.2.2.2.2.1]
theorem st_value : St_value Inv0 := by
  intro k n b u fl x u' r hI est hk esk hn mest mesk hq
  have h := iv hI est hk esk hn
  obtain ⟨e1, e2⟩ := hq
  subst e1; subst e2
  have et : bso b = mso u := h.2.2.2.2.2.2.2.1
  by_cases h1 : mso u = 0
  · have e : thVal (mso u) x = 1 := fl_1 (by rw [show ntI (mso u) = 1 from if_pos h1]; decide)
    exact ⟨1, b, fl, Or.inr (Or.inl ⟨rfl, et.trans h1, rfl, rfl⟩), e, fun q => absurd q (by decide), k, n, h⟩
  · by_cases h2 : outI x 0 9 = 0
    · have e : thVal (mso u) x = 0 := fl_0 (if_neg h1) h2 rfl
      refine ⟨0, b, _, Or.inl ⟨rfl, by rw [et]; exact h1, h2, rfl, rfl⟩, e, fun _ => ?_, k, n, h⟩
      rw [updL0, if_pos e, h.2.2.2.2.2.2.2.2.2]
    · have e : thVal (mso u) x = 2 := fl_2 (if_neg h1) h2
      exact ⟨2, b, fl, Or.inr (Or.inr ⟨rfl, by rw [et]; exact h1, h2, rfl, rfl⟩), e, fun q => absurd q (by decide), k, n, h⟩
