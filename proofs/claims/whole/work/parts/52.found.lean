/-! ===== what the store says of a choice; found, verdict ===== -/
theorem and1 (x : Int32) : x &&& 1 = 0 ∨ x &&& 1 = 1 := by
  have h1 : x.toBitVec.toNat &&& 1 ≤ 1 := Nat.and_le_right
  have e : x &&& 1 = nI (x.toBitVec.toNat &&& 1) := by
    apply Int32.toBitVec_inj.mp
    rw [Int32.toBitVec_and]
    apply BitVec.eq_of_toNat_eq
    rw [BitVec.toNat_and]
    show x.toBitVec.toNat &&& 1 = (BitVec.ofNat 32 (x.toBitVec.toNat &&& 1)).toNat
    rw [BitVec.toNat_ofNat, Nat.mod_eq_of_lt (by omega)]
  rcases (show x.toBitVec.toNat &&& 1 = 0 ∨ x.toBitVec.toNat &&& 1 = 1 by omega) with q | q
  · left; rw [e, q]; rfl
  · right; rw [e, q]; rfl
theorem bit01 (x v : Int32) : bitI x v = 0 ∨ bitI x v = 1 := and1 _
theorem on_bit (x v : Int32) : onC x v = bitI x v := by
  unfold onC
  rcases bit01 x v with h | h
  · rw [h]; rfl
  · rw [h]; rfl
theorem bit1023 : ∀ v, v < 10 → ¬ bitI 1023 (nI v) = 0 := by decide +kernel
def sgZ (g : Nat → Int32) : Nat → Int
  | 0 => 0
  | n + 1 => sgZ g n + (g n).toInt
theorem sgZ_bd {g : Nat → Int32} {m M : Int} : ∀ n : Nat, (∀ v, v < n → m ≤ (g v).toInt ∧ (g v).toInt ≤ M) → (n : Int) * m ≤ sgZ g n ∧ sgZ g n ≤ (n : Int) * M
  | 0, _ => by show (0 : Int) * m ≤ 0 ∧ 0 ≤ (0 : Int) * M; omega
  | n + 1, q => by
    have ih := sgZ_bd (g := g) (m := m) (M := M) n (fun v hv => q v (by omega))
    have q1 := q n (by omega)
    have e1 : ((n + 1 : Nat) : Int) * M = (n : Int) * M + M := by rw [Int.natCast_succ, Int.add_mul, Int.one_mul]
    have e2 : ((n + 1 : Nat) : Int) * m = (n : Int) * m + m := by rw [Int.natCast_succ, Int.add_mul, Int.one_mul]
    show ((n + 1 : Nat) : Int) * m ≤ sgZ g n + (g n).toInt ∧ sgZ g n + (g n).toInt ≤ ((n + 1 : Nat) : Int) * M
    omega
theorem sg_val {a : Int32} {g : Nat → Int32} (ha : -1000000 ≤ a.toInt ∧ a.toInt ≤ 1000000) : ∀ n : Nat, n ≤ 10 → (∀ v, v < n → -1000000 ≤ (g v).toInt ∧ (g v).toInt ≤ 1000000) → (sg a g n).toInt = a.toInt + sgZ g n
  | 0, _, _ => by show a.toInt = a.toInt + 0; omega
  | n + 1, hn, q => by
    have ih := sg_val ha n (by omega) (fun v hv => q v (by omega))
    have b := sgZ_bd (g := g) (m := -1000000) (M := 1000000) n (fun v hv => q v (by omega))
    have q1 := q n (by omega)
    rw [sg_s, i_add (by omega) (by omega), ih]
    show _ = a.toInt + (sgZ g n + (g n).toInt)
    omega
theorem met_mt {f : Nat → Int32} {d : Int32} {fc : Nat → Int32} {i : Nat} (h : RW f d fc i) (x : Int32) : metI f d x = mtM fc i x := by
  have e : ∀ v, v < 10 → slT f 1023 x v = mtT fc i x v := fun v hv => by
    unfold slT mtT
    rw [on_bit, abs_sz, (h.1 v hv).1]
    by_cases q : bitI x (nI v) = cntI (fc (11 * i + v))
    · rw [if_pos (Or.inr q), if_pos q.symm]
    · rw [if_neg (fun z => z.elim (bit1023 v hv) q), if_neg (fun z => q z.symm)]
  have b : ∀ v, v < 10 → -1000000 ≤ (mtT fc i x v).toInt ∧ (mtT fc i x v).toInt ≤ 1000000 := fun v hv => by
    unfold mtT
    have hb := (h.1 v hv).2
    rw [(h.1 v hv).1] at hb
    by_cases q : cntI (fc (11 * i + v)) = onC x (nI v)
    · rw [if_pos q]
      have s := sz_pos (w := fc (11 * i + v)) (by omega)
      omega
    · rw [if_neg q]; decide
  have hd := h.2.2
  have hn := i_neg (a := d) (by omega)
  have v1 := sg_val (a := -d) (g := mtT fc i x) (by omega) 10 (by omega) b
  have v2 := sg_val (a := 0) (g := mtT fc i x) (by decide) 10 (by omega) b
  rw [e0I] at v2
  unfold metI mtM slk
  rw [sg_eq rfl 10 e, ← h.2.1]
  by_cases q : 0 ≤ sg (-d) (mtT fc i x) 10
  · rw [if_pos q, if_neg (by rw [i_lt]; rw [i_le, e0I] at q; omega)]
  · rw [if_neg q, if_pos (by rw [i_lt]; rw [i_le, e0I] at q; omega)]
theorem ho_ng {f g : Nat → Int32} (h : FQ f g) : hoB f = !ngM g := by
  unfold hoB ngM
  rw [← any_all]
  exact any_eq 10 (fun v hv => by rw [(h v hv).1]; by_cases q : g v = 0 <;> simp [q])
theorem ov_wr {f g : Nat → Int32} (h : FQ f g) (x : Int32) : ovI f x = wrM g x := by
  unfold ovI wrM
  exact sg_eq rfl 10 (fun v hv => by rw [(h v hv).1, Int32.mul_comm])
theorem wr_bd {g : Nat → Int32} (h : ∀ v, v < 10 → -99 ≤ (g v).toInt ∧ (g v).toInt ≤ 99) (x : Int32) : -990 ≤ (wrM g x).toInt ∧ (wrM g x).toInt ≤ 990 := by
  have b : ∀ v, v < 10 → -99 ≤ (bitI x (nI v) * g v).toInt ∧ (bitI x (nI v) * g v).toInt ≤ 99 := fun v hv => by
    rcases bit01 x (nI v) with q | q
    · rw [q, Int32.zero_mul]; decide
    · rw [q, Int32.one_mul]; exact h v hv
  have v1 := sg_val (a := 0) (g := fun v => bitI x (nI v) * g v) (by decide) 10 (by omega) (fun v hv => by have := b v hv; omega)
  have z := sgZ_bd (g := fun v => bitI x (nI v) * g v) (m := -99) (M := 99) 10 b
  unfold wrM
  rw [v1, e0I]
  omega
theorem ms_0 {k n : Nat} {b : BT} {u : MT} (h : IV k n b u) (x : Int32) : allB (msB (bro b) (bdg b) (bgv b) x 0) k = mtA (mfc u) x k := by
  unfold mtA
  refine all_eq k (fun r hr => ?_)
  unfold msB
  rw [met_mt (h.2.1 r (Or.inl hr))]
  have e : ¬ asI (bgv b r) 0 = 0 := by unfold asI; split <;> simp
  rw [decide_eq_false e, Bool.false_or]
theorem ms_1 {k n : Nat} {b : BT} {u : MT} (h : IV k n b u) (x : Int32) : allB (msB (bro b) (bdg b) (bgv b) x 1) k = allB (gdB (mfc u) (mfg u) x) k := by
  refine all_eq k (fun r hr => ?_)
  unfold msB gdB
  rw [met_mt (h.2.1 r (Or.inl hr)), h.2.2.1 r hr]
  congr 1
  unfold asI
  by_cases q : mfg u r = 0
  · rw [if_pos q]; simp [q]
  · rw [if_neg q]; simp [q]
theorem szs_M {f : Nat → Int32} {d : Int32} {fc : Nat → Int32} {i : Nat} (h : RW f d fc i) : szs f = szM fc i := by
  unfold szs szM
  exact sg_eq rfl 10 (fun v hv => by rw [abs_sz, (h.1 v hv).1])
theorem st_verdict : St_verdict Inv0 := by
  intro k n b u u' r hI est hk esk hn mest mesk hq
  have h := iv hI est hk esk hn
  obtain ⟨e1, e2⟩ := hq
  subst e1; subst e2
  refine ⟨?_, k, n, h⟩
  have et : btk b = mtk u := h.2.2.2.2.2.1
  have ev : voB (bro b) (bdg b) k = anyB (fun r => decide (szM (mfc u) r < mfc u (11 * r + 10))) k := by
    unfold voB
    refine any_eq k (fun r hr => ?_)
    have rr := h.2.1 r (Or.inl hr)
    unfold voidI
    rw [szs_M rr, ← rr.2.1]
    by_cases q : szM (mfc u) r < bdg b r
    · rw [if_pos q]; simp [q]
    · rw [if_neg q]; simp [q]
  unfold vxR veR
  rw [ev, et, ho_ng h.2.2.2.2.1]
  cases anyB (fun r => decide (szM (mfc u) r < mfc u (11 * r + 10))) k <;> cases ngM (mfo u) <;> simp [bI]
theorem st_found : St_found Inv0 := by
  intro k n b u fl x u' r hI est hk esk hn mest mesk hq
  have h := iv hI est hk esk hn
  obtain ⟨e1, e2⟩ := hq
  subst e1; subst e2
  have hfo := h.2.2.2.2.1
  by_cases hx : outI x 0 1023 = 0
  · by_cases h2 : k < 30
    · have e : thFou (mst u) x = 0 := fl_0 hx (by unfold eqI; rw [if_neg (by rw [mest, nI30 hk]; omega)]) rfl
      refine ⟨0, _, _, Or.inl ⟨rfl, h2, hx, rfl, rfl⟩, e, fun _ => ?_, ?_⟩
      · rw [updL0, if_pos e, ms_0 h]
        by_cases q : mtA (mfc u) x k = true
        · simp [q]
        · simp [q]
      · simp only [e, if_true, ms_0 h, ho_ng hfo, ov_wr hfo]
        by_cases q : mtA (mfc u) x k = true
        · simp only [q, if_true]
          by_cases g : ngM (mfo u) = true
          · simp only [g, Bool.not_true, if_true, if_false]
            exact ⟨k, n, h.1, h.2.1, h.2.2.1, h.2.2.2.1, hfo, rfl, rfl, h.2.2.2.2.2.2.2⟩
          · have g' : ngM (mfo u) = false := by simpa using g
            simp only [g', Bool.not_false, if_true, Bool.false_eq_true, if_false]
            refine ⟨k + 1, n, ⟨?_, by omega, esk, hn, ?_, mesk⟩, ?_, ?_, h.2.2.2.1, hfo, rfl, rfl, h.2.2.2.2.2.2.2⟩
            · show bst b + 1 = _; rw [est, nI_1]
            · show mst u + 1 = _; rw [mest, nI_1]
            · have wb := wr_bd (g := mfo u) (fun v hv => by have := (hfo v hv); rw [← this.1]; exact this.2) x
              have e1 : (1 : Int32).toInt = 1 := by decide
              have s := i_sub (a := 1) (b := wrM (mfo u) x) (by rw [e1]; omega) (by rw [e1]; omega)
              rw [e1] at s
              have en : -(wrM (mfo u) x - 1) = 1 - wrM (mfo u) x := Int32.neg_sub
              refine rows_gen (j := k) h.2.1 ?_ (fun i hi h36 => ⟨va_up_ne _ _ hi, va_up_ne _ _ hi, ?_⟩) (fun i hi => by unfold LV at hi ⊢; omega) hk hn
              · show RW (va_up (bro b) k _ k) (va_up (bdg b) k _ k) (cpy11 _ 36 k) k
                rw [va_up_self, va_up_self, en]
                exact (rw_nm (fc := mfc u) (Or.inr rfl) hfo (by omega) (by omega)).at (fun v hv => cpy_at hv)
              · exact (sr_nm h36).tr (sr_cpy hi)
            · exact gv_up h.2.2.1
        · simp only [q, if_false]
          exact ⟨k, n, h⟩
    · have h30 : k = 30 := by omega
      have e : thFou (mst u) x = 2 := fl_2 hx (by unfold eqI; rw [if_pos (by rw [mest, h30]; rfl)]; decide)
      have e0 : ¬ thFou (mst u) x = 0 := by rw [e]; decide
      exact ⟨2, b, fl, Or.inr (Or.inr ⟨rfl, hx, by rw [est, h30]; rfl, rfl, rfl⟩), e, fun q => absurd q (by decide), k, n, iv_th h _ (if_neg e0) rfl (if_neg e0) (if_neg e0) (if_neg e0) (if_neg e0) rfl⟩
  · have e : thFou (mst u) x = 1 := fl_1 hx
    have e0 : ¬ thFou (mst u) x = 0 := by rw [e]; decide
    exact ⟨1, b, fl, Or.inr (Or.inl ⟨rfl, hx, rfl, rfl⟩), e, fun q => absurd q (by decide), k, n, iv_th h _ (if_neg e0) rfl (if_neg e0) (if_neg e0) (if_neg e0) (if_neg e0) rfl⟩
