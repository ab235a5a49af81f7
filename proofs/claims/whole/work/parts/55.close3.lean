/-! ===== close, contradict ===== -/
theorem and_bit (X Y v : Nat) : (X &&& Y) / 2 ^ v % 2 = if X / 2 ^ v % 2 = 1 then Y / 2 ^ v % 2 else 0 := by
  have h := Nat.testBit_and X Y v
  simp only [Nat.testBit_eq_decide_div_mod_eq] at h
  by_cases p : X / 2 ^ v % 2 = 1
  · rw [if_pos p]
    rw [decide_eq_true p, Bool.true_and] at h
    by_cases q : Y / 2 ^ v % 2 = 1
    · rw [decide_eq_true q] at h
      have := of_decide_eq_true h
      omega
    · rw [decide_eq_false q] at h
      have := of_decide_eq_false h
      omega
  · rw [if_neg p]
    rw [decide_eq_false p, Bool.false_and] at h
    have := of_decide_eq_false h
    omega
theorem vs_st (x y : Int32) (fs : Nat → Int32) : VS (mixf 10 (st0 x y) fs) := by
  intro v hv
  rw [mixf_lo _ _ hv]
  unfold st0
  split
  · exact Or.inr (bit01 _ _)
  · exact Or.inl rfl
theorem pak_st {x y : Int32} (fs : Nat → Int32) (hx : outI x 0 1023 = 0) (hy : outI y 0 1023 = 0) : nI (pak (mixf 10 (st0 x y) fs)) = x * 1024 + (y &&& x) := by
  obtain ⟨ex, lx⟩ := out0 (N := 1023) rfl (by decide) hx
  obtain ⟨ey, ly⟩ := out0 (N := 1023) rfl (by decide) hy
  generalize x.toNatClampNeg = X at ex lx
  generalize y.toNatClampNeg = Y at ey ly
  subst ex; subst ey
  have hk : bs (kb (mixf 10 (st0 (nI X) (nI Y)) fs)) 10 = X := by
    refine (bs_eq 10 (fun v hv => ?_)).trans (bs_of (x := X) (by omega))
    unfold kb
    rw [mixf_lo _ _ hv]
    unfold st0
    rw [bitN (by omega) (by omega), bitN (by omega) (by omega)]
    rcases (show X / 2 ^ v % 2 = 0 ∨ X / 2 ^ v % 2 = 1 by omega) with q | q
    · rw [q, if_neg (show ¬ nI 0 = 1 by decide)]; decide
    · rw [q, if_pos (show nI 1 = 1 by decide)]
      rcases (show Y / 2 ^ v % 2 = 0 ∨ Y / 2 ^ v % 2 = 1 by omega) with z | z <;> rw [z] <;> decide
  have ht : bs (tb (mixf 10 (st0 (nI X) (nI Y)) fs)) 10 = Y &&& X := by
    have lz : Y &&& X < 1024 := by have : Y &&& X ≤ X := Nat.and_le_right; omega
    refine (bs_eq 10 (fun v hv => ?_)).trans (bs_of (x := Y &&& X) lz)
    unfold tb
    rw [mixf_lo _ _ hv, Nat.and_comm, and_bit]
    unfold st0
    rw [bitN (by omega) (by omega), bitN (by omega) (by omega)]
    rcases (show X / 2 ^ v % 2 = 0 ∨ X / 2 ^ v % 2 = 1 by omega) with q | q
    · rw [q, if_neg (show ¬ nI 0 = 1 by decide), if_neg (show ¬ (0 : Nat) = 1 by decide)]; decide
    · rw [q, if_pos (show nI 1 = 1 by decide), if_pos rfl]
      rcases (show Y / 2 ^ v % 2 = 0 ∨ Y / 2 ^ v % 2 = 1 by omega) with z | z <;> rw [z] <;> decide
  have e : pak (mixf 10 (st0 (nI X) (nI Y)) fs) = 1024 * X + (Y &&& X) := by unfold pak; rw [hk, ht]
  rw [e, andI, na_mul rfl (show (1024 : Int32) = nI 1024 from rfl), nI_add]
  refine congrArg nI ?_
  omega
theorem RW.re {f : Nat → Int32} {d : Int32} {fc : Nat → Int32} {i : Nat} (h : RW f d fc i) : RE f d fc i := ⟨fun v hv => (h.1 v hv).1, h.2.1⟩
theorem clo_eq {fc fs : Nat → Int32} {ro : Nat → Nat → Int32} {dg : Nat → Int32} {k : Nat} {x y : Int32} (hk : k ≤ 30) (hx : outI x 0 1023 = 0) (hy : outI y 0 1023 = 0) (hrow : ∀ j, j < k → RE (ro j) (dg j) fc j) : cxO ro dg k (x * 1024 + (y &&& x)) 11 = clM fc fs k x y := by
  have h := close_main (mo := 0) (K := k) (vs_st x y fs) (fun g hg => rel_close hk hg hrow)
  rw [pak_st fs hx hy] at h
  unfold clM clB
  rcases h with ⟨h1, h2⟩ | ⟨h1, h2, h3⟩
  · rw [h2, if_neg (by rw [h1]; decide)]
  · rw [h2, if_pos (by rw [h1]; decide), se_pak]
theorem st_close : St_close Inv0 := by
  intro k n b u fl x y u' r hI est hk esk hn mest mesk hq
  have h := iv hI est hk esk hn
  obtain ⟨e1, e2⟩ := hq
  subst e1; subst e2
  by_cases h1 : outI x 0 1023 = 0 ∧ outI y 0 1023 = 0
  · have e : thClo x y = 0 := fl_0 (or_00 h1.1 h1.2) rfl rfl
    refine ⟨0, b, _, Or.inl ⟨rfl, h1.1, h1.2, rfl, rfl⟩, e, fun _ => ?_, k, n, iv_th h _ rfl rfl rfl rfl rfl rfl rfl⟩
    rw [updL0, if_pos e, clo_eq (fc := mfc u) (fs := mfs u) hk h1.1 h1.2 (fun j hj => (h.2.1 j (Or.inl hj)).re)]
  · have h2 := two_or h1
    have e : thClo x y = 1 := fl_1 (or_n h2)
    exact ⟨1, b, fl, Or.inr ⟨rfl, h2, rfl, rfl⟩, e, fun q => absurd q (by decide), k, n, iv_th h _ rfl rfl rfl rfl rfl rfl rfl⟩
/-! contradict -/
theorem sr_ct {fc : Nat → Int32} {i : Nat} (h : i < 37) : SR fc (ctC fc) i := fun v hv => by
  unfold ctC; rw [upd_ne _ (by omega)]; exact seg_out _ _ (by omega)
theorem ct_w {fc : Nat → Int32} {v : Nat} (hv : v < 10) : ctC fc (11 * 37 + v) = -(fc (396 + v)) := by
  unfold ctC; rw [upd_ne _ (by omega)]; exact seg_in (b := 407) (n := 10) (fun v => -(fc (396 + v))) fc hv
theorem ct_d {fc : Nat → Int32} : ctC fc (11 * 37 + 10) = cl0 (szM fc 36 + 1 - fc 406) := by unfold ctC; simp [upd]
theorem pak_no (fs : Nat → Int32) : VS (mixf 10 (fun _ => -1) fs) ∧ nI (pak (mixf 10 (fun _ => -1) fs)) = 0 := by
  refine ⟨fun v hv => Or.inl (by rw [mixf_lo _ _ hv]), ?_⟩
  have hz : bs (fun _ => 0) 10 = 0 := by rw [bs_10]
  have z1 : bs (kb (mixf 10 (fun _ => -1) fs)) 10 = 0 := (bs_eq 10 (fun v hv => by unfold kb; rw [mixf_lo _ _ hv]; rfl)).trans hz
  have z2 : bs (tb (mixf 10 (fun _ => -1) fs)) 10 = 0 := (bs_eq 10 (fun v hv => by unfold tb; rw [mixf_lo _ _ hv]; rfl)).trans hz
  have e : pak (mixf 10 (fun _ => -1) fs) = 0 := by
    unfold pak
    rw [z1, z2]
  rw [e]; rfl
theorem st_contradict : St_contradict Inv0 := by
  intro k n b u fl x u' r hI est hk esk hn mest mesk hq
  have h := iv hI est hk esk hn
  obtain ⟨e1, e2⟩ := hq
  subst e1; subst e2
  by_cases hx : outI x (-9999) 9999 = 0
  · by_cases h2 : k < 30
    · have e : thCtr (mst u) x = 0 := fl_0 hx (by unfold eqI; rw [if_neg (by rw [mest, nI30 hk]; omega)]) rfl
      have hb := outB hx
      have hb : -9999 ≤ x.toInt ∧ x.toInt ≤ 9999 := hb
      have r1 := rw_nm (fc := mfc u) (b := x) (h0 := bro b k) (Or.inl rfl) h.2.2.2.1 (by omega) (by omega)
      have rx : RE (mixf 10 (fun v => -((mixf 10 (nrW (bfd b) 1) (bro b k)) v)) (mixf 10 (nrW (bfd b) 1) (bro b k))) (maxI (szs (mixf 10 (nrW (bfd b) 1) (bro b k)) + 1 - nrD (bfd b) 1 x) 0) (ctC (nmC (mfc u) (mfd u) 1 x)) 37 := by
        refine ⟨fun v hv => ?_, ?_⟩
        · rw [mixf_lo _ _ hv, ct_w hv, (r1.1 v hv).1]
        · rw [max_cl, ct_d, szs_M r1, r1.2.1]
      have hs := pak_no (mfs u)
      have hm := close_main (mo := 1) (K := k + 1) (fc := ctC (nmC (mfc u) (mfd u) 1 x)) (k := k) (ro := va_up (bro b) k (mixf 10 (fun v => -((mixf 10 (nrW (bfd b) 1) (bro b k)) v)) (mixf 10 (nrW (bfd b) 1) (bro b k)))) (dg := va_up (bdg b) k (maxI (szs (mixf 10 (nrW (bfd b) 1) (bro b k)) + 1 - nrD (bfd b) 1 x) 0)) hs.1 (fun g hg => rel_contra hk hg (fun j hj => by
        rw [va_up_ne _ _ (by omega), va_up_ne _ _ (by omega)]
        exact ((h.2.1 j (Or.inl hj)).mv ((sr_nm (by omega)).tr (sr_ct (by omega)))).re) (by rw [va_up_self, va_up_self]; exact rx))
      rw [hs.2] at hm
      obtain ⟨c0, hc0⟩ : ∃ c0, c0 = cxO (va_up (bro b) k (mixf 10 (fun v => -((mixf 10 (nrW (bfd b) 1) (bro b k)) v)) (mixf 10 (nrW (bfd b) 1) (bro b k)))) (va_up (bdg b) k (maxI (szs (mixf 10 (nrW (bfd b) 1) (bro b k)) + 1 - nrD (bfd b) 1 x) 0)) (k + 1) 0 11 := ⟨_, rfl⟩
      rw [← hc0] at hm
      refine ⟨0, _, _, Or.inl ⟨c0, rfl, h2, hx, hc0, rfl, rfl⟩, e, fun _ => ?_, ?_⟩
      · rw [updL0, if_pos e]
        unfold clB
        rcases hm with ⟨m1, m2⟩ | ⟨m1, m2, m3⟩
        · rw [if_pos m2, if_neg (by rw [m1]; decide), est, mest]
        · rw [if_neg (by rw [m2]; exact pak_m1 _), if_pos (by rw [m1]; decide)]
      · rcases hm with ⟨m1, m2⟩ | ⟨m1, m2, m3⟩
        · have cb : ¬ clB (ctC (nmC (mfc u) (mfd u) 1 x)) k 1 (mixf 10 (fun _ => -1) (mfs u)) = true := by unfold clB; rw [m1]; decide
          simp only [e, if_true, if_pos m2, if_neg cb]
          refine ⟨k + 1, n, ⟨?_, by omega, esk, hn, ?_, mesk⟩, ?_, gv_up h.2.2.1, FQ.zero _ _, h.2.2.2.2⟩
          · show bst b + 1 = _; rw [est, nI_1]
          · show mst u + 1 = _; rw [mest, nI_1]
          · refine rows_gen (j := k) h.2.1 ?_ (fun i hi h36 => ⟨va_up_ne _ _ hi, va_up_ne _ _ hi, (sr_nm h36).tr ((sr_ct (by omega)).tr (sr_cpy hi))⟩) (fun i hi => by unfold LV at hi ⊢; omega) hk hn
            show RW (va_up (bro b) k _ k) (va_up (bdg b) k _ k) (cpy11 _ 36 k) k
            rw [va_up_self, va_up_self]
            exact ((r1.mv (sr_ct (by omega))).cg (fun v hv => by rw [mixf_lo _ _ hv, mixf_lo _ _ hv])).at (fun v hv => cpy_at hv)
        · have cb : clB (ctC (nmC (mfc u) (mfd u) 1 x)) k 1 (mixf 10 (fun _ => -1) (mfs u)) = true := by unfold clB; rw [m1]; decide
          have n2 : ¬ c0 = -1 := by rw [m2]; exact pak_m1 _
          simp only [e, if_true, if_neg n2, if_pos cb]
          refine ⟨k, n, ⟨est, hk, esk, hn, mest, mesk⟩, fun i hi => ?_, h.2.2⟩
          have hne : i ≠ k := by unfold LV at hi; omega
          have h36 : i < 36 := by unfold LV at hi; omega
          show RW (va_up (bro b) k _ i) (va_up (bdg b) k _ i) (ctC _) i
          rw [va_up_ne _ _ hne, va_up_ne _ _ hne]
          exact (h.2.1 i hi).mv ((sr_nm h36).tr (sr_ct (by omega)))
    · have h30 : k = 30 := by omega
      have e : thCtr (mst u) x = 2 := fl_2 hx (by unfold eqI; rw [if_pos (by rw [mest, h30]; rfl)]; decide)
      have e0 : ¬ thCtr (mst u) x = 0 := by rw [e]; decide
      exact ⟨2, b, fl, Or.inr (Or.inr ⟨rfl, hx, by rw [est, h30]; rfl, rfl, rfl⟩), e, fun q => absurd q (by decide), k, n, iv_th h _ (if_neg e0) rfl rfl rfl (if_neg e0) (if_neg e0) (if_neg e0)⟩
  · have e : thCtr (mst u) x = 1 := fl_1 hx
    have e0 : ¬ thCtr (mst u) x = 0 := by rw [e]; decide
    exact ⟨1, b, fl, Or.inr (Or.inl ⟨rfl, hx, rfl, rfl⟩), e, fun q => absurd q (by decide), k, n, iv_th h _ (if_neg e0) rfl rfl rfl (if_neg e0) (if_neg e0) (if_neg e0)⟩
