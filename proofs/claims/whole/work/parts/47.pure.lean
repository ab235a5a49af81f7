/-! ===== the pure part: numbers ===== -/
theorem bm32 {x : Int} (h1 : -2147483648 ≤ x) (h2 : x < 2147483648) : x.bmod (2 ^ 32) = x := by
  apply Int.bmod_eq_of_le <;> omega
theorem i_add {a b : Int32} (h1 : -2147483648 ≤ a.toInt + b.toInt) (h2 : a.toInt + b.toInt < 2147483648) : (a + b).toInt = a.toInt + b.toInt := by
  rw [Int32.toInt_add, bm32 h1 h2]
theorem i_sub {a b : Int32} (h1 : -2147483648 ≤ a.toInt - b.toInt) (h2 : a.toInt - b.toInt < 2147483648) : (a - b).toInt = a.toInt - b.toInt := by
  rw [Int32.toInt_sub, bm32 h1 h2]
theorem i_mul {a b : Int32} (h1 : -2147483648 ≤ a.toInt * b.toInt) (h2 : a.toInt * b.toInt < 2147483648) : (a * b).toInt = a.toInt * b.toInt := by
  rw [Int32.toInt_mul, bm32 h1 h2]
theorem i_neg {a : Int32} (h1 : -2147483648 < a.toInt) : (-a).toInt = -a.toInt := by
  have h2 := a.toInt_lt
  rw [Int32.toInt_neg, bm32 (by omega) (by omega)]
theorem i_lt {a b : Int32} : a < b ↔ a.toInt < b.toInt := Int32.lt_iff_toInt_lt
theorem i_le {a b : Int32} : a ≤ b ↔ a.toInt ≤ b.toInt := Int32.le_iff_toInt_le
theorem nI_inj {a b : Nat} (ha : a < 2 ^ 31) (hb : b < 2 ^ 31) (h : nI a = nI b) : a = b := by
  have := congrArg Int32.toInt h
  rw [nI_toInt ha, nI_toInt hb] at this
  omega
theorem abs_sz (w : Int32) : absI w = szI w := by
  show (if 0 ≤ w then w else 0 - w) = if w < 0 then -w else w
  by_cases h : w < 0
  · rw [if_neg (Int32.not_le.mpr h), if_pos h, Int32.zero_sub]
  · rw [if_pos (Int32.not_lt.mp h), if_neg h]
theorem max_cl (x : Int32) : maxI x 0 = cl0 x := rfl
theorem opp_ag (a b : Int32) : (oppI a b = 0) = (agI b a = 0) := by
  unfold oppI agI
  by_cases h1 : 0 < a <;> by_cases h2 : b < 0 <;> by_cases h3 : a < 0 <;> by_cases h4 : 0 < b <;> simp [h1, h2, h3, h4]
theorem sm_ad (f1 f2 : Nat → Int32) (v : Nat) : smT f1 f2 v = adI (f2 v) (f1 v) := by
  unfold smT adI
  simp only [opp_ag, abs_sz]
theorem outB {x lo hi : Int32} (h : outI x lo hi = 0) : lo.toInt ≤ x.toInt ∧ x.toInt ≤ hi.toInt := by
  unfold outI at h
  by_cases h1 : x < lo
  · rw [if_pos h1] at h; exact absurd h (by decide)
  · by_cases h2 : hi < x
    · rw [if_neg h1, if_pos h2] at h; exact absurd h (by decide)
    · rw [i_lt] at h1 h2; omega
/-- sums whose terms are the same -/
theorem sg_eq {a b : Int32} {g h : Nat → Int32} (hab : a = b) : ∀ n, (∀ v, v < n → g v = h v) → sg a g n = sg b h n
  | 0, _ => hab
  | n + 1, q => by rw [sg_s, sg_s, sg_eq hab n (fun v hv => q v (by omega)), q n (by omega)]
theorem sgm_eq {a b : Int32} {g h : Nat → Int32} (hab : a = b) : ∀ n, (∀ v, v < n → g v = h v) → sgm a g n = sgm b h n
  | 0, _ => hab
  | n + 1, q => by
    show sgm a g n - g n = sgm b h n - h n
    rw [sgm_eq hab n (fun v hv => q v (by omega)), q n (by omega)]
theorem any_eq {g h : Nat → Bool} : ∀ n, (∀ v, v < n → g v = h v) → anyB g n = anyB h n
  | 0, _ => rfl
  | n + 1, q => by
    show (anyB g n || g n) = (anyB h n || h n)
    rw [any_eq n (fun v hv => q v (by omega)), q n (by omega)]
theorem all_eq {g h : Nat → Bool} : ∀ n, (∀ v, v < n → g v = h v) → allB g n = allB h n
  | 0, _ => rfl
  | n + 1, q => by
    show (allB g n && g n) = (allB h n && h n)
    rw [all_eq n (fun v hv => q v (by omega)), q n (by omega)]
theorem any_all {g : Nat → Bool} : ∀ n, anyB (fun v => !g v) n = !allB g n
  | 0 => rfl
  | n + 1 => by
    show (anyB (fun v => !g v) n || !g n) = !(allB g n && g n)
    rw [any_all n]; cases allB g n <;> cases g n <;> rfl
/-- a sum of terms within 0 .. M -/
theorem sg_bd {a : Int32} {g : Nat → Int32} {M : Int} (hM : 0 ≤ M) : ∀ n : Nat, (∀ v, v < n → 0 ≤ (g v).toInt ∧ (g v).toInt ≤ M) → (n : Int) * M + a.toInt < 2147483648 → a.toInt ≤ (sg a g n).toInt ∧ (sg a g n).toInt ≤ a.toInt + (n : Int) * M
  | 0, _, _ => by show a.toInt ≤ a.toInt ∧ a.toInt ≤ a.toInt + (0 : Int) * M; omega
  | n + 1, q, hb => by
    have e : ((n + 1 : Nat) : Int) * M = (n : Int) * M + M := by rw [Int.natCast_succ, Int.add_mul, Int.one_mul]
    have ih := sg_bd (a := a) (g := g) hM n (fun v hv => q v (by omega)) (by omega)
    have q1 := q n (by omega)
    have l := a.le_toInt
    rw [sg_s, i_add (by omega) (by omega)]
    omega
/-! ===== rows ===== -/
theorem upd_self {α : Type} (f : Nat → Int32) (k : Nat) (x : Int32) : upd f k x k = x := by simp [upd]
theorem upd_ne {f : Nat → Int32} {k j : Nat} (x : Int32) (h : j ≠ k) : upd f k x j = f j := by simp [upd, h]
def RW (f : Nat → Int32) (d : Int32) (fc : Nat → Int32) (i : Nat) : Prop := (∀ v, v < 10 → f v = fc (11 * i + v) ∧ -1000000 ≤ (f v).toInt ∧ (f v).toInt ≤ 1000000) ∧ d = fc (11 * i + 10) ∧ 0 ≤ d.toInt ∧ d.toInt ≤ 1000000
def SR (fc fc' : Nat → Int32) (i : Nat) : Prop := ∀ v, v < 11 → fc' (11 * i + v) = fc (11 * i + v)
def FQ (f g : Nat → Int32) : Prop := ∀ v, v < 10 → f v = g v ∧ -99 ≤ (f v).toInt ∧ (f v).toInt ≤ 99
def LV (k n i : Nat) : Prop := i < k ∨ (30 ≤ i ∧ i < 30 + n)
def IV (k n : Nat) (b : BT) (u : MT) : Prop := (bst b = nI k ∧ k ≤ 30 ∧ bsk b = nI n ∧ n ≤ 6 ∧ mst u = nI k ∧ msk u = nI n) ∧ (∀ i, LV k n i → RW (bro b i) (bdg b i) (mfc u) i) ∧ (∀ i, i < k → bgv b i = mfg u i) ∧ FQ (bfd b) (mfd u) ∧ FQ (bfo b) (mfo u) ∧ (btk b = mtk u ∧ bbe b = mbe u ∧ bso b = mso u ∧ ble b = mle u ∧ ban b = man u)
def Inv0 (b : BT) (u : MT) : Prop := ∃ k n, IV k n b u
theorem RW.mv {f : Nat → Int32} {d : Int32} {fc fc' : Nat → Int32} {i : Nat} (h : RW f d fc i) (s : SR fc fc' i) : RW f d fc' i := ⟨fun v hv => by rw [s v (by omega)]; exact h.1 v hv, by rw [s 10 (by omega)]; exact h.2.1, h.2.2⟩
theorem RW.cg {f f' : Nat → Int32} {d : Int32} {fc : Nat → Int32} {i : Nat} (h : RW f d fc i) (s : ∀ v, v < 10 → f' v = f v) : RW f' d fc i := ⟨fun v hv => by rw [s v hv]; exact h.1 v hv, h.2⟩
/-- a row that is read from another place -/
theorem RW.at {f : Nat → Int32} {d : Int32} {fc fc' : Nat → Int32} {i j : Nat} (h : RW f d fc i) (s : ∀ v, v < 11 → fc' (11 * j + v) = fc (11 * i + v)) : RW f d fc' j := ⟨fun v hv => by rw [s v (by omega)]; exact h.1 v hv, by rw [s 10 (by omega)]; exact h.2.1, h.2.2⟩
theorem SR.tr {fc fc' fc'' : Nat → Int32} {i : Nat} (h : SR fc fc' i) (g : SR fc' fc'' i) : SR fc fc'' i := fun v hv => (g v hv).trans (h v hv)
theorem SR.rf {fc : Nat → Int32} {i : Nat} : SR fc fc i := fun _ _ => rfl
theorem sr_cpy {fc : Nat → Int32} {s i j : Nat} (h : i ≠ j) : SR fc (cpy11 fc s j) i := fun v hv => seg_out _ _ (by omega)
theorem cpy_at {fc : Nat → Int32} {s j v : Nat} (hv : v < 11) : cpy11 fc s j (11 * j + v) = fc (11 * s + v) := seg_in (b := 11 * j) (n := 11) (fun v => fc (11 * s + v)) fc hv
theorem sr_nm {fc fac : Nat → Int32} {sn b : Int32} {i : Nat} (h : i < 36) : SR fc (nmC fc fac sn b) i := fun v hv => by
  unfold nmC; rw [upd_ne _ (by omega)]; exact seg_out _ _ (by omega)
theorem nm_w {fc fac : Nat → Int32} {sn b : Int32} {v : Nat} (hv : v < 10) : nmC fc fac sn b (396 + v) = sn * fac v := by
  unfold nmC; rw [upd_ne _ (by omega)]; exact seg_in _ _ hv
theorem nm_d {fc fac : Nat → Int32} {sn b : Int32} : nmC fc fac sn b 406 = nmD fac sn b := by unfold nmC; simp [upd]
theorem FQ.zero (f g : Nat → Int32) : FQ (mixf 10 (fun _ => 0) f) (mixf 10 (fun _ => 0) g) := fun v hv => by
  rw [mixf_lo _ _ hv, mixf_lo _ _ hv]; exact ⟨rfl, by decide, by decide⟩
theorem FQ.copy {f g f' g' : Nat → Int32} (h : FQ f g) : FQ (mixf 10 f f') (mixf 10 g g') := fun v hv => by
  rw [mixf_lo _ _ hv, mixf_lo _ _ hv]; exact h v hv
theorem FQ_upd {f g : Nat → Int32} {j : Nat} {a : Int32} (h : FQ f g) (h1 : -99 ≤ a.toInt) (h2 : a.toInt ≤ 99) : FQ (upd f j a) (upd g j a) := fun v hv => by
  by_cases e : v = j
  · subst e; simp only [upd]; simp; exact ⟨h1, h2⟩
  · rw [upd_ne _ e, upd_ne _ e]; exact h v hv
/-- the normal form of the draft or the objective is a row within bounds, and the same on both sides -/
theorem nr_nm {f g : Nat → Int32} {sn b : Int32} (h : FQ f g) : nrD f sn b = nmD g sn b := by
  unfold nrD nmD
  rw [max_cl, sg_eq rfl 10 (g := nrT f sn) (h := nmT g sn) (fun v hv => ?_)]
  unfold nrT nmT nrW
  rw [(h v hv).1]
  by_cases q : sn * g v < 0
  · rw [if_pos q, if_pos q, abs_sz]; unfold szI; rw [if_pos q]
  · rw [if_neg q, if_neg q]
theorem sn_bd {f : Nat → Int32} {sn : Int32} {v : Nat} (hs : sn = 1 ∨ sn = -1) (h1 : -99 ≤ (f v).toInt) (h2 : (f v).toInt ≤ 99) : -99 ≤ (sn * f v).toInt ∧ (sn * f v).toInt ≤ 99 := by
  rcases hs with rfl | rfl
  · rw [i_mul (a := 1) (by show -2147483648 ≤ (1 : Int) * _; omega) (by show (1 : Int) * _ < _; omega)]
    show -99 ≤ (1 : Int) * _ ∧ (1 : Int) * _ ≤ 99
    omega
  · have e : (-1 : Int32).toInt = -1 := by decide
    rw [i_mul (a := -1) (by rw [e]; omega) (by rw [e]; omega), e]
    omega
theorem nr_bd {f : Nat → Int32} {sn b : Int32} (hs : sn = 1 ∨ sn = -1) (h : ∀ v, v < 10 → -99 ≤ (f v).toInt ∧ (f v).toInt ≤ 99) (h1 : -100000 ≤ b.toInt) (h2 : b.toInt ≤ 100000) : 0 ≤ (nrD f sn b).toInt ∧ (nrD f sn b).toInt ≤ 1000000 := by
  have k := sg_bd (a := b) (g := nrT f sn) (M := 99) (by decide) 10 (fun v hv => by
    have q := sn_bd (sn := sn) hs (h v hv).1 (h v hv).2
    unfold nrT nrW
    by_cases z : sn * f v < 0
    · rw [if_pos z, abs_sz]; unfold szI; rw [if_pos z, i_neg (by omega)]
      rw [i_lt] at z
      have e0 : (0 : Int32).toInt = 0 := by decide
      omega
    · rw [if_neg z]
      have e0 : (0 : Int32).toInt = 0 := by decide
      omega) (by omega)
  unfold nrD
  rw [max_cl]
  unfold cl0
  have e0 : (0 : Int32).toInt = 0 := by decide
  by_cases z : sg b (nrT f sn) 10 < 0
  · rw [if_pos z]; omega
  · rw [if_neg z]; rw [i_lt] at z; omega
theorem rw_nm {f g fc : Nat → Int32} {sn b : Int32} {h0 : Nat → Int32} (hs : sn = 1 ∨ sn = -1) (h : FQ f g) (h1 : -100000 ≤ b.toInt) (h2 : b.toInt ≤ 100000) : RW (mixf 10 (nrW f sn) h0) (nrD f sn b) (nmC fc g sn b) 36 := by
  refine ⟨fun v hv => ?_, ?_, nr_bd hs (fun v hv => (h v hv).2) h1 h2⟩
  · rw [mixf_lo _ _ hv]
    have q := sn_bd (sn := sn) hs (h v hv).2.1 (h v hv).2.2
    refine ⟨?_, ?_, ?_⟩
    · show sn * f v = nmC fc g sn b (396 + v)
      rw [nm_w hv, (h v hv).1]
    · show -1000000 ≤ (sn * f v).toInt
      omega
    · show (sn * f v).toInt ≤ 1000000
      omega
  · show _ = nmC fc g sn b 406
    rw [nm_d, nr_nm h]
theorem iv {k n : Nat} {b : BT} {u : MT} (hI : Inv0 b u) (est : bst b = nI k) (hk : k ≤ 30) (esk : bsk b = nI n) (hn : n ≤ 6) : IV k n b u := by
  obtain ⟨k', n', h⟩ := hI
  have e1 : k' = k := nI_inj (by have := h.1.2.1; omega) (by omega) (h.1.1.symm.trans est)
  have e2 : n' = n := nI_inj (by have := h.1.2.2.2.1; omega) (by omega) (h.1.2.2.1.symm.trans esk)
  subst e1; subst e2
  exact h
theorem inv0_kn (b : BT) (u : MT) (h : Inv0 b u) : ∃ k n : Nat, bst b = nI k ∧ k ≤ 30 ∧ bsk b = nI n ∧ n ≤ 6 ∧ mst u = nI k ∧ msk u = nI n := by
  obtain ⟨k, n, h⟩ := h
  exact ⟨k, n, h.1⟩
