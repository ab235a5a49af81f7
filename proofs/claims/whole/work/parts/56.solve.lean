/-! ===== solve ===== -/
def rvf (a : Nat → Nat) : Nat := 512 * a 0 + 256 * a 1 + 128 * a 2 + 64 * a 3 + 32 * a 4 + 16 * a 5 + 8 * a 6 + 4 * a 7 + 2 * a 8 + a 9
def rv (n : Nat) : Nat := rvf (fun v => n / 2 ^ v % 2)
theorem rvf_lt {a : Nat → Nat} (this : ∀ v, a v < 2) : rvf a < 1024 := by
  unfold rvf
  have h0 := this 0; have h1 := this 1; have h2 := this 2; have h3 := this 3; have h4 := this 4; have h5 := this 5; have h6 := this 6; have h7 := this 7; have h8 := this 8; have h9 := this 9
  omega
theorem rv_lt (n : Nat) : rv n < 1024 := rvf_lt (fun v => Nat.mod_lt _ (by decide))
theorem rv_rv : ∀ n, n < 1024 → rv (rv n) = n := by decide +kernel
theorem tn_rv : ∀ n, n < 1024 → tnI (nI n) 10 = nI (rv n) := by decide +kernel
def lb (d : Nat) : Nat := if d % 2 = 1 then 0 else if d / 2 % 2 = 1 then 1 else if d / 4 % 2 = 1 then 2 else if d / 8 % 2 = 1 then 3 else if d / 16 % 2 = 1 then 4 else if d / 32 % 2 = 1 then 5 else if d / 64 % 2 = 1 then 6 else if d / 128 % 2 = 1 then 7 else if d / 256 % 2 = 1 then 8 else 9
theorem low_d : ∀ d, d < 1024 → d ≠ 0 → nI d &&& (-(nI d)) = nI (2 ^ lb d) ∧ d % 2 ^ lb d = 0 ∧ d / 2 ^ lb d % 2 = 1 ∧ lb d < 10 := by decide +kernel
theorem xorI (a b : Nat) : nI a ^^^ nI b = nI (a ^^^ b) := by
  apply Int32.toBitVec_inj.mp
  rw [Int32.toBitVec_xor]
  apply BitVec.eq_of_toNat_eq
  rw [BitVec.toNat_xor]
  show (BitVec.ofNat 32 a).toNat ^^^ (BitVec.ofNat 32 b).toNat = (BitVec.ofNat 32 (a ^^^ b)).toNat
  rw [BitVec.toNat_ofNat, BitVec.toNat_ofNat, BitVec.toNat_ofNat, Nat.xor_mod_two_pow]
theorem tbE (x v : Nat) : x.testBit v = decide (x / 2 ^ v % 2 = 1) := Nat.testBit_eq_decide_div_mod_eq
theorem rv_less {a b : Nat → Nat} (ha : ∀ v, a v ≤ 1) (hb : ∀ v, b v ≤ 1) {j : Nat} (hj : j < 10) (h : ∀ v, v < j → a v = b v) (h1 : a j = 0) (h2 : b j = 1) : rvf a < rvf b := by
  unfold rvf
  have a0 := ha 0; have a1 := ha 1; have a2 := ha 2; have a3 := ha 3; have a4 := ha 4; have a5 := ha 5; have a6 := ha 6; have a7 := ha 7; have a8 := ha 8; have a9 := ha 9
  have b0 := hb 0; have b1 := hb 1; have b2 := hb 2; have b3 := hb 3; have b4 := hb 4; have b5 := hb 5; have b6 := hb 6; have b7 := hb 7; have b8 := hb 8; have b9 := hb 9
  have e0 := h 0; have e1 := h 1; have e2 := h 2; have e3 := h 3; have e4 := h 4; have e5 := h 5; have e6 := h 6; have e7 := h 7; have e8 := h 8
  rcases (show j = 0 ∨ j = 1 ∨ j = 2 ∨ j = 3 ∨ j = 4 ∨ j = 5 ∨ j = 6 ∨ j = 7 ∨ j = 8 ∨ j = 9 by omega) with rfl | rfl | rfl | rfl | rfl | rfl | rfl | rfl | rfl | rfl <;> simp only [Nat.reduceLT, forall_const, false_implies] at e0 e1 e2 e3 e4 e5 e6 e7 e8 <;> omega
theorem cb_rv {x y : Nat} (hx : x < 1024) (hy : y < 1024) (hne : x ≠ y) : (cbI (nI x) (nI y) = 0) ↔ rv y < rv x := by
  have hd : x ^^^ y < 1024 := Nat.xor_lt_two_pow (n := 10) hx hy
  have hd0 : x ^^^ y ≠ 0 := fun q => hne (Nat.eq_of_testBit_eq (fun i => by
    have h := Nat.testBit_xor (x := x) (y := y) (i := i)
    rw [q, Nat.zero_testBit] at h
    cases hx : x.testBit i <;> cases hy : y.testBit i <;> rw [hx, hy] at h <;> first | rfl | exact Bool.noConfusion h))
  obtain ⟨l1, l2, l3, l4⟩ := low_d _ hd hd0
  generalize hj : lb (x ^^^ y) = j at l1 l2 l3 l4
  have below : ∀ v, v < j → x / 2 ^ v % 2 = y / 2 ^ v % 2 := fun v hv => by
    have h1 := Nat.testBit_mod_two_pow (x ^^^ y) j v
    rw [l2, Nat.zero_testBit, decide_eq_true hv, Bool.true_and, Nat.testBit_xor, tbE, tbE] at h1
    by_cases p : x / 2 ^ v % 2 = 1 <;> by_cases q : y / 2 ^ v % 2 = 1 <;> simp [p, q] at h1 <;> omega
  have here : (x / 2 ^ j % 2 = 0 ∧ y / 2 ^ j % 2 = 1) ∨ (x / 2 ^ j % 2 = 1 ∧ y / 2 ^ j % 2 = 0) := by
    have h1 : (x ^^^ y).testBit j = true := by rw [tbE, l3]; rfl
    rw [Nat.testBit_xor, tbE, tbE] at h1
    by_cases p : x / 2 ^ j % 2 = 1 <;> by_cases q : y / 2 ^ j % 2 = 1 <;> simp [p, q] at h1 <;> omega
  have ea : nI y &&& nI (2 ^ j) = 0 ↔ y / 2 ^ j % 2 = 0 := by
    have lz : y &&& 2 ^ j < 2 ^ 31 := by have : y &&& 2 ^ j ≤ y := Nat.and_le_left; omega
    rw [andI, show (0 : Int32) = nI 0 from rfl, nI_eq lz (by decide)]
    constructor
    · intro q
      have h1 := Nat.testBit_and y (2 ^ j) j
      rw [q, Nat.zero_testBit, Nat.testBit_two_pow_self, Bool.and_true, tbE] at h1
      have := of_decide_eq_false h1.symm
      omega
    · intro q
      refine Nat.eq_of_testBit_eq (fun i => ?_)
      rw [Nat.testBit_and, Nat.zero_testBit, Nat.testBit_two_pow]
      by_cases e : j = i
      · subst e
        rw [tbE, q]; rfl
      · rw [decide_eq_false e, Bool.and_false]
  have b1 : ∀ z v : Nat, z / 2 ^ v % 2 ≤ 1 := fun z v => by have := Nat.mod_lt (z / 2 ^ v) (show 0 < 2 by decide); omega
  have ec : cbI (nI x) (nI y) = 0 ↔ y / 2 ^ j % 2 = 0 := by
    unfold cbI
    rw [xorI, l1, ← ea]
    by_cases q : nI y &&& nI (2 ^ j) = 0
    · rw [if_pos q]; simp [q]
    · rw [if_neg q]; simp [q]
  rw [ec]
  rcases here with ⟨p, q⟩ | ⟨p, q⟩
  · have := rv_less (a := fun v => x / 2 ^ v % 2) (b := fun v => y / 2 ^ v % 2) (b1 x) (b1 y) l4 below p q
    have t : rv x < rv y := this
    omega
  · have := rv_less (a := fun v => y / 2 ^ v % 2) (b := fun v => x / 2 ^ v % 2) (b1 y) (b1 x) l4 (fun v hv => (below v hv).symm) q p
    have t : rv y < rv x := this
    omega
/-- the class's way: after N choices -/
def CS (good : Nat → Bool) (val : Nat → Int32) (le an : Int32) (N : Nat) (q : soT) : Prop :=
  (q = (0, le, an) ∧ ∀ c, c < N → good c = false) ∨ (∃ a, a < N ∧ q = (1, val a, nI a) ∧ good a = true ∧ ∀ c, c < N → good c = true → (val a).toInt < (val c).toInt ∨ ((val a).toInt = (val c).toInt ∧ rv a ≤ rv c))
/-- the reference's: after N turned choices -/
def MS (good : Nat → Bool) (val : Nat → Int32) (le an : Int32) (N : Nat) (q : soT) : Prop :=
  (q = (0, le, an) ∧ ∀ c, c < N → good (rv c) = false) ∨ (∃ a, a < N ∧ q = (1, val (rv a), nI (rv a)) ∧ good (rv a) = true ∧ ∀ c, c < N → good (rv c) = true → (val (rv a)).toInt < (val (rv c)).toInt ∨ ((val (rv a)).toInt = (val (rv c)).toInt ∧ a ≤ c))
theorem cs_ms {good : Nat → Bool} {val : Nat → Int32} {le an : Int32} {q q' : soT} (h : CS good val le an 1024 q) (h' : MS good val le an 1024 q') : q = q' := by
  rcases h with ⟨e, h⟩ | ⟨a, ha, e, ga, h⟩
  · rcases h' with ⟨e', h'⟩ | ⟨a', ha', e', ga', h'⟩
    · rw [e, e']
    · have := h (rv a') (rv_lt a')
      rw [ga'] at this
      exact Bool.noConfusion this
  · rcases h' with ⟨e', h'⟩ | ⟨a', ha', e', ga', h'⟩
    · have := h' (rv a) (rv_lt a)
      rw [rv_rv a ha, ga] at this
      exact Bool.noConfusion this
    · have t1 := h (rv a') (rv_lt a') ga'
      rw [rv_rv a' ha'] at t1
      have t2 := h' (rv a) (rv_lt a) (by rw [rv_rv a ha]; exact ga)
      rw [rv_rv a ha] at t2
      have e1 : rv a = a' := by omega
      have e2 : a = rv a' := by rw [← e1, rv_rv a ha]
      rw [e, e', ← e2]
theorem cs_step {good : Nat → Bool} {val : Nat → Int32} {le an : Int32} {N : Nat} {q : soT} (hN : N < 1024) (h : CS good val le an N q) : CS good val le an (N + 1) (if prI q.1 q.2.1 q.2.2 (nI N) (val N) = 0 then q else if good N = true then (1, val N, nI N) else q) := by
  rcases h with ⟨e, h⟩ | ⟨a, ha, e, ga, h⟩
  · subst e
    have ep : ¬ prI (0 : Int32) le an (nI N) (val N) = 0 := by unfold prI; rw [if_pos rfl]; decide
    rw [if_neg ep]
    cases g : good N with
    | true =>
      rw [if_pos rfl]
      refine Or.inr ⟨N, by omega, rfl, g, fun c hc gc => ?_⟩
      by_cases q : c = N
      · subst q; exact Or.inr ⟨rfl, Nat.le_refl _⟩
      · rw [h c (by omega)] at gc; exact Bool.noConfusion gc
    | false =>
      rw [if_neg (by decide)]
      refine Or.inl ⟨rfl, fun c hc => ?_⟩
      by_cases q : c = N
      · subst q; exact g
      · exact h c (by omega)
  · subst e
    have key : prI (1 : Int32) (val a) (nI a) (nI N) (val N) = 0 ↔ ¬ ((val N).toInt < (val a).toInt ∨ ((val N).toInt = (val a).toInt ∧ rv N < rv a)) := by
      unfold prI
      rw [if_neg (by decide)]
      have cb := cb_rv (x := N) (y := a) hN (by omega) (by omega)
      have nrr : rv N ≠ rv a := fun q => by
        have := congrArg rv q
        rw [rv_rv N hN, rv_rv a (by omega)] at this
        omega
      by_cases l : val N < val a
      · rw [if_pos l]
        rw [i_lt] at l
        constructor
        · intro q; exact absurd q (by decide)
        · intro q; exact absurd (Or.inl l) q
      · rw [if_neg l]
        rw [i_lt] at l
        by_cases eq : val N = val a
        · rw [if_pos eq]
          have ei := congrArg Int32.toInt eq
          by_cases c0 : cbI (nI N) (nI a) = 0
          · rw [if_pos c0]
            have := cb.mp c0
            constructor
            · intro _; omega
            · intro _; rfl
          · rw [if_neg c0]
            have : ¬ rv a < rv N := fun q => c0 (cb.mpr q)
            constructor
            · intro q; exact absurd q (by decide)
            · intro q; omega
        · rw [if_neg eq]
          have ei : ¬ (val N).toInt = (val a).toInt := fun q => eq (Int32.toInt_inj.mp q)
          constructor
          · intro _; omega
          · intro _; rfl
    show CS good val le an (N + 1) (if prI 1 (val a) (nI a) (nI N) (val N) = 0 then (1, val a, nI a) else if good N = true then (1, val N, nI N) else (1, val a, nI a))
    by_cases p : prI 1 (val a) (nI a) (nI N) (val N) = 0
    · rw [if_pos p]
      have p' := key.mp p
      refine Or.inr ⟨a, by omega, rfl, ga, fun c hc gc => ?_⟩
      by_cases q : c = N
      · subst q; omega
      · exact h c (by omega) gc
    · rw [if_neg p]
      have p' : (val N).toInt < (val a).toInt ∨ ((val N).toInt = (val a).toInt ∧ rv N < rv a) := Decidable.byContradiction (fun z => p (key.mpr z))
      cases g : good N with
      | true =>
        rw [if_pos rfl]
        refine Or.inr ⟨N, by omega, rfl, g, fun c hc gc => ?_⟩
        by_cases q : c = N
        · subst q; exact Or.inr ⟨rfl, Nat.le_refl _⟩
        · have := h c (by omega) gc
          omega
      | false =>
        rw [if_neg (by decide)]
        refine Or.inr ⟨a, by omega, rfl, ga, fun c hc gc => ?_⟩
        by_cases q : c = N
        · subst q; rw [g] at gc; exact Bool.noConfusion gc
        · exact h c (by omega) gc
theorem ms_step {good : Nat → Bool} {val : Nat → Int32} {le an : Int32} {N : Nat} {q : soT} (h : MS good val le an N q) : MS good val le an (N + 1) (if ((decide (q.1 = 0) || decide (val (rv N) < q.2.1)) && good (rv N)) = true then (1, val (rv N), nI (rv N)) else q) := by
  rcases h with ⟨e, h⟩ | ⟨a, ha, e, ga, h⟩
  · subst e
    cases g : good (rv N) with
    | true =>
      rw [if_pos (by simp)]
      refine Or.inr ⟨N, by omega, rfl, g, fun c hc gc => ?_⟩
      by_cases q : c = N
      · subst q; exact Or.inr ⟨rfl, Nat.le_refl _⟩
      · rw [h c (by omega)] at gc; exact Bool.noConfusion gc
    | false =>
      rw [if_neg (by simp)]
      refine Or.inl ⟨rfl, fun c hc => ?_⟩
      by_cases q : c = N
      · subst q; exact g
      · exact h c (by omega)
  · subst e
    show MS good val le an (N + 1) (if ((decide ((1 : Int32) = 0) || decide (val (rv N) < val (rv a))) && good (rv N)) = true then (1, val (rv N), nI (rv N)) else (1, val (rv a), nI (rv a)))
    rw [decide_eq_false (show ¬ (1 : Int32) = 0 by decide), Bool.false_or]
    cases g : good (rv N) with
    | true =>
      rw [Bool.and_true]
      by_cases l : val (rv N) < val (rv a)
      · rw [if_pos (decide_eq_true l)]
        rw [i_lt] at l
        refine Or.inr ⟨N, by omega, rfl, g, fun c hc gc => ?_⟩
        by_cases q : c = N
        · subst q; exact Or.inr ⟨rfl, Nat.le_refl _⟩
        · have := h c (by omega) gc
          omega
      · rw [if_neg (by simpa using l)]
        rw [i_lt] at l
        refine Or.inr ⟨a, by omega, rfl, ga, fun c hc gc => ?_⟩
        by_cases q : c = N
        · subst q; omega
        · exact h c (by omega) gc
    | false =>
      rw [Bool.and_false, if_neg (by decide)]
      refine Or.inr ⟨a, by omega, rfl, ga, fun c hc gc => ?_⟩
      by_cases q : c = N
      · subst q; rw [g] at gc; exact Bool.noConfusion gc
      · exact h c (by omega) gc
theorem cs_all {k n : Nat} {b : BT} {u : MT} (h : IV k n b u) : ∀ N, N ≤ 1024 → CS (fun c => allB (gdB (mfc u) (mfg u) (nI c)) k) (fun c => wrM (mfo u) (nI c)) (mle u) (man u) N (sxO (bro b) (bdg b) (bgv b) (bfo b) k (ble b) (ban b) N)
  | 0, _ => Or.inl ⟨by show (0, ble b, ban b) = _; rw [h.2.2.2.2.2.2.2.2.1, h.2.2.2.2.2.2.2.2.2], fun c hc => absurd hc (by omega)⟩
  | N + 1, hN => by
    have ih := cs_step (by omega) (cs_all h N (by omega))
    have e : sxO (bro b) (bdg b) (bgv b) (bfo b) k (ble b) (ban b) (N + 1) = sxS (bro b) (bdg b) (bgv b) (bfo b) k (sxO (bro b) (bdg b) (bgv b) (bfo b) k (ble b) (ban b) N) N := rfl
    rw [e]
    unfold sxS
    rw [ov_wr h.2.2.2.2.1, ms_1 h]
    exact ih
theorem ms_all {k n : Nat} {b : BT} {u : MT} (h : IV k n b u) : ∀ N, N ≤ 1024 → MS (fun c => allB (gdB (mfc u) (mfg u) (nI c)) k) (fun c => wrM (mfo u) (nI c)) (mle u) (man u) N (soO (mfc u) (mfg u) (mfo u) k (mle u) (man u) N)
  | 0, _ => Or.inl ⟨rfl, fun c hc => absurd hc (by omega)⟩
  | N + 1, hN => by
    have ih := ms_step (ms_all h N (by omega))
    have e : soO (mfc u) (mfg u) (mfo u) k (mle u) (man u) (N + 1) = soS (mfc u) (mfg u) (mfo u) k (soO (mfc u) (mfg u) (mfo u) k (mle u) (man u) N) N := rfl
    rw [e]
    unfold soS
    rw [tn_rv N (by omega)]
    exact ih
theorem st_solve : St_solve Inv0 := by
  intro N k n b u u' r hN hI est hk esk hn mest mesk hq
  have h := iv hI est hk esk hn
  obtain ⟨e1, e2⟩ := hq
  have e : sxO (bro b) (bdg b) (bgv b) (bfo b) k (ble b) (ban b) N = soO (mfc u) (mfg u) (mfo u) k (mle u) (man u) N := by
    rw [hN]
    exact cs_ms (cs_all h 1024 (Nat.le_refl _)) (ms_all h 1024 (Nat.le_refl _))
  generalize hs : soO (mfc u) (mfg u) (mfo u) k (mle u) (man u) N = s9 at e1 e2 e
  subst e1; subst e2
  refine ⟨_, ⟨rfl, by rw [e]⟩, k, n, h.1, h.2.1, h.2.2.1, h.2.2.2.1, h.2.2.2.2.1, h.2.2.2.2.2.1, h.2.2.2.2.2.2.1, ?_, ?_, ?_⟩
  · show (sxO (bro b) (bdg b) (bgv b) (bfo b) k (ble b) (ban b) N).1 = s9.1; rw [e]
  · show (sxO (bro b) (bdg b) (bgv b) (bfo b) k (ble b) (ban b) N).2.1 = s9.2.1; rw [e]
  · show (sxO (bro b) (bdg b) (bgv b) (bfo b) k (ble b) (ban b) N).2.2 = s9.2.2; rw [e]
