/-! one constraint -/
theorem cnt01 (w : Int32) : cntI w = 0 ∨ cntI w = 1 := by unfold cntI; split <;> simp
theorem fc_sum {fc g g' : Nat → Int32} {r : Nat} {kn L : Int32} {f : Nat → Int32} (hg : VS g) (hw : ∀ v, v < 10 → f v = fc (11 * r + v)) (hk : ∀ v, v < 10 → bitI kn (nI v) = nI (kb g v)) (hn : ∀ v, v < 10 → g' v = tgG fc g r L v) (a : Nat) :
    ∀ n, n ≤ 10 → ∃ s, sg (nI a) (fcT f kn L) n = nI (a + s) ∧ 1024 * bs (kb g') n + bs (tb g') n = 1024 * bs (kb g) n + bs (tb g) n + s
  | 0, _ => ⟨0, rfl, rfl⟩
  | n + 1, hn1 => by
    obtain ⟨s, e1, e2⟩ := fc_sum hg hw hk hn a n (by omega)
    have hv : n < 10 := by omega
    have hG := hn n hv
    unfold tgG at hG
    have hT : fcT f kn L n = if nI (kb g n) = 0 ∧ L < szI (fc (11 * r + n)) then (1024 + cntI (fc (11 * r + n))) <<< (nI n &&& 31) else 0 := by
      unfold fcT; rw [hk n hv, hw n hv, abs_sz]
    have bsk : ∀ f : Nat → Nat, bs f (n + 1) = bs f n + f n * 2 ^ n := fun _ => rfl
    by_cases o : g n < 0
    · have k0 : kb g n = 0 := by unfold kb; rw [if_pos o]
      have t0 : tb g n = 0 := by
        unfold tb
        rw [if_neg (fun q => by rw [q] at o; exact absurd o (by decide))]
      rw [if_pos o] at hG
      by_cases z : L < szI (fc (11 * r + n))
      · rw [if_pos z] at hG
        rw [k0, if_pos ⟨rfl, z⟩] at hT
        rcases cnt01 (fc (11 * r + n)) with c | c
        · rw [c] at hG hT
          rw [sh4 n hv] at hT
          have k1 : kb g' n = 1 := by unfold kb; rw [hG]; rfl
          have t1 : tb g' n = 0 := by unfold tb; rw [hG]; rfl
          refine ⟨s + 1024 * 2 ^ n, ?_, ?_⟩
          · rw [sg_s, e1, hT, nI_add]; congr 1; omega
          · rw [bsk, bsk, bsk, bsk, k1, t1, k0, t0]; omega
        · rw [c] at hG hT
          rw [sh3 n hv] at hT
          have k1 : kb g' n = 1 := by unfold kb; rw [hG]; rfl
          have t1 : tb g' n = 1 := by unfold tb; rw [hG]; rfl
          refine ⟨s + (1024 * 2 ^ n + 2 ^ n), ?_, ?_⟩
          · rw [sg_s, e1, hT, nI_add]; congr 1; omega
          · rw [bsk, bsk, bsk, bsk, k1, t1, k0, t0]; omega
      · rw [if_neg z] at hG
        rw [if_neg (fun q => z q.2)] at hT
        refine ⟨s, ?_, ?_⟩
        · rw [sg_s, e1, hT, Int32.add_zero]
        · have k1 : kb g' n = kb g n := by unfold kb; rw [hG]
          have t1 : tb g' n = tb g n := by unfold tb; rw [hG]
          rw [bsk, bsk, bsk, bsk, k1, t1]; omega
    · have k0 : kb g n = 1 := by unfold kb; rw [if_neg o]
      rw [if_neg o] at hG
      rw [k0, if_neg (fun q => absurd q.1 (by decide))] at hT
      refine ⟨s, ?_, ?_⟩
      · rw [sg_s, e1, hT, Int32.add_zero]
      · have k1 : kb g' n = kb g n := by unfold kb; rw [hG]
        have t1 : tb g' n = tb g n := by unfold tb; rw [hG]
        rw [bsk, bsk, bsk, bsk, k1, t1]; omega
theorem row_step {f : Nat → Int32} {d : Int32} {fc g : Nat → Int32} {r : Nat} (h : RE f d fc r) (hg : VS g) : fcd f d (nI (pak g)) = if slM fc g r < 0 then -1 else nI (pak (tgS fc g r)) := by
  unfold fcd
  rw [sl_eq h hg]
  by_cases q : slM fc g r < 0
  · rw [if_pos q, if_pos q]
  · rw [if_neg q, if_neg q]
    have et : tgS fc g r = mixf 10 (tgG fc g r (slM fc g r)) g := if_neg q
    obtain ⟨s, e1, e2⟩ := fc_sum (fc := fc) (g := g) (g' := tgS fc g r) (r := r) (kn := nI (pak g) / 1024) (L := slM fc g r) (f := f) hg h.1 (fun v hv => bit_k g hv) (fun v hv => by rw [et, mixf_lo _ _ hv]) (pak g) 10 (by omega)
    rw [e1]
    refine congrArg nI ?_
    have u1 : pak (tgS fc g r) = 1024 * bs (kb (tgS fc g r)) 10 + bs (tb (tgS fc g r)) 10 := rfl
    have u2 : pak g = 1024 * bs (kb g) 10 + bs (tb g) 10 := rfl
    rw [u1, u2, e2]
theorem vs_tg {fc g : Nat → Int32} {r : Nat} (hg : VS g) : VS (tgS fc g r) := by
  intro v hv
  unfold tgS
  split
  · exact hg v hv
  · rw [mixf_lo _ _ hv]
    unfold tgG
    split
    · split
      · rcases cnt01 (fc (11 * r + v)) with c | c
        · exact Or.inr (Or.inl c)
        · exact Or.inr (Or.inr c)
      · exact hg v hv
    · exact hg v hv
/-! how many variables are not settled -/
def opn (g : Nat → Int32) : Nat → Nat
  | 0 => 0
  | n + 1 => opn g n + (1 - kb g n)
theorem opn_le (g : Nat → Int32) : ∀ n, opn g n ≤ n
  | 0 => Nat.le_refl _
  | n + 1 => by
    have := opn_le g n
    show opn g n + (1 - kb g n) ≤ n + 1
    omega
theorem opn_mono {g g' : Nat → Int32} : ∀ n, (∀ v, v < n → kb g v ≤ kb g' v) → opn g' n ≤ opn g n
  | 0, _ => Nat.le_refl _
  | n + 1, h => by
    have := opn_mono n (fun v hv => h v (by omega))
    have := h n (by omega)
    show opn g' n + (1 - kb g' n) ≤ opn g n + (1 - kb g n)
    omega
theorem opn_lt {g g' : Nat → Int32} {i : Nat} (h1 : kb g i = 0) (h2 : kb g' i = 1) : ∀ n, i < n → (∀ v, v < n → kb g v ≤ kb g' v) → opn g' n < opn g n
  | 0, hi, _ => absurd hi (by omega)
  | n + 1, hi, h => by
    show opn g' n + (1 - kb g' n) < opn g n + (1 - kb g n)
    by_cases e : i = n
    · subst e
      have := opn_mono i (fun v hv => h v (by omega))
      omega
    · have := opn_lt h1 h2 n (by omega) (fun v hv => h v (by omega))
      have := h n (by omega)
      omega
theorem any_t {g : Nat → Bool} : ∀ n, anyB g n = true → ∃ v, v < n ∧ g v = true
  | 0, h => Bool.noConfusion h
  | n + 1, h => by
    have h' : (anyB g n || g n) = true := h
    rw [Bool.or_eq_true] at h'
    rcases h' with q | q
    · obtain ⟨v, hv, e⟩ := any_t n q
      exact ⟨v, by omega, e⟩
    · exact ⟨n, by omega, q⟩
theorem tg_mono {fc g : Nat → Int32} {r : Nat} (q : ¬ slM fc g r < 0) : ∀ v, v < 10 → kb g v ≤ kb (tgS fc g r) v := by
  intro v hv
  have et : tgS fc g r = mixf 10 (tgG fc g r (slM fc g r)) g := if_neg q
  unfold kb
  rw [et, mixf_lo _ _ hv]
  unfold tgG
  by_cases o : g v < 0
  · rw [if_pos o]; omega
  · rw [if_neg o, if_neg o, if_neg o]; omega
theorem tg_0 {fc g : Nat → Int32} {r : Nat} (q : ¬ slM fc g r < 0) (h : anyB (tgB fc g r (slM fc g r)) 10 = false) : tgS fc g r = g := by
  have et : tgS fc g r = mixf 10 (tgG fc g r (slM fc g r)) g := if_neg q
  rw [et]
  funext v
  by_cases hv : v < 10
  · rw [mixf_lo _ _ hv]
    have hb := any_f 10 h v hv
    unfold tgB at hb
    unfold tgG
    by_cases o : g v < 0
    · rw [if_pos o]
      rw [decide_eq_true o, Bool.true_and] at hb
      rw [if_neg (of_decide_eq_false hb)]
    · rw [if_neg o]
  · rw [mixf_hi _ _ (by omega)]
theorem tg_1 {fc g : Nat → Int32} {r : Nat} (q : ¬ slM fc g r < 0) (h : anyB (tgB fc g r (slM fc g r)) 10 = true) : opn (tgS fc g r) 10 < opn g 10 := by
  obtain ⟨v, hv, hb⟩ := any_t 10 h
  unfold tgB at hb
  rw [Bool.and_eq_true] at hb
  have o : g v < 0 := of_decide_eq_true hb.1
  have z := of_decide_eq_true hb.2
  have et : tgS fc g r = mixf 10 (tgG fc g r (slM fc g r)) g := if_neg q
  refine opn_lt (i := v) ?_ ?_ 10 hv (tg_mono q)
  · unfold kb; rw [if_pos o]
  · unfold kb
    rw [et, mixf_lo _ _ hv]
    unfold tgG
    rw [if_pos o, if_pos z]
    rcases cnt01 (fc (11 * r + v)) with c | c <;> rw [c] <;> decide
/-! a round -/
def Rel (q : clT) (X : Int32) : Prop := (q.2.2 = true ∧ X = -1) ∨ (q.2.2 = false ∧ X = nI (pak q.1) ∧ VS q.1)
def FL (g : Nat → Int32) (q : clT) : Prop := q.2.2 = false → (q.2.1 = 0 ∧ q.1 = g) ∨ (¬ q.2.1 = 0 ∧ opn q.1 10 < opn g 10)
theorem pak_m1 (g : Nat → Int32) : ¬ nI (pak g) = -1 := nIm1 (by have := pak_lt g; omega)
theorem tgA_neg {fc g : Nat → Int32} {r : Nat} : (tgA fc g r < 0) = (slM fc g r < 0) := by
  unfold tgA
  by_cases q : slM fc g r < 0
  · rw [if_pos q]; simp [q]
  · rw [if_neg q]
    cases anyB (tgB fc g r (slM fc g r)) 10 <;> simp [bI, q]
theorem rel_act {fc : Nat → Int32} {ns r : Nat} {mo : Int32} {q : clT} {X : Int32} {f : Nat → Int32} {d : Int32} (hR : Rel q X) (hG : clG ns mo r = true) (h : RE f d fc r) : Rel (clS fc ns mo q r) (if X = -1 then -1 else fcd f d X) := by
  unfold clS
  rcases hR with ⟨h1, h2⟩ | ⟨h1, h2, h3⟩
  · rw [if_pos h1, if_pos h2]; exact Or.inl ⟨h1, rfl⟩
  · rw [if_neg (by rw [h1]; decide), if_pos hG, h2, if_neg (pak_m1 _), row_step h h3]
    by_cases z : slM fc q.1 r < 0
    · rw [if_pos (by rw [tgA_neg]; exact z), if_pos z]; exact Or.inl ⟨rfl, rfl⟩
    · rw [if_neg (by rw [tgA_neg]; exact z), if_neg z]; exact Or.inr ⟨rfl, rfl, vs_tg h3⟩
theorem rel_not {fc : Nat → Int32} {ns r : Nat} {mo : Int32} {q : clT} {X : Int32} (hR : Rel q X) (hG : clG ns mo r = false) : Rel (clS fc ns mo q r) X := by
  unfold clS
  rcases hR with ⟨h1, h2⟩ | ⟨h1, h2, h3⟩
  · rw [if_pos h1]; exact Or.inl ⟨h1, h2⟩
  · rw [if_neg (by rw [h1]; decide), if_neg (by rw [hG]; decide)]; exact Or.inr ⟨rfl, h2, h3⟩
theorem onI_0 (x : Int32) : onI x 0 = 0 ↔ x = 0 := by
  unfold onI
  by_cases q : x = 0
  · rw [if_pos q]; simp [q]
  · rw [if_neg q]; simp [q]
theorem onI_1 (x : Int32) : ¬ onI x 1 = 0 := by
  unfold onI
  by_cases q : x = 0
  · rw [if_pos q]; decide
  · rw [if_neg q]; decide
theorem fl_step {fc g : Nat → Int32} {ns r : Nat} {mo : Int32} {q : clT} (hF : FL g q) : FL g (clS fc ns mo q r) := by
  unfold clS
  by_cases h1 : q.2.2 = true
  · rw [if_pos h1]; exact hF
  · rw [if_neg h1]
    have h0 : q.2.2 = false := by simpa using h1
    have hq := hF h0
    by_cases hG : clG ns mo r = true
    · rw [if_pos hG]
      by_cases z : slM fc q.1 r < 0
      · rw [if_pos (by rw [tgA_neg]; exact z)]; intro h; exact Bool.noConfusion h
      · rw [if_neg (by rw [tgA_neg]; exact z)]
        intro _
        have eA : tgA fc q.1 r = bI (anyB (tgB fc q.1 r (slM fc q.1 r)) 10) := if_neg z
        cases hb : anyB (tgB fc q.1 r (slM fc q.1 r)) 10 with
        | false =>
          rw [eA, hb]
          rcases hq with ⟨a1, a2⟩ | ⟨a1, a2⟩
          · exact Or.inl ⟨(onI_0 _).mpr a1, by show tgS fc q.1 r = g; rw [tg_0 z hb]; exact a2⟩
          · exact Or.inr ⟨fun k => a1 ((onI_0 _).mp k), by show opn (tgS fc q.1 r) 10 < _; rw [tg_0 z hb]; exact a2⟩
        | true =>
          rw [eA, hb]
          refine Or.inr ⟨onI_1 _, ?_⟩
          show opn (tgS fc q.1 r) 10 < _
          have t := tg_1 z hb
          rcases hq with ⟨a1, a2⟩ | ⟨a1, a2⟩
          · rw [a2] at t ⊢; exact t
          · omega
    · rw [if_neg hG]
      intro _
      rcases hq with ⟨a1, a2⟩ | ⟨a1, a2⟩
      · exact Or.inl ⟨(onI_0 _).mpr a1, a2⟩
      · exact Or.inr ⟨fun k => a1 ((onI_0 _).mp k), a2⟩
theorem fl_round (fc g : Nat → Int32) (ns : Nat) (mo : Int32) : ∀ r, FL g (clR fc ns mo g r)
  | 0 => fun _ => Or.inl ⟨rfl, rfl⟩
  | r + 1 => fl_step (fl_round fc g ns mo r)
theorem rel_round {fc g : Nat → Int32} {ro : Nat → Nat → Int32} {dg : Nat → Int32} {k : Nat} {mo : Int32} (hg : VS g) (hrow : ∀ j, j < k → RE (ro j) (dg j) fc j) : ∀ r, r ≤ 37 → Rel (clR fc k mo g r) (cxR ro dg (nI (pak g)) (min r k))
  | 0, _ => by rw [Nat.zero_min]; exact Or.inr ⟨rfl, rfl, hg⟩
  | r + 1, hr => by
    have ih := rel_round (mo := mo) hg hrow r (by omega)
    show Rel (clS fc k mo (clR fc k mo g r) r) _
    by_cases q : r < k
    · have hG : clG k mo r = true := by simp [clG, q]
      rw [show min (r + 1) k = min r k + 1 by omega]
      have e : min r k = r := by omega
      have t := rel_act ih hG (hrow r q)
      show Rel _ (if cxR ro dg (nI (pak g)) (min r k) = -1 then -1 else fcd (ro (min r k)) (dg (min r k)) (cxR ro dg (nI (pak g)) (min r k)))
      rw [e] at t ⊢
      exact t
    · have hG : clG k mo r = false := by
        have : ¬ r = 37 := by omega
        simp [clG, q, this]
      rw [show min (r + 1) k = min r k by omega]
      exact rel_not ih hG
theorem rel_close {fc g : Nat → Int32} {ro : Nat → Nat → Int32} {dg : Nat → Int32} {k : Nat} (hk : k ≤ 30) (hg : VS g) (hrow : ∀ j, j < k → RE (ro j) (dg j) fc j) : Rel (clR fc k 0 g 38) (cxR ro dg (nI (pak g)) k) := by
  have h := rel_round (mo := 0) hg hrow 37 (Nat.le_refl _)
  rw [show min 37 k = k by omega] at h
  exact rel_not h (by simp [clG]; omega)
theorem rel_contra {fc g : Nat → Int32} {ro : Nat → Nat → Int32} {dg : Nat → Int32} {k : Nat} (hk : k ≤ 30) (hg : VS g) (hrow : ∀ j, j < k → RE (ro j) (dg j) fc j) (hx : RE (ro k) (dg k) fc 37) : Rel (clR fc k 1 g 38) (cxR ro dg (nI (pak g)) (k + 1)) := by
  have h := rel_round (mo := 1) hg hrow 37 (Nat.le_refl _)
  rw [show min 37 k = k by omega] at h
  exact rel_act h (by simp [clG]) hx
/-! rounds -/
theorem rel_out {fc g : Nat → Int32} {ro : Nat → Nat → Int32} {dg : Nat → Int32} {k K : Nat} {mo : Int32} (hg : VS g) (hround : ∀ g, VS g → Rel (clR fc k mo g 38) (cxR ro dg (nI (pak g)) K)) : ∀ N, Rel (clO fc k mo g N) (cxO ro dg K (nI (pak g)) N) ∧ ((clO fc k mo g N).2.2 = false → (clO fc k mo g N).2.1 = 0 → cxR ro dg (nI (pak (clO fc k mo g N).1)) K = nI (pak (clO fc k mo g N).1))
  | 0 => ⟨Or.inr ⟨rfl, rfl, hg⟩, fun _ h => absurd (show (1 : Int32) = 0 from h) (by decide)⟩
  | N + 1 => by
    have ih := rel_out (mo := mo) hg hround N
    have eC : clO fc k mo g (N + 1) = if (clO fc k mo g N).2.2 = true then clO fc k mo g N else if (clO fc k mo g N).2.1 = 0 then clO fc k mo g N else clR fc k mo (clO fc k mo g N).1 38 := rfl
    have eX : cxO ro dg K (nI (pak g)) (N + 1) = if cxO ro dg K (nI (pak g)) N = -1 then -1 else cxR ro dg (cxO ro dg K (nI (pak g)) N) K := rfl
    rw [eX]
    rcases ih with ⟨⟨h1, h2⟩ | ⟨h1, h2, h3⟩, h4⟩
    · rw [if_pos h1] at eC
      rw [eC, if_pos h2]
      exact ⟨Or.inl ⟨h1, rfl⟩, fun q => by rw [h1] at q; exact absurd q (by decide)⟩
    · rw [if_neg (by rw [h1]; decide)] at eC
      rw [h2, if_neg (pak_m1 _)]
      by_cases z : (clO fc k mo g N).2.1 = 0
      · rw [if_pos z] at eC
        rw [eC, h4 h1 z]
        exact ⟨Or.inr ⟨h1, rfl, h3⟩, fun _ _ => rfl⟩
      · rw [if_neg z] at eC
        rw [eC]
        have hr := hround _ h3
        refine ⟨hr, fun q1 q2 => ?_⟩
        rcases fl_round fc (clO fc k mo g N).1 k mo 38 q1 with ⟨a1, a2⟩ | ⟨a1, a2⟩
        · rcases hr with ⟨b1, b2⟩ | ⟨b1, b2, b3⟩
          · rw [b1] at q1; exact absurd q1 (by decide)
          · rw [a2] at b2 ⊢; exact b2
        · exact absurd q2 a1
theorem out_end {fc g : Nat → Int32} {k : Nat} {mo : Int32} : ∀ N, (clO fc k mo g N).2.2 = true ∨ (clO fc k mo g N).2.1 = 0 ∨ opn (clO fc k mo g N).1 10 + N ≤ 10
  | 0 => Or.inr (Or.inr (opn_le g 10))
  | N + 1 => by
    have ih := out_end (fc := fc) (g := g) (k := k) (mo := mo) N
    have eC : clO fc k mo g (N + 1) = if (clO fc k mo g N).2.2 = true then clO fc k mo g N else if (clO fc k mo g N).2.1 = 0 then clO fc k mo g N else clR fc k mo (clO fc k mo g N).1 38 := rfl
    by_cases h1 : (clO fc k mo g N).2.2 = true
    · rw [if_pos h1] at eC; rw [eC]; exact Or.inl h1
    · rw [if_neg h1] at eC
      by_cases z : (clO fc k mo g N).2.1 = 0
      · rw [if_pos z] at eC; rw [eC]; exact Or.inr (Or.inl z)
      · rw [if_neg z] at eC
        have ho := (ih.resolve_left h1).resolve_left z
        rw [eC]
        by_cases b : (clR fc k mo (clO fc k mo g N).1 38).2.2 = true
        · exact Or.inl b
        · rcases fl_round fc (clO fc k mo g N).1 k mo 38 (by simpa using b) with ⟨a1, a2⟩ | ⟨a1, a2⟩
          · exact Or.inr (Or.inl a1)
          · exact Or.inr (Or.inr (by omega))
theorem close_main {fc g : Nat → Int32} {ro : Nat → Nat → Int32} {dg : Nat → Int32} {k K : Nat} {mo : Int32} (hg : VS g) (hround : ∀ g, VS g → Rel (clR fc k mo g 38) (cxR ro dg (nI (pak g)) K)) : Rel (clO fc k mo g 12) (cxO ro dg K (nI (pak g)) 11) := by
  have h := (rel_out (mo := mo) hg hround 11).1
  have e : clO fc k mo g 12 = clO fc k mo g 11 := by
    refine clO_stop (n := 11) ?_ 1
    rcases out_end (fc := fc) (g := g) (k := k) (mo := mo) 11 with q | q | q
    · exact Or.inl q
    · exact Or.inr q
    · omega
  rw [e]
  exact h
