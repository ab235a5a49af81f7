/-! ===== closing ===== -/
theorem s_l32 : ∀ n, n < 32 → ((nI n &&& 31).toBitVec.smod 32).toNat = n := by decide +kernel
theorem bitN {a v : Nat} (ha : a < 2 ^ 31) (hv : v < 32) : bitI (nI a) (nI v) = nI (a / 2 ^ v % 2) := by
  unfold bitI
  rw [pk_shrN ha _ v (s_l32 v hv), show (1 : Int32) = nI 1 from rfl, andI, Nat.and_one_is_mod]
def bs (f : Nat → Nat) : Nat → Nat
  | 0 => 0
  | n + 1 => bs f n + f n * 2 ^ n
theorem bs_eq {f g : Nat → Nat} : ∀ n, (∀ v, v < n → f v = g v) → bs f n = bs g n
  | 0, _ => rfl
  | n + 1, h => by
    show bs f n + f n * 2 ^ n = bs g n + g n * 2 ^ n
    rw [bs_eq n (fun v hv => h v (by omega)), h n (by omega)]
theorem bs_10 (f : Nat → Nat) : bs f 10 = f 0 + 2 * f 1 + 4 * f 2 + 8 * f 3 + 16 * f 4 + 32 * f 5 + 64 * f 6 + 128 * f 7 + 256 * f 8 + 512 * f 9 := by
  simp only [bs]
  omega
theorem bs_lt {f : Nat → Nat} (h : ∀ v, f v ≤ 1) : bs f 10 < 1024 := by
  rw [bs_10]
  have h0 := h 0; have h1 := h 1; have h2 := h 2; have h3 := h 3; have h4 := h 4; have h5 := h 5; have h6 := h 6; have h7 := h 7; have h8 := h 8; have h9 := h 9
  omega
theorem bs_bit {f : Nat → Nat} (h : ∀ v, f v ≤ 1) {v : Nat} (hv : v < 10) : bs f 10 / 2 ^ v % 2 = f v := by
  rw [bs_10]
  have h0 := h 0; have h1 := h 1; have h2 := h 2; have h3 := h 3; have h4 := h 4; have h5 := h 5; have h6 := h 6; have h7 := h 7; have h8 := h 8; have h9 := h 9
  rcases (show v = 0 ∨ v = 1 ∨ v = 2 ∨ v = 3 ∨ v = 4 ∨ v = 5 ∨ v = 6 ∨ v = 7 ∨ v = 8 ∨ v = 9 by omega) with rfl | rfl | rfl | rfl | rfl | rfl | rfl | rfl | rfl | rfl <;> omega
theorem bs_of {x : Nat} (hx : x < 1024) : bs (fun v => x / 2 ^ v % 2) 10 = x := by
  rw [bs_10]
  omega
def kb (g : Nat → Int32) (v : Nat) : Nat := if g v < 0 then 0 else 1
def tb (g : Nat → Int32) (v : Nat) : Nat := if g v = 1 then 1 else 0
theorem kb1 (g : Nat → Int32) (v : Nat) : kb g v ≤ 1 := by unfold kb; split <;> omega
theorem tb1 (g : Nat → Int32) (v : Nat) : tb g v ≤ 1 := by unfold tb; split <;> omega
def pak (g : Nat → Int32) : Nat := 1024 * bs (kb g) 10 + bs (tb g) 10
theorem pak_lt (g : Nat → Int32) : pak g < 1048576 := by
  have := bs_lt (kb1 g); have := bs_lt (tb1 g); unfold pak; omega
theorem sh1 : ∀ n, n < 10 → (1024 : Int32) <<< (nI n &&& 31) = nI (1024 * 2 ^ n) := by decide +kernel
theorem sh2 : ∀ n, n < 10 → (1 : Int32) <<< (nI n &&& 31) = nI (2 ^ n) := by decide +kernel
theorem sh3 : ∀ n, n < 10 → ((1024 : Int32) + 1) <<< (nI n &&& 31) = nI (1024 * 2 ^ n + 2 ^ n) := by decide +kernel
theorem sh4 : ∀ n, n < 10 → ((1024 : Int32) + 0) <<< (nI n &&& 31) = nI (1024 * 2 ^ n) := by decide +kernel
theorem se_nat (g : Nat → Int32) : ∀ n, n ≤ 10 → seM g n = nI (1024 * bs (kb g) n + bs (tb g) n)
  | 0, _ => rfl
  | n + 1, hn => by
    have ih := se_nat g n (by omega)
    have ea : seT g n = nI (1024 * (kb g n * 2 ^ n)) := by
      unfold seT kb
      by_cases q : g n < 0
      · rw [if_pos q, if_pos q, Nat.zero_mul]; rfl
      · rw [if_neg q, if_neg q, sh1 n (by omega), Nat.one_mul]
    have eb : seU g n = nI (tb g n * 2 ^ n) := by
      unfold seU tb
      by_cases q : g n = 1
      · rw [if_pos q, if_pos q, sh2 n (by omega), Nat.one_mul]
      · rw [if_neg q, if_neg q, Nat.zero_mul]; rfl
    show seM g n + seT g n + seU g n = nI (1024 * (bs (kb g) n + kb g n * 2 ^ n) + (bs (tb g) n + tb g n * 2 ^ n))
    rw [ih, ea, eb, nI_add, nI_add]
    congr 1
    omega
theorem se_pak (g : Nat → Int32) : seM g 10 = nI (pak g) := se_nat g 10 (by omega)
theorem pak_div (g : Nat → Int32) : nI (pak g) / 1024 = nI (bs (kb g) 10) := by
  have l := pak_lt g
  have b := bs_lt (tb1 g)
  have b2 := bs_lt (kb1 g)
  apply Int32.toInt_inj.mp
  have e : (1024 : Int32).toInt = 1024 := by decide
  rw [i_div (by rw [nI_toInt (by omega)]; omega) (by rw [e]; omega), e, nI_toInt (by omega), nI_toInt (by omega)]
  unfold pak
  omega
theorem pak_and (g : Nat → Int32) : nI (pak g) &&& 1023 = nI (bs (tb g) 10) := by
  have b := bs_lt (tb1 g)
  rw [show (1023 : Int32) = nI 1023 from rfl, andI]
  congr 1
  have e : pak g &&& 1023 = pak g % 1024 := Nat.and_two_pow_sub_one_eq_mod (pak g) 10
  rw [e]
  unfold pak
  omega
theorem bit_k (g : Nat → Int32) {v : Nat} (hv : v < 10) : bitI (nI (pak g) / 1024) (nI v) = nI (kb g v) := by
  have b := bs_lt (kb1 g)
  rw [pak_div, bitN (by omega) (by omega), bs_bit (kb1 g) hv]
theorem bit_t (g : Nat → Int32) {v : Nat} (hv : v < 10) : bitI (nI (pak g) &&& 1023) (nI v) = nI (tb g v) := by
  have b := bs_lt (tb1 g)
  rw [pak_and, bitN (by omega) (by omega), bs_bit (tb1 g) hv]
def VS (g : Nat → Int32) : Prop := ∀ v, v < 10 → g v = -1 ∨ g v = 0 ∨ g v = 1
def RE (f : Nat → Int32) (d : Int32) (fc : Nat → Int32) (r : Nat) : Prop := (∀ v, v < 10 → f v = fc (11 * r + v)) ∧ d = fc (11 * r + 10)
theorem ct_eq {s w : Int32} (hs : s = -1 ∨ s = 0 ∨ s = 1) : (nI (if s < 0 then 0 else 1) = 0 ∨ nI (if s = 1 then 1 else 0) = cntI w) = ¬ (ctM s w = 0) := by
  unfold ctM cntI
  rcases hs with q | q | q
  · subst q
    by_cases z : 0 < w
    · simp only [if_pos z]; decide
    · simp only [if_neg z]; decide
  · subst q
    by_cases z : 0 < w
    · simp only [if_pos z]; decide
    · simp only [if_neg z]; decide
  · subst q
    by_cases z : 0 < w
    · simp only [if_pos z]; decide
    · simp only [if_neg z]; decide
theorem sl_eq {f : Nat → Int32} {d : Int32} {fc g : Nat → Int32} {r : Nat} (h : RE f d fc r) (hg : VS g) : slk f d (nI (pak g) / 1024) (nI (pak g) &&& 1023) = slM fc g r := by
  unfold slk slM
  rw [h.2]
  refine sg_eq rfl 10 (fun v hv => ?_)
  unfold slT slMT
  rw [bit_k g hv, bit_t g hv, h.1 v hv, abs_sz]
  unfold kb tb
  simp only [ct_eq (hg v hv)]
  by_cases z : ctM (g v) (fc (11 * r + v)) = 0
  · rw [if_neg (fun q => q z), if_pos z]
  · rw [if_pos z, if_neg z]
