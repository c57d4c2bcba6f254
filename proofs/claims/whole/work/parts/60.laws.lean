/-! THE FIELD's laws -/
theorem tb_top {m a : Nat} (h1 : 1 ≤ m) (ha : a < 2 ^ m) : a.testBit (m - 1) = decide (2 ^ m ≤ 2 * a) := by
  have e : 2 ^ m = 2 * 2 ^ (m - 1) := by rw [← Nat.pow_succ']; congr 1; omega
  rw [Nat.testBit_eq_decide_div_mod_eq]
  have hp := Nat.two_pow_pos (m - 1)
  by_cases h : 2 ^ (m - 1) ≤ a
  · have : a / 2 ^ (m - 1) = 1 := by rw [Nat.div_eq_iff hp]; omega
    rw [this]
    simp only [Nat.one_mod, decide_true]
    exact (decide_eq_true (by omega)).symm
  · rw [Nat.div_eq_of_lt (by omega)]
    exact (decide_eq_false (by omega)).symm
theorem mulx_eq {m a : Nat} (h1 : 1 ≤ m) (ha : a < 2 ^ m) : mulx m a = (2 * a) ^^^ (if a.testBit (m - 1) then pn m else 0) := by
  unfold mulx
  rw [tb_top h1 ha]
  by_cases h : 2 ^ m ≤ 2 * a
  · simp [h]
  · simp [h]
theorem xor_4 {a b c d : Nat} : a ^^^ c ^^^ (b ^^^ d) = a ^^^ b ^^^ (c ^^^ d) := by
  rw [Nat.xor_assoc, Nat.xor_assoc, ← Nat.xor_assoc c b d, Nat.xor_comm c b, Nat.xor_assoc b c d]
theorem mulx_xor {m a b : Nat} (h1 : 1 ≤ m) (ha : a < 2 ^ m) (hb : b < 2 ^ m) : mulx m (a ^^^ b) = mulx m a ^^^ mulx m b := by
  rw [mulx_eq h1 ha, mulx_eq h1 hb, mulx_eq h1 (Nat.xor_lt_two_pow ha hb), Nat.testBit_xor]
  have e : 2 * (a ^^^ b) = (2 * a) ^^^ (2 * b) := by
    have := Nat.shiftLeft_xor_distrib (i := 1) (a := a) (b := b)
    simpa only [Nat.shiftLeft_eq, Nat.pow_one, Nat.mul_comm _ 2] using this
  rw [e]
  rw [xor_4]
  congr 1
  cases a.testBit (m - 1) <;> cases b.testBit (m - 1) <;> simp
theorem mulx_z {m : Nat} : mulx m 0 = 0 := by
  unfold mulx
  rw [if_neg (by have := Nat.two_pow_pos m; omega)]
def mit (m : Nat) : Nat → Nat → Nat
  | 0, x => x
  | i + 1, x => mulx m (mit m i x)
theorem mit_lt {m : Nat} (h3 : 3 ≤ m) (h13 : m ≤ 13) {x : Nat} (hx : x < 2 ^ m) : ∀ i, mit m i x < 2 ^ m
  | 0 => hx
  | i + 1 => mulx_lt h3 h13 (mit_lt h3 h13 hx i)
theorem mit_xor {m : Nat} (h3 : 3 ≤ m) (h13 : m ≤ 13) {x y : Nat} (hx : x < 2 ^ m) (hy : y < 2 ^ m) : ∀ i, mit m i (x ^^^ y) = mit m i x ^^^ mit m i y
  | 0 => rfl
  | i + 1 => by
    show mulx m _ = mulx m _ ^^^ mulx m _
    rw [mit_xor h3 h13 hx hy i, mulx_xor (by omega) (mit_lt h3 h13 hx i) (mit_lt h3 h13 hy i)]
theorem mit_0 {m : Nat} : ∀ i, mit m i 0 = 0
  | 0 => rfl
  | i + 1 => by show mulx m (mit m i 0) = 0; rw [mit_0 i, mulx_z]
theorem mit_pwr {m j : Nat} : ∀ i, mit m i (pwr m j) = pwr m (i + j)
  | 0 => by rw [Nat.zero_add]; rfl
  | i + 1 => by
    show mulx m (mit m i (pwr m j)) = _
    rw [mit_pwr i, show i + 1 + j = (i + j) + 1 by omega]; rfl
theorem fmul_comm {m a b : Nat} : fmul m a b = fmul m b a := by
  unfold fmul
  by_cases ha : a = 0 <;> by_cases hb : b = 0 <;> simp [ha, hb, Nat.add_comm]
theorem fmul_z {m a : Nat} : fmul m a 0 = 0 := if_pos (Or.inr rfl)
theorem fmul_zl {m a : Nat} : fmul m 0 a = 0 := if_pos (Or.inl rfl)
theorem fmul_nz {m a b : Nat} (h3 : 3 ≤ m) (h13 : m ≤ 13) (ha : a ≠ 0) (hb : b ≠ 0) : fmul m a b ≠ 0 := by
  unfold fmul; rw [if_neg (by simp [ha, hb])]; exact pwr_pos h3 h13 _
theorem lgn_mod {m : Nat} (h3 : 3 ≤ m) (h13 : m ≤ 13) (i : Nat) : lgn m (pwr m i) = i % (2 ^ m - 1) := by
  have ht := two_le h3 h13
  rw [← pwr_mod h3 h13 i, lgn_pwr h3 h13 (Nat.mod_lt _ (by omega))]
theorem pwr_addm {m : Nat} (h3 : 3 ≤ m) (h13 : m ≤ 13) (i j : Nat) : pwr m (i % (2 ^ m - 1) + j) = pwr m (i + j) := by
  rw [← pwr_mod h3 h13 (i % (2 ^ m - 1) + j), Nat.mod_add_mod, pwr_mod h3 h13]
theorem fmul_pwr {m i j : Nat} (h3 : 3 ≤ m) (h13 : m ≤ 13) : fmul m (pwr m i) (pwr m j) = pwr m (i + j) := by
  unfold fmul
  rw [if_neg (by simp [pwr_pos h3 h13]), lgn_mod h3 h13, lgn_mod h3 h13, pwr_addm h3 h13, Nat.add_comm, pwr_addm h3 h13, Nat.add_comm]
theorem fmul_mit {m i x : Nat} (h3 : 3 ≤ m) (h13 : m ≤ 13) (hx : x < 2 ^ m) : fmul m (pwr m i) x = mit m i x := by
  by_cases h0 : x = 0
  · rw [h0, fmul_z, mit_0]
  · obtain ⟨h1, h2⟩ := lgn_spec h3 h13 h0 hx
    rw [← h2, fmul_pwr h3 h13, mit_pwr]
theorem fmul_assoc {m a b c : Nat} (h3 : 3 ≤ m) (h13 : m ≤ 13) (ha : a < 2 ^ m) (hb : b < 2 ^ m) (hc : c < 2 ^ m) : fmul m (fmul m a b) c = fmul m a (fmul m b c) := by
  by_cases h0 : a = 0
  · rw [h0, fmul_zl, fmul_zl, fmul_zl]
  by_cases h1 : b = 0
  · rw [h1, fmul_z, fmul_zl, fmul_z]
  by_cases h2 : c = 0
  · rw [h2, fmul_z, fmul_z, fmul_z]
  rw [← (lgn_spec h3 h13 h0 ha).2, ← (lgn_spec h3 h13 h1 hb).2, ← (lgn_spec h3 h13 h2 hc).2, fmul_pwr h3 h13, fmul_pwr h3 h13, fmul_pwr h3 h13, fmul_pwr h3 h13, Nat.add_assoc]
theorem fmul_xor {m a b c : Nat} (h3 : 3 ≤ m) (h13 : m ≤ 13) (ha : a < 2 ^ m) (hb : b < 2 ^ m) (hc : c < 2 ^ m) : fmul m a (b ^^^ c) = fmul m a b ^^^ fmul m a c := by
  by_cases h0 : a = 0
  · rw [h0, fmul_zl, fmul_zl, fmul_zl]; rfl
  rw [← (lgn_spec h3 h13 h0 ha).2, fmul_mit h3 h13 hb, fmul_mit h3 h13 hc, fmul_mit h3 h13 (Nat.xor_lt_two_pow hb hc), mit_xor h3 h13 hb hc]
theorem fmul_one {m a : Nat} (h3 : 3 ≤ m) (h13 : m ≤ 13) (ha : a < 2 ^ m) : fmul m a 1 = a := by
  by_cases h0 : a = 0
  · rw [h0, fmul_zl]
  · conv => lhs; rw [← (lgn_spec h3 h13 h0 ha).2]
    show fmul m _ (pwr m 0) = a
    rw [fmul_pwr h3 h13, Nat.add_zero, (lgn_spec h3 h13 h0 ha).2]
theorem fmul_inv {m a : Nat} (h3 : 3 ≤ m) (h13 : m ≤ 13) (h0 : a ≠ 0) (ha : a < 2 ^ m) : fmul m a (finv m a) = 1 := by
  have h := lgn_spec h3 h13 h0 ha
  unfold finv
  conv => lhs; arg 2; rw [← h.2]
  rw [fmul_pwr h3 h13, show lgn m a + (2 ^ m - 1 - lgn m a) = 2 ^ m - 1 by omega]
  exact (pwr_ord h3 h13).2
theorem finv_lt {m a : Nat} (h3 : 3 ≤ m) (h13 : m ≤ 13) : finv m a < 2 ^ m := pwr_lt h3 h13 _
theorem mulx_fmul {m a : Nat} (h3 : 3 ≤ m) (h13 : m ≤ 13) (ha : a < 2 ^ m) : mulx m a = fmul m 2 a := by
  have h2 : pwr m 1 = 2 := by
    have ht := two_le h3 h13
    show mulx m 1 = 2
    unfold mulx; rw [if_neg (by omega)]
  rw [← h2, fmul_mit h3 h13 ha]; rfl
theorem prh_fmul {m a b : Nat} (h3 : 3 ≤ m) (h13 : m ≤ 13) (ha : a < 2 ^ m) (hb : b < 2 ^ m) : ∀ c, c ≤ m → prh m a b c = fmul m a (b / 2 ^ (m - c))
  | 0, _ => by rw [Nat.sub_zero, Nat.div_eq_of_lt hb, fmul_z]; rfl
  | c + 1, hc => by
    have ht := two_le h3 h13
    have hy : b / 2 ^ (m - c) < 2 ^ c := by
      rw [Nat.div_lt_iff_lt_mul (Nat.two_pow_pos _), ← Nat.pow_add, show c + (m - c) = m by omega]; exact hb
    have hcm : 2 * 2 ^ c ≤ 2 ^ m := by rw [← Nat.pow_succ']; exact Nat.pow_le_pow_right (by decide) hc
    have e : b / 2 ^ (m - (c + 1)) = (2 * (b / 2 ^ (m - c))) ^^^ (b.testBit (m - 1 - c)).toNat := by
      have e1 : m - c = (m - (c + 1)) + 1 := by omega
      have e2 : b / 2 ^ (m - c) = b / 2 ^ (m - (c + 1)) / 2 := by rw [e1, Nat.pow_succ, Nat.div_div_eq_div_mul]
      rw [e2, show m - 1 - c = m - (c + 1) by omega, Nat.testBit_eq_decide_div_mod_eq]
      generalize b / 2 ^ (m - (c + 1)) = y
      have hx : 2 * (y / 2) ^^^ (decide (y % 2 = 1)).toNat = 2 * (y / 2) + (decide (y % 2 = 1)).toNat := by
        have := Nat.two_pow_add_eq_or_of_lt (i := 1) (b := (decide (y % 2 = 1)).toNat) (by cases decide (y % 2 = 1) <;> decide) (y / 2)
        apply Nat.eq_of_testBit_eq
        intro i
        rw [Nat.testBit_xor, show 2 * (y / 2) + (decide (y % 2 = 1)).toNat = 2 ^ 1 * (y / 2) + (decide (y % 2 = 1)).toNat by rw [Nat.pow_one], this, Nat.testBit_or, Nat.pow_one]
        cases i with
        | zero => simp
        | succ i =>
          have h0 : (decide (y % 2 = 1)).toNat.testBit (i + 1) = false := Nat.testBit_lt_two_pow (Nat.lt_of_lt_of_le (show (decide (y % 2 = 1)).toNat < 2 ^ 1 by cases decide (y % 2 = 1) <;> decide) (Nat.pow_le_pow_right (by decide) (by omega)))
          rw [h0]; simp
      rw [hx]
      rcases Nat.mod_two_eq_zero_or_one y with h | h <;> simp [h] <;> omega
    show mulx m (prh m a b c) ^^^ _ = _
    rw [prh_fmul h3 h13 ha hb c (by omega), e, fmul_xor h3 h13 ha (by omega) (by cases b.testBit (m - 1 - c) <;> simp <;> omega)]
    congr 1
    · rw [mulx_fmul h3 h13 (fmul_lt h3 h13)]
      have : 2 * (b / 2 ^ (m - c)) = mulx m (b / 2 ^ (m - c)) := by unfold mulx; rw [if_neg (by omega)]
      rw [this, mulx_fmul h3 h13 (by omega), ← fmul_assoc h3 h13 (by omega) ha (by omega), fmul_comm (a := 2), fmul_assoc h3 h13 ha (by omega) (by omega)]
    · cases b.testBit (m - 1 - c)
      · simp [fmul_z]
      · simp [fmul_one h3 h13 ha]
theorem prh_eq {m a b : Nat} (h3 : 3 ≤ m) (h13 : m ≤ 13) (ha : a < 2 ^ m) (hb : b < 2 ^ m) : prh m a b m = fmul m a b := by
  rw [prh_fmul h3 h13 ha hb m (Nat.le_refl _), Nat.sub_self, Nat.pow_zero, Nat.div_one]
