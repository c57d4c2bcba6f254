/-! THE FIELD of 2^m numbers, m from 3 to 13: its powers of 2, by doubling; they are all numbers but 0 -/
def pnl : List Nat := [11, 19, 37, 67, 137, 285, 529, 1033, 2053, 4179, 8219]
def pn (m : Nat) : Nat := pnl.getD (m - 3) 0
theorem pols_nI {m : Nat} (h3 : 3 ≤ m) (h13 : m ≤ 13) : pols (m - 3) = nI (pn m) := by
  have key : ∀ m, m < 14 → 3 ≤ m → pols (m - 3) = nI (pn m) := by decide +kernel
  exact key m (by omega) h3
def mulx (m a : Nat) : Nat := if 2 ^ m ≤ 2 * a then (2 * a) ^^^ pn m else 2 * a
def pwr (m : Nat) : Nat → Nat
  | 0 => 1
  | i + 1 => mulx m (pwr m i)
theorem pn_mod {m : Nat} (h3 : 3 ≤ m) (h13 : m ≤ 13) : pn m / 2 ^ m = 1 ∧ pn m % 2 = 1 := by
  have key : ∀ m, m < 14 → 3 ≤ m → pn m / 2 ^ m = 1 ∧ pn m % 2 = 1 := by decide +kernel
  exact key m (by omega) h3
theorem xor_lt_of {m a b : Nat} (ha : a / 2 ^ m = 1) (hb : b / 2 ^ m = 1) : a ^^^ b < 2 ^ m := by
  have h1 : (a ^^^ b) / 2 ^ m = 0 := by
    rw [Nat.xor_div_two_pow, ha, hb]; rfl
  exact (Nat.div_eq_zero_iff_lt (Nat.two_pow_pos m)).mp h1
theorem mulx_lt {m a : Nat} (h3 : 3 ≤ m) (h13 : m ≤ 13) (h : a < 2 ^ m) : mulx m a < 2 ^ m := by
  unfold mulx
  split
  · rename_i hc
    refine xor_lt_of ?_ (pn_mod h3 h13).1
    rw [Nat.div_eq_iff (Nat.two_pow_pos m)]
    omega
  · omega
theorem pwr_lt {m : Nat} (h3 : 3 ≤ m) (h13 : m ≤ 13) : ∀ i, pwr m i < 2 ^ m
  | 0 => Nat.one_lt_two_pow (by omega)
  | i + 1 => mulx_lt h3 h13 (pwr_lt h3 h13 i)
theorem mulx_even {m a b : Nat} (h3 : 3 ≤ m) (h13 : m ≤ 13) (ha : a < 2 ^ m) (hb : b < 2 ^ m) (h : mulx m a = mulx m b) : a = b := by
  have hp := (pn_mod h3 h13).2
  have od : ∀ x : Nat, ((2 * x) ^^^ pn m) % 2 = 1 := fun x => by
    rw [← Nat.and_one_is_mod, Nat.and_xor_distrib_right, Nat.and_one_is_mod, Nat.and_one_is_mod, hp, Nat.mul_mod_right]; rfl
  unfold mulx at h
  split at h <;> split at h
  · have h2 := congrArg (fun z => z ^^^ pn m) h
    simp only [Nat.xor_assoc, Nat.xor_self, Nat.xor_zero] at h2
    omega
  · have := od a; omega
  · have := od b; omega
  · omega
/-- the walk of the powers: none but the last is 1 -/
def ckp (m : Nat) : Nat → Nat → Bool
  | 0, a => a == 1
  | _ + 1, 0 => false
  | k + 1, b + 1 => (b != 0) && ckp m k (mulx m (b + 1))
theorem ckp_spec (m : Nat) : ∀ (k i : Nat), ckp m k (pwr m i) = true → (∀ j, j < k → pwr m (i + j) ≠ 1) ∧ pwr m (i + k) = 1
  | 0, i, h => ⟨fun j hj => absurd hj (by omega), by simpa [ckp] using h⟩
  | k + 1, i, h => by
    cases ha : pwr m i with
    | zero => rw [ha] at h; cases h
    | succ b =>
      rw [ha] at h
      simp only [ckp, Bool.and_eq_true, bne_iff_ne, ne_eq] at h
      have h2 : ckp m k (pwr m (i + 1)) = true := by
        show ckp m k (mulx m (pwr m i)) = true
        rw [ha]; exact h.2
      obtain ⟨h3, h4⟩ := ckp_spec m k (i + 1) h2
      refine ⟨fun j hj => ?_, by rw [← h4]; congr 1; omega⟩
      cases j with
      | zero => show pwr m (i + 0) ≠ 1; rw [Nat.add_zero, ha]; omega
      | succ j => rw [show i + (j + 1) = i + 1 + j by omega]; exact h3 j (by omega)
set_option maxRecDepth 100000 in
theorem ckp_all : ∀ m, m < 14 → 3 ≤ m → ckp m (2 ^ m - 2) (pwr m 1) = true := by decide +kernel
theorem pwr_ord {m : Nat} (h3 : 3 ≤ m) (h13 : m ≤ 13) : (∀ j, 0 < j → j < 2 ^ m - 1 → pwr m j ≠ 1) ∧ pwr m (2 ^ m - 1) = 1 := by
  obtain ⟨h1, h2⟩ := ckp_spec m _ 1 (ckp_all m (by omega) h3)
  have h8 : 2 ^ 3 ≤ 2 ^ m := Nat.pow_le_pow_right (by decide) h3
  refine ⟨fun j h0 hj => ?_, ?_⟩
  · have := h1 (j - 1) (by omega)
    rwa [show 1 + (j - 1) = j by omega] at this
  · rwa [show 1 + (2 ^ m - 2) = 2 ^ m - 1 by omega] at h2
theorem pwr_canc {m : Nat} (h3 : 3 ≤ m) (h13 : m ≤ 13) : ∀ (i j : Nat), pwr m i = pwr m (i + j) → pwr m 0 = pwr m j
  | 0, j, h => by rwa [Nat.zero_add] at h
  | i + 1, j, h => by
    refine pwr_canc h3 h13 i j (mulx_even h3 h13 (pwr_lt h3 h13 _) (pwr_lt h3 h13 _) ?_)
    have e : pwr m (i + 1 + j) = mulx m (pwr m (i + j)) := by rw [show i + 1 + j = (i + j) + 1 by omega]; rfl
    rw [← e]; exact h
theorem pwr_inj {m i j : Nat} (h3 : 3 ≤ m) (h13 : m ≤ 13) (hi : i < 2 ^ m - 1) (hj : j < 2 ^ m - 1) (h : pwr m i = pwr m j) : i = j := by
  have key : ∀ a b, a < b → b < 2 ^ m - 1 → pwr m a ≠ pwr m b := fun a b hab hb he => by
    have := pwr_canc h3 h13 a (b - a) (by rw [show a + (b - a) = b by omega]; exact he)
    exact (pwr_ord h3 h13).1 (b - a) (by omega) (by omega) this.symm
  rcases Nat.lt_trichotomy i j with h1 | h1 | h1
  · exact absurd h (key i j h1 hj)
  · exact h1
  · exact absurd h.symm (key j i h1 hi)
theorem pwr_per {m : Nat} (h3 : 3 ≤ m) (h13 : m ≤ 13) : ∀ i, pwr m (i + (2 ^ m - 1)) = pwr m i
  | 0 => by rw [Nat.zero_add]; exact (pwr_ord h3 h13).2
  | i + 1 => by
    rw [show i + 1 + (2 ^ m - 1) = (i + (2 ^ m - 1)) + 1 by omega]
    show mulx m (pwr m (i + (2 ^ m - 1))) = mulx m (pwr m i)
    rw [pwr_per h3 h13 i]
theorem pwr_mod {m : Nat} (h3 : 3 ≤ m) (h13 : m ≤ 13) (i : Nat) : pwr m (i % (2 ^ m - 1)) = pwr m i := by
  have key : ∀ q r, pwr m (r + (2 ^ m - 1) * q) = pwr m r := by
    intro q
    induction q with
    | zero => intro r; rw [Nat.mul_zero, Nat.add_zero]
    | succ q ih => intro r; rw [Nat.mul_succ, ← Nat.add_assoc, pwr_per h3 h13, ih]
  conv => rhs; rw [← Nat.mod_add_div i (2 ^ m - 1)]
  exact (key _ _).symm
theorem pwr_pos {m : Nat} (h3 : 3 ≤ m) (h13 : m ≤ 13) (i : Nat) : pwr m i ≠ 0 := by
  intro h
  have h0 : ∀ k, pwr m (i + k) = 0 := by
    intro k
    induction k with
    | zero => exact h
    | succ k ih =>
      show mulx m (pwr m (i + k)) = 0
      rw [ih]
      unfold mulx
      rw [if_neg (by have := Nat.two_pow_pos m; omega)]
  have h1 := h0 (i * (2 ^ m - 1) - i)
  have h8 : 2 ^ 3 ≤ 2 ^ m := Nat.pow_le_pow_right (by decide) h3
  have hle : i ≤ i * (2 ^ m - 1) := Nat.le_mul_of_pos_right i (by omega)
  rw [show i + (i * (2 ^ m - 1) - i) = i * (2 ^ m - 1) by omega, ← pwr_mod h3 h13, Nat.mul_mod_left] at h1
  exact absurd h1 Nat.one_ne_zero
theorem pigeon : ∀ (n : Nat) (f : Nat → Nat), (∀ i, i < n → f i < n) → (∀ i j, i < n → j < n → f i = f j → i = j) → ∀ y, y < n → ∃ i, i < n ∧ f i = y
  | 0, _, _, _, y, hy => absurd hy (by omega)
  | n + 1, f, hf, hi, y, hy => by
    have hg1 : ∀ i, i < n → (if f i = n then f n else f i) < n := fun i h => by
      have a := hf i (by omega)
      have b := hf n (by omega)
      split
      · rename_i hc
        rcases Nat.lt_or_ge (f n) n with h1 | h1
        · exact h1
        · have := hi i n (by omega) (by omega) (by omega); omega
      · omega
    have hg2 : ∀ i j, i < n → j < n → (if f i = n then f n else f i) = (if f j = n then f n else f j) → i = j := fun i j h1 h2 he => by
      split at he <;> split at he
      · exact hi i j (by omega) (by omega) (by omega)
      · have := hi n j (by omega) (by omega) he; omega
      · have := hi i n (by omega) (by omega) he; omega
      · exact hi i j (by omega) (by omega) he
    have ih := pigeon n (fun i => if f i = n then f n else f i) hg1 hg2
    by_cases hw : y = f n
    · exact ⟨n, by omega, hw.symm⟩
    · by_cases hy2 : y = n
      · have hwn : f n < n := by have := hf n (by omega); omega
        obtain ⟨i, h1, h2⟩ := ih (f n) hwn
        try dsimp only at h2
        split at h2
        · rename_i hc; exact ⟨i, by omega, by omega⟩
        · have := hi i n (by omega) (by omega) h2; omega
      · obtain ⟨i, h1, h2⟩ := ih y (by omega)
        try dsimp only at h2
        split at h2
        · exact absurd h2.symm hw
        · exact ⟨i, by omega, h2⟩
theorem pwr_sur {m a : Nat} (h3 : 3 ≤ m) (h13 : m ≤ 13) (h0 : 0 < a) (ha : a < 2 ^ m) : ∃ i, i < 2 ^ m - 1 ∧ pwr m i = a := by
  obtain ⟨i, h1, h2⟩ := pigeon (2 ^ m - 1) (fun i => pwr m i - 1) (fun i _ => by have := pwr_lt h3 h13 i; have := pwr_pos h3 h13 i; omega) (fun i j hi hj he => by
    have := pwr_pos h3 h13 i
    have := pwr_pos h3 h13 j
    exact pwr_inj h3 h13 hi hj (by (try dsimp only at he); omega)) (a - 1) (by omega)
  refine ⟨i, h1, ?_⟩
  have := pwr_pos h3 h13 i
  try dsimp only at h2
  omega
