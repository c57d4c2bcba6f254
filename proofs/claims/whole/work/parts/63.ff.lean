/-! THE FIELD of 2^m numbers as a ring -/
def FF (m : Nat) : Type := { a : Nat // a < 2 ^ m }
def fe (m a : Nat) : FF m := ⟨a % 2 ^ m, Nat.mod_lt _ (Nat.two_pow_pos m)⟩
theorem fe_1 {m a : Nat} (h : a < 2 ^ m) : (fe m a).1 = a := Nat.mod_eq_of_lt h
theorem FF.ext {m : Nat} {a b : FF m} (h : a.1 = b.1) : a = b := Subtype.ext h
theorem fe_v {m : Nat} (a : FF m) : fe m a.1 = a := FF.ext (fe_1 a.2)
theorem two_lt {m : Nat} (h3 : 3 ≤ m) (n : Nat) : n % 2 < 2 ^ m := Nat.lt_of_lt_of_le (Nat.mod_lt n (by decide)) (Nat.pow_le_pow_right (n := 2) (i := 1) (by decide) (by omega))
def fpw {m : Nat} (h3 : 3 ≤ m) (h13 : m ≤ 13) (a : FF m) : Nat → FF m
  | 0 => ⟨1 % 2, two_lt h3 1⟩
  | n + 1 => ⟨fmul m (fpw h3 h13 a n).1 a.1, fmul_lt h3 h13⟩
theorem xor_mod2 (a b : Nat) : (a + b) % 2 = a % 2 ^^^ b % 2 := by
  rcases Nat.mod_two_eq_zero_or_one a with h1 | h1 <;> rcases Nat.mod_two_eq_zero_or_one b with h2 | h2 <;> rw [h1, h2] <;> simp <;> omega
def FF.sr {m : Nat} (h3 : 3 ≤ m) (h13 : m ≤ 13) : Lean.Grind.Semiring (FF m) where
  add a b := ⟨a.1 ^^^ b.1, Nat.xor_lt_two_pow a.2 b.2⟩
  mul a b := ⟨fmul m a.1 b.1, fmul_lt h3 h13⟩
  natCast := ⟨fun n => ⟨n % 2, two_lt h3 n⟩⟩
  ofNat n := ⟨⟨n % 2, two_lt h3 n⟩⟩
  nsmul := ⟨fun n a => ⟨fmul m (n % 2) a.1, fmul_lt h3 h13⟩⟩
  npow := ⟨fun a n => fpw h3 h13 a n⟩
  add_zero a := FF.ext (Nat.xor_zero a.1)
  add_comm a b := FF.ext (Nat.xor_comm a.1 b.1)
  add_assoc a b c := FF.ext (Nat.xor_assoc a.1 b.1 c.1)
  mul_assoc a b c := FF.ext (fmul_assoc h3 h13 a.2 b.2 c.2)
  mul_one a := FF.ext (fmul_one h3 h13 a.2)
  one_mul a := FF.ext ((fmul_comm (m := m) (a := 1 % 2) (b := a.1)).trans (fmul_one h3 h13 a.2))
  left_distrib a b c := FF.ext (fmul_xor h3 h13 a.2 b.2 c.2)
  right_distrib a b c := FF.ext ((fmul_comm (m := m) (a := a.1 ^^^ b.1) (b := c.1)).trans ((fmul_xor h3 h13 c.2 a.2 b.2).trans (by rw [fmul_comm (a := c.1) (b := a.1), fmul_comm (a := c.1) (b := b.1)]; rfl)))
  zero_mul a := FF.ext (fmul_zl (m := m) (a := a.1))
  mul_zero a := FF.ext (fmul_z (m := m) (a := a.1))
  pow_zero a := rfl
  pow_succ a n := rfl
  ofNat_succ n := FF.ext (xor_mod2 n 1)
  ofNat_eq_natCast n := rfl
  nsmul_eq_natCast_mul n a := rfl
theorem neg_mod2 (i : Int) : ((-i) % 2).toNat = (i % 2).toNat := by congr 1; omega
def FF.ring {m : Nat} (h3 : 3 ≤ m) (h13 : m ≤ 13) : Lean.Grind.CommRing (FF m) :=
  { FF.sr h3 h13 with
    neg := fun a => a
    sub := fun a b => ⟨a.1 ^^^ b.1, Nat.xor_lt_two_pow a.2 b.2⟩
    intCast := ⟨fun i => ⟨(i % 2).toNat, Nat.lt_of_lt_of_le (show (i % 2).toNat < 2 by omega) (Nat.pow_le_pow_right (n := 2) (i := 1) (by decide) (by omega))⟩⟩
    zsmul := ⟨fun i a => ⟨fmul m (i % 2).toNat a.1, fmul_lt h3 h13⟩⟩
    neg_add_cancel := fun a => FF.ext (Nat.xor_self a.1)
    sub_eq_add_neg := fun a b => rfl
    neg_zsmul := fun i a => FF.ext (by show fmul m ((-i) % 2).toNat a.1 = fmul m (i % 2).toNat a.1; rw [neg_mod2])
    zsmul_natCast_eq_nsmul := fun n a => FF.ext (by show fmul m ((n : Int) % 2).toNat a.1 = fmul m (n % 2) a.1; congr 1)
    intCast_ofNat := fun n => FF.ext (by show ((n : Int) % 2).toNat = n % 2; omega)
    intCast_neg := fun i => FF.ext (neg_mod2 i)
    mul_comm := fun a b => FF.ext (fmul_comm (m := m) (a := a.1) (b := b.1)) }
theorem FF.chr {m : Nat} (h3 : 3 ≤ m) (h13 : m ≤ 13) : letI := FF.ring h3 h13; Lean.Grind.IsCharP (FF m) 2 :=
  letI := FF.ring h3 h13
  { ofNat_ext_iff := fun {x y} => ⟨fun h => congrArg Subtype.val h, fun h => FF.ext h⟩ }
def fiv {m : Nat} (h3 : 3 ≤ m) (h13 : m ≤ 13) (a : FF m) : FF m := ⟨finv m a.1, finv_lt h3 h13⟩
theorem FF.iv {m : Nat} (h3 : 3 ≤ m) (h13 : m ≤ 13) : letI := FF.ring h3 h13; Iv (FF m) (fiv h3 h13) :=
  letI := FF.ring h3 h13
  ⟨fun a h => FF.ext (fmul_inv h3 h13 (fun z => h (FF.ext z)) a.2), fun h => absurd (congrArg Subtype.val h) (show ¬ 1 % 2 = 0 % 2 by decide)⟩
/-- a map of the numbers below 2^m into a field -/
abbrev Hm {K : Type} [R : Lean.Grind.CommRing K] (m : Nat) (p : Nat → K) : Prop := (∀ a b, p (a ^^^ b) = p a + p b) ∧ (∀ a b, a < 2 ^ m → b < 2 ^ m → p (fmul m a b) = p a * p b) ∧ p 0 = 0 ∧ p 1 = 1 ∧ ∀ a, a < 2 ^ m → p a = 0 → a = 0
theorem FF.hm {m : Nat} (h3 : 3 ≤ m) (h13 : m ≤ 13) : letI := FF.ring h3 h13; Hm m (fe m) :=
  letI := FF.ring h3 h13
  ⟨fun a b => FF.ext Nat.xor_mod_two_pow, fun a b ha hb => FF.ext (by
    show fmul m a b % 2 ^ m = fmul m (a % 2 ^ m) (b % 2 ^ m)
    rw [Nat.mod_eq_of_lt ha, Nat.mod_eq_of_lt hb, Nat.mod_eq_of_lt (fmul_lt h3 h13)]), FF.ext (Nat.zero_mod _), FF.ext (Nat.mod_eq_of_lt (Nat.one_lt_two_pow (by omega))), fun a ha h => (fe_1 ha).symm.trans (congrArg Subtype.val h)⟩
theorem Hm.in_ {K : Type} [R : Lean.Grind.CommRing K] [Ch : Lean.Grind.IsCharP K 2] {m : Nat} {p : Nat → K} (h : Hm m p) {a b : Nat} (ha : a < 2 ^ m) (hb : b < 2 ^ m) (he : p a = p b) : a = b := by
  have h1 : a ^^^ b = 0 := h.2.2.2.2 _ (Nat.xor_lt_two_pow ha hb) (by rw [h.1, he]; exact ad_self _)
  have h2 := congrArg (fun z => z ^^^ b) h1
  simp only [Nat.xor_assoc, Nat.xor_self, Nat.xor_zero, Nat.zero_xor] at h2
  exact h2
theorem Hm.pw {K : Type} [R : Lean.Grind.CommRing K] {m : Nat} {p : Nat → K} (h : Hm m p) (h3 : 3 ≤ m) (h13 : m ≤ 13) (i : Nat) : ∀ k : Nat, p (pwr m (i * k)) = p (pwr m i) ^ k
  | 0 => by rw [Nat.mul_zero, Lean.Grind.Semiring.pow_zero]; exact h.2.2.2.1
  | k + 1 => by rw [Nat.mul_succ, ← fmul_pwr h3 h13, h.2.1 _ _ (pwr_lt h3 h13 _) (pwr_lt h3 h13 _), h.pw h3 h13 i k, Lean.Grind.Semiring.pow_succ]
theorem Hm.ne {K : Type} [R : Lean.Grind.CommRing K] {m : Nat} {p : Nat → K} (h : Hm m p) (h3 : 3 ≤ m) (h13 : m ≤ 13) (i : Nat) : p (pwr m i) ≠ 0 := fun z => pwr_pos h3 h13 i (h.2.2.2.2 _ (pwr_lt h3 h13 i) z)
theorem Hm.iv {K : Type} [R : Lean.Grind.CommRing K] {m : Nat} {p : Nat → K} (h : Hm m p) (h3 : 3 ≤ m) (h13 : m ≤ 13) {a : Nat} (h0 : a ≠ 0) (ha : a < 2 ^ m) : p a * p (finv m a) = 1 := by rw [← h.2.1 _ _ ha (finv_lt h3 h13), fmul_inv h3 h13 h0 ha]; exact h.2.2.2.1
