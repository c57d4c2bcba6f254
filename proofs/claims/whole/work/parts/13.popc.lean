/-! how many bits of a long are 1: what Long.bitCount computes -/
def cnt (p : Nat → Bool) : Nat → Nat
  | 0 => 0
  | n + 1 => cnt p n + (if p n then 1 else 0)
theorem cnt_congr {p q : Nat → Bool} : ∀ (n : Nat), (∀ j, j < n → p j = q j) → cnt p n = cnt q n
  | 0, _ => rfl
  | n + 1, h => by
    show cnt p n + _ = cnt q n + _
    rw [cnt_congr n (fun j hj => h j (by omega)), h n (by omega)]
theorem cnt_le (p : Nat → Bool) : ∀ n, cnt p n ≤ n
  | 0 => Nat.le_refl 0
  | n + 1 => by
    have := cnt_le p n
    show cnt p n + _ ≤ n + 1
    split <;> omega
theorem cnt_add (p : Nat → Bool) (a : Nat) : ∀ b, cnt p (a + b) = cnt p a + cnt (fun j => p (a + j)) b
  | 0 => rfl
  | b + 1 => by
    show cnt p (a + b) + _ = cnt p a + (cnt (fun j => p (a + j)) b + _)
    rw [cnt_add p a b, Nat.add_assoc]; rfl
def bw (g : Nat → Nat) : Nat → Nat → Nat
  | 0, _ => 0
  | k + 1, x => g (x % 256) + 256 * bw g k (x / 256)
theorem bw_id : ∀ (k x : Nat), x < 256 ^ k → bw (fun c => c) k x = x
  | 0, x, h => by simp at h; subst h; rfl
  | k + 1, x, h => by
    show x % 256 + 256 * bw _ k (x / 256) = x
    rw [bw_id k (x / 256) (by rw [Nat.pow_succ] at h; omega)]
    omega
theorem bw_lt {g : Nat → Nat} (hg : ∀ c, c < 256 → g c < 256) : ∀ (k x : Nat), bw g k x < 256 ^ k
  | 0, x => by simp [bw]
  | k + 1, x => by
    have h1 := bw_lt hg k (x / 256)
    have h2 := hg (x % 256) (by omega)
    show g (x % 256) + 256 * bw g k (x / 256) < 256 ^ (k + 1)
    rw [Nat.pow_succ]
    omega
theorem bw_mod {g : Nat → Nat} (hg : ∀ c, c < 256 → g c < 256) (k x : Nat) : bw g (k + 1) x % 256 = g (x % 256) ∧ bw g (k + 1) x / 256 = bw g k (x / 256) := by
  have h2 := hg (x % 256) (by omega)
  show (g (x % 256) + 256 * bw g k (x / 256)) % 256 = _ ∧ (g (x % 256) + 256 * bw g k (x / 256)) / 256 = _
  omega
theorem bw_bw {f g : Nat → Nat} (hg : ∀ c, c < 256 → g c < 256) : ∀ (k x : Nat), bw f k (bw g k x) = bw (fun c => f (g c)) k x
  | 0, x => rfl
  | k + 1, x => by
    have h := bw_mod hg k x
    show f (bw g (k + 1) x % 256) + 256 * bw f k (bw g (k + 1) x / 256) = _
    rw [h.1, h.2, bw_bw hg k (x / 256)]
    rfl
theorem bw_sub {f g : Nat → Nat} (h : ∀ c, c < 256 → g c ≤ f c) : ∀ (k x : Nat), bw f k x - bw g k x = bw (fun c => f c - g c) k x ∧ bw g k x ≤ bw f k x
  | 0, x => ⟨rfl, Nat.le_refl _⟩
  | k + 1, x => by
    have h1 := bw_sub h k (x / 256)
    have h2 := h (x % 256) (by omega)
    show (f (x % 256) + 256 * bw f k (x / 256)) - (g (x % 256) + 256 * bw g k (x / 256)) = (f (x % 256) - g (x % 256)) + 256 * bw _ k (x / 256) ∧ _ ≤ f (x % 256) + 256 * bw f k (x / 256)
    rw [← h1.1]
    refine ⟨by omega, ?_⟩
    show g (x % 256) + 256 * bw g k (x / 256) ≤ _
    omega
theorem bw_sum {f g : Nat → Nat} : ∀ (k x : Nat), bw f k x + bw g k x = bw (fun c => f c + g c) k x
  | 0, x => rfl
  | k + 1, x => by
    have h1 := bw_sum (f := f) (g := g) k (x / 256)
    show (f (x % 256) + 256 * bw f k (x / 256)) + (g (x % 256) + 256 * bw g k (x / 256)) = (f (x % 256) + g (x % 256)) + 256 * bw _ k (x / 256)
    rw [← h1]
    omega
theorem bw_congr {f g : Nat → Nat} (h : ∀ c, c < 256 → f c = g c) : ∀ (k x : Nat), bw f k x = bw g k x
  | 0, x => rfl
  | k + 1, x => by
    show f (x % 256) + 256 * bw f k (x / 256) = g (x % 256) + 256 * bw g k (x / 256)
    rw [h _ (by omega), bw_congr h k]
theorem and_split {a b c e : Nat} (ha : a < 256) (hc : c < 256) : (a + 256 * b) &&& (c + 256 * e) = (a &&& c) + 256 * (b &&& e) := by
  have hac : a &&& c < 256 := Nat.lt_of_le_of_lt Nat.and_le_left ha
  apply Nat.eq_of_testBit_eq
  intro i
  rw [Nat.add_comm a, Nat.add_comm c, Nat.add_comm (a &&& c), show (256 : Nat) = 2 ^ 8 from rfl, Nat.testBit_and, Nat.testBit_two_pow_mul_add _ ha, Nat.testBit_two_pow_mul_add _ hc, Nat.testBit_two_pow_mul_add _ hac]
  split
  · rw [Nat.testBit_and]
  · rw [Nat.testBit_and]
/-- a mask of the same byte k times -/
def mk8 (c : Nat) : Nat → Nat
  | 0 => 0
  | k + 1 => c + 256 * mk8 c k
theorem bw_sh2 : ∀ (k x : Nat), x < 256 ^ k → (x / 2) &&& mk8 85 k = bw (fun z => (z / 2) &&& 85) k x
  | 0, x, h => by simp at h; subst h; simp [mk8, bw]
  | k + 1, x, h => by
    have ih := bw_sh2 k (x / 256) (by rw [Nat.pow_succ] at h; omega)
    have hx : x / 2 = (x % 256 / 2 + 128 * (x / 256 % 2)) + 256 * (x / 256 / 2) := by omega
    have hl : x % 256 / 2 + 128 * (x / 256 % 2) < 256 := by omega
    have hm : ∀ u, u < 128 → ∀ t, t < 2 → (u + 128 * t) &&& 85 = u &&& 85 := by decide
    show (x / 2) &&& (85 + 256 * mk8 85 k) = (x % 256 / 2 &&& 85) + 256 * bw _ k (x / 256)
    rw [hx, and_split hl (by decide), ih, hm _ (by omega) _ (by omega)]
theorem bw_sh4 : ∀ (k x : Nat), x < 256 ^ k → (x / 4) &&& mk8 51 k = bw (fun z => (z / 4) &&& 51) k x
  | 0, x, h => by simp at h; subst h; simp [mk8, bw]
  | k + 1, x, h => by
    have ih := bw_sh4 k (x / 256) (by rw [Nat.pow_succ] at h; omega)
    have hx : x / 4 = (x % 256 / 4 + 64 * (x / 256 % 4)) + 256 * (x / 256 / 4) := by omega
    have hl : x % 256 / 4 + 64 * (x / 256 % 4) < 256 := by omega
    have hm : ∀ u, u < 64 → ∀ t, t < 4 → (u + 64 * t) &&& 51 = u &&& 51 := by decide
    show (x / 4) &&& (51 + 256 * mk8 51 k) = (x % 256 / 4 &&& 51) + 256 * bw _ k (x / 256)
    rw [hx, and_split hl (by decide), ih, hm _ (by omega) _ (by omega)]
theorem bw_sh1 : ∀ (k x : Nat), x < 256 ^ k → (x / 1) &&& mk8 51 k = bw (fun z => (z / 1) &&& 51) k x
  | 0, x, h => by simp at h; subst h; simp [mk8, bw]
  | k + 1, x, h => by
    have ih := bw_sh1 k (x / 256) (by rw [Nat.pow_succ] at h; omega)
    have hx : x / 1 = (x % 256 / 1 + 256 * (x / 256 % 1)) + 256 * (x / 256 / 1) := by omega
    have hl : x % 256 / 1 + 256 * (x / 256 % 1) < 256 := by omega
    have hm : ∀ u, u < 256 → ∀ t, t < 1 → (u + 256 * t) &&& 51 = u &&& 51 := fun u _ t ht => by
      have h0 : t = 0 := by omega
      subst h0; rfl
    show (x / 1) &&& (51 + 256 * mk8 51 k) = (x % 256 / 1 &&& 51) + 256 * bw _ k (x / 256)
    rw [hx, and_split hl (by decide), ih, hm _ (by omega) _ (by omega)]
theorem bw_sh16 : ∀ (k x : Nat), x < 256 ^ k → (∀ y : Nat, y = y) → (∀ j, x / 256 ^ j % 256 ≤ 68 ∧ x / 256 ^ j % 16 ≤ 4) → (x + x / 16) &&& mk8 15 k = bw (fun z => (z + z / 16) &&& 15) k x
  | 0, x, h, _, _ => by simp at h; subst h; simp [mk8, bw]
  | k + 1, x, h, h0, hd => by
    have ih := bw_sh16 k (x / 256) (by rw [Nat.pow_succ] at h; omega) h0 (fun j => by
      have := hd (j + 1)
      rw [Nat.pow_succ, Nat.mul_comm, ← Nat.div_div_eq_div_mul] at this
      exact this)
    have d0 := hd 0
    have d1 := hd 1
    simp only [Nat.pow_zero, Nat.div_one, Nat.pow_one] at d0 d1
    have hx : x + x / 16 = (x % 256 + x % 256 / 16 + 16 * (x / 256 % 16)) + 256 * (x / 256 + x / 256 / 16) := by omega
    have hl : x % 256 + x % 256 / 16 + 16 * (x / 256 % 16) < 256 := by omega
    have hm : ∀ u, u < 128 → ∀ t, t < 16 → (u + 16 * t) &&& 15 = u &&& 15 := by decide
    show (x + x / 16) &&& (15 + 256 * mk8 15 k) = ((x % 256 + x % 256 / 16) &&& 15) + 256 * bw _ k (x / 256)
    rw [hx, and_split hl (by decide), ih, hm _ (by omega) _ (by omega)]
theorem bw_dig {g : Nat → Nat} (hg : ∀ c, c < 256 → g c < 256) : ∀ (j k x : Nat), bw g k x / 256 ^ j % 256 = 0 ∨ ∃ c, c < 256 ∧ bw g k x / 256 ^ j % 256 = g c
  | j, 0, x => by left; simp [bw]
  | 0, k + 1, x => by
    right
    exact ⟨x % 256, by omega, by rw [Nat.pow_zero, Nat.div_one]; exact (bw_mod hg k x).1⟩
  | j + 1, k + 1, x => by
    rw [Nat.pow_succ, Nat.mul_comm, ← Nat.div_div_eq_div_mul, (bw_mod hg k x).2]
    exact bw_dig hg j k (x / 256)
def p8 (c : Nat) : Nat := cnt c.testBit 8
theorem cnt_bw : ∀ (k x : Nat), cnt x.testBit (8 * k) = (if k = 0 then 0 else p8 (x % 256) + cnt (x / 256).testBit (8 * (k - 1)))
  | 0, x => rfl
  | k + 1, x => by
    rw [if_neg (by omega), show 8 * (k + 1) = 8 + 8 * k by omega, cnt_add]
    congr 1
    · unfold p8
      exact cnt_congr 8 (fun j hj => by rw [show (256 : Nat) = 2 ^ 8 from rfl, Nat.testBit_mod_two_pow]; simp [hj])
    · exact cnt_congr _ (fun j hj => by rw [show (256 : Nat) = 2 ^ 8 from rfl, Nat.testBit_div_two_pow, Nat.add_comm])
def pc64 (x : Int64) : Nat := cnt (uN x).testBit 64
theorem uN_and (x y : Int64) : uN (x &&& y) = uN x &&& uN y := by
  show (x.toUInt64 &&& y.toUInt64).toNat = _
  exact UInt64.toNat_and _ _
theorem uN_sub {x y : Int64} (h : uN y ≤ uN x) : uN (x - y) = uN x - uN y := by
  show (x.toUInt64 - y.toUInt64).toNat = _
  exact UInt64.toNat_sub_of_le _ _ (UInt64.le_iff_toNat_le.mpr h)
theorem uN_i32 (x : Int64) : x.toInt32 = nI (uN x) := by
  apply Int32.toBitVec_inj.mp
  apply BitVec.eq_of_toNat_eq
  show (x.toBitVec.signExtend 32).toNat = _
  have e : (nI (uN x)).toBitVec.toNat = uN x % 2 ^ 32 := by
    show (BitVec.ofNat 32 (uN x)).toNat = _
    rw [BitVec.toNat_ofNat]
  rw [e, BitVec.signExtend_eq_setWidth_of_le _ (by decide), BitVec.toNat_setWidth]
  rfl

theorem uN_65 : uN 6148914691236517205 = mk8 0x55 8 := by decide +kernel
theorem uN_33 : uN 3689348814741910323 = mk8 0x33 8 := by decide +kernel
theorem uN_0f : uN 1085102592571150095 = mk8 15 8 := by decide +kernel
def bA (c : Nat) : Nat := c - (c / 2 &&& 0x55)
def bB (c : Nat) : Nat := (bA c / 1 &&& 0x33) + (bA c / 4 &&& 0x33)
def bC (c : Nat) : Nat := (bB c + bB c / 16) &&& 15
theorem b8 : ∀ c, c < 256 → bA c < 256 ∧ (c / 2 &&& 0x55) ≤ c ∧ bB c ≤ 68 ∧ bB c % 16 ≤ 4 ∧ bC c = p8 c ∧ bC c ≤ 8 := by decide +kernel
theorem popN (n : Nat) (hn : n < 256 ^ 8) : ∃ a b c : Nat, n - (n / 2 &&& mk8 0x55 8) = a ∧ (n / 2 &&& mk8 0x55 8) ≤ n ∧ a < 256 ^ 8 ∧ (a &&& mk8 0x33 8) + (a / 4 &&& mk8 0x33 8) = b ∧ b ≤ mk8 68 8 ∧ (b + b / 16) &&& mk8 15 8 = c ∧ c = bw p8 8 n := by
  have h1 := bw_sh2 8 n hn
  have h2 := bw_id 8 n hn
  have h3 := bw_sub (f := fun c => c) (g := fun z => z / 2 &&& 0x55) (fun c hc => (b8 c hc).2.1) 8 n
  have hA : n - (n / 2 &&& mk8 0x55 8) = bw bA 8 n := by
    rw [h1]
    rw [h2] at h3
    exact h3.1
  have hAl : bw bA 8 n < 256 ^ 8 := bw_lt (fun c hc => (b8 c hc).1) 8 n
  have hB : (bw bA 8 n &&& mk8 0x33 8) + (bw bA 8 n / 4 &&& mk8 0x33 8) = bw bB 8 n := by
    have e1 := bw_sh1 8 (bw bA 8 n) hAl
    have e2 := bw_sh4 8 (bw bA 8 n) hAl
    rw [Nat.div_one] at e1
    rw [e1, e2, bw_sum, bw_bw (fun c hc => (b8 c hc).1)]
    rfl
  have hBb : ∀ c, c < 256 → bB c < 256 := fun c hc => Nat.lt_of_le_of_lt (b8 c hc).2.2.1 (by decide)
  have hBl : bw bB 8 n < 256 ^ 8 := bw_lt hBb 8 n
  have hC : (bw bB 8 n + bw bB 8 n / 16) &&& mk8 15 8 = bw p8 8 n := by
    rw [bw_sh16 8 _ hBl (fun _ => rfl) (fun j => ?_), bw_bw hBb]
    · exact bw_congr (fun c hc => (b8 c hc).2.2.2.2.1) 8 n
    · rcases bw_dig hBb j 8 n with h | ⟨c, hc, h⟩
      · omega
      · have h5 := (b8 c hc).2.2.1
        have h6 := (b8 c hc).2.2.2.1
        have h7 : bw bB 8 n / 256 ^ j % 16 = bw bB 8 n / 256 ^ j % 256 % 16 := by omega
        rw [h7, h]
        exact ⟨h5, h6⟩
  have hle : ∀ (k x : Nat), bw bB k x ≤ mk8 68 k := by
    intro k
    induction k with
    | zero => intro x; exact Nat.le_refl _
    | succ k ih =>
      intro x
      have h8 := ih (x / 256)
      have h9 := (b8 (x % 256) (by omega)).2.2.1
      show bB (x % 256) + 256 * bw bB k (x / 256) ≤ 68 + 256 * mk8 68 k
      omega
  exact ⟨_, _, _, hA, by rw [h1]; rw [h2] at h3; exact h3.2, hAl, hB, hle 8 n, hC, rfl⟩
theorem pop_sum (n : Nat) : ∃ d0 d1 d2 d3 d4 d5 d6 d7 : Nat, d0 ≤ 8 ∧ d1 ≤ 8 ∧ d2 ≤ 8 ∧ d3 ≤ 8 ∧ d4 ≤ 8 ∧ d5 ≤ 8 ∧ d6 ≤ 8 ∧ d7 ≤ 8 ∧ bw p8 8 n = d0 + 256 * (d1 + 256 * (d2 + 256 * (d3 + 256 * (d4 + 256 * (d5 + 256 * (d6 + 256 * d7)))))) ∧ cnt n.testBit 64 = d0 + d1 + d2 + d3 + d4 + d5 + d6 + d7 := by
  have hp : ∀ x, p8 (x % 256) ≤ 8 := fun x => cnt_le _ 8
  refine ⟨p8 (n % 256), p8 (n / 256 % 256), p8 (n / 256 / 256 % 256), p8 (n / 256 / 256 / 256 % 256), p8 (n / 256 / 256 / 256 / 256 % 256), p8 (n / 256 / 256 / 256 / 256 / 256 % 256), p8 (n / 256 / 256 / 256 / 256 / 256 / 256 % 256), p8 (n / 256 / 256 / 256 / 256 / 256 / 256 / 256 % 256), hp _, hp _, hp _, hp _, hp _, hp _, hp _, hp _, ?_, ?_⟩
  · simp only [bw, Nat.mul_zero, Nat.add_zero]
  · have e := cnt_bw 8 n
    rw [if_neg (by decide)] at e
    rw [show (64 : Nat) = 8 * 8 from rfl, e, show 8 - 1 = 7 from rfl, cnt_bw 7, if_neg (by decide), show 7 - 1 = 6 from rfl, cnt_bw 6, if_neg (by decide), show 6 - 1 = 5 from rfl, cnt_bw 5, if_neg (by decide), show 5 - 1 = 4 from rfl, cnt_bw 4, if_neg (by decide), show 4 - 1 = 3 from rfl, cnt_bw 3, if_neg (by decide), show 3 - 1 = 2 from rfl, cnt_bw 2, if_neg (by decide), show 2 - 1 = 1 from rfl, cnt_bw 1, if_neg (by decide), show 1 - 1 = 0 from rfl]
    simp only [Nat.mul_zero, cnt]
    omega
theorem bc_num {d0 d1 d2 d3 d4 d5 d6 d7 r1 r2 r3 r4 r5 r6 c e f g : Nat} (h0 : d0 ≤ 8) (h1 : d1 ≤ 8) (h2 : d2 ≤ 8) (h3 : d3 ≤ 8) (h4 : d4 ≤ 8) (h5 : d5 ≤ 8) (h6 : d6 ≤ 8) (h7 : d7 ≤ 8) (e6 : r6 = d6 + 256 * d7) (e5 : r5 = d5 + 256 * r6) (e4 : r4 = d4 + 256 * r5) (e3 : r3 = d3 + 256 * r4) (e2 : r2 = d2 + 256 * r3) (e1 : r1 = d1 + 256 * r2) (e0 : c = d0 + 256 * r1) (he : e = c + c / 256) (hf : f = e + e / 65536) (hg : g = f + f / 4294967296) :
    c ≤ 578721382704613384 ∧ e < 1297036692682702849 ∧ f < 2305843009213693952 ∧ g < 2305843009213693952 ∧ g % 128 = d0 + d1 + d2 + d3 + d4 + d5 + d6 + d7 := by
  have q1 : c / 256 = r1 := by omega
  have q2 : c = d0 + 256 * d1 + 65536 * r2 := by omega
  have q3 : r1 = d1 + 256 * d2 + 65536 * r3 := by omega
  have q4 : e = (d0 + 257 * d1 + 256 * d2) + 65536 * (r2 + r3) := by omega
  have q5 : e / 65536 = r2 + r3 := by omega
  have q6 : r2 = d2 + 256 * d3 + 65536 * r4 := by omega
  have q7 : r3 = d3 + 256 * d4 + 65536 * r5 := by omega
  have q8 : r4 = d4 + 256 * d5 + 65536 * r6 := by omega
  have q9 : r5 = d5 + 256 * d6 + 65536 * d7 := by omega
  have p1 : f = (d0 + 257 * d1 + 257 * d2 + d3 + 256 * d3 + 256 * d4) + 65536 * (d2 + 257 * d3 + 256 * d4) + 65536 * (r4 + r5) + 4294967296 * (r4 + r5) := by omega
  have p2 : r4 + r5 = (d4 + 257 * d5 + 256 * d6) + 65536 * (r6 + d7) := by omega
  generalize hr : r4 + r5 = u at p1 p2
  have p3 : f / 4294967296 = u + (r6 + d7) := by omega
  have p5 : g % 128 = (f % 128 + (u + (r6 + d7)) % 128) % 128 := by omega
  have p6 : f % 128 = (d0 + d1 + d2 + d3) % 128 := by omega
  have p7 : (u + (r6 + d7)) % 128 = (d4 + d5 + d6 + d7) % 128 := by omega
  refine ⟨by omega, by omega, by omega, by omega, by omega⟩
