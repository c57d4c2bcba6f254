/-! THE REGISTER: a byte through the tables is eight bits through the register -/
def RG (hi lo : Int64) (q : Nat) : Bool := decide (q < 128) && rgb hi lo q
theorem RG_h {hi lo : Int64} {q : Nat} (h : q < 64) : RG hi lo q = tb hi (63 - q) := by unfold RG rgb; rw [decide_eq_true (by omega), if_pos h, Bool.true_and]
theorem RG_l {hi lo : Int64} {q : Nat} (h : 64 ≤ q) (h2 : q < 128) : RG hi lo q = tb lo (127 - q) := by unfold RG rgb; rw [decide_eq_true h2, if_neg (by omega), Bool.true_and]
theorem RG_o {hi lo : Int64} {q : Nat} (h : 128 ≤ q) : RG hi lo q = false := by unfold RG; rw [decide_eq_false (by omega), Bool.false_and]
theorem RG_st (hs ls : Nat → Int64) (hi lo : Int64) (b q : Nat) : RG (stH hs hi lo b) (stL ls hi lo b) q = (RG hi lo (q + 8) ^^ RG (hs (lvs hi b)) (ls (lvs hi b)) q) := by
  by_cases h1 : q < 64
  · rw [RG_h h1, RG_h h1]
    unfold stH
    rw [tb_xor, tb_or, tb_shl _ (by decide) (by omega), tb_shr _ (by decide)]
    congr 1
    by_cases h2 : q < 56
    · rw [RG_h (by omega), decide_eq_true (by omega), Bool.true_and, tb_hi (x := lo) (by omega), Bool.or_false, show 63 - q - 8 = 63 - (q + 8) by omega]
    · rw [RG_l (by omega) (by omega), decide_eq_false (by omega), Bool.false_and, Bool.false_or, show 56 + (63 - q) = 127 - (q + 8) by omega]
  · by_cases h3 : q < 128
    · rw [RG_l (by omega) h3, RG_l (by omega) h3]
      unfold stL
      rw [tb_xor, tb_shl _ (by decide) (by omega)]
      congr 1
      by_cases h2 : q < 120
      · rw [RG_l (by omega) (by omega), decide_eq_true (by omega), Bool.true_and, show 127 - q - 8 = 127 - (q + 8) by omega]
      · rw [RG_o (by omega), decide_eq_false (by omega), Bool.false_and]
    · rw [RG_o (by omega), RG_o (by omega), RG_o (by omega)]; rfl
theorem neg_tb (x : Int64) : x < 0 ↔ tb x 63 = true := by
  have h := uN_lt x
  rw [Int64.lt_iff_toInt_lt, uN_int, show (0 : Int64).toInt = 0 from rfl]
  show _ ↔ (uN x).testBit 63 = true
  rw [Nat.testBit_eq_decide_div_mod_eq, decide_eq_true_iff]
  split <;> omega
theorem RG_sh (hP lP hi lo : Int64) (q : Nat) : RG (shH hP hi lo) (shL lP hi lo) q = (RG hi lo (q + 1) ^^ (RG hi lo 0 && RG hP lP q)) := by
  have e0 : RG hi lo 0 = tb hi 63 := RG_h (by decide)
  rw [e0]
  by_cases h1 : q < 64
  · rw [RG_h h1, RG_h h1]
    have e1 : tb ((hi <<< ((nI 1).toInt64 &&& 63)) ||| ((lo.toUInt64 >>> ((nI 63).toInt64.toUInt64 &&& Int64.toUInt64 63)).toInt64)) (63 - q) = RG hi lo (q + 1) := by
      rw [tb_or, tb_shl _ (by decide) (by omega), tb_shr _ (by decide)]
      by_cases h2 : q < 63
      · rw [RG_h (by omega), decide_eq_true (by omega), Bool.true_and, tb_hi (x := lo) (by omega), Bool.or_false, show 63 - q - 1 = 63 - (q + 1) by omega]
      · rw [RG_l (by omega) (by omega), decide_eq_false (by omega), Bool.false_and, Bool.false_or, show 63 + (63 - q) = 127 - (q + 1) by omega]
    unfold shH
    by_cases hn : hi < 0
    · rw [if_pos hn, tb_xor, e1, (neg_tb hi).mp hn, Bool.true_and]
    · rw [if_neg hn, e1, Bool.eq_false_iff.mpr (fun z => hn ((neg_tb hi).mpr z)), Bool.false_and, Bool.xor_false]
  · by_cases h3 : q < 128
    · rw [RG_l (by omega) h3, RG_l (by omega) h3]
      have e1 : tb (lo <<< ((nI 1).toInt64 &&& 63)) (127 - q) = RG hi lo (q + 1) := by
        rw [tb_shl _ (by decide) (by omega)]
        by_cases h2 : q < 127
        · rw [RG_l (by omega) (by omega), decide_eq_true (by omega), Bool.true_and, show 127 - q - 1 = 127 - (q + 1) by omega]
        · rw [RG_o (by omega), decide_eq_false (by omega), Bool.false_and]
      unfold shL
      by_cases hn : hi < 0
      · rw [if_pos hn, tb_xor, e1, (neg_tb hi).mp hn, Bool.true_and]
      · rw [if_neg hn, e1, Bool.eq_false_iff.mpr (fun z => hn ((neg_tb hi).mpr z)), Bool.false_and, Bool.xor_false]
    · rw [RG_o (by omega), RG_o (by omega), RG_o (by omega)]; cases tb hi 63 <;> rfl
theorem tb_b1 (b : Bool) {k j : Nat} (hk : k < 64) (hj : j < 64) : tb ((nI b.toNat).toInt64 <<< ((nI k).toInt64 &&& 63)) j = (b && decide (j = k)) := by
  have e : ∀ i, tb (nI b.toNat).toInt64 i = (b && decide (i = 0)) := fun i => by
    show (uN (nI b.toNat).toInt64).testBit i = _
    cases b with
    | false => rw [show uN (nI false.toNat).toInt64 = 0 by decide, Nat.zero_testBit]; rfl
    | true =>
      rw [show uN (nI true.toNat).toInt64 = 2 ^ 0 by decide, Nat.testBit_two_pow, Bool.true_and]
      exact decide_eq_decide.mpr (by omega)
  rw [tb_shl _ hk hj, e]
  cases b with
  | false => rw [Bool.false_and, Bool.and_false, Bool.false_and]
  | true =>
    rw [Bool.true_and, Bool.true_and, ← Bool.decide_and]
    exact decide_eq_decide.mpr (by omega)
theorem ldH_bit {pq : Nat → Bool} {r q : Nat} (hq : q < 64) : ∀ n, tb (ldH pq r n) (63 - q) = (decide (q < n) && pq (r - 1 - q))
  | 0 => by show tb 0 _ = _; rw [tb_0, decide_eq_false (Nat.not_lt_zero q), Bool.false_and]
  | n + 1 => by
    have ih := ldH_bit (pq := pq) (r := r) hq n
    unfold ldH
    by_cases hn : n < 64
    · rw [if_pos hn, tb_or, tb_b1 _ (by omega) (by omega), ih]
      by_cases h : q = n
      · rw [h, decide_eq_false (Nat.lt_irrefl n), decide_eq_true (Nat.lt_succ_self n), decide_eq_true rfl, Bool.false_and, Bool.false_or, Bool.and_true, Bool.true_and]
      · rw [decide_eq_false (show ¬ 63 - q = 63 - n by omega), Bool.and_false, Bool.or_false]
        congr 1
        exact decide_eq_decide.mpr (by omega)
    · rw [if_neg hn, ih]
      congr 1
      exact decide_eq_decide.mpr (by omega)
theorem ldL_bit {pq : Nat → Bool} {r q : Nat} (hq : 64 ≤ q) (hq2 : q < 128) : ∀ n, n ≤ 128 → tb (ldL pq r n) (127 - q) = (decide (q < n) && pq (r - 1 - q))
  | 0, _ => by show tb 0 _ = _; rw [tb_0, decide_eq_false (Nat.not_lt_zero q), Bool.false_and]
  | n + 1, hn1 => by
    have ih := ldL_bit (pq := pq) (r := r) hq hq2 n (by omega)
    unfold ldL
    by_cases hn : n < 64
    · rw [if_pos hn, ih]
      rw [decide_eq_false (show ¬ q < n by omega), decide_eq_false (show ¬ q < n + 1 by omega)]
    · rw [if_neg hn, tb_or, tb_b1 _ (by omega) (by omega), ih]
      by_cases h : q = n
      · rw [h, decide_eq_false (Nat.lt_irrefl n), decide_eq_true (Nat.lt_succ_self n), decide_eq_true rfl, Bool.false_and, Bool.false_or, Bool.and_true, Bool.true_and]
      · rw [decide_eq_false (show ¬ 127 - q = 127 - n by omega), Bool.and_false, Bool.or_false]
        congr 1
        exact decide_eq_decide.mpr (by omega)
/-- the polynomial in the register's order -/
def pqr (pq : Nat → Bool) (r q : Nat) : Bool := decide (q < r) && pq (r - 1 - q)
theorem RG_ld {pq : Nat → Bool} {r : Nat} (hr : r ≤ 128) (q : Nat) : RG (ldH pq r r) (ldL pq r r) q = pqr pq r q := by
  unfold pqr
  by_cases h1 : q < 64
  · rw [RG_h h1, ldH_bit h1]
  · by_cases h3 : q < 128
    · rw [RG_l (by omega) h3, ldL_bit (by omega) h3 r hr]
    · rw [RG_o (by omega), decide_eq_false (show ¬ q < r by omega), Bool.false_and]
def xsb (f : Nat → Bool) : Nat → Bool
  | 0 => false
  | n + 1 => xsb f n ^^ f n
theorem xsb_cg {f g : Nat → Bool} : ∀ n, (∀ j, j < n → f j = g j) → xsb f n = xsb g n
  | 0, _ => rfl
  | n + 1, h => by show (xsb f n ^^ f n) = (xsb g n ^^ g n); rw [xsb_cg n (fun j hj => h j (by omega)), h n (by omega)]
theorem xsb_cons {f : Nat → Bool} : ∀ n, xsb f (n + 1) = (f 0 ^^ xsb (fun j => f (j + 1)) n)
  | 0 => by show (false ^^ f 0) = (f 0 ^^ false); cases f 0 <;> rfl
  | n + 1 => by
    show (xsb f (n + 1) ^^ f (n + 1)) = (f 0 ^^ (xsb (fun j => f (j + 1)) n ^^ f (n + 1)))
    rw [xsb_cons n, Bool.xor_assoc]
theorem xsb_rev {f : Nat → Bool} : ∀ n, xsb (fun j => f (n - 1 - j)) n = xsb f n
  | 0 => rfl
  | n + 1 => by
    rw [xsb_cons, xsb_cg (f := fun j => f (n + 1 - 1 - (j + 1))) (g := fun j => f (n - 1 - j)) n (fun j hj => by rw [show n + 1 - 1 - (j + 1) = n - 1 - j by omega]), xsb_rev n]
    show (f (n + 1 - 1 - 0) ^^ xsb f n) = (xsb f n ^^ f n)
    rw [show n + 1 - 1 - 0 = n by omega, Bool.xor_comm]
theorem xsb_xor {f g : Nat → Bool} : ∀ n, xsb (fun j => f j ^^ g j) n = (xsb f n ^^ xsb g n)
  | 0 => rfl
  | n + 1 => by
    show (xsb (fun j => f j ^^ g j) n ^^ (f n ^^ g n)) = ((xsb f n ^^ f n) ^^ (xsb g n ^^ g n))
    rw [xsb_xor n]
    cases xsb f n <;> cases xsb g n <;> cases f n <;> cases g n <;> rfl
theorem xsb_and {c : Bool} {f : Nat → Bool} : ∀ n, xsb (fun j => f j && c) n = (xsb f n && c)
  | 0 => by cases c <;> rfl
  | n + 1 => by
    show (xsb (fun j => f j && c) n ^^ (f n && c)) = ((xsb f n ^^ f n) && c)
    rw [xsb_and n]
    cases xsb f n <;> cases f n <;> cases c <;> rfl
def Tq (P B : Nat → Bool) : Nat → Bool := fun q => B (q + 1) ^^ (B 0 && P q)
def TP (P B : Nat → Bool) : Nat → (Nat → Bool)
  | 0 => B
  | k + 1 => Tq P (TP P B k)
def bstp (P B : Nat → Bool) (i : Bool) : Nat → Bool := fun q => B (q + 1) ^^ ((B 0 ^^ i) && P q)
def bsts (P : Nat → Bool) (inp B : Nat → Bool) : Nat → (Nat → Bool)
  | 0 => B
  | k + 1 => bstp P (bsts P inp B k) (inp k)
theorem TP_in {P inp B : Nat → Bool} : ∀ k, k ≤ 8 → ∀ q, TP P (fun q => B q ^^ (decide (q < 8) && inp q)) k q = (bsts P inp B k q ^^ (decide (q + k < 8) && inp (q + k)))
  | 0, _, q => rfl
  | k + 1, hk, q => by
    show (TP P (fun q => B q ^^ (decide (q < 8) && inp q)) k (q + 1) ^^ (TP P (fun q => B q ^^ (decide (q < 8) && inp q)) k 0 && P q)) = ((bsts P inp B k (q + 1) ^^ ((bsts P inp B k 0 ^^ inp k) && P q)) ^^ (decide (q + (k + 1) < 8) && inp (q + (k + 1))))
    rw [TP_in k (by omega) (q + 1), TP_in k (by omega) 0, Nat.zero_add, decide_eq_true (show k < 8 by omega), show q + 1 + k = q + (k + 1) by omega, Bool.true_and]
    cases bsts P inp B k (q + 1) <;> cases ((bsts P inp B k 0 ^^ inp k) && P q) <;> cases (decide (q + (k + 1) < 8) && inp (q + (k + 1))) <;> rfl
theorem TP_out {P C : Nat → Bool} : ∀ k q, TP P C k q = (C (q + k) ^^ xsb (fun j => C j && TP P P (k - 1 - j) q) k)
  | 0, q => by show C q = (C (q + 0) ^^ false); rw [Bool.xor_false]; rfl
  | k + 1, q => by
    show (TP P C k (q + 1) ^^ (TP P C k 0 && P q)) = (C (q + (k + 1)) ^^ (xsb (fun j => C j && TP P P (k + 1 - 1 - j) q) k ^^ (C k && TP P P (k + 1 - 1 - k) q)))
    rw [TP_out k (q + 1), TP_out k 0, Nat.zero_add, show k + 1 - 1 - k = 0 by omega, show q + 1 + k = q + (k + 1) by omega]
    have e : xsb (fun j => C j && TP P P (k + 1 - 1 - j) q) k = (xsb (fun j => C j && TP P P (k - 1 - j) (q + 1)) k ^^ (xsb (fun j => C j && TP P P (k - 1 - j) 0) k && P q)) := by
      rw [← xsb_and, ← xsb_xor]
      refine xsb_cg k (fun j hj => ?_)
      rw [show k + 1 - 1 - j = (k - 1 - j) + 1 by omega]
      show (C j && (TP P P (k - 1 - j) (q + 1) ^^ (TP P P (k - 1 - j) 0 && P q))) = _
      cases C j <;> simp
    rw [e]
    show _ = (C (q + (k + 1)) ^^ ((xsb (fun j => C j && TP P P (k - 1 - j) (q + 1)) k ^^ (xsb (fun j => C j && TP P P (k - 1 - j) 0) k && P q)) ^^ (C k && P q)))
    cases C (q + (k + 1)) <;> cases xsb (fun j => C j && TP P P (k - 1 - j) (q + 1)) k <;> cases xsb (fun j => C j && TP P P (k - 1 - j) 0) k <;> cases C k <;> cases P q <;> rfl
theorem bsts_8 {P inp B : Nat → Bool} (q : Nat) : bsts P inp B 8 q = (B (q + 8) ^^ xsb (fun j => (B j ^^ inp j) && TP P P (7 - j) q) 8) := by
  have h1 := TP_in (P := P) (inp := inp) (B := B) 8 (Nat.le_refl _) q
  rw [decide_eq_false (show ¬ q + 8 < 8 by omega), Bool.false_and, Bool.xor_false] at h1
  rw [← h1, TP_out, decide_eq_false (show ¬ q + 8 < 8 by omega), Bool.false_and, Bool.xor_false]
  congr 1
theorem hin_at {f : Nat → Int64} {base : Nat} {x : Int64} : ∀ n, n ≤ base → ∀ i, hin f base x n i = if base ≤ i ∧ i < base + n then x ^^^ f (i - base) else f i
  | 0, _, i => by rw [if_neg (by omega)]; rfl
  | n + 1, hn, i => by
    show vp_updL (hin f base x n) (base + n) (x ^^^ hin f base x n n) i = _
    unfold vp_updL
    by_cases h : i = base + n
    · rw [if_pos h, if_pos (by omega), hin_at n (by omega), if_neg (by omega), h, show base + n - base = n by omega]
    · rw [if_neg h, hin_at n (by omega)]
      by_cases h2 : base ≤ i ∧ i < base + n
      · rw [if_pos h2, if_pos (by omega)]
      · rw [if_neg h2, if_neg (by omega)]
theorem RG_rgs {P : Nat → Bool} {hP lP : Int64} (hR : ∀ q, RG hP lP q = P q) : ∀ b q, RG (rgs hP lP b).1 (rgs hP lP b).2 q = TP P P b q
  | 0, q => hR q
  | b + 1, q => by
    show RG (shH hP (rgs hP lP b).1 (rgs hP lP b).2) (shL lP (rgs hP lP b).1 (rgs hP lP b).2) q = Tq P (TP P P b) q
    rw [RG_sh, RG_rgs hR b, RG_rgs hR b, hR]
    rfl
theorem RG_0 (q : Nat) : RG 0 0 q = false := by
  by_cases h1 : q < 64
  · rw [RG_h h1, tb_0]
  · by_cases h3 : q < 128
    · rw [RG_l (by omega) h3, tb_0]
    · exact RG_o (by omega)
theorem RG_xor (a b c d : Int64) (q : Nat) : RG (a ^^^ b) (c ^^^ d) q = (RG a c q ^^ RG b d q) := by
  by_cases h1 : q < 64
  · rw [RG_h h1, RG_h h1, RG_h h1, tb_xor]
  · by_cases h3 : q < 128
    · rw [RG_l (by omega) h3, RG_l (by omega) h3, RG_l (by omega) h3, tb_xor]
    · rw [RG_o (by omega), RG_o (by omega), RG_o (by omega)]; rfl
theorem RG_stp {P : Nat → Bool} {hs ls : Nat → Int64} {hP lP : Int64} (hR : ∀ q, RG hP lP q = P q) (h0 : hs 0 = 0) (l0 : ls 0 = 0) : ∀ k x q, x < 2 ^ k → RG (stpH hs hP lP k x) (stpL ls hP lP k x) q = xsb (fun b => x.testBit b && TP P P b q) k
  | 0, x, q, hx => by
    have e : x = 0 := by omega
    subst e
    show RG (hs 0) (ls 0) q = false
    rw [h0, l0, RG_0]
  | k + 1, x, q, hx => by
    have ep : 2 ^ (k + 1) = 2 ^ k + 2 ^ k := by rw [Nat.pow_succ]; omega
    show RG (hin (stpH hs hP lP k) (2 ^ k) (rgs hP lP k).1 (2 ^ k) x) (hin (stpL ls hP lP k) (2 ^ k) (rgs hP lP k).2 (2 ^ k) x) q = (xsb (fun b => x.testBit b && TP P P b q) k ^^ (x.testBit k && TP P P k q))
    rw [hin_at _ (Nat.le_refl _), hin_at _ (Nat.le_refl _)]
    by_cases hk : 2 ^ k ≤ x
    · rw [if_pos ⟨hk, by omega⟩, if_pos ⟨hk, by omega⟩, RG_xor, RG_rgs hR, RG_stp hR h0 l0 k (x - 2 ^ k) q (by omega)]
      have hm : x - 2 ^ k = x % 2 ^ k := by
        rw [Nat.mod_eq_sub_mod hk, Nat.mod_eq_of_lt (by omega)]
      have hb : x.testBit k = true := by
        rw [Nat.testBit_eq_decide_div_mod_eq, decide_eq_true_iff, show x / 2 ^ k = 1 by rw [Nat.div_eq_iff (Nat.two_pow_pos k)]; omega]
      rw [hb, Bool.true_and, Bool.xor_comm]
      congr 1
      refine xsb_cg k (fun b hb => ?_)
      rw [hm, Nat.testBit_mod_two_pow, decide_eq_true hb, Bool.true_and]
    · rw [if_neg (by omega), if_neg (by omega), RG_stp hR h0 l0 k x q (by omega), Nat.testBit_lt_two_pow (show x < 2 ^ k by omega), Bool.false_and, Bool.xor_false]
theorem lvs_bit (hi lo : Int64) {b j : Nat} (hj : j < 8) : (lvs hi b).testBit (7 - j) = (RG hi lo j ^^ !(b.testBit (7 - j))) := by
  unfold lvs
  rw [Nat.testBit_xor, Nat.testBit_xor, Nat.testBit_div_two_pow, show (255 : Nat) = 2 ^ 8 - 1 from rfl, Nat.testBit_two_pow_sub_one, decide_eq_true (show 7 - j < 8 by omega), RG_h (by omega), show 7 - j + 56 = 63 - j by omega]
  show (tb hi (63 - j) ^^ true ^^ b.testBit (7 - j)) = _
  cases tb hi (63 - j) <;> cases b.testBit (7 - j) <;> rfl
theorem reg_byte {P : Nat → Bool} {hs ls : Nat → Int64} {hP lP : Int64} (hR : ∀ q, RG hP lP q = P q) (h0 : hs 0 = 0) (l0 : ls 0 = 0) {hi lo : Int64} {b : Nat} (hb : b < 256) (q : Nat) : RG (stH (stpH hs hP lP 8) hi lo b) (stL (stpL ls hP lP 8) hi lo b) q = bsts P (fun j => !(b.testBit (7 - j))) (RG hi lo) 8 q := by
  rw [RG_st, RG_stp hR h0 l0 8 _ q (lvs_lt hi hb), bsts_8, ← xsb_rev 8]
  congr 1
  refine xsb_cg 8 (fun j hj => ?_)
  rw [show 8 - 1 - j = 7 - j by omega, lvs_bit hi lo hj]
/-- the register, bit by bit -/
def brg (P w : Nat → Bool) : Nat → (Nat → Bool)
  | 0 => fun _ => false
  | k + 1 => bstp P (brg P w k) (!(w k))
theorem bsts_brg {P w : Nat → Bool} {k : Nat} : ∀ j, bsts P (fun j => !(w (k + j))) (brg P w k) j = brg P w (k + j)
  | 0 => rfl
  | j + 1 => by
    show bstp P (bsts P (fun j => !(w (k + j))) (brg P w k) j) (!(w (k + j))) = bstp P (brg P w (k + j)) (!(w (k + j)))
    rw [bsts_brg j]
theorem bsts_cg {P inp inp' B : Nat → Bool} : ∀ k, (∀ j, j < k → inp j = inp' j) → bsts P inp B k = bsts P inp' B k
  | 0, _ => rfl
  | k + 1, h => by
    show bstp P (bsts P inp B k) (inp k) = bstp P (bsts P inp' B k) (inp' k)
    rw [bsts_cg k (fun j hj => h j (by omega)), h k (by omega)]
theorem RG_tkd {P : Nat → Bool} {hs ls : Nat → Int64} {hP lP : Int64} (hR : ∀ q, RG hP lP q = P q) (h0 : hs 0 = 0) (l0 : ls 0 = 0) (f : Nat → Int64) : ∀ i, RG (tkd (stpH hs hP lP 8) (stpL ls hP lP 8) f i).1 (tkd (stpH hs hP lP 8) (stpL ls hP lP 8) f i).2 = brg P (rb f) (8 * i)
  | 0 => funext (fun q => RG_0 q)
  | i + 1 => by
    funext q
    show RG (stH _ (tkd (stpH hs hP lP 8) (stpL ls hP lP 8) f i).1 (tkd (stpH hs hP lP 8) (stpL ls hP lP 8) f i).2 (rby f i)) (stL _ _ _ (rby f i)) q = _
    rw [reg_byte hR h0 l0 (rby_lt f i), RG_tkd hR h0 l0 f i, show 8 * (i + 1) = 8 * i + 8 by omega, ← bsts_brg 8]
    rw [bsts_cg 8 (fun j hj => by rw [rby_bit f i hj])]
theorem brg_o {pq w : Nat → Bool} {r : Nat} : ∀ k q, r ≤ q → brg (pqr pq r) w k q = false
  | 0, q, _ => rfl
  | k + 1, q, h => by
    show (brg (pqr pq r) w k (q + 1) ^^ ((brg (pqr pq r) w k 0 ^^ !(w k)) && pqr pq r q)) = false
    rw [brg_o k (q + 1) (by omega), show pqr pq r q = false by unfold pqr; rw [decide_eq_false (by omega), Bool.false_and], Bool.and_false]
    rfl
theorem cle_brg {bu : Nat → Nat} {gg le w : Nat → Bool} {r : Nat} (hr : 1 ≤ r) (hr2 : r ≤ 110) : ∀ k, (∀ j, j < k → w j = dbit bu j) → ∀ j, j < r → cle bu gg le r k j = brg (pqr gg r) w k (r - 1 - j)
  | 0, _, j, hj => by show bst false le 110 j = false; unfold bst; rw [if_pos (by omega)]
  | k + 1, hw, j, hj => by
    have ih := cle_brg (gg := gg) (le := le) hr hr2 k (fun j hj => hw j (by omega))
    show lst (cle bu gg le r k) gg (cle bu gg le r k (r - 1) ^^ !(dbit bu k)) r j = (brg (pqr gg r) w k (r - 1 - j + 1) ^^ ((brg (pqr gg r) w k 0 ^^ !(w k)) && pqr gg r (r - 1 - j)))
    have e1 : cle bu gg le r k (r - 1) = brg (pqr gg r) w k 0 := by rw [ih (r - 1) (by omega), Nat.sub_self]
    have e2 : pqr gg r (r - 1 - j) = gg j := by unfold pqr; rw [decide_eq_true (by omega), Bool.true_and, show r - 1 - (r - 1 - j) = j by omega]
    rw [e1, e2, hw k (by omega)]
    unfold lst bup lsk
    by_cases h0 : j = 0
    · rw [if_pos h0, h0, show r - 1 - 0 + 1 = r by omega, brg_o k r (Nat.le_refl _), Bool.false_xor]
    · rw [if_neg h0, if_pos (by omega), ih (j - 1) (by omega), show r - 1 - (j - 1) = r - 1 - j + 1 by omega]
