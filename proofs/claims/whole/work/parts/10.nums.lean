/-! laws of numbers for the methods: remainders, bits of longs -/
theorem nI_m1 (i : Nat) (h : 0 < i) : nI i - nI 1 = nI (i - 1) := pk_sub h
theorem i32_ofInt_of {x : Int32} {z : Int} (h : x.toInt = z) : x = Int32.ofInt z := by rw [← h, Int32.ofInt_toInt]
theorem nI_toI {x : Int32} {n : Nat} (h : x.toInt = (n : Int)) (hn : n < 2 ^ 31) : x = nI n := Int32.toInt_inj.mp (by rw [h, nI_toInt hn])
theorem i32_neg_iff (x : Int32) : x < 0 ↔ x.toInt < 0 := by rw [Int32.lt_iff_toInt_lt]; rfl
theorem i32_ge_iff (x : Int32) : 0 ≤ x ↔ 0 ≤ x.toInt := by rw [Int32.le_iff_toInt_le]; rfl
theorem i32_msb (x : Int32) : x.toBitVec.msb = decide (x.toInt < 0) := by
  rw [BitVec.msb_eq_toInt]; rfl
theorem i32_xor_ge (r y : Int32) (hy : 0 < y.toInt) : 0 ≤ r ^^^ y ↔ 0 ≤ r.toInt := by
  rw [i32_ge_iff]
  have h1 := i32_msb (r ^^^ y)
  rw [Int32.toBitVec_xor, BitVec.msb_xor, i32_msb r, i32_msb y] at h1
  have hy2 : ¬ y.toInt < 0 := by omega
  simp only [hy2, decide_false, Bool.xor_false] at h1
  have h2 : (r.toInt < 0) ↔ ((r ^^^ y).toInt < 0) := by
    constructor <;> intro h <;> simp_all
  omega
/-- the remainder as the machine has it -/
theorem i32_rem_toInt (x y : Int32) (hy : 0 < y.toInt) : (x - x / y * y).toInt = x.toInt.tmod y.toInt := by
  have hx1 := Int32.le_toInt x
  have hx2 := Int32.toInt_lt x
  have hy2 := Int32.toInt_lt y
  have hd : (x / y).toInt = x.toInt.tdiv y.toInt := by
    rw [Int32.toInt_div, Int.bmod_eq_of_le]
    · have h3 : -(2 ^ 31 : Int) ≤ x.toInt.tdiv y.toInt := by
        have := Int.natAbs_tdiv_le_natAbs x.toInt y.toInt
        omega
      omega
    · have h4 : x.toInt.tdiv y.toInt < 2 ^ 31 := by
        rcases Int.lt_or_le x.toInt 0 with h | h
        · have h9 := Int.tdiv_nonneg (a := -x.toInt) (b := y.toInt) (by omega) (by omega)
          rw [Int.neg_tdiv] at h9
          omega
        · have := Int.tdiv_le_self y.toInt h
          omega
      omega
  have he := Int.tmod_add_mul_tdiv x.toInt y.toInt
  have hm1 := Int.lt_tmod_of_pos x.toInt hy
  have hm2 := Int.tmod_lt_of_pos x.toInt hy
  have hmul : (x / y * y).toInt = x.toInt.tdiv y.toInt * y.toInt := by
    rw [Int32.toInt_mul, hd, Int.bmod_eq_of_le]
    · rw [Int.mul_comm]
      rcases Int.lt_or_le x.toInt 0 with h | h
      · have h9 := Int.tmod_nonneg (a := -x.toInt) y.toInt (by omega)
        rw [Int.neg_tmod] at h9
        omega
      · have := Int.tmod_nonneg y.toInt h
        omega
    · rw [Int.mul_comm]
      rcases Int.lt_or_le x.toInt 0 with h | h
      · have h9 := Int.tmod_nonneg (a := -x.toInt) y.toInt (by omega)
        rw [Int.neg_tmod] at h9
        omega
      · have := Int.tmod_nonneg y.toInt h
        omega
  rw [Int32.toInt_sub, hmul, Int.bmod_eq_of_le]
  · rw [Int.mul_comm]; omega
  · rw [Int.mul_comm]; omega
  · rw [Int.mul_comm]; omega
def red (i : Int32) (n : Nat) : Nat := (i.toInt % (n : Int)).toNat
theorem red_lt (i : Int32) {n : Nat} (h : 0 < n) : red i n < n := by
  unfold red
  have h1 := Int.emod_nonneg i.toInt (by omega : (n : Int) ≠ 0)
  have h2 := Int.emod_lt_of_pos i.toInt (by omega : (0 : Int) < n)
  omega
theorem fm_pos {i : Int32} {n : Nat} (h0 : 0 < n) (hn : n < 2 ^ 31) (h : 0 ≤ (i - i / nI n * nI n).toInt) : i - i / nI n * nI n = nI (red i n) := by
  have hy := nI_toInt hn
  have h1 := i32_rem_toInt i (nI n) (by rw [hy]; omega)
  rw [hy] at h1
  have hl := red_lt i h0
  refine nI_toI ?_ (by omega)
  have h3 := Int.emod_nonneg i.toInt (by omega : (n : Int) ≠ 0)
  have h4 : i.toInt.tmod n = i.toInt % n := by
    rw [Int.tmod_eq_emod]
    rw [h1, Int.tmod_eq_emod] at h
    split
    · omega
    · rename_i hc
      rw [if_neg hc] at h
      have := Int.emod_lt_of_pos i.toInt (by omega : (0 : Int) < n)
      omega
  rw [h1, h4]
  unfold red; omega
theorem fm_neg {i : Int32} {n : Nat} (h0 : 0 < n) (hn : n < 2 ^ 31) (h : (i - i / nI n * nI n).toInt < 0) : i - i / nI n * nI n + nI n = nI (red i n) := by
  have hy := nI_toInt hn
  have h1 := i32_rem_toInt i (nI n) (by rw [hy]; omega)
  rw [hy] at h1
  have hl := red_lt i h0
  refine nI_toI ?_ (by omega)
  have h3 := Int.emod_nonneg i.toInt (by omega : (n : Int) ≠ 0)
  have h4 : i.toInt.tmod n = i.toInt % n - n := by
    rw [Int.tmod_eq_emod]
    rw [h1, Int.tmod_eq_emod] at h
    split
    · rename_i hc
      rw [if_pos hc] at h
      omega
    · omega
  have h5 := Int.lt_tmod_of_pos i.toInt (by omega : (0 : Int) < n)
  rw [Int32.toInt_add, h1, hy, Int.bmod_eq_of_le]
  · rw [h4]; unfold red; omega
  · omega
  · omega
