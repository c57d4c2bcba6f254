/-! LONGS and rows, bit by bit -/
abbrev tb (x : Int64) (j : Nat) : Bool := (uN x).testBit j
theorem uN_lN (n : Nat) : uN (lN n) = n % 2 ^ 64 := rfl
theorem lN_uN (x : Int64) : lN (uN x) = x := uN_inj (by rw [uN_lN]; exact Nat.mod_eq_of_lt (uN_lt x))
theorem tb_hi {x : Int64} {j : Nat} (h : 64 ≤ j) : tb x j = false := Nat.testBit_lt_two_pow (Nat.lt_of_lt_of_le (uN_lt x) (Nat.pow_le_pow_right (n := 2) (i := 64) (by decide) h))
theorem tb_xor (x y : Int64) (j : Nat) : tb (x ^^^ y) j = (tb x j ^^ tb y j) := by
  show (uN (x ^^^ y)).testBit j = _
  rw [show uN (x ^^^ y) = uN x ^^^ uN y from UInt64.toNat_xor _ _, Nat.testBit_xor]
theorem tb_or (x y : Int64) (j : Nat) : tb (x ||| y) j = (tb x j || tb y j) := by
  show (uN (x ||| y)).testBit j = _
  rw [show uN (x ||| y) = uN x ||| uN y from UInt64.toNat_or _ _, Nat.testBit_or]
theorem tb_and (x y : Int64) (j : Nat) : tb (x &&& y) j = (tb x j && tb y j) := by
  show (uN (x &&& y)).testBit j = _
  rw [uN_and, Nat.testBit_and]
theorem tb_shl (x : Int64) {k : Nat} (hk : k < 64) {j : Nat} (hj : j < 64) : tb (x <<< ((nI k).toInt64 &&& 63)) j = (decide (k ≤ j) && tb x (j - k)) := by
  show (uN (x <<< ((nI k).toInt64 &&& 63))).testBit j = _
  conv => lhs; rw [← lN_uN x]
  rw [wb_shl _ hk, uN_lN, Nat.testBit_mod_two_pow, ← Nat.shiftLeft_eq, Nat.testBit_shiftLeft, decide_eq_true hj, Bool.true_and]
theorem tb_shr (x : Int64) {k : Nat} (hk : k < 64) (j : Nat) : tb ((x.toUInt64 >>> ((nI k).toInt64.toUInt64 &&& Int64.toUInt64 63)).toInt64) j = tb x (k + j) := by
  show (uN _).testBit j = _
  rw [uN_sk x hk, Nat.testBit_div_two_pow, Nat.add_comm]
theorem tb_m1 {j : Nat} (hj : j < 64) : tb (-1) j = true := by
  show (uN (-1)).testBit j = true
  rw [show uN (-1) = 2 ^ 64 - 1 by decide, Nat.testBit_two_pow_sub_one, decide_eq_true hj]
theorem tb_0 (j : Nat) : tb 0 j = false := by show (uN 0).testBit j = false; rw [show uN 0 = 0 by decide, Nat.zero_testBit]
theorem tb_not (x : Int64) {j : Nat} (hj : j < 64) : tb (x ^^^ (-1)) j = !(tb x j) := by rw [tb_xor, tb_m1 hj, Bool.xor_true]
theorem tb_bit {k j : Nat} (hk : k < 64) (hj : j < 64) : tb ((1 : Int64) <<< ((nI k).toInt64 &&& 63)) j = decide (j = k) := by
  rw [tb_shl _ hk hj]
  have e : ∀ i, tb 1 i = decide (i = 0) := fun i => by
    show (uN 1).testBit i = _
    rw [show uN 1 = 2 ^ 0 by decide, Nat.testBit_two_pow]
    exact decide_eq_decide.mpr (by omega)
  rw [e, ← Bool.decide_and]
  exact decide_eq_decide.mpr (by omega)
theorem Int64.tb_ext {x y : Int64} (h : ∀ j, j < 64 → tb x j = tb y j) : x = y := uN_inj (Nat.eq_of_testBit_eq (fun j => by
  by_cases hj : j < 64
  · exact h j hj
  · exact (tb_hi (x := x) (by omega)).trans (tb_hi (x := y) (by omega)).symm))
theorem tb_sbit (x : Int64) {k j : Nat} {b : Bool} (hk : k < 64) (hj : j < 64) : tb (sbit x k b) j = if j = k then b else tb x j := by
  unfold sbit
  cases b with
  | true =>
    show tb (x ||| ((1 : Int64) <<< ((nI k).toInt64 &&& 63))) j = _
    rw [tb_or, tb_bit hk hj]
    by_cases h : j = k
    · rw [decide_eq_true h, if_pos h, Bool.or_true]
    · rw [decide_eq_false h, if_neg h, Bool.or_false]
  | false =>
    show tb (x &&& (((1 : Int64) <<< ((nI k).toInt64 &&& 63)) ^^^ (-1))) j = _
    rw [tb_and, tb_not _ hj, tb_bit hk hj]
    by_cases h : j = k
    · rw [decide_eq_true h, if_pos h]; cases tb x j <;> rfl
    · rw [decide_eq_false h, if_neg h]; cases tb x j <;> rfl
theorem rb_set (f : Nat → Int64) (k : Nat) (b : Bool) (j : Nat) : rb (rset f k b) j = if j = k then b else rb f j := by
  unfold rb rset vp_updL
  by_cases h : j / 64 = k / 64
  · rw [if_pos h]
    have := tb_sbit (f (k / 64)) (k := 63 - k % 64) (j := 63 - j % 64) (b := b) (by omega) (by omega)
    refine this.trans ?_
    by_cases h2 : j = k
    · rw [if_pos h2, if_pos (by omega)]
    · rw [if_neg h2, if_neg (by omega), h]
  · rw [if_neg h, if_neg (fun z => h (by rw [z]))]
theorem rby_bit (f : Nat → Int64) (i : Nat) {q : Nat} (hq : q < 8) : (rby f i).testBit (7 - q) = rb f (8 * i + q) := by
  unfold rby rb
  rw [show (256 : Nat) = 2 ^ 8 from rfl, Nat.testBit_mod_two_pow, decide_eq_true (show 7 - q < 8 by omega), Bool.true_and, Nat.testBit_div_two_pow, show (8 * i + q) / 64 = i / 8 by omega, show 7 - q + (56 - 8 * (i % 8)) = 63 - (8 * i + q) % 64 by omega]
theorem rb_by (f : Nat → Int64) (k : Nat) : rb f k = (rby f (k / 8)).testBit (7 - k % 8) := by
  rw [rby_bit f (k / 8) (Nat.mod_lt k (by decide)), Nat.div_add_mod]
theorem tb_sbyt (x : Int64) {k j b : Nat} (hb : b < 256) (hk : k ≤ 56) (hj : j < 64) : tb (sbyt x k b) j = if k ≤ j ∧ j < k + 8 then b.testBit (j - k) else tb x j := by
  unfold sbyt
  have e1 : ∀ i, tb (255 : Int64) i = decide (i < 8) := fun i => by
    show (uN 255).testBit i = _
    rw [show uN 255 = 2 ^ 8 - 1 by decide, Nat.testBit_two_pow_sub_one]
  have e2 : ∀ i, tb (nI b).toInt64 i = b.testBit i := fun i => by
    show (uN (nI b).toInt64).testBit i = _
    rw [nI_l (by omega), uN_lN, Nat.mod_eq_of_lt (by omega)]
  rw [tb_or, tb_and, tb_not _ hj, tb_shl _ (by omega) hj, tb_shl _ (by omega) hj, e1, e2]
  by_cases h1 : k ≤ j
  · rw [decide_eq_true h1, Bool.true_and, Bool.true_and]
    by_cases h2 : j < k + 8
    · rw [if_pos ⟨h1, h2⟩, decide_eq_true (show j - k < 8 by omega)]
      cases tb x j <;> simp
    · rw [if_neg (by omega), decide_eq_false (show ¬ j - k < 8 by omega), Nat.testBit_lt_two_pow (show b < 2 ^ (j - k) from Nat.lt_of_lt_of_le hb (Nat.pow_le_pow_right (n := 2) (i := 8) (by decide) (by omega)))]
      cases tb x j <;> rfl
  · rw [decide_eq_false h1, if_neg (by omega)]
    cases tb x j <;> rfl
theorem rb_setb (f : Nat → Int64) (i : Nat) {b : Nat} (hb : b < 256) (k : Nat) : rb (rsetb f i b) k = if k / 8 = i then b.testBit (7 - k % 8) else rb f k := by
  unfold rb rsetb vp_updL
  by_cases h : k / 64 = i / 8
  · rw [if_pos h]
    refine (tb_sbyt (f (i / 8)) hb (by omega) (by omega)).trans ?_
    by_cases h2 : k / 8 = i
    · rw [if_pos h2, if_pos (by omega), show 63 - k % 64 - (56 - 8 * (i % 8)) = 7 - k % 8 by omega]
    · rw [if_neg h2, if_neg (by omega), h]
  · rw [if_neg h, if_neg (by omega)]
theorem rones_cnt (f : Nat → Int64) : ∀ n, rones f n = cnt (rb f) (64 * n)
  | 0 => rfl
  | n + 1 => by
    show rones f n + pc64 (f n) = _
    rw [rones_cnt f n, show 64 * (n + 1) = 64 * n + 64 by omega, cnt_add]
    congr 1
    unfold pc64
    rw [← cnt_rev 64]
    refine cnt_congr 64 (fun j hj => ?_)
    unfold rb
    rw [show (64 * n + j) / 64 = n by omega, show (64 * n + j) % 64 = j by omega]
theorem rb_xor (f g : Nat → Int64) (k : Nat) : rb (fun j => f j ^^^ g j) k = (rb f k ^^ rb g k) := tb_xor _ _ _
theorem rb_and (f g : Nat → Int64) (k : Nat) : rb (fun j => f j &&& g j) k = (rb f k && rb g k) := tb_and _ _ _
theorem rb_or (f g : Nat → Int64) (k : Nat) : rb (fun j => f j ||| g j) k = (rb f k || rb g k) := tb_or _ _ _
theorem rb_not (f : Nat → Int64) (k : Nat) : rb (fun j => f j ^^^ (-1)) k = !(rb f k) := tb_not _ (by omega)
theorem rb_zero (k : Nat) : rb (fun _ => 0) k = false := tb_0 _
theorem rb_cg {f g : Nat → Int64} {k n : Nat} (hk : k < 64 * n) (h : ∀ j, j < n → f j = g j) : rb f k = rb g k := by unfold rb; rw [h (k / 64) (by omega)]
theorem rb_rwp (f o s : Nat → Int64) {k : Nat} (hk : k < 2176) : rb (rwp f o s 34) k = (rb f k || (rb o k && !(rb s k))) := by
  rw [rb_cg (n := 34) (g := fun j => f j ||| (o j &&& (s j ^^^ (-1)))) (by omega) (fun j hj => by unfold rwp; rw [if_pos hj])]
  rw [rb_or f (fun j => o j &&& (s j ^^^ (-1))), rb_and o (fun j => s j ^^^ (-1)), rb_not]
theorem rb_rpg (f w s : Nat → Int64) {k : Nat} (hk : k < 2176) : rb (rpg f w s 34) k = (rb f k && (rb w k || rb s k)) := by
  rw [rb_cg (n := 34) (g := fun j => f j &&& (w j ||| s j)) (by omega) (fun j hj => by unfold rpg; rw [if_pos hj])]
  rw [rb_and f (fun j => w j ||| s j), rb_or]
theorem rb_rflip (f s : Nat → Int64) (k j : Nat) : rb (rflip f s k) j = if j = k ∧ rb s k = false then !(rb f j) else rb f j := by
  unfold rflip
  cases h : rb s k with
  | true => show rb f j = _; rw [if_neg (by simp)]
  | false =>
    show rb (rset f k (!(rb f k))) j = _
    rw [rb_set]
    by_cases hj : j = k
    · rw [if_pos hj, if_pos ⟨hj, rfl⟩, hj]
    · rw [if_neg hj, if_neg (fun z => hj z.1)]
theorem rb_mfl (z : Bool) (bf kf wf : Nat → Int64) {k : Nat} (hk : k < 2176) : rb (mfl z bf kf wf 34) k = if rb kf k then z else rb bf k := by
  rw [rb_cg (n := 34) (g := fun j => if z then bf j ||| kf j else bf j &&& (kf j ^^^ (-1))) (by omega) (fun j hj => by unfold mfl; rw [if_pos hj])]
  cases z with
  | true =>
    show rb (fun j => bf j ||| kf j) k = _
    rw [rb_or]
    cases rb kf k <;> cases rb bf k <;> rfl
  | false =>
    show rb (fun j => bf j &&& (kf j ^^^ (-1))) k = _
    rw [rb_and bf (fun j => kf j ^^^ (-1)), rb_not]
    cases rb kf k <;> cases rb bf k <;> rfl
theorem rb_rfirst (f : Nat → Int64) (j : Nat) : ∀ n, rb (rfirst f n) j = (decide (j < n) || rb f j)
  | 0 => by show rb f j = _; rw [decide_eq_false (Nat.not_lt_zero j), Bool.false_or]
  | n + 1 => by
    show rb (rset (rfirst f n) n true) j = _
    rw [rb_set, rb_rfirst f j n]
    by_cases h : j = n
    · rw [if_pos h, decide_eq_true (by omega), Bool.true_or]
    · rw [if_neg h]
      congr 1
      exact decide_eq_decide.mpr (by omega)
theorem rb_fbl (f : Nat → Int64) {E : Nat → Bool} : ∀ (n : Nat) (wr : Nat → Nat), (∀ l, l < cnt E n → wr l = nth E n l) → ∀ j, rb (fbl f wr (cnt E n)) j = (rb f j ^^ (decide (j < n) && E j))
  | 0, wr, _, j => by show rb f j = _; rw [decide_eq_false (Nat.not_lt_zero j)]; cases rb f j <;> rfl
  | n + 1, wr, h, j => by
    have ih := rb_fbl f n wr (fun l hl => by
      rw [h l (Nat.lt_of_lt_of_le hl (cnt_mono (E := E) (a := n) 1))]
      exact nth_lo hl)
    cases hE : E n with
    | false =>
      rw [cnt_f hE, ih]
      by_cases hj : j = n
      · rw [hj, hE, Bool.and_false, Bool.and_false]
      · congr 2
        exact decide_eq_decide.mpr (by omega)
    | true =>
      rw [cnt_t hE]
      show rb (rset (fbl f wr (cnt E n)) (wr (cnt E n)) (!(rb (fbl f wr (cnt E n)) (wr (cnt E n))))) j = _
      rw [h (cnt E n) (by rw [cnt_t hE]; omega), nth_hi hE, rb_set, ih, ih]
      by_cases hj : j = n
      · rw [if_pos hj, hj, hE, decide_eq_false (Nat.lt_irrefl n), decide_eq_true (Nat.lt_succ_self n)]
        cases rb f n <;> rfl
      · rw [if_neg hj]
        congr 2
        exact decide_eq_decide.mpr (by omega)
