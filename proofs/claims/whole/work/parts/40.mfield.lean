/-! THE MODEL: small methods, the field -/
def nup (f : Nat → Nat) (k x : Nat) : Nat → Nat := fun j => if j = k then x else f j
def bup (f : Nat → Bool) (k : Nat) (x : Bool) : Nat → Bool := fun j => if j = k then x else f j
theorem nup_eq {f : Nat → Nat} {k x : Nat} : upd (fun j => nI (f j)) k (nI x) = fun j => nI ((nup f k x) j) := by
  funext j
  by_cases h : j = k
  · subst h; rw [pk_us]; unfold nup; rw [if_pos rfl]
  · rw [pk_un h]; unfold nup; rw [if_neg h]
theorem zupi {f : Nat → Bool} {k : Nat} {x : Bool} : upd (fun j => nI (f j).toNat) k (nI x.toNat) = fun j => nI ((bup f k x) j).toNat := by
  funext j
  by_cases h : j = k
  · subst h; rw [pk_us]; unfold bup; rw [if_pos rfl]
  · rw [pk_un h]; unfold bup; rw [if_neg h]
theorem nar_b {x : Bool} : vp_nar .boolean (nI x.toNat) = nI x.toNat := by cases x <;> decide
theorem zup {f : Nat → Bool} {k : Nat} {x : Bool} : upd (fun j => nI (f j).toNat) k (vp_nar .boolean (nI x.toNat)) = fun j => nI ((bup f k x) j).toNat := by rw [nar_b]; exact zupi
/-- between two ints -/
def wi (a b c : Int32) : Bool := decide (b.toInt ≤ a.toInt ∧ a.toInt ≤ c.toInt)
theorem c_within {X : Ev} {M : Hp} {a b c : Int32} : Cl X 0 jX7_within [.int (a), .int (b), .int (c)] M (some (.int (if wi a b c then 1 else 0))) M := by
  refine Cl.of (ls := [some (.int (a)), some (.int (b)), some (.int (c))]) (by decide) rfl (Nat.le_of_ble_eq_true rfl) ?_
  refine x_iload_n dX7_within_0 rfl rfl ?_
  refine x_iload_n dX7_within_1 rfl rfl ?_
  refine x_icmp_lt (tgt := 14) dX7_within_2 (by decide) (fun h2 => ?_) (fun h2 => ?_)
  · refine x_iconst (y := nI 0) dX7_within_14 rfl ?_
    exact x_zreturn_eq dX7_within_15 rfl (by rw [show wi a b c = false from decide_eq_false (fun hz => by first | exact absurd (Int32.lt_iff_toInt_lt.mp h2) (Int.not_lt.mpr hz.1) | exact absurd (Int32.lt_iff_toInt_lt.mp h7) (Int.not_lt.mpr hz.2))]; rfl)
  · refine x_iload_n dX7_within_5 rfl rfl ?_
    refine x_iload_n dX7_within_6 rfl rfl ?_
    refine x_icmp_gt (tgt := 14) dX7_within_7 (by decide) (fun h7 => ?_) (fun h7 => ?_)
    · refine x_iconst (y := nI 0) dX7_within_14 rfl ?_
      exact x_zreturn_eq dX7_within_15 rfl (by rw [show wi a b c = false from decide_eq_false (fun hz => by first | exact absurd (Int32.lt_iff_toInt_lt.mp h2) (Int.not_lt.mpr hz.1) | exact absurd (Int32.lt_iff_toInt_lt.mp h7) (Int.not_lt.mpr hz.2))]; rfl)
    · refine x_iconst (y := nI 1) dX7_within_10 rfl ?_
      refine x_goto (tgt := 15) dX7_within_11 (by decide) ?_
      exact x_zreturn_eq dX7_within_15 rfl (by rw [show wi a b c = true from decide_eq_true ⟨Int32.le_iff_toInt_le.mp (Int32.not_lt.mp h2), Int32.le_iff_toInt_le.mp (Int32.not_lt.mp h7)⟩]; rfl)
theorem wi_l {z : Int32} {n : Nat} (hn : n < 2 ^ 31) : wi z (nI 0) (nI n - nI 1) = inl_ z n := by
  have e : (nI n - nI 1).toInt = (n : Int) - 1 := by
    cases n with
    | zero => decide
    | succ k => rw [pk_sub (by omega), nI_toInt (by omega)]; omega
  unfold wi inl_
  rw [e, nI_toInt (n := 0) (by decide)]
  exact decide_eq_decide.mpr (by omega)
theorem wi_r {z : Int32} {n : Nat} (hn : n < 2 ^ 31) : wi z (nI 0) (nI n) = inr_ z n := by
  unfold wi inr_
  rw [nI_toInt hn, nI_toInt (n := 0) (by decide)]
  exact decide_eq_decide.mpr (by omega)
theorem wi_k {z : Int32} {k n : Nat} (hn : n = k + 1) (hk : k < 2 ^ 30) : wi z (nI 0) (nI k) = inl_ z n := by
  subst hn
  unfold wi inl_
  rw [nI_toInt (n := k) (by omega), nI_toInt (n := 0) (by decide)]
  exact decide_eq_decide.mpr (by omega)
theorem c_isPage {X : Ev} {M : Hp} {z : Int32} : Cl X 1 jX7_isPage [.int (z)] M (some (.int (if inl_ z 16 then 1 else 0))) M := by
  refine Cl.of (ls := [some (.int (z))]) (by decide) rfl (Nat.le_of_ble_eq_true rfl) ?_
  refine x_iload_n dX7_isPage_0 rfl rfl ?_
  refine x_iconst (y := nI 0) dX7_isPage_1 rfl ?_
  refine x_bipush (y := nI 15) dX7_isPage_2 rfl ?_
  refine x_callS (as := [.int (z), .int (nI 0), .int (nI 15)]) dX7_isPage_4 mk_X7_within st_X7_within ml_RX7_68 (by decide) rfl rfl (Nat.le_of_ble_eq_true rfl) (c_within) ?_
  exact x_zreturn_eq dX7_isPage_7 rfl (by rw [wi_k (n := 16) rfl (by decide)])
theorem c_isBit {X : Ev} {M : Hp} {op : Int32} {m t d r n tn : Nat} {me ri lt : Int32} (hO : M[138]? = some (.inr (6, [.int (op), .int (nI m), .int (nI t), .int (nI d), .int (nI r), .int (nI n), .int (nI (2 ^ m - 1)), .ref (139), .ref (140), .ref (141), .ref (142), .ref (143), .ref (144), .ref (145), .ref (146), .ref (147), .int (nI tn), .int (me), .int (ri), .int (lt), .ref (148), .ref (149), .ref (150), .ref (151), .ref (152), .ref (153), .ref (154)]))) (hn31 : n < 2 ^ 31) {z0 z1 : Int32} : Cl X 2 jX7_isBit [.ref (138), .int (z0), .int (z1)] M (some (.int (if inl_ z0 16 && inl_ z1 n then 1 else 0))) M := by
  refine Cl.of (ls := [some (.ref (138)), some (.int (z0)), some (.int (z1))]) (by decide) rfl (Nat.le_of_ble_eq_true rfl) ?_
  refine x_iload_n dX7_isBit_0 rfl rfl ?_
  refine x_callS (as := [.int (z0)]) dX7_isBit_1 mk_X7_isPage st_X7_isPage ml_RX7_142 (by decide) rfl rfl (Nat.le_of_ble_eq_true rfl) (c_isPage) ?_
  refine x_if_eq (tgt := 25) dX7_isBit_4 (by decide) (fun h4 => ?_) (fun h4 => ?_)
  · refine x_iconst (y := nI 0) dX7_isBit_25 rfl ?_
    exact x_zreturn_eq dX7_isBit_26 rfl (by first | (rw [ite0 h4]; rfl) | (rw [ite1 h4, ite0 h18]; rfl))
  · refine x_iload_n dX7_isBit_7 rfl rfl ?_
    refine x_iconst (y := nI 0) dX7_isBit_8 rfl ?_
    refine x_aload_n dX7_isBit_9 rfl rfl ?_
    refine x_getf (ci := 6) (kf := 5) dX7_isBit_10 rfl uX7 (by decide) fl_RX7_113 hO rfl ?_
    refine x_iconst (y := nI 1) dX7_isBit_13 rfl ?_
    refine x_isub dX7_isBit_14 ?_
    refine x_callS (as := [.int (z1), .int (nI 0), .int ((nI n) - (nI 1))]) dX7_isBit_15 mk_X7_within st_X7_within ml_RX7_68 (by decide) rfl rfl (Nat.le_of_ble_eq_true rfl) (c_within) ?_
    refine x_casti (y := if inl_ z1 n then 1 else 0) (by rw [wi_l hn31]) ?_
    refine x_if_eq (tgt := 25) dX7_isBit_18 (by decide) (fun h18 => ?_) (fun h18 => ?_)
    · refine x_iconst (y := nI 0) dX7_isBit_25 rfl ?_
      exact x_zreturn_eq dX7_isBit_26 rfl (by first | (rw [ite0 h4]; rfl) | (rw [ite1 h4, ite0 h18]; rfl))
    · refine x_iconst (y := nI 1) dX7_isBit_21 rfl ?_
      refine x_goto (tgt := 26) dX7_isBit_22 (by decide) ?_
      exact x_zreturn_eq dX7_isBit_26 rfl (by rw [ite1 h4, ite1 h18]; rfl)
theorem c_isNumber {X : Ev} {M : Hp} {op : Int32} {m t d r n tn : Nat} {me ri lt : Int32} (hO : M[138]? = some (.inr (6, [.int (op), .int (nI m), .int (nI t), .int (nI d), .int (nI r), .int (nI n), .int (nI (2 ^ m - 1)), .ref (139), .ref (140), .ref (141), .ref (142), .ref (143), .ref (144), .ref (145), .ref (146), .ref (147), .int (nI tn), .int (me), .int (ri), .int (lt), .ref (148), .ref (149), .ref (150), .ref (151), .ref (152), .ref (153), .ref (154)]))) (hm13 : m ≤ 13) {z : Int32} : Cl X 1 jX7_isNumber [.ref (138), .int (z)] M (some (.int (if inr_ z (2 ^ m - 1) then 1 else 0))) M := by
  have ht : 2 ^ m ≤ 2 ^ 13 := Nat.pow_le_pow_right (by decide) hm13
  refine Cl.of (ls := [some (.ref (138)), some (.int (z))]) (by decide) rfl (Nat.le_of_ble_eq_true rfl) ?_
  refine x_iload_n dX7_isNumber_0 rfl rfl ?_
  refine x_iconst (y := nI 0) dX7_isNumber_1 rfl ?_
  refine x_aload_n dX7_isNumber_2 rfl rfl ?_
  refine x_getf (ci := 6) (kf := 6) dX7_isNumber_3 rfl uX7 (by decide) fl_RX7_64 hO rfl ?_
  refine x_callS (as := [.int (z), .int (nI 0), .int (nI (2 ^ m - 1))]) dX7_isNumber_6 mk_X7_within st_X7_within ml_RX7_68 (by decide) rfl rfl (Nat.le_of_ble_eq_true rfl) (c_within) ?_
  exact x_zreturn_eq dX7_isNumber_9 rfl (by rw [wi_r (by omega)])
theorem c_polynomial {X : Ev} {M : Hp} {m : Nat} (h3 : 3 ≤ m) (h13 : m ≤ 13) : Cl X 0 jX7_polynomial [.int (nI m)] M (some (.int (nI (pn m)))) M := by
  have hz := nI_toInt (n := m) (by omega)
  refine Cl.of (ls := [some (.int (nI m))]) (by decide) rfl (Nat.le_of_ble_eq_true rfl) ?_
  refine x_iload_n dX7_polynomial_0 rfl rfl ?_
  match m, h3, h13 with
  | 3, _, _ =>
    refine x_tabIn (tgt := 56) dX7_polynomial_1 (by decide) (by decide) rfl (by decide) ?_
    refine x_bipush (y := nI 11) dX7_polynomial_56 rfl ?_
    exact x_ireturn_eq dX7_polynomial_58 rfl rfl
  | 4, _, _ =>
    refine x_tabIn (tgt := 59) dX7_polynomial_1 (by decide) (by decide) rfl (by decide) ?_
    refine x_bipush (y := nI 19) dX7_polynomial_59 rfl ?_
    exact x_ireturn_eq dX7_polynomial_61 rfl rfl
  | 5, _, _ =>
    refine x_tabIn (tgt := 62) dX7_polynomial_1 (by decide) (by decide) rfl (by decide) ?_
    refine x_bipush (y := nI 37) dX7_polynomial_62 rfl ?_
    exact x_ireturn_eq dX7_polynomial_64 rfl rfl
  | 6, _, _ =>
    refine x_tabIn (tgt := 65) dX7_polynomial_1 (by decide) (by decide) rfl (by decide) ?_
    refine x_bipush (y := nI 67) dX7_polynomial_65 rfl ?_
    exact x_ireturn_eq dX7_polynomial_67 rfl rfl
  | 7, _, _ =>
    refine x_tabIn (tgt := 68) dX7_polynomial_1 (by decide) (by decide) rfl (by decide) ?_
    refine x_sipush (y := nI 137) dX7_polynomial_68 rfl ?_
    exact x_ireturn_eq dX7_polynomial_71 rfl rfl
  | 8, _, _ =>
    refine x_tabIn (tgt := 72) dX7_polynomial_1 (by decide) (by decide) rfl (by decide) ?_
    refine x_sipush (y := nI 285) dX7_polynomial_72 rfl ?_
    exact x_ireturn_eq dX7_polynomial_75 rfl rfl
  | 9, _, _ =>
    refine x_tabIn (tgt := 76) dX7_polynomial_1 (by decide) (by decide) rfl (by decide) ?_
    refine x_sipush (y := nI 529) dX7_polynomial_76 rfl ?_
    exact x_ireturn_eq dX7_polynomial_79 rfl rfl
  | 10, _, _ =>
    refine x_tabIn (tgt := 80) dX7_polynomial_1 (by decide) (by decide) rfl (by decide) ?_
    refine x_sipush (y := nI 1033) dX7_polynomial_80 rfl ?_
    exact x_ireturn_eq dX7_polynomial_83 rfl rfl
  | 11, _, _ =>
    refine x_tabIn (tgt := 84) dX7_polynomial_1 (by decide) (by decide) rfl (by decide) ?_
    refine x_sipush (y := nI 2053) dX7_polynomial_84 rfl ?_
    exact x_ireturn_eq dX7_polynomial_87 rfl rfl
  | 12, _, _ =>
    refine x_tabIn (tgt := 88) dX7_polynomial_1 (by decide) (by decide) rfl (by decide) ?_
    refine x_sipush (y := nI 4179) dX7_polynomial_88 rfl ?_
    exact x_ireturn_eq dX7_polynomial_91 rfl rfl
  | 13, _, _ =>
    refine x_tabOut (tgt := 92) dX7_polynomial_1 (by decide) (by decide) ?_
    refine x_sipush (y := nI 8219) dX7_polynomial_92 rfl ?_
    exact x_ireturn_eq dX7_polynomial_95 rfl rfl
  | 0, h, _ => exact absurd h (by decide)
  | 1, h, _ => exact absurd h (by decide)
  | 2, h, _ => exact absurd h (by decide)
  | m + 14, _, h => exact absurd h (by omega)
/-- the product by shifts, after c of the m bits -/
def prh (m a b : Nat) : Nat → Nat
  | 0 => 0
  | c + 1 => mulx m (prh m a b c) ^^^ (if b.testBit (m - 1 - c) then a else 0)
theorem prh_lt {m a b : Nat} (h3 : 3 ≤ m) (h13 : m ≤ 13) (ha : a < 2 ^ m) : ∀ c, prh m a b c < 2 ^ m
  | 0 => Nat.two_pow_pos m
  | c + 1 => by
    unfold prh
    exact xor_lt (mulx_lt h3 h13 (prh_lt h3 h13 ha c)) (by split; exact ha; exact Nat.two_pow_pos m)
theorem bit_m {m p : Nat} (hm : m ≤ 13) (hp : p < 2 ^ m) : nI (2 * p) >>> (nI m &&& 31) &&& nI 1 = nI (decide (2 ^ m ≤ 2 * p)).toNat := by
  have ht : 2 ^ m ≤ 2 ^ 13 := Nat.pow_le_pow_right (by decide) hm
  rw [pk_shrN (by omega) _ m (s_l _ (by omega)), pk_andN (by have := Nat.div_le_self (2 * p) (2 ^ m); omega) 1 (by decide)]
  congr 1
  by_cases h : 2 ^ m ≤ 2 * p
  · rw [decide_eq_true h, show 2 * p / 2 ^ m = 1 from (Nat.div_eq_iff (Nat.two_pow_pos m)).mpr (by omega)]; rfl
  · rw [decide_eq_false h, Nat.div_eq_of_lt (by omega)]; rfl
theorem bit_k {b k : Nat} (hb : b < 2 ^ 31) (hk : k < 31) : nI b >>> (nI k &&& 31) &&& nI 1 = nI (b.testBit k).toNat := by
  rw [pk_shrN hb _ k (s_l _ (by omega)), pk_andN (by have := Nat.div_le_self b (2 ^ k); omega) 1 (by decide)]
  congr 1
  rw [Nat.testBit_eq_decide_div_mod_eq]
  have : b / 2 ^ k % 2 < 2 := Nat.mod_lt _ (by decide)
  by_cases h : b / 2 ^ k % 2 = 1
  · rw [decide_eq_true h]; exact h
  · rw [decide_eq_false h]; show b / 2 ^ k % 2 = 0; omega
theorem kkd_p {m : Nat} (h : 1 ≤ m) : nI m - nI 1 = kkd m := by
  cases m with
  | zero => exact absurd h (by decide)
  | succ k => exact nI_p1
theorem nI_nz {n : Nat} (h0 : 0 < n) (hn : n < 2 ^ 31) : ¬ nI n = 0 := fun z => by
  have := congrArg Int32.toInt z
  rw [nI_toInt hn] at this
  exact absurd this (by show ¬ (n : Int) = 0; omega)
theorem lp_product {X : Ev} {M0 M : Hp} {m a b : Nat} (h3 : 3 ≤ m) (h13 : m ≤ 13) (ha : a < 2 ^ m) (hb : b < 2 ^ 31) : ∀ (rem c : Nat), c + rem = m → G X 1 jX7_product M0 7 [some (.int (nI a)), some (.int (nI b)), some (.int (nI m)), some (.int (nI (prh m a b c))), some (.int (kkd rem))] [] M (some (.int (nI (prh m a b m)))) M := by
  intro rem
  induction rem with
  | zero =>
    intro c hc
    have hc : c = m := by omega
    subst hc
    refine x_iload dX7_product_7 rfl ?_
    refine x_if_lt (tgt := 60) dX7_product_9 (by decide) (fun _ => ?_) (fun h => False.elim (absurd h (by decide)))
    refine x_iload_n dX7_product_60 rfl rfl ?_
    exact x_ireturn_eq dX7_product_61 rfl rfl
  | succ rem ih =>
    intro c hc
    have hp := prh_lt (b := b) h3 h13 ha c
    have ht : 2 ^ m ≤ 2 ^ 13 := Nat.pow_le_pow_right (by decide) h13
    have hr : m - 1 - c = rem := by omega
    refine x_iload dX7_product_7 rfl ?_
    refine x_if_lt (tgt := 60) dX7_product_9 (by decide) (fun h => False.elim (absurd h (nI_pos (by omega)))) (fun _ => ?_)
    refine x_iload_n dX7_product_12 rfl rfl ?_
    refine x_iconst (y := nI 1) dX7_product_13 rfl ?_
    refine x_ishl dX7_product_14 ?_
    refine x_casti (y := nI (2 * (prh m a b c))) (sl_1 (by omega)) ?_
    refine x_istore_n (ls' := [some (.int (nI a)), some (.int (nI b)), some (.int (nI m)), some (.int (nI (2 * (prh m a b c)))), some (.int (nI rem))]) dX7_product_15 rfl (by decide) rfl rfl ?_
    refine x_iload_n dX7_product_16 rfl rfl ?_
    refine x_iload_n dX7_product_17 rfl rfl ?_
    refine x_ishr dX7_product_18 ?_
    refine x_iconst (y := nI 1) dX7_product_19 rfl ?_
    refine x_iand dX7_product_20 ?_
    refine x_casti (y := nI (decide (2 ^ m ≤ 2 * (prh m a b c))).toNat) (bit_m h13 hp) ?_
    refine x_iconst (y := nI 1) dX7_product_21 rfl ?_
    refine x_icmp_ne (tgt := 34) dX7_product_22 (by decide) (fun h22 => ?_) (fun h22 => ?_)
    · refine x_iload_n dX7_product_34 rfl rfl ?_
      refine x_istore_n (ls' := [some (.int (nI a)), some (.int (nI b)), some (.int (nI m)), some (.int (nI (2 * (prh m a b c)))), some (.int (nI rem))]) dX7_product_35 rfl (by decide) rfl rfl ?_
      refine x_iload_n dX7_product_36 rfl rfl ?_
      refine x_iload_n dX7_product_37 rfl rfl ?_
      refine x_iload dX7_product_38 rfl ?_
      refine x_ishr dX7_product_40 ?_
      refine x_iconst (y := nI 1) dX7_product_41 rfl ?_
      refine x_iand dX7_product_42 ?_
      refine x_casti (y := nI (b.testBit rem).toNat) (bit_k hb (by omega)) ?_
      refine x_iconst (y := nI 1) dX7_product_43 rfl ?_
      refine x_icmp_ne (tgt := 51) dX7_product_44 (by decide) (fun h44 => ?_) (fun h44 => ?_)
      · refine x_iconst (y := nI 0) dX7_product_51 rfl ?_
        refine x_ixor dX7_product_52 ?_
        refine x_casti (y := nI (prh m a b (c + 1))) (by rw [nI_xor]; show nI _ = nI (mulx m (prh m a b c) ^^^ (if b.testBit (m - 1 - c) then a else 0)); rw [hr, if_neg (rb0 h44), mulx_lo (fun hz => rb0 h22 (decide_eq_true hz))]) ?_
        refine x_istore_n (ls' := [some (.int (nI a)), some (.int (nI b)), some (.int (nI m)), some (.int (nI (prh m a b (c + 1)))), some (.int (nI rem))]) dX7_product_53 rfl (by decide) rfl rfl ?_
        refine x_iinc (y := kkd rem) (ls' := [some (.int (nI a)), some (.int (nI b)), some (.int (nI m)), some (.int (nI (prh m a b (c + 1)))), some (.int (kkd rem))]) dX7_product_54 (by decide) rfl rfl kkd_1 rfl ?_
        refine x_goto (tgt := 7) dX7_product_57 (by decide) ?_
        exact ih (c + 1) (by omega)
      · refine x_iload_n dX7_product_47 rfl rfl ?_
        refine x_goto (tgt := 52) dX7_product_48 (by decide) ?_
        refine x_ixor dX7_product_52 ?_
        refine x_casti (y := nI (prh m a b (c + 1))) (by rw [nI_xor]; show nI _ = nI (mulx m (prh m a b c) ^^^ (if b.testBit (m - 1 - c) then a else 0)); rw [hr, if_pos (rb1 h44), mulx_lo (fun hz => rb0 h22 (decide_eq_true hz))]) ?_
        refine x_istore_n (ls' := [some (.int (nI a)), some (.int (nI b)), some (.int (nI m)), some (.int (nI (prh m a b (c + 1)))), some (.int (nI rem))]) dX7_product_53 rfl (by decide) rfl rfl ?_
        refine x_iinc (y := kkd rem) (ls' := [some (.int (nI a)), some (.int (nI b)), some (.int (nI m)), some (.int (nI (prh m a b (c + 1)))), some (.int (kkd rem))]) dX7_product_54 (by decide) rfl rfl kkd_1 rfl ?_
        refine x_goto (tgt := 7) dX7_product_57 (by decide) ?_
        exact ih (c + 1) (by omega)
    · refine x_iload_n dX7_product_25 rfl rfl ?_
      refine x_iload_n dX7_product_26 rfl rfl ?_
      refine x_callS (as := [.int (nI m)]) dX7_product_27 mk_X7_polynomial st_X7_polynomial ml_RX7_60 (by decide) rfl rfl (Nat.le_of_ble_eq_true rfl) (c_polynomial h3 h13) ?_
      refine x_ixor dX7_product_30 ?_
      refine x_casti (y := nI (mulx m (prh m a b c))) (by rw [nI_xor, mulx_hi (of_decide_eq_true (rb1 h22))]) ?_
      refine x_goto (tgt := 35) dX7_product_31 (by decide) ?_
      refine x_istore_n (ls' := [some (.int (nI a)), some (.int (nI b)), some (.int (nI m)), some (.int (nI (mulx m (prh m a b c)))), some (.int (nI rem))]) dX7_product_35 rfl (by decide) rfl rfl ?_
      refine x_iload_n dX7_product_36 rfl rfl ?_
      refine x_iload_n dX7_product_37 rfl rfl ?_
      refine x_iload dX7_product_38 rfl ?_
      refine x_ishr dX7_product_40 ?_
      refine x_iconst (y := nI 1) dX7_product_41 rfl ?_
      refine x_iand dX7_product_42 ?_
      refine x_casti (y := nI (b.testBit rem).toNat) (bit_k hb (by omega)) ?_
      refine x_iconst (y := nI 1) dX7_product_43 rfl ?_
      refine x_icmp_ne (tgt := 51) dX7_product_44 (by decide) (fun h44 => ?_) (fun h44 => ?_)
      · refine x_iconst (y := nI 0) dX7_product_51 rfl ?_
        refine x_ixor dX7_product_52 ?_
        refine x_casti (y := nI (prh m a b (c + 1))) (by rw [nI_xor]; show nI _ = nI (mulx m (prh m a b c) ^^^ (if b.testBit (m - 1 - c) then a else 0)); rw [hr, if_neg (rb0 h44)]) ?_
        refine x_istore_n (ls' := [some (.int (nI a)), some (.int (nI b)), some (.int (nI m)), some (.int (nI (prh m a b (c + 1)))), some (.int (nI rem))]) dX7_product_53 rfl (by decide) rfl rfl ?_
        refine x_iinc (y := kkd rem) (ls' := [some (.int (nI a)), some (.int (nI b)), some (.int (nI m)), some (.int (nI (prh m a b (c + 1)))), some (.int (kkd rem))]) dX7_product_54 (by decide) rfl rfl kkd_1 rfl ?_
        refine x_goto (tgt := 7) dX7_product_57 (by decide) ?_
        exact ih (c + 1) (by omega)
      · refine x_iload_n dX7_product_47 rfl rfl ?_
        refine x_goto (tgt := 52) dX7_product_48 (by decide) ?_
        refine x_ixor dX7_product_52 ?_
        refine x_casti (y := nI (prh m a b (c + 1))) (by rw [nI_xor]; show nI _ = nI (mulx m (prh m a b c) ^^^ (if b.testBit (m - 1 - c) then a else 0)); rw [hr, if_pos (rb1 h44)]) ?_
        refine x_istore_n (ls' := [some (.int (nI a)), some (.int (nI b)), some (.int (nI m)), some (.int (nI (prh m a b (c + 1)))), some (.int (nI rem))]) dX7_product_53 rfl (by decide) rfl rfl ?_
        refine x_iinc (y := kkd rem) (ls' := [some (.int (nI a)), some (.int (nI b)), some (.int (nI m)), some (.int (nI (prh m a b (c + 1)))), some (.int (kkd rem))]) dX7_product_54 (by decide) rfl rfl kkd_1 rfl ?_
        refine x_goto (tgt := 7) dX7_product_57 (by decide) ?_
        exact ih (c + 1) (by omega)
theorem c_mproduct {X : Ev} {M : Hp} {m a b : Nat} (h3 : 3 ≤ m) (h13 : m ≤ 13) (ha : a < 2 ^ m) (hb : b < 2 ^ 31) : Cl X 1 jX7_product [.int (nI a), .int (nI b), .int (nI m)] M (some (.int (nI (prh m a b m)))) M := by
  refine Cl.of (ls := [some (.int (nI a)), some (.int (nI b)), some (.int (nI m)), none, none]) (by decide) rfl (Nat.le_of_ble_eq_true rfl) ?_
  refine x_iconst (y := nI 0) dX7_product_0 rfl ?_
  refine x_istore_n (ls' := [some (.int (nI a)), some (.int (nI b)), some (.int (nI m)), some (.int (nI 0)), none]) dX7_product_1 rfl (by decide) rfl rfl ?_
  refine x_iload_n dX7_product_2 rfl rfl ?_
  refine x_iconst (y := nI 1) dX7_product_3 rfl ?_
  refine x_isub dX7_product_4 ?_
  refine x_casti (y := kkd m) (kkd_p (by omega)) ?_
  refine x_istore (ls' := [some (.int (nI a)), some (.int (nI b)), some (.int (nI m)), some (.int (nI 0)), some (.int (kkd m))]) dX7_product_5 (by decide) rfl rfl ?_
  exact lp_product h3 h13 ha hb m 0 (by omega)
theorem rem_n {a n : Nat} (ha : a < 2 ^ 31) (h0 : 0 < n) (hn : n < 2 ^ 31) : nI a - nI a / nI n * nI n = nI (a % n) := by
  have h := i32_rem_toInt (nI a) (nI n) (by rw [nI_toInt hn]; omega)
  have hl := Nat.mod_lt a h0
  refine nI_toI ?_ (by omega)
  rw [h, nI_toInt ha, nI_toInt hn]
  exact (Int.ofNat_tmod a n).symm
theorem c_by {X : Ev} {M : Hp} {op : Int32} {m t d r n tn : Nat} {me ri lt : Int32} (hO : M[138]? = some (.inr (6, [.int (op), .int (nI m), .int (nI t), .int (nI d), .int (nI r), .int (nI n), .int (nI (2 ^ m - 1)), .ref (139), .ref (140), .ref (141), .ref (142), .ref (143), .ref (144), .ref (145), .ref (146), .ref (147), .int (nI tn), .int (me), .int (ri), .int (lt), .ref (148), .ref (149), .ref (150), .ref (151), .ref (152), .ref (153), .ref (154)]))) {pw : Nat → Int32} (hp : M[139]? = some (.inl (0, 8192, .inl (pw)))) {lg : Nat → Int32} (hq : M[140]? = some (.inl (0, 8192, .inl (lg)))) (hF : FT pw lg m) {a b : Nat} (ha : a < 2 ^ m) (hb : b < 2 ^ m) : Cl X 0 jX7_by [.ref (138), .int (nI a), .int (nI b)] M (some (.int (nI (fmul m a b)))) M := by
  have ht := two_le hF.1.1 hF.1.2
  refine Cl.of (ls := [some (.ref (138)), some (.int (nI a)), some (.int (nI b))]) (by decide) rfl (Nat.le_of_ble_eq_true rfl) ?_
  refine x_iload_n dX7_by_0 rfl rfl ?_
  refine x_if_eq (tgt := 8) dX7_by_1 (by decide) (fun h1 => ?_) (fun h1 => ?_)
  · refine x_iconst (y := nI 0) dX7_by_8 rfl ?_
    refine x_goto (tgt := 35) dX7_by_9 (by decide) ?_
    exact x_ireturn_eq dX7_by_35 rfl (by unfold fmul; rw [if_pos (by first | exact Or.inl ((nI_eq (by omega) (by decide)).mp h1) | exact Or.inr ((nI_eq (by omega) (by decide)).mp h5))])
  · refine x_iload_n dX7_by_4 rfl rfl ?_
    refine x_if_ne (tgt := 12) dX7_by_5 (by decide) (fun h5 => ?_) (fun h5 => ?_)
    · have ha0 : a ≠ 0 := fun z => h1 (by rw [z]; rfl)
      have hb0 : b ≠ 0 := fun z => h5 (by rw [z]; rfl)
      have hla := lgn_spec hF.1.1 hF.1.2 ha0 ha
      have hlb := lgn_spec hF.1.1 hF.1.2 hb0 hb
      have hfm : fmul m a b = pwr m (lgn m a + lgn m b) := if_neg (fun z => z.elim ha0 hb0)
      refine x_aload_n dX7_by_12 rfl rfl ?_
      refine x_getf (ci := 6) (kf := 7) dX7_by_13 rfl uX7 (by decide) fl_RX7_7 hO rfl ?_
      refine x_aload_n dX7_by_16 rfl rfl ?_
      refine x_getf (ci := 6) (kf := 8) dX7_by_17 rfl uX7 (by decide) fl_RX7_13 hO rfl ?_
      refine x_iload_n dX7_by_20 rfl rfl ?_
      refine x_ild (j := a) dX7_by_21 hq rfl (by omega) (by decide) ?_
      refine x_casti (y := nI (lgn m a)) (hF.lg ha0 ha) ?_
      refine x_aload_n dX7_by_22 rfl rfl ?_
      refine x_getf (ci := 6) (kf := 8) dX7_by_23 rfl uX7 (by decide) fl_RX7_13 hO rfl ?_
      refine x_iload_n dX7_by_26 rfl rfl ?_
      refine x_ild (j := b) dX7_by_27 hq rfl (by omega) (by decide) ?_
      refine x_casti (y := nI (lgn m b)) (hF.lg hb0 hb) ?_
      refine x_iadd dX7_by_28 ?_
      refine x_casti (y := nI (lgn m a + lgn m b)) (nI_add _ _) ?_
      refine x_aload_n dX7_by_29 rfl rfl ?_
      refine x_getf (ci := 6) (kf := 6) dX7_by_30 rfl uX7 (by decide) fl_RX7_64 hO rfl ?_
      refine x_irem dX7_by_33 (nI_nz (by omega) (by omega)) ?_
      refine x_casti (y := nI ((lgn m a + lgn m b) % (2 ^ m - 1))) (rem_n (by omega) (by omega) (by omega)) ?_
      refine x_ild (j := (lgn m a + lgn m b) % (2 ^ m - 1)) dX7_by_34 hp rfl (by have := Nat.mod_lt (lgn m a + lgn m b) (show 0 < 2 ^ m - 1 by omega); omega) (by decide) ?_
      exact x_ireturn_eq dX7_by_35 rfl (by rw [hfm, (hF.2 _ (Nat.mod_lt _ (by omega))).1, pwr_mod hF.1.1 hF.1.2])
    · refine x_iconst (y := nI 0) dX7_by_8 rfl ?_
      refine x_goto (tgt := 35) dX7_by_9 (by decide) ?_
      exact x_ireturn_eq dX7_by_35 rfl (by unfold fmul; rw [if_pos (by first | exact Or.inl ((nI_eq (by omega) (by decide)).mp h1) | exact Or.inr ((nI_eq (by omega) (by decide)).mp h5))])
theorem c_over {X : Ev} {M : Hp} {op : Int32} {m t d r n tn : Nat} {me ri lt : Int32} (hO : M[138]? = some (.inr (6, [.int (op), .int (nI m), .int (nI t), .int (nI d), .int (nI r), .int (nI n), .int (nI (2 ^ m - 1)), .ref (139), .ref (140), .ref (141), .ref (142), .ref (143), .ref (144), .ref (145), .ref (146), .ref (147), .int (nI tn), .int (me), .int (ri), .int (lt), .ref (148), .ref (149), .ref (150), .ref (151), .ref (152), .ref (153), .ref (154)]))) {pw : Nat → Int32} (hp : M[139]? = some (.inl (0, 8192, .inl (pw)))) {lg : Nat → Int32} (hq : M[140]? = some (.inl (0, 8192, .inl (lg)))) (hF : FT pw lg m) {a : Nat} (ha0 : a ≠ 0) (ha : a < 2 ^ m) : Cl X 0 jX7_over [.ref (138), .int (nI a)] M (some (.int (nI (finv m a)))) M := by
  have ht := two_le hF.1.1 hF.1.2
  have hla := lgn_spec hF.1.1 hF.1.2 ha0 ha
  refine Cl.of (ls := [some (.ref (138)), some (.int (nI a))]) (by decide) rfl (Nat.le_of_ble_eq_true rfl) ?_
  refine x_aload_n dX7_over_0 rfl rfl ?_
  refine x_getf (ci := 6) (kf := 7) dX7_over_1 rfl uX7 (by decide) fl_RX7_7 hO rfl ?_
  refine x_aload_n dX7_over_4 rfl rfl ?_
  refine x_getf (ci := 6) (kf := 6) dX7_over_5 rfl uX7 (by decide) fl_RX7_64 hO rfl ?_
  refine x_aload_n dX7_over_8 rfl rfl ?_
  refine x_getf (ci := 6) (kf := 8) dX7_over_9 rfl uX7 (by decide) fl_RX7_13 hO rfl ?_
  refine x_iload_n dX7_over_12 rfl rfl ?_
  refine x_ild (j := a) dX7_over_13 hq rfl (by omega) (by decide) ?_
  refine x_casti (y := nI (lgn m a)) (hF.lg ha0 ha) ?_
  refine x_isub dX7_over_14 ?_
  refine x_casti (y := nI (2 ^ m - 1 - lgn m a)) (pk_sub (by omega)) ?_
  refine x_aload_n dX7_over_15 rfl rfl ?_
  refine x_getf (ci := 6) (kf := 6) dX7_over_16 rfl uX7 (by decide) fl_RX7_64 hO rfl ?_
  refine x_irem dX7_over_19 (nI_nz (by omega) (by omega)) ?_
  refine x_casti (y := nI ((2 ^ m - 1 - lgn m a) % (2 ^ m - 1))) (rem_n (by omega) (by omega) (by omega)) ?_
  refine x_ild (j := (2 ^ m - 1 - lgn m a) % (2 ^ m - 1)) dX7_over_20 hp rfl (by have := Nat.mod_lt (2 ^ m - 1 - lgn m a) (show 0 < 2 ^ m - 1 by omega); omega) (by decide) ?_
  exact x_ireturn_eq dX7_over_21 rfl (by unfold finv; rw [(hF.2 _ (Nat.mod_lt _ (by omega))).1, pwr_mod hF.1.1 hF.1.2])
theorem l64_rem_toInt (x y : Int64) (hy : 0 < y.toInt) : (x - x / y * y).toInt = x.toInt.tmod y.toInt := by
  have hx1 := Int64.le_toInt x
  have hx2 := Int64.toInt_lt x
  have hy2 := Int64.toInt_lt y
  have hd : (x / y).toInt = x.toInt.tdiv y.toInt := by
    rw [Int64.toInt_div, Int.bmod_eq_of_le]
    · have h3 : -(2 ^ 63 : Int) ≤ x.toInt.tdiv y.toInt := by
        have := Int.natAbs_tdiv_le_natAbs x.toInt y.toInt
        omega
      omega
    · have h4 : x.toInt.tdiv y.toInt < 2 ^ 63 := by
        rcases Int.lt_or_le x.toInt 0 with h | h
        · have h9 := Int.tdiv_nonneg (a := -x.toInt) (b := y.toInt) (by omega) (by omega)
          rw [Int.neg_tdiv] at h9
          omega
        · have := Int.tdiv_le_self y.toInt h
          omega
      omega
  have he := Int.tmod_add_mul_tdiv x.toInt y.toInt
  have hm1 := Int.lt_tmod_of_pos x.toInt hy
  have hm2 := Int.tmod_lt_of_pos x.toInt hy
  have hmul : (x / y * y).toInt = x.toInt.tdiv y.toInt * y.toInt := by
    rw [Int64.toInt_mul, hd, Int.bmod_eq_of_le]
    · rw [Int.mul_comm]
      rcases Int.lt_or_le x.toInt 0 with h | h
      · have h9 := Int.tmod_nonneg (a := -x.toInt) y.toInt (by omega)
        rw [Int.neg_tmod] at h9
        omega
      · have := Int.tmod_nonneg y.toInt h
        omega
    · rw [Int.mul_comm]
      rcases Int.lt_or_le x.toInt 0 with h | h
      · have h9 := Int.tmod_nonneg (a := -x.toInt) y.toInt (by omega)
        rw [Int.neg_tmod] at h9
        omega
      · have := Int.tmod_nonneg y.toInt h
        omega
  rw [Int64.toInt_sub, hmul, Int.bmod_eq_of_le]
  · rw [Int.mul_comm]; omega
  · rw [Int.mul_comm]; omega
  · rw [Int.mul_comm]; omega
theorem nI_L {n : Nat} (hn : n < 2 ^ 31) : (nI n).toInt64.toInt = (n : Int) := by rw [Int32.toInt_toInt64, nI_toInt hn]
theorem l2i_small {x : Int64} {n : Nat} (h : x.toInt = (n : Int)) (hn : n < 2 ^ 31) : x.toInt32 = nI n := by
  refine nI_toI ?_ hn
  rw [Int64.toInt_toInt32, h, Int.bmod_eq_of_le] <;> omega
def redl (x : Int64) (n : Nat) : Nat := (x.toInt % (n : Int)).toNat
theorem redl_lt (x : Int64) {n : Nat} (h : 0 < n) : redl x n < n := by
  have h1 := Int.emod_nonneg x.toInt (b := (n : Int)) (by omega)
  have h2 := Int.emod_lt_of_pos x.toInt (b := (n : Int)) (by omega)
  unfold redl; omega
theorem expo {x : Int64} {n : Nat} (h0 : 0 < n) (hn : n < 2 ^ 20) : (((x - x / (nI n).toInt64 * (nI n).toInt64) + (nI n).toInt64) - ((x - x / (nI n).toInt64 * (nI n).toInt64) + (nI n).toInt64) / (nI n).toInt64 * (nI n).toInt64).toInt32 = nI (redl x n) := by
  have hy := nI_L (n := n) (by omega)
  have h1 := l64_rem_toInt x (nI n).toInt64 (by rw [hy]; omega)
  rw [hy] at h1
  have m1 := Int.lt_tmod_of_pos x.toInt (show (0 : Int) < n by omega)
  have m2 := Int.tmod_lt_of_pos x.toInt (show (0 : Int) < n by omega)
  have h2 : ((x - x / (nI n).toInt64 * (nI n).toInt64) + (nI n).toInt64).toInt = x.toInt.tmod n + n := by
    rw [Int64.toInt_add, h1, hy, Int.bmod_eq_of_le] <;> omega
  have h3 := l64_rem_toInt ((x - x / (nI n).toInt64 * (nI n).toInt64) + (nI n).toInt64) (nI n).toInt64 (by rw [hy]; omega)
  rw [h2, hy] at h3
  have hl := redl_lt x h0
  refine l2i_small ?_ (by omega)
  rw [h3]
  have e1 : (x.toInt.tmod n + n).tmod n = (x.toInt.tmod n + n) % n := Int.tmod_eq_emod_of_nonneg (by omega)
  have e2 : (x.toInt.tmod n + n) % n = x.toInt % n := by
    rw [Int.add_emod_right]
    have := Int.tmod_add_mul_tdiv x.toInt n
    rw [← this]
    rw [Int.add_mul_emod_self_left]
    rw [this]
  have h4 := Int.emod_nonneg x.toInt (b := (n : Int)) (by omega)
  rw [e1, e2]
  unfold redl; omega
theorem c_exponent {X : Ev} {M : Hp} {op : Int32} {m t d r n tn : Nat} {me ri lt : Int32} (hO : M[138]? = some (.inr (6, [.int (op), .int (nI m), .int (nI t), .int (nI d), .int (nI r), .int (nI n), .int (nI (2 ^ m - 1)), .ref (139), .ref (140), .ref (141), .ref (142), .ref (143), .ref (144), .ref (145), .ref (146), .ref (147), .int (nI tn), .int (me), .int (ri), .int (lt), .ref (148), .ref (149), .ref (150), .ref (151), .ref (152), .ref (153), .ref (154)]))) (hm1 : 1 ≤ m) (hm13 : m ≤ 13) {x : Int64} : Cl X 0 jX7_exponent [.ref (138), .long (x)] M (some (.int (nI (redl x (2 ^ m - 1))))) M := by
  have ht : 2 ^ m ≤ 2 ^ 13 := Nat.pow_le_pow_right (by decide) hm13
  have ht2 : 2 ^ 1 ≤ 2 ^ m := Nat.pow_le_pow_right (by decide) hm1
  have hz : ¬ (nI (2 ^ m - 1)).toInt64 = 0 := fun z => by
    have := congrArg Int64.toInt z
    rw [nI_L (by omega)] at this
    exact absurd this (by show ¬ ((2 ^ m - 1 : Nat) : Int) = 0; omega)
  refine Cl.of (ls := [some (.ref (138)), some (.long (x)), none]) (by decide) rfl (Nat.le_of_ble_eq_true rfl) ?_
  refine x_lload_n dX7_exponent_0 rfl rfl ?_
  refine x_aload_n dX7_exponent_1 rfl rfl ?_
  refine x_getf (ci := 6) (kf := 6) dX7_exponent_2 rfl uX7 (by decide) fl_RX7_64 hO rfl ?_
  refine x_i2l dX7_exponent_5 ?_
  refine x_lrem dX7_exponent_6 hz ?_
  refine x_aload_n dX7_exponent_7 rfl rfl ?_
  refine x_getf (ci := 6) (kf := 6) dX7_exponent_8 rfl uX7 (by decide) fl_RX7_64 hO rfl ?_
  refine x_i2l dX7_exponent_11 ?_
  refine x_ladd dX7_exponent_12 ?_
  refine x_aload_n dX7_exponent_13 rfl rfl ?_
  refine x_getf (ci := 6) (kf := 6) dX7_exponent_14 rfl uX7 (by decide) fl_RX7_64 hO rfl ?_
  refine x_i2l dX7_exponent_17 ?_
  refine x_lrem dX7_exponent_18 hz ?_
  refine x_l2i dX7_exponent_19 ?_
  exact x_ireturn_eq dX7_exponent_20 rfl (expo (by omega) (by omega))
