/-! CODE: the polynomial in the register, the tables of steps -/
def ldH (pq : Nat → Bool) (r : Nat) : Nat → Int64
  | 0 => 0
  | q + 1 => if q < 64 then ldH pq r q ||| ((nI (pq (r - 1 - q)).toNat).toInt64 <<< ((nI (63 - q)).toInt64 &&& 63)) else ldH pq r q
def ldL (pq : Nat → Bool) (r : Nat) : Nat → Int64
  | 0 => 0
  | q + 1 => if q < 64 then ldL pq r q else ldL pq r q ||| ((nI (pq (r - 1 - q)).toNat).toInt64 <<< ((nI (127 - q)).toInt64 &&& 63))
theorem ld_fw {X : Ev} {d' : Nat} {M0 M M' : Hp} {v : Option Value} {pc : Nat} {a b j : Value} (k : G X d' jX0_loadPolynomial M0 pc [some a, some b, none, none] [] M v M') : G X d' jX0_loadPolynomial M0 pc [some a, some b, some j, none] [] M v M' := x_fewer (fun q w h => by match q, h with | 0, h => exact h | 1, h => exact h | 2, h => cases h | 3, h => cases h | q + 4, h => cases h) k
theorem lp_load {X : Ev} {M0 M M' : Hp} {v : Option Value} {t d r n : Nat} {hi lo : Int64} (ho : M[5]? = some (.inr (0, [.ref (1), .ref (6), .ref (7), .ref (8), .ref (9), .ref (10), .int (nI t), .int (nI d), .int (nI r), .int (nI n), .long (hi), .long (lo)]))) {pl : Nat → Int32} {pq : Nat → Bool} (hpl : M[6]? = some (.inl (0, 105, .inl (pl)))) (hpq : ∀ j, j < r → pl j = nI (pq j).toNat) (hr : r ≤ 104) (k : G X 0 jX0_loadPolynomial M0 80 [some (.ref (5)), some (.int (nI (r))), none, none] [] (M.set (5) (.inr (0, [.ref (1), .ref (6), .ref (7), .ref (8), .ref (9), .ref (10), .int (nI t), .int (nI d), .int (nI r), .int (nI n), .long (ldH pq r (r)), .long (ldL pq r (r))]))) v M') : ∀ (zz i : Nat), i + zz = r → G X 0 jX0_loadPolynomial M0 12 [some (.ref (5)), some (.int (nI (i))), none, none] [] (M.set (5) (.inr (0, [.ref (1), .ref (6), .ref (7), .ref (8), .ref (9), .ref (10), .int (nI t), .int (nI d), .int (nI r), .int (nI n), .long (ldH pq r (i)), .long (ldL pq r (i))]))) v M' := by
  intro zz
  induction zz with
  | zero =>
    intro i hii
    have hii : i = r := by omega
    subst hii
    refine x_iload_n dX0_loadPolynomial_12 rfl rfl ?_
    refine x_aload_n dX0_loadPolynomial_13 rfl rfl ?_
    refine x_getf (ci := 0) (kf := 8) dX0_loadPolynomial_14 rfl uX0 (by decide) fl_RX0_46 (gs ho) rfl ?_
    refine x_icmp_ge (tgt := 80) dX0_loadPolynomial_17 (by decide) (fun _ => ?_) (fun h => False.elim (h (nI_le (Nat.le_refl _) (by omega))))
    exact k
  | succ zz ih =>
    intro i hii
    refine x_iload_n dX0_loadPolynomial_12 rfl rfl ?_
    refine x_aload_n dX0_loadPolynomial_13 rfl rfl ?_
    refine x_getf (ci := 0) (kf := 8) dX0_loadPolynomial_14 rfl uX0 (by decide) fl_RX0_46 (gs ho) rfl ?_
    refine x_icmp_ge (tgt := 80) dX0_loadPolynomial_17 (by decide) (fun h => False.elim (nI_ge (by omega : i < r) (by omega) h)) (fun _ => ?_)
    refine x_aload_n dX0_loadPolynomial_20 rfl rfl ?_
    refine x_getf (ci := 0) (kf := 1) dX0_loadPolynomial_21 rfl uX0 (by decide) fl_RX0_9 (gs ho) rfl ?_
    refine x_aload_n dX0_loadPolynomial_24 rfl rfl ?_
    refine x_getf (ci := 0) (kf := 8) dX0_loadPolynomial_25 rfl uX0 (by decide) fl_RX0_46 (gs ho) rfl ?_
    refine x_iconst (y := nI 1) dX0_loadPolynomial_28 rfl ?_
    refine x_isub dX0_loadPolynomial_29 ?_
    refine x_casti (y := nI (r - 1)) (pk_sub (by omega)) ?_
    refine x_iload_n dX0_loadPolynomial_30 rfl rfl ?_
    refine x_isub dX0_loadPolynomial_31 ?_
    refine x_casti (y := nI (r - 1 - i)) (pk_sub (by omega)) ?_
    refine x_ild (j := r - 1 - i) dX0_loadPolynomial_32 (gn hpl (by decide)) rfl (by omega) (by decide) ?_
    refine x_casti (y := nI (pq (r - 1 - i)).toNat) (hpq _ (by omega)) ?_
    refine x_i2l dX0_loadPolynomial_33 ?_
    refine x_lstore_n (ls' := [some (.ref (5)), some (.int (nI (i))), some (.long ((nI (pq (r - 1 - i)).toNat).toInt64)), none]) dX0_loadPolynomial_34 rfl (by decide) rfl rfl ?_
    refine x_iload_n dX0_loadPolynomial_35 rfl rfl ?_
    refine x_bipush (y := nI 64) dX0_loadPolynomial_36 rfl ?_
    refine x_icmp_ge (tgt := 59) dX0_loadPolynomial_38 (by decide) (fun h38 => ?_) (fun h38 => ?_)
    · refine x_aload_n dX0_loadPolynomial_59 rfl rfl ?_
      refine x_dup dX0_loadPolynomial_60 rfl ?_
      refine x_getf (ci := 0) (kf := 11) dX0_loadPolynomial_61 rfl uX0 (by decide) fl_RX0_95 (gs ho) rfl ?_
      refine x_lload_n dX0_loadPolynomial_64 rfl rfl ?_
      refine x_bipush (y := nI 127) dX0_loadPolynomial_65 rfl ?_
      refine x_iload_n dX0_loadPolynomial_67 rfl rfl ?_
      refine x_isub dX0_loadPolynomial_68 ?_
      refine x_casti (y := nI (127 - i)) (nI_127 (by omega)) ?_
      refine x_lshl dX0_loadPolynomial_69 ?_
      refine x_lor dX0_loadPolynomial_70 ?_
      refine x_castl (y := ldL pq r (i + 1)) (by show _ = if i < 64 then _ else _; rw [if_neg (by have hz := (nI_leI (by decide) (by omega)).mp h38; omega)]) ?_
      refine x_putf (ci := 0) (kf := 11) (ty0 := tyX0) (M1 := (M.set (5) (.inr (0, [.ref (1), .ref (6), .ref (7), .ref (8), .ref (9), .ref (10), .int (nI t), .int (nI d), .int (nI r), .int (nI n), .long (ldH pq r (i)), .long (ldL pq r (i + 1))])))) dX0_loadPolynomial_71 rfl uX0 tyX0_ok nmX0 (by decide) fl_RX0_95 rfl rfl rfl rfl (gs ho) (Nat.le_of_ble_eq_true rfl) (ss0) ?_
      refine x_iinc (y := nI ((i) + 1)) (ls' := [some (.ref (5)), some (.int (nI ((i) + 1))), some (.long ((nI (pq (r - 1 - i)).toNat).toInt64)), none]) dX0_loadPolynomial_74 (by decide) rfl rfl (ii_add _ 1) rfl ?_
      refine x_goto (tgt := 12) dX0_loadPolynomial_77 (by decide) ?_
      have hz : ldH pq r (i + 1) = ldH pq r i := if_neg (by have hz := (nI_leI (by decide) (by omega)).mp h38; omega)
      rw [← hz]
      refine ld_fw ?_
      exact ih (i + 1) (by omega)
    · refine x_aload_n dX0_loadPolynomial_41 rfl rfl ?_
      refine x_dup dX0_loadPolynomial_42 rfl ?_
      refine x_getf (ci := 0) (kf := 10) dX0_loadPolynomial_43 rfl uX0 (by decide) fl_RX0_91 (gs ho) rfl ?_
      refine x_lload_n dX0_loadPolynomial_46 rfl rfl ?_
      refine x_bipush (y := nI 63) dX0_loadPolynomial_47 rfl ?_
      refine x_iload_n dX0_loadPolynomial_49 rfl rfl ?_
      refine x_isub dX0_loadPolynomial_50 ?_
      refine x_casti (y := nI (63 - i)) (nI_63q (by have hz := Nat.lt_of_not_le (fun z : 64 ≤ i => h38 (nI_le z (by omega))); omega)) ?_
      refine x_lshl dX0_loadPolynomial_51 ?_
      refine x_lor dX0_loadPolynomial_52 ?_
      refine x_castl (y := ldH pq r (i + 1)) (by show _ = if i < 64 then _ else _; rw [if_pos (Nat.lt_of_not_le (fun z : 64 ≤ i => h38 (nI_le z (by omega))))]) ?_
      refine x_putf (ci := 0) (kf := 10) (ty0 := tyX0) (M1 := (M.set (5) (.inr (0, [.ref (1), .ref (6), .ref (7), .ref (8), .ref (9), .ref (10), .int (nI t), .int (nI d), .int (nI r), .int (nI n), .long (ldH pq r (i + 1)), .long (ldL pq r (i))])))) dX0_loadPolynomial_53 rfl uX0 tyX0_ok nmX0 (by decide) fl_RX0_91 rfl rfl rfl rfl (gs ho) (Nat.le_of_ble_eq_true rfl) (ss0) ?_
      refine x_goto (tgt := 74) dX0_loadPolynomial_56 (by decide) ?_
      refine x_iinc (y := nI ((i) + 1)) (ls' := [some (.ref (5)), some (.int (nI ((i) + 1))), some (.long ((nI (pq (r - 1 - i)).toNat).toInt64)), none]) dX0_loadPolynomial_74 (by decide) rfl rfl (ii_add _ 1) rfl ?_
      refine x_goto (tgt := 12) dX0_loadPolynomial_77 (by decide) ?_
      have hz : ldL pq r (i + 1) = ldL pq r i := if_pos (Nat.lt_of_not_le (fun z : 64 ≤ i => h38 (nI_le z (by omega))))
      rw [← hz]
      refine ld_fw ?_
      exact ih (i + 1) (by omega)
theorem c_loadPolynomial {X : Ev} {M : Hp} {t d r n : Nat} {hi lo : Int64} (ho : M[5]? = some (.inr (0, [.ref (1), .ref (6), .ref (7), .ref (8), .ref (9), .ref (10), .int (nI t), .int (nI d), .int (nI r), .int (nI n), .long (hi), .long (lo)]))) {pl : Nat → Int32} {pq : Nat → Bool} (hpl : M[6]? = some (.inl (0, 105, .inl (pl)))) (hpq : ∀ j, j < r → pl j = nI (pq j).toNat) (hr : r ≤ 104) : Cl X 0 jX0_loadPolynomial [.ref (5)] M none (M.set 5 (.inr (0, [.ref (1), .ref (6), .ref (7), .ref (8), .ref (9), .ref (10), .int (nI t), .int (nI d), .int (nI r), .int (nI n), .long (ldH pq r (r)), .long (ldL pq r (r))]))) := by
  refine Cl.of (ls := [some (.ref (5)), none, none, none]) (by decide) rfl (Nat.le_of_ble_eq_true rfl) ?_
  refine x_aload_n dX0_loadPolynomial_0 rfl rfl ?_
  refine x_lconst (y := 0) dX0_loadPolynomial_1 rfl ?_
  refine x_putf (ci := 0) (kf := 10) (ty0 := tyX0) (M1 := (M.set (5) (.inr (0, [.ref (1), .ref (6), .ref (7), .ref (8), .ref (9), .ref (10), .int (nI t), .int (nI d), .int (nI r), .int (nI n), .long (0), .long (lo)])))) dX0_loadPolynomial_2 rfl uX0 tyX0_ok nmX0 (by decide) fl_RX0_91 rfl rfl rfl rfl ho (Nat.le_of_ble_eq_true rfl) rfl ?_
  refine x_aload_n dX0_loadPolynomial_5 rfl rfl ?_
  refine x_lconst (y := 0) dX0_loadPolynomial_6 rfl ?_
  refine x_putf (ci := 0) (kf := 11) (ty0 := tyX0) (M1 := (M.set (5) (.inr (0, [.ref (1), .ref (6), .ref (7), .ref (8), .ref (9), .ref (10), .int (nI t), .int (nI d), .int (nI r), .int (nI n), .long (0), .long (0)])))) dX0_loadPolynomial_7 rfl uX0 tyX0_ok nmX0 (by decide) fl_RX0_95 rfl rfl rfl rfl (gs ho) (Nat.le_of_ble_eq_true rfl) (ss0) ?_
  refine x_iconst (y := nI 0) dX0_loadPolynomial_10 rfl ?_
  refine x_istore_n (ls' := [some (.ref (5)), some (.int (nI 0)), none, none]) dX0_loadPolynomial_11 rfl (by decide) rfl rfl ?_
  exact lp_load ho hpl hpq hr (x_ret dX0_loadPolynomial_80 rfl) r 0 (by omega)
/-- the entries base + l, l < k, of a table become x ^ entry l -/
def hin (f : Nat → Int64) (base : Nat) (x : Int64) : Nat → (Nat → Int64)
  | 0 => f
  | l + 1 => vp_updL (hin f base x l) (base + l) (x ^^^ hin f base x l l)
def shH (hP hi lo : Int64) : Int64 := if hi < 0 then ((hi <<< ((nI 1).toInt64 &&& 63)) ||| ((lo.toUInt64 >>> ((nI 63).toInt64.toUInt64 &&& Int64.toUInt64 63)).toInt64)) ^^^ hP else (hi <<< ((nI 1).toInt64 &&& 63)) ||| ((lo.toUInt64 >>> ((nI 63).toInt64.toUInt64 &&& Int64.toUInt64 63)).toInt64)
def shL (lP hi lo : Int64) : Int64 := if hi < 0 then (lo <<< ((nI 1).toInt64 &&& 63)) ^^^ lP else lo <<< ((nI 1).toInt64 &&& 63)
def rgs (hP lP : Int64) : Nat → Int64 × Int64
  | 0 => (hP, lP)
  | b + 1 => (shH hP (rgs hP lP b).1 (rgs hP lP b).2, shL lP (rgs hP lP b).1 (rgs hP lP b).2)
def stpH (hs : Nat → Int64) (hP lP : Int64) : Nat → (Nat → Int64)
  | 0 => hs
  | b + 1 => hin (stpH hs hP lP b) (2 ^ b) (rgs hP lP b).1 (2 ^ b)
def stpL (ls : Nat → Int64) (hP lP : Int64) : Nat → (Nat → Int64)
  | 0 => ls
  | b + 1 => hin (stpL ls hP lP b) (2 ^ b) (rgs hP lP b).2 (2 ^ b)
theorem lgc {x : Int64} : 0 ≤ lg_cmp x 0 ↔ ¬ x < 0 := by
  unfold lg_cmp
  by_cases h1 : (0 : Int64) < x
  · rw [if_pos h1]
    exact ⟨fun _ h2 => absurd h2 (lg_lt_not h1), fun _ => by decide⟩
  · rw [if_neg h1]
    by_cases h2 : x = 0
    · rw [if_pos h2, h2]
      exact ⟨fun _ => by decide, fun _ => by decide⟩
    · rw [if_neg h2]
      refine ⟨fun h => absurd h (by decide), fun h => ?_⟩
      rw [Int64.lt_iff_toInt_lt] at h h1
      have h3 : (0 : Int64).toInt = 0 := rfl
      exact absurd (Int64.toInt_inj.mp (show x.toInt = (0 : Int64).toInt by omega)) h2
theorem pow_b {b : Nat} (h : b < 8) : 2 ^ b ≤ 128 ∧ 1 ≤ 2 ^ b := ⟨Nat.pow_le_pow_right (n := 2) (j := 7) (by decide) (by omega), Nat.two_pow_pos b⟩
theorem sl_b {b : Nat} (h : b < 8) : nI (2 ^ b) <<< (nI 1 &&& 31) = nI (2 ^ (b + 1)) := by
  rw [sl_1 (by have := (pow_b h).1; omega), Nat.pow_succ, Nat.mul_comm]
theorem lp_steps1 {X : Ev} {M0 M M' : Hp} {v : Option Value} {t d r n : Nat} {hi lo : Int64} (ho : M[5]? = some (.inr (0, [.ref (1), .ref (6), .ref (7), .ref (8), .ref (9), .ref (10), .int (nI t), .int (nI d), .int (nI r), .int (nI n), .long (hi), .long (lo)]))) {hs ls : Nat → Int64} (hh : M[7]? = some (.inl (1, 256, .inr (.inl (hs))))) (hl : M[8]? = some (.inl (1, 256, .inr (.inl (ls))))) {hP lP : Int64} {b : Nat} (hb : b < 8) (k : G X 1 jX0_makeSteps M0 85 [some (.ref (5)), some (.long (hP)), none, some (.long (lP)), none, some (.int (nI (2 ^ b))), some (.int (nI ((2 ^ b))))] [] ((M.set (7) (.inl (1, 256, .inr (.inl (hin hs (2 ^ b) hi ((2 ^ b))))))).set (8) (.inl (1, 256, .inr (.inl (hin ls (2 ^ b) lo ((2 ^ b))))))) v M') : ∀ (zz i : Nat), i + zz = (2 ^ b) → G X 1 jX0_makeSteps M0 28 [some (.ref (5)), some (.long (hP)), none, some (.long (lP)), none, some (.int (nI (2 ^ b))), some (.int (nI (i)))] [] ((M.set (7) (.inl (1, 256, .inr (.inl (hin hs (2 ^ b) hi (i)))))).set (8) (.inl (1, 256, .inr (.inl (hin ls (2 ^ b) lo (i)))))) v M' := by
  have hpb := pow_b hb
  intro zz
  induction zz with
  | zero =>
    intro i hii
    have hii : i = (2 ^ b) := by omega
    subst hii
    refine x_iload dX0_makeSteps_28 rfl ?_
    refine x_iload dX0_makeSteps_30 rfl ?_
    refine x_icmp_ge (tgt := 85) dX0_makeSteps_32 (by decide) (fun _ => ?_) (fun h => False.elim (h (nI_le (Nat.le_refl _) (by omega))))
    exact k
  | succ zz ih =>
    intro i hii
    refine x_iload dX0_makeSteps_28 rfl ?_
    refine x_iload dX0_makeSteps_30 rfl ?_
    refine x_icmp_ge (tgt := 85) dX0_makeSteps_32 (by decide) (fun h => False.elim (nI_ge (by omega : i < 2 ^ b) (by omega) h)) (fun _ => ?_)
    refine x_aload_n dX0_makeSteps_35 rfl rfl ?_
    refine x_getf (ci := 0) (kf := 2) dX0_makeSteps_36 rfl uX0 (by decide) fl_RX0_15 (gn (gn ho (by decide)) (by decide)) rfl ?_
    refine x_iload dX0_makeSteps_39 rfl ?_
    refine x_iload dX0_makeSteps_41 rfl ?_
    refine x_iadd dX0_makeSteps_43 ?_
    refine x_casti (y := nI (2 ^ b + i)) (nI_add _ _) ?_
    refine x_aload_n dX0_makeSteps_44 rfl rfl ?_
    refine x_getf (ci := 0) (kf := 10) dX0_makeSteps_45 rfl uX0 (by decide) fl_RX0_91 (gn (gn ho (by decide)) (by decide)) rfl ?_
    refine x_aload_n dX0_makeSteps_48 rfl rfl ?_
    refine x_getf (ci := 0) (kf := 2) dX0_makeSteps_49 rfl uX0 (by decide) fl_RX0_15 (gn (gn ho (by decide)) (by decide)) rfl ?_
    refine x_iload dX0_makeSteps_52 rfl ?_
    refine x_lld (j := i) dX0_makeSteps_54 (gn (gs hh) (by decide)) rfl (by omega) (by decide) ?_
    refine x_lxor dX0_makeSteps_55 ?_
    refine x_lst (j := 2 ^ b + i) (M1 := ((M.set (7) (.inl (1, 256, .inr (.inl (hin hs (2 ^ b) hi (i + 1)))))).set (8) (.inl (1, 256, .inr (.inl (hin ls (2 ^ b) lo (i))))))) dX0_makeSteps_56 (gn (gs hh) (by decide)) rfl (by omega) (by decide) (by rw [show vp_updL (hin hs (2 ^ b) hi (i)) (2 ^ b + i) ((hi) ^^^ ((hin hs (2 ^ b) hi (i)) (i))) = (hin hs (2 ^ b) hi (i + 1)) from rfl] <;> exact (ss1 (by decide))) ?_
    refine x_aload_n dX0_makeSteps_57 rfl rfl ?_
    refine x_getf (ci := 0) (kf := 3) dX0_makeSteps_58 rfl uX0 (by decide) fl_RX0_19 (gn (gn ho (by decide)) (by decide)) rfl ?_
    refine x_iload dX0_makeSteps_61 rfl ?_
    refine x_iload dX0_makeSteps_63 rfl ?_
    refine x_iadd dX0_makeSteps_65 ?_
    refine x_casti (y := nI (2 ^ b + i)) (nI_add _ _) ?_
    refine x_aload_n dX0_makeSteps_66 rfl rfl ?_
    refine x_getf (ci := 0) (kf := 11) dX0_makeSteps_67 rfl uX0 (by decide) fl_RX0_95 (gn (gn ho (by decide)) (by decide)) rfl ?_
    refine x_aload_n dX0_makeSteps_70 rfl rfl ?_
    refine x_getf (ci := 0) (kf := 3) dX0_makeSteps_71 rfl uX0 (by decide) fl_RX0_19 (gn (gn ho (by decide)) (by decide)) rfl ?_
    refine x_iload dX0_makeSteps_74 rfl ?_
    refine x_lld (j := i) dX0_makeSteps_76 (gs (gn hl (by decide))) rfl (by omega) (by decide) ?_
    refine x_lxor dX0_makeSteps_77 ?_
    refine x_lst (j := 2 ^ b + i) (M1 := ((M.set (7) (.inl (1, 256, .inr (.inl (hin hs (2 ^ b) hi (i + 1)))))).set (8) (.inl (1, 256, .inr (.inl (hin ls (2 ^ b) lo (i + 1))))))) dX0_makeSteps_78 (gs (gn hl (by decide))) rfl (by omega) (by decide) (by rw [show vp_updL (hin ls (2 ^ b) lo (i)) (2 ^ b + i) ((lo) ^^^ ((hin ls (2 ^ b) lo (i)) (i))) = (hin ls (2 ^ b) lo (i + 1)) from rfl] <;> exact (ss0)) ?_
    refine x_iinc (y := nI ((i) + 1)) (ls' := [some (.ref (5)), some (.long (hP)), none, some (.long (lP)), none, some (.int (nI (2 ^ b))), some (.int (nI ((i) + 1)))]) dX0_makeSteps_79 (by decide) rfl rfl (ii_add _ 1) rfl ?_
    refine x_goto (tgt := 28) dX0_makeSteps_82 (by decide) ?_
    exact ih (i + 1) (by omega)
theorem st_fw {X : Ev} {d' : Nat} {M0 M M' : Hp} {v : Option Value} {pc : Nat} {a b c e j : Value} (k : G X d' jX0_makeSteps M0 pc [some a, some b, none, some c, none, some e, none] [] M v M') : G X d' jX0_makeSteps M0 pc [some a, some b, none, some c, none, some e, some j] [] M v M' := x_fewer (fun q w h => by match q, h with | 0, h => exact h | 1, h => exact h | 2, h => cases h | 3, h => exact h | 4, h => cases h | 5, h => exact h | 6, h => cases h | q + 7, h => cases h) k
theorem lp_steps2 {X : Ev} {M0 M M' : Hp} {v : Option Value} {t d r n : Nat} {hi lo : Int64} (ho : M[5]? = some (.inr (0, [.ref (1), .ref (6), .ref (7), .ref (8), .ref (9), .ref (10), .int (nI t), .int (nI d), .int (nI r), .int (nI n), .long (hi), .long (lo)]))) {hs ls : Nat → Int64} (hh : M[7]? = some (.inl (1, 256, .inr (.inl (hs))))) (hl : M[8]? = some (.inl (1, 256, .inr (.inl (ls))))) {hP lP : Int64} (k : G X 1 jX0_makeSteps M0 163 [some (.ref (5)), some (.long (hP)), none, some (.long (lP)), none, some (.int (nI (2 ^ (8)))), none] [] (((M.set (5) (.inr (0, [.ref (1), .ref (6), .ref (7), .ref (8), .ref (9), .ref (10), .int (nI t), .int (nI d), .int (nI r), .int (nI n), .long ((rgs hP lP (8)).1), .long ((rgs hP lP (8)).2)]))).set (7) (.inl (1, 256, .inr (.inl (stpH hs hP lP (8)))))).set (8) (.inl (1, 256, .inr (.inl (stpL ls hP lP (8)))))) v M') : ∀ (zz b : Nat), b + zz = 8 → G X 1 jX0_makeSteps M0 17 [some (.ref (5)), some (.long (hP)), none, some (.long (lP)), none, some (.int (nI (2 ^ (b)))), none] [] (((M.set (5) (.inr (0, [.ref (1), .ref (6), .ref (7), .ref (8), .ref (9), .ref (10), .int (nI t), .int (nI d), .int (nI r), .int (nI n), .long ((rgs hP lP (b)).1), .long ((rgs hP lP (b)).2)]))).set (7) (.inl (1, 256, .inr (.inl (stpH hs hP lP (b)))))).set (8) (.inl (1, 256, .inr (.inl (stpL ls hP lP (b)))))) v M' := by
  intro zz
  induction zz with
  | zero =>
    intro b hb
    have hb : b = 8 := by omega
    subst hb
    refine x_iload dX0_makeSteps_17 rfl ?_
    refine x_sipush (y := nI 256) dX0_makeSteps_19 rfl ?_
    refine x_icmp_ge (tgt := 163) dX0_makeSteps_22 (by decide) (fun _ => ?_) (fun h => False.elim (h (nI_le (a := 256) (b := 2 ^ 8) (by decide) (by decide))))
    exact k
  | succ zz ih =>
    intro b hb
    have hb8 : b < 8 := by omega
    have hpb := pow_b hb8
    refine x_iload dX0_makeSteps_17 rfl ?_
    refine x_sipush (y := nI 256) dX0_makeSteps_19 rfl ?_
    refine x_icmp_ge (tgt := 163) dX0_makeSteps_22 (by decide) (fun h => False.elim (nI_ge (by omega : 2 ^ b < 256) (by decide) h)) (fun _ => ?_)
    refine x_iconst (y := nI 0) dX0_makeSteps_25 rfl ?_
    refine x_istore (ls' := [some (.ref (5)), some (.long (hP)), none, some (.long (lP)), none, some (.int (nI (2 ^ (b)))), some (.int (nI 0))]) dX0_makeSteps_26 (by decide) rfl rfl ?_
    have hs7 : ((((M.set (5) (.inr (0, [.ref (1), .ref (6), .ref (7), .ref (8), .ref (9), .ref (10), .int (nI t), .int (nI d), .int (nI r), .int (nI n), .long ((rgs hP lP (b)).1), .long ((rgs hP lP (b)).2)]))).set (7) (.inl (1, 256, .inr (.inl (stpH hs hP lP (b)))))).set (8) (.inl (1, 256, .inr (.inl (stpL ls hP lP (b)))))) : Hp)[7]? = some (.inl (1, 256, .inr (.inl (stpH hs hP lP (b))))) := (gn (gs (gn hh (by decide))) (by decide))
    have hs8 : ((((M.set (5) (.inr (0, [.ref (1), .ref (6), .ref (7), .ref (8), .ref (9), .ref (10), .int (nI t), .int (nI d), .int (nI r), .int (nI n), .long ((rgs hP lP (b)).1), .long ((rgs hP lP (b)).2)]))).set (7) (.inl (1, 256, .inr (.inl (stpH hs hP lP (b)))))).set (8) (.inl (1, 256, .inr (.inl (stpL ls hP lP (b)))))) : Hp)[8]? = some (.inl (1, 256, .inr (.inl (stpL ls hP lP (b))))) := (gs (gn (gn hl (by decide)) (by decide)))
    have hs5 : ((((M.set (5) (.inr (0, [.ref (1), .ref (6), .ref (7), .ref (8), .ref (9), .ref (10), .int (nI t), .int (nI d), .int (nI r), .int (nI n), .long ((rgs hP lP (b)).1), .long ((rgs hP lP (b)).2)]))).set (7) (.inl (1, 256, .inr (.inl (stpH hs hP lP (b)))))).set (8) (.inl (1, 256, .inr (.inl (stpL ls hP lP (b)))))) : Hp)[5]? = some (.inr (0, [.ref (1), .ref (6), .ref (7), .ref (8), .ref (9), .ref (10), .int (nI t), .int (nI d), .int (nI r), .int (nI n), .long ((rgs hP lP (b)).1), .long ((rgs hP lP (b)).2)])) := (gn (gn (gs ho) (by decide)) (by decide))
    refine G.hp ((set_id hs7 (c' := .inl (1, 256, .inr (.inl (hin (stpH hs hP lP b) (2 ^ b) (rgs hP lP b).1 0)))) rfl).trans (set_id (gn hs8 (by decide)) (c' := .inl (1, 256, .inr (.inl (hin (stpL ls hP lP b) (2 ^ b) (rgs hP lP b).2 0)))) rfl)) (lp_steps1 hs5 hs7 hs8 hb8 ?_ (2 ^ b) 0 (by omega))
    refine G.hp (show _ = (((M.set (5) (.inr (0, [.ref (1), .ref (6), .ref (7), .ref (8), .ref (9), .ref (10), .int (nI t), .int (nI d), .int (nI r), .int (nI n), .long ((rgs hP lP (b)).1), .long ((rgs hP lP (b)).2)]))).set (7) (.inl (1, 256, .inr (.inl (stpH hs hP lP (b + 1)))))).set (8) (.inl (1, 256, .inr (.inl (stpL ls hP lP (b + 1)))))) from by
      rw [ss1 (p := 7) (q := 8) (by decide), ss0]; rfl) ?_
    refine x_aload_n dX0_makeSteps_85 rfl rfl ?_
    refine x_getf (ci := 0) (kf := 10) dX0_makeSteps_86 rfl uX0 (by decide) fl_RX0_91 (gn (gn (gs ho) (by decide)) (by decide)) rfl ?_
    refine x_lconst (y := 0) dX0_makeSteps_89 rfl ?_
    refine x_lcmp dX0_makeSteps_90 ?_
    refine x_if_ge (tgt := 98) dX0_makeSteps_91 (by decide) (fun h91 => ?_) (fun h91 => ?_)
    · refine x_iconst (y := nI 0) dX0_makeSteps_98 rfl ?_
      refine x_istore (ls' := [some (.ref (5)), some (.long (hP)), none, some (.long (lP)), none, some (.int (nI (2 ^ b))), some (.int (nI 0))]) dX0_makeSteps_99 (by decide) rfl rfl ?_
      refine x_aload_n dX0_makeSteps_101 rfl rfl ?_
      refine x_aload_n dX0_makeSteps_102 rfl rfl ?_
      refine x_getf (ci := 0) (kf := 10) dX0_makeSteps_103 rfl uX0 (by decide) fl_RX0_91 (gn (gn (gs ho) (by decide)) (by decide)) rfl ?_
      refine x_iconst (y := nI 1) dX0_makeSteps_106 rfl ?_
      refine x_lshl dX0_makeSteps_107 ?_
      refine x_aload_n dX0_makeSteps_108 rfl rfl ?_
      refine x_getf (ci := 0) (kf := 11) dX0_makeSteps_109 rfl uX0 (by decide) fl_RX0_95 (gn (gn (gs ho) (by decide)) (by decide)) rfl ?_
      refine x_bipush (y := nI 63) dX0_makeSteps_112 rfl ?_
      refine x_lushr dX0_makeSteps_114 ?_
      refine x_lor dX0_makeSteps_115 ?_
      refine x_putf (ci := 0) (kf := 10) (ty0 := tyX0) (M1 := (((M.set (5) (.inr (0, [.ref (1), .ref (6), .ref (7), .ref (8), .ref (9), .ref (10), .int (nI t), .int (nI d), .int (nI r), .int (nI n), .long ((((rgs hP lP (b)).1) <<< ((nI 1).toInt64 &&& 63)) ||| ((((rgs hP lP (b)).2).toUInt64 >>> ((nI 63).toInt64.toUInt64 &&& Int64.toUInt64 63)).toInt64)), .long ((rgs hP lP (b)).2)]))).set (7) (.inl (1, 256, .inr (.inl (stpH hs hP lP (b + 1)))))).set (8) (.inl (1, 256, .inr (.inl (stpL ls hP lP (b + 1))))))) dX0_makeSteps_116 rfl uX0 tyX0_ok nmX0 (by decide) fl_RX0_91 rfl rfl rfl rfl (gn (gn (gs ho) (by decide)) (by decide)) (Nat.le_of_ble_eq_true rfl) (ss2 (by decide) (by decide)) ?_
      refine x_aload_n dX0_makeSteps_119 rfl rfl ?_
      refine x_dup dX0_makeSteps_120 rfl ?_
      refine x_getf (ci := 0) (kf := 11) dX0_makeSteps_121 rfl uX0 (by decide) fl_RX0_95 (gn (gn (gs ho) (by decide)) (by decide)) rfl ?_
      refine x_iconst (y := nI 1) dX0_makeSteps_124 rfl ?_
      refine x_lshl dX0_makeSteps_125 ?_
      refine x_putf (ci := 0) (kf := 11) (ty0 := tyX0) (M1 := (((M.set (5) (.inr (0, [.ref (1), .ref (6), .ref (7), .ref (8), .ref (9), .ref (10), .int (nI t), .int (nI d), .int (nI r), .int (nI n), .long ((((rgs hP lP (b)).1) <<< ((nI 1).toInt64 &&& 63)) ||| ((((rgs hP lP (b)).2).toUInt64 >>> ((nI 63).toInt64.toUInt64 &&& Int64.toUInt64 63)).toInt64)), .long (((rgs hP lP (b)).2) <<< ((nI 1).toInt64 &&& 63))]))).set (7) (.inl (1, 256, .inr (.inl (stpH hs hP lP (b + 1)))))).set (8) (.inl (1, 256, .inr (.inl (stpL ls hP lP (b + 1))))))) dX0_makeSteps_126 rfl uX0 tyX0_ok nmX0 (by decide) fl_RX0_95 rfl rfl rfl rfl (gn (gn (gs ho) (by decide)) (by decide)) (Nat.le_of_ble_eq_true rfl) (ss2 (by decide) (by decide)) ?_
      refine x_iload dX0_makeSteps_129 rfl ?_
      refine x_if_eq (tgt := 154) dX0_makeSteps_131 (by decide) (fun _ => ?_) (fun h => False.elim (h rfl))
      refine x_iload dX0_makeSteps_154 rfl ?_
      refine x_iconst (y := nI 1) dX0_makeSteps_156 rfl ?_
      refine x_ishl dX0_makeSteps_157 ?_
      refine x_casti (y := nI (2 ^ (b + 1))) (sl_b hb8) ?_
      refine x_istore (ls' := [some (.ref (5)), some (.long (hP)), none, some (.long (lP)), none, some (.int (nI (2 ^ (b + 1)))), some (.int (nI 0))]) dX0_makeSteps_158 (by decide) rfl rfl ?_
      refine x_goto (tgt := 17) dX0_makeSteps_160 (by decide) ?_
      have hn : ¬ (rgs hP lP b).1 < 0 := lgc.mp h91
      have e1 : (rgs hP lP (b + 1)).1 = _ := if_neg hn
      have e2 : (rgs hP lP (b + 1)).2 = _ := if_neg hn
      rw [← e1, ← e2]
      refine st_fw ?_
      exact ih (b + 1) (by omega)
    · refine x_iconst (y := nI 1) dX0_makeSteps_94 rfl ?_
      refine x_goto (tgt := 99) dX0_makeSteps_95 (by decide) ?_
      refine x_istore (ls' := [some (.ref (5)), some (.long (hP)), none, some (.long (lP)), none, some (.int (nI (2 ^ b))), some (.int (nI 1))]) dX0_makeSteps_99 (by decide) rfl rfl ?_
      refine x_aload_n dX0_makeSteps_101 rfl rfl ?_
      refine x_aload_n dX0_makeSteps_102 rfl rfl ?_
      refine x_getf (ci := 0) (kf := 10) dX0_makeSteps_103 rfl uX0 (by decide) fl_RX0_91 (gn (gn (gs ho) (by decide)) (by decide)) rfl ?_
      refine x_iconst (y := nI 1) dX0_makeSteps_106 rfl ?_
      refine x_lshl dX0_makeSteps_107 ?_
      refine x_aload_n dX0_makeSteps_108 rfl rfl ?_
      refine x_getf (ci := 0) (kf := 11) dX0_makeSteps_109 rfl uX0 (by decide) fl_RX0_95 (gn (gn (gs ho) (by decide)) (by decide)) rfl ?_
      refine x_bipush (y := nI 63) dX0_makeSteps_112 rfl ?_
      refine x_lushr dX0_makeSteps_114 ?_
      refine x_lor dX0_makeSteps_115 ?_
      refine x_putf (ci := 0) (kf := 10) (ty0 := tyX0) (M1 := (((M.set (5) (.inr (0, [.ref (1), .ref (6), .ref (7), .ref (8), .ref (9), .ref (10), .int (nI t), .int (nI d), .int (nI r), .int (nI n), .long ((((rgs hP lP (b)).1) <<< ((nI 1).toInt64 &&& 63)) ||| ((((rgs hP lP (b)).2).toUInt64 >>> ((nI 63).toInt64.toUInt64 &&& Int64.toUInt64 63)).toInt64)), .long ((rgs hP lP (b)).2)]))).set (7) (.inl (1, 256, .inr (.inl (stpH hs hP lP (b + 1)))))).set (8) (.inl (1, 256, .inr (.inl (stpL ls hP lP (b + 1))))))) dX0_makeSteps_116 rfl uX0 tyX0_ok nmX0 (by decide) fl_RX0_91 rfl rfl rfl rfl (gn (gn (gs ho) (by decide)) (by decide)) (Nat.le_of_ble_eq_true rfl) (ss2 (by decide) (by decide)) ?_
      refine x_aload_n dX0_makeSteps_119 rfl rfl ?_
      refine x_dup dX0_makeSteps_120 rfl ?_
      refine x_getf (ci := 0) (kf := 11) dX0_makeSteps_121 rfl uX0 (by decide) fl_RX0_95 (gn (gn (gs ho) (by decide)) (by decide)) rfl ?_
      refine x_iconst (y := nI 1) dX0_makeSteps_124 rfl ?_
      refine x_lshl dX0_makeSteps_125 ?_
      refine x_putf (ci := 0) (kf := 11) (ty0 := tyX0) (M1 := (((M.set (5) (.inr (0, [.ref (1), .ref (6), .ref (7), .ref (8), .ref (9), .ref (10), .int (nI t), .int (nI d), .int (nI r), .int (nI n), .long ((((rgs hP lP (b)).1) <<< ((nI 1).toInt64 &&& 63)) ||| ((((rgs hP lP (b)).2).toUInt64 >>> ((nI 63).toInt64.toUInt64 &&& Int64.toUInt64 63)).toInt64)), .long (((rgs hP lP (b)).2) <<< ((nI 1).toInt64 &&& 63))]))).set (7) (.inl (1, 256, .inr (.inl (stpH hs hP lP (b + 1)))))).set (8) (.inl (1, 256, .inr (.inl (stpL ls hP lP (b + 1))))))) dX0_makeSteps_126 rfl uX0 tyX0_ok nmX0 (by decide) fl_RX0_95 rfl rfl rfl rfl (gn (gn (gs ho) (by decide)) (by decide)) (Nat.le_of_ble_eq_true rfl) (ss2 (by decide) (by decide)) ?_
      refine x_iload dX0_makeSteps_129 rfl ?_
      refine x_if_eq (tgt := 154) dX0_makeSteps_131 (by decide) (fun h => False.elim (absurd h (by decide))) (fun _ => ?_)
      refine x_aload_n dX0_makeSteps_134 rfl rfl ?_
      refine x_dup dX0_makeSteps_135 rfl ?_
      refine x_getf (ci := 0) (kf := 10) dX0_makeSteps_136 rfl uX0 (by decide) fl_RX0_91 (gn (gn (gs ho) (by decide)) (by decide)) rfl ?_
      refine x_lload_n dX0_makeSteps_139 rfl rfl ?_
      refine x_lxor dX0_makeSteps_140 ?_
      refine x_putf (ci := 0) (kf := 10) (ty0 := tyX0) (M1 := (((M.set (5) (.inr (0, [.ref (1), .ref (6), .ref (7), .ref (8), .ref (9), .ref (10), .int (nI t), .int (nI d), .int (nI r), .int (nI n), .long (((((rgs hP lP (b)).1) <<< ((nI 1).toInt64 &&& 63)) ||| ((((rgs hP lP (b)).2).toUInt64 >>> ((nI 63).toInt64.toUInt64 &&& Int64.toUInt64 63)).toInt64)) ^^^ (hP)), .long (((rgs hP lP (b)).2) <<< ((nI 1).toInt64 &&& 63))]))).set (7) (.inl (1, 256, .inr (.inl (stpH hs hP lP (b + 1)))))).set (8) (.inl (1, 256, .inr (.inl (stpL ls hP lP (b + 1))))))) dX0_makeSteps_141 rfl uX0 tyX0_ok nmX0 (by decide) fl_RX0_91 rfl rfl rfl rfl (gn (gn (gs ho) (by decide)) (by decide)) (Nat.le_of_ble_eq_true rfl) (ss2 (by decide) (by decide)) ?_
      refine x_aload_n dX0_makeSteps_144 rfl rfl ?_
      refine x_dup dX0_makeSteps_145 rfl ?_
      refine x_getf (ci := 0) (kf := 11) dX0_makeSteps_146 rfl uX0 (by decide) fl_RX0_95 (gn (gn (gs ho) (by decide)) (by decide)) rfl ?_
      refine x_lload_n dX0_makeSteps_149 rfl rfl ?_
      refine x_lxor dX0_makeSteps_150 ?_
      refine x_putf (ci := 0) (kf := 11) (ty0 := tyX0) (M1 := (((M.set (5) (.inr (0, [.ref (1), .ref (6), .ref (7), .ref (8), .ref (9), .ref (10), .int (nI t), .int (nI d), .int (nI r), .int (nI n), .long (((((rgs hP lP (b)).1) <<< ((nI 1).toInt64 &&& 63)) ||| ((((rgs hP lP (b)).2).toUInt64 >>> ((nI 63).toInt64.toUInt64 &&& Int64.toUInt64 63)).toInt64)) ^^^ (hP)), .long ((((rgs hP lP (b)).2) <<< ((nI 1).toInt64 &&& 63)) ^^^ (lP))]))).set (7) (.inl (1, 256, .inr (.inl (stpH hs hP lP (b + 1)))))).set (8) (.inl (1, 256, .inr (.inl (stpL ls hP lP (b + 1))))))) dX0_makeSteps_151 rfl uX0 tyX0_ok nmX0 (by decide) fl_RX0_95 rfl rfl rfl rfl (gn (gn (gs ho) (by decide)) (by decide)) (Nat.le_of_ble_eq_true rfl) (ss2 (by decide) (by decide)) ?_
      refine x_iload dX0_makeSteps_154 rfl ?_
      refine x_iconst (y := nI 1) dX0_makeSteps_156 rfl ?_
      refine x_ishl dX0_makeSteps_157 ?_
      refine x_casti (y := nI (2 ^ (b + 1))) (sl_b hb8) ?_
      refine x_istore (ls' := [some (.ref (5)), some (.long (hP)), none, some (.long (lP)), none, some (.int (nI (2 ^ (b + 1)))), some (.int (nI 1))]) dX0_makeSteps_158 (by decide) rfl rfl ?_
      refine x_goto (tgt := 17) dX0_makeSteps_160 (by decide) ?_
      have hn : (rgs hP lP b).1 < 0 := Classical.byContradiction (fun z => h91 (lgc.mpr z))
      have e1 : (rgs hP lP (b + 1)).1 = _ := if_pos hn
      have e2 : (rgs hP lP (b + 1)).2 = _ := if_pos hn
      rw [← e1, ← e2]
      refine st_fw ?_
      exact ih (b + 1) (by omega)
theorem c_makeSteps {X : Ev} {M : Hp} {t d r n : Nat} {hi lo : Int64} (ho : M[5]? = some (.inr (0, [.ref (1), .ref (6), .ref (7), .ref (8), .ref (9), .ref (10), .int (nI t), .int (nI d), .int (nI r), .int (nI n), .long (hi), .long (lo)]))) {pl : Nat → Int32} {pq : Nat → Bool} (hpl : M[6]? = some (.inl (0, 105, .inl (pl)))) (hpq : ∀ j, j < r → pl j = nI (pq j).toNat) (hr : r ≤ 104) {hs ls : Nat → Int64} (hh : M[7]? = some (.inl (1, 256, .inr (.inl (hs))))) (hl : M[8]? = some (.inl (1, 256, .inr (.inl (ls))))) : Cl X 1 jX0_makeSteps [.ref (5)] M none (((M.set 5 (.inr (0, [.ref (1), .ref (6), .ref (7), .ref (8), .ref (9), .ref (10), .int (nI t), .int (nI d), .int (nI r), .int (nI n), .long ((rgs (ldH pq r r) (ldL pq r r) (8)).1), .long ((rgs (ldH pq r r) (ldL pq r r) (8)).2)]))).set 7 (.inl (1, 256, .inr (.inl (stpH hs (ldH pq r r) (ldL pq r r) 8))))).set 8 (.inl (1, 256, .inr (.inl (stpL ls (ldH pq r r) (ldL pq r r) 8))))) := by
  refine Cl.of (ls := [some (.ref (5)), none, none, none, none, none, none]) (by decide) rfl (Nat.le_of_ble_eq_true rfl) ?_
  refine x_aload_n dX0_makeSteps_0 rfl rfl ?_
  refine x_callV (ci := 0) (as := []) dX0_makeSteps_1 mk_X0_loadPolynomial in_X0_loadPolynomial se_X0_loadPolynomial ml_RX0_88 rfl ho (by decide) rfl rfl (Nat.le_of_ble_eq_true rfl) (c_loadPolynomial ho hpl hpq hr) ?_
  refine x_aload_n dX0_makeSteps_4 rfl rfl ?_
  refine x_getf (ci := 0) (kf := 10) dX0_makeSteps_5 rfl uX0 (by decide) fl_RX0_91 (gs ho) rfl ?_
  refine x_lstore_n (ls' := [some (.ref (5)), some (.long (ldH pq r (r))), none, none, none, none, none]) dX0_makeSteps_8 rfl (by decide) rfl rfl ?_
  refine x_aload_n dX0_makeSteps_9 rfl rfl ?_
  refine x_getf (ci := 0) (kf := 11) dX0_makeSteps_10 rfl uX0 (by decide) fl_RX0_95 (gs ho) rfl ?_
  refine x_lstore_n (ls' := [some (.ref (5)), some (.long (ldH pq r (r))), none, some (.long (ldL pq r (r))), none, none, none]) dX0_makeSteps_13 rfl (by decide) rfl rfl ?_
  refine x_iconst (y := nI 1) dX0_makeSteps_14 rfl ?_
  refine x_istore (ls' := [some (.ref (5)), some (.long (ldH pq r (r))), none, some (.long (ldL pq r (r))), none, some (.int (nI 1)), none]) dX0_makeSteps_15 (by decide) rfl rfl ?_
  refine G.hp ((set_id (gn hh (by decide)) rfl).trans (set_id (gn (gn hl (by decide)) (by decide)) rfl)) (lp_steps2 (hP := ldH pq r r) (lP := ldL pq r r) ho hh hl (x_ret dX0_makeSteps_163 rfl) 8 0 rfl)
