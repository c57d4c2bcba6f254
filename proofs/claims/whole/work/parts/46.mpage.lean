/-! THE MODEL: counts, set, program, wipe, and the methods that use them -/
theorem at_n {i k : Nat} : nI 2200 * nI i + nI k = nI (2200 * i + k) := by rw [pk_mul, nI_add]
theorem lp_countMarks {X : Ev} {M0 M : Hp} {op : Int32} {m t d r n tn : Nat} {me ri lt : Int32} (hO : M[138]? = some (.inr (6, [.int (op), .int (nI m), .int (nI t), .int (nI d), .int (nI r), .int (nI n), .int (nI (2 ^ m - 1)), .ref (139), .ref (140), .ref (141), .ref (142), .ref (143), .ref (144), .ref (145), .ref (146), .ref (147), .int (nI tn), .int (me), .int (ri), .int (lt), .ref (148), .ref (149), .ref (150), .ref (151), .ref (152), .ref (153), .ref (154)]))) {kk : Nat → Bool} (hkk : M[145]? = some (.inl (2, 35200, .inl (fun j => nI ((kk) j).toNat)))) (hn22 : n ≤ 2176) {i : Nat} (hi : i < 16) : ∀ (zz q : Nat), q + zz = n → G X 0 jX7_countMarks M0 4 [some (.ref (138)), some (.int (nI i)), some (.int (nI (cnt (fun q => kk (2200 * i + q)) (q)))), some (.int (nI (q)))] [] M (some (.int (nI (cnt (fun q => kk (2200 * i + q)) n)))) M := by
  intro zz
  induction zz with
  | zero =>
    intro q hqq
    have hqq : q = n := by omega
    subst hqq
    refine x_iload_n dX7_countMarks_4 rfl rfl ?_
    refine x_aload_n dX7_countMarks_5 rfl rfl ?_
    refine x_getf (ci := 6) (kf := 5) dX7_countMarks_6 rfl uX7 (by decide) fl_RX7_113 hO rfl ?_
    refine x_icmp_ge (tgt := 41) dX7_countMarks_9 (by decide) (fun _ => ?_) (fun h => False.elim (h (nI_le (Nat.le_refl _) (by omega))))
    refine x_iload_n dX7_countMarks_41 rfl rfl ?_
    exact x_ireturn_eq dX7_countMarks_42 rfl rfl
  | succ zz ih =>
    intro q hqq
    have e1 : cnt (fun q => kk (2200 * i + q)) (q + 1) = cnt (fun q => kk (2200 * i + q)) q + (if kk (2200 * i + q) then 1 else 0) := rfl
    refine x_iload_n dX7_countMarks_4 rfl rfl ?_
    refine x_aload_n dX7_countMarks_5 rfl rfl ?_
    refine x_getf (ci := 6) (kf := 5) dX7_countMarks_6 rfl uX7 (by decide) fl_RX7_113 hO rfl ?_
    refine x_icmp_ge (tgt := 41) dX7_countMarks_9 (by decide) (fun h => False.elim (nI_ge (by omega : q < n) (by omega) h)) (fun _ => ?_)
    refine x_iload_n dX7_countMarks_12 rfl rfl ?_
    refine x_aload_n dX7_countMarks_13 rfl rfl ?_
    refine x_getf (ci := 6) (kf := 13) dX7_countMarks_14 rfl uX7 (by decide) fl_RX7_30 hO rfl ?_
    refine x_sipush (y := nI 2200) dX7_countMarks_17 rfl ?_
    refine x_iload_n dX7_countMarks_20 rfl rfl ?_
    refine x_imul dX7_countMarks_21 ?_
    refine x_casti (y := nI (2200 * i)) (pk_mul _ _) ?_
    refine x_iload_n dX7_countMarks_22 rfl rfl ?_
    refine x_iadd dX7_countMarks_23 ?_
    refine x_casti (y := nI (2200 * i + q)) (nI_add _ _) ?_
    refine x_zld (j := 2200 * i + q) dX7_countMarks_24 hkk rfl (by omega) (by decide) ?_
    refine x_if_eq (tgt := 32) dX7_countMarks_25 (by decide) (fun h25 => ?_) (fun h25 => ?_)
    · refine x_iconst (y := nI 0) dX7_countMarks_32 rfl ?_
      refine x_iadd dX7_countMarks_33 ?_
      refine x_casti (y := nI (cnt (fun q => kk (2200 * i + q)) (q + 1))) (by rw [nI_add, e1, if_neg (by rw [bt0 h25]; decide)]) ?_
      refine x_istore_n (ls' := [some (.ref (138)), some (.int (nI i)), some (.int (nI (cnt (fun q => kk (2200 * i + q)) (q + 1)))), some (.int (nI (q)))]) dX7_countMarks_34 rfl (by decide) rfl rfl ?_
      refine x_iinc (y := nI ((q) + 1)) (ls' := [some (.ref (138)), some (.int (nI i)), some (.int (nI (cnt (fun q => kk (2200 * i + q)) (q + 1)))), some (.int (nI ((q) + 1)))]) dX7_countMarks_35 (by decide) rfl rfl (ii_add _ 1) rfl ?_
      refine x_goto (tgt := 4) dX7_countMarks_38 (by decide) ?_
      exact ih (q + 1) (by omega)
    · refine x_iconst (y := nI 1) dX7_countMarks_28 rfl ?_
      refine x_goto (tgt := 33) dX7_countMarks_29 (by decide) ?_
      refine x_iadd dX7_countMarks_33 ?_
      refine x_casti (y := nI (cnt (fun q => kk (2200 * i + q)) (q + 1))) (by rw [nI_add, e1, if_pos (bt1 h25)]) ?_
      refine x_istore_n (ls' := [some (.ref (138)), some (.int (nI i)), some (.int (nI (cnt (fun q => kk (2200 * i + q)) (q + 1)))), some (.int (nI (q)))]) dX7_countMarks_34 rfl (by decide) rfl rfl ?_
      refine x_iinc (y := nI ((q) + 1)) (ls' := [some (.ref (138)), some (.int (nI i)), some (.int (nI (cnt (fun q => kk (2200 * i + q)) (q + 1)))), some (.int (nI ((q) + 1)))]) dX7_countMarks_35 (by decide) rfl rfl (ii_add _ 1) rfl ?_
      refine x_goto (tgt := 4) dX7_countMarks_38 (by decide) ?_
      exact ih (q + 1) (by omega)
theorem c_countMarks {X : Ev} {M : Hp} {op : Int32} {m t d r n tn : Nat} {me ri lt : Int32} (hO : M[138]? = some (.inr (6, [.int (op), .int (nI m), .int (nI t), .int (nI d), .int (nI r), .int (nI n), .int (nI (2 ^ m - 1)), .ref (139), .ref (140), .ref (141), .ref (142), .ref (143), .ref (144), .ref (145), .ref (146), .ref (147), .int (nI tn), .int (me), .int (ri), .int (lt), .ref (148), .ref (149), .ref (150), .ref (151), .ref (152), .ref (153), .ref (154)]))) {kk : Nat → Bool} (hkk : M[145]? = some (.inl (2, 35200, .inl (fun j => nI ((kk) j).toNat)))) (hn22 : n ≤ 2176) {i : Nat} (hi : i < 16) : Cl X 0 jX7_countMarks [.ref (138), .int (nI i)] M (some (.int (nI (cnt (fun q => kk (2200 * i + q)) n)))) M := by
  refine Cl.of (ls := [some (.ref (138)), some (.int (nI i)), none, none]) (by decide) rfl (Nat.le_of_ble_eq_true rfl) ?_
  refine x_iconst (y := nI 0) dX7_countMarks_0 rfl ?_
  refine x_istore_n (ls' := [some (.ref (138)), some (.int (nI i)), some (.int (nI 0)), none]) dX7_countMarks_1 rfl (by decide) rfl rfl ?_
  refine x_iconst (y := nI 0) dX7_countMarks_2 rfl ?_
  refine x_istore_n (ls' := [some (.ref (138)), some (.int (nI i)), some (.int (nI 0)), some (.int (nI 0))]) dX7_countMarks_3 rfl (by decide) rfl rfl ?_
  exact lp_countMarks hO hkk hn22 hi n 0 (by omega)
theorem lp_countZeros {X : Ev} {M0 M : Hp} {op : Int32} {m t d r n tn : Nat} {me ri lt : Int32} (hO : M[138]? = some (.inr (6, [.int (op), .int (nI m), .int (nI t), .int (nI d), .int (nI r), .int (nI n), .int (nI (2 ^ m - 1)), .ref (139), .ref (140), .ref (141), .ref (142), .ref (143), .ref (144), .ref (145), .ref (146), .ref (147), .int (nI tn), .int (me), .int (ri), .int (lt), .ref (148), .ref (149), .ref (150), .ref (151), .ref (152), .ref (153), .ref (154)]))) {bb : Nat → Bool} (hbb : M[143]? = some (.inl (2, 35200, .inl (fun j => nI ((bb) j).toNat)))) (hn22 : n ≤ 2176) {i : Nat} (hi : i < 16) : ∀ (zz q : Nat), q + zz = n → G X 0 jX7_countZeros M0 4 [some (.ref (138)), some (.int (nI i)), some (.int (nI (cnt (fun q => !bb (2200 * i + q)) (q)))), some (.int (nI (q)))] [] M (some (.int (nI (cnt (fun q => !bb (2200 * i + q)) n)))) M := by
  intro zz
  induction zz with
  | zero =>
    intro q hqq
    have hqq : q = n := by omega
    subst hqq
    refine x_iload_n dX7_countZeros_4 rfl rfl ?_
    refine x_aload_n dX7_countZeros_5 rfl rfl ?_
    refine x_getf (ci := 6) (kf := 5) dX7_countZeros_6 rfl uX7 (by decide) fl_RX7_113 hO rfl ?_
    refine x_icmp_ge (tgt := 41) dX7_countZeros_9 (by decide) (fun _ => ?_) (fun h => False.elim (h (nI_le (Nat.le_refl _) (by omega))))
    refine x_iload_n dX7_countZeros_41 rfl rfl ?_
    exact x_ireturn_eq dX7_countZeros_42 rfl rfl
  | succ zz ih =>
    intro q hqq
    have e1 : cnt (fun q => !bb (2200 * i + q)) (q + 1) = cnt (fun q => !bb (2200 * i + q)) q + (if !bb (2200 * i + q) then 1 else 0) := rfl
    refine x_iload_n dX7_countZeros_4 rfl rfl ?_
    refine x_aload_n dX7_countZeros_5 rfl rfl ?_
    refine x_getf (ci := 6) (kf := 5) dX7_countZeros_6 rfl uX7 (by decide) fl_RX7_113 hO rfl ?_
    refine x_icmp_ge (tgt := 41) dX7_countZeros_9 (by decide) (fun h => False.elim (nI_ge (by omega : q < n) (by omega) h)) (fun _ => ?_)
    refine x_iload_n dX7_countZeros_12 rfl rfl ?_
    refine x_aload_n dX7_countZeros_13 rfl rfl ?_
    refine x_getf (ci := 6) (kf := 11) dX7_countZeros_14 rfl uX7 (by decide) fl_RX7_23 hO rfl ?_
    refine x_sipush (y := nI 2200) dX7_countZeros_17 rfl ?_
    refine x_iload_n dX7_countZeros_20 rfl rfl ?_
    refine x_imul dX7_countZeros_21 ?_
    refine x_casti (y := nI (2200 * i)) (pk_mul _ _) ?_
    refine x_iload_n dX7_countZeros_22 rfl rfl ?_
    refine x_iadd dX7_countZeros_23 ?_
    refine x_casti (y := nI (2200 * i + q)) (nI_add _ _) ?_
    refine x_zld (j := 2200 * i + q) dX7_countZeros_24 hbb rfl (by omega) (by decide) ?_
    refine x_if_eq (tgt := 32) dX7_countZeros_25 (by decide) (fun h25 => ?_) (fun h25 => ?_)
    · refine x_iconst (y := nI 1) dX7_countZeros_32 rfl ?_
      refine x_iadd dX7_countZeros_33 ?_
      refine x_casti (y := nI (cnt (fun q => !bb (2200 * i + q)) (q + 1))) (by rw [nI_add, e1, if_pos (by rw [bt0 h25]; rfl)]) ?_
      refine x_istore_n (ls' := [some (.ref (138)), some (.int (nI i)), some (.int (nI (cnt (fun q => !bb (2200 * i + q)) (q + 1)))), some (.int (nI (q)))]) dX7_countZeros_34 rfl (by decide) rfl rfl ?_
      refine x_iinc (y := nI ((q) + 1)) (ls' := [some (.ref (138)), some (.int (nI i)), some (.int (nI (cnt (fun q => !bb (2200 * i + q)) (q + 1)))), some (.int (nI ((q) + 1)))]) dX7_countZeros_35 (by decide) rfl rfl (ii_add _ 1) rfl ?_
      refine x_goto (tgt := 4) dX7_countZeros_38 (by decide) ?_
      exact ih (q + 1) (by omega)
    · refine x_iconst (y := nI 0) dX7_countZeros_28 rfl ?_
      refine x_goto (tgt := 33) dX7_countZeros_29 (by decide) ?_
      refine x_iadd dX7_countZeros_33 ?_
      refine x_casti (y := nI (cnt (fun q => !bb (2200 * i + q)) (q + 1))) (by rw [nI_add, e1, if_neg (by rw [bt1 h25]; decide)]) ?_
      refine x_istore_n (ls' := [some (.ref (138)), some (.int (nI i)), some (.int (nI (cnt (fun q => !bb (2200 * i + q)) (q + 1)))), some (.int (nI (q)))]) dX7_countZeros_34 rfl (by decide) rfl rfl ?_
      refine x_iinc (y := nI ((q) + 1)) (ls' := [some (.ref (138)), some (.int (nI i)), some (.int (nI (cnt (fun q => !bb (2200 * i + q)) (q + 1)))), some (.int (nI ((q) + 1)))]) dX7_countZeros_35 (by decide) rfl rfl (ii_add _ 1) rfl ?_
      refine x_goto (tgt := 4) dX7_countZeros_38 (by decide) ?_
      exact ih (q + 1) (by omega)
theorem c_countZeros {X : Ev} {M : Hp} {op : Int32} {m t d r n tn : Nat} {me ri lt : Int32} (hO : M[138]? = some (.inr (6, [.int (op), .int (nI m), .int (nI t), .int (nI d), .int (nI r), .int (nI n), .int (nI (2 ^ m - 1)), .ref (139), .ref (140), .ref (141), .ref (142), .ref (143), .ref (144), .ref (145), .ref (146), .ref (147), .int (nI tn), .int (me), .int (ri), .int (lt), .ref (148), .ref (149), .ref (150), .ref (151), .ref (152), .ref (153), .ref (154)]))) {bb : Nat → Bool} (hbb : M[143]? = some (.inl (2, 35200, .inl (fun j => nI ((bb) j).toNat)))) (hn22 : n ≤ 2176) {i : Nat} (hi : i < 16) : Cl X 0 jX7_countZeros [.ref (138), .int (nI i)] M (some (.int (nI (cnt (fun q => !bb (2200 * i + q)) n)))) M := by
  refine Cl.of (ls := [some (.ref (138)), some (.int (nI i)), none, none]) (by decide) rfl (Nat.le_of_ble_eq_true rfl) ?_
  refine x_iconst (y := nI 0) dX7_countZeros_0 rfl ?_
  refine x_istore_n (ls' := [some (.ref (138)), some (.int (nI i)), some (.int (nI 0)), none]) dX7_countZeros_1 rfl (by decide) rfl rfl ?_
  refine x_iconst (y := nI 0) dX7_countZeros_2 rfl ?_
  refine x_istore_n (ls' := [some (.ref (138)), some (.int (nI i)), some (.int (nI 0)), some (.int (nI 0))]) dX7_countZeros_3 rfl (by decide) rfl rfl ?_
  exact lp_countZeros hO hbb hn22 hi n 0 (by omega)
theorem lp_countStuck {X : Ev} {M0 M : Hp} {op : Int32} {m t d r n tn : Nat} {me ri lt : Int32} (hO : M[138]? = some (.inr (6, [.int (op), .int (nI m), .int (nI t), .int (nI d), .int (nI r), .int (nI n), .int (nI (2 ^ m - 1)), .ref (139), .ref (140), .ref (141), .ref (142), .ref (143), .ref (144), .ref (145), .ref (146), .ref (147), .int (nI tn), .int (me), .int (ri), .int (lt), .ref (148), .ref (149), .ref (150), .ref (151), .ref (152), .ref (153), .ref (154)]))) {ss : Nat → Int32} (hss : M[144]? = some (.inl (0, 35200, .inl (ss)))) (hn22 : n ≤ 2176) {i : Nat} (hi : i < 16) : ∀ (zz q : Nat), q + zz = n → G X 0 jX7_countStuck M0 4 [some (.ref (138)), some (.int (nI i)), some (.int (nI (cnt (fun q => decide (ss (2200 * i + q) ≠ -1)) (q)))), some (.int (nI (q)))] [] M (some (.int (nI (cnt (fun q => decide (ss (2200 * i + q) ≠ -1)) n)))) M := by
  intro zz
  induction zz with
  | zero =>
    intro q hqq
    have hqq : q = n := by omega
    subst hqq
    refine x_iload_n dX7_countStuck_4 rfl rfl ?_
    refine x_aload_n dX7_countStuck_5 rfl rfl ?_
    refine x_getf (ci := 6) (kf := 5) dX7_countStuck_6 rfl uX7 (by decide) fl_RX7_113 hO rfl ?_
    refine x_icmp_ge (tgt := 42) dX7_countStuck_9 (by decide) (fun _ => ?_) (fun h => False.elim (h (nI_le (Nat.le_refl _) (by omega))))
    refine x_iload_n dX7_countStuck_42 rfl rfl ?_
    exact x_ireturn_eq dX7_countStuck_43 rfl rfl
  | succ zz ih =>
    intro q hqq
    have e1 : cnt (fun q => decide (ss (2200 * i + q) ≠ -1)) (q + 1) = cnt (fun q => decide (ss (2200 * i + q) ≠ -1)) q + (if decide (ss (2200 * i + q) ≠ -1) then 1 else 0) := rfl
    refine x_iload_n dX7_countStuck_4 rfl rfl ?_
    refine x_aload_n dX7_countStuck_5 rfl rfl ?_
    refine x_getf (ci := 6) (kf := 5) dX7_countStuck_6 rfl uX7 (by decide) fl_RX7_113 hO rfl ?_
    refine x_icmp_ge (tgt := 42) dX7_countStuck_9 (by decide) (fun h => False.elim (nI_ge (by omega : q < n) (by omega) h)) (fun _ => ?_)
    refine x_iload_n dX7_countStuck_12 rfl rfl ?_
    refine x_aload_n dX7_countStuck_13 rfl rfl ?_
    refine x_getf (ci := 6) (kf := 12) dX7_countStuck_14 rfl uX7 (by decide) fl_RX7_27 hO rfl ?_
    refine x_sipush (y := nI 2200) dX7_countStuck_17 rfl ?_
    refine x_iload_n dX7_countStuck_20 rfl rfl ?_
    refine x_imul dX7_countStuck_21 ?_
    refine x_casti (y := nI (2200 * i)) (pk_mul _ _) ?_
    refine x_iload_n dX7_countStuck_22 rfl rfl ?_
    refine x_iadd dX7_countStuck_23 ?_
    refine x_casti (y := nI (2200 * i + q)) (nI_add _ _) ?_
    refine x_ild (j := 2200 * i + q) dX7_countStuck_24 hss rfl (by omega) (by decide) ?_
    refine x_iconst (y := -1) dX7_countStuck_25 rfl ?_
    refine x_icmp_ne (tgt := 33) dX7_countStuck_26 (by decide) (fun h26 => ?_) (fun h26 => ?_)
    · refine x_iconst (y := nI 1) dX7_countStuck_33 rfl ?_
      refine x_iadd dX7_countStuck_34 ?_
      refine x_casti (y := nI (cnt (fun q => decide (ss (2200 * i + q) ≠ -1)) (q + 1))) (by rw [nI_add, e1, if_pos (decide_eq_true h26)]) ?_
      refine x_istore_n (ls' := [some (.ref (138)), some (.int (nI i)), some (.int (nI (cnt (fun q => decide (ss (2200 * i + q) ≠ -1)) (q + 1)))), some (.int (nI (q)))]) dX7_countStuck_35 rfl (by decide) rfl rfl ?_
      refine x_iinc (y := nI ((q) + 1)) (ls' := [some (.ref (138)), some (.int (nI i)), some (.int (nI (cnt (fun q => decide (ss (2200 * i + q) ≠ -1)) (q + 1)))), some (.int (nI ((q) + 1)))]) dX7_countStuck_36 (by decide) rfl rfl (ii_add _ 1) rfl ?_
      refine x_goto (tgt := 4) dX7_countStuck_39 (by decide) ?_
      exact ih (q + 1) (by omega)
    · refine x_iconst (y := nI 0) dX7_countStuck_29 rfl ?_
      refine x_goto (tgt := 34) dX7_countStuck_30 (by decide) ?_
      refine x_iadd dX7_countStuck_34 ?_
      refine x_casti (y := nI (cnt (fun q => decide (ss (2200 * i + q) ≠ -1)) (q + 1))) (by rw [nI_add, e1, if_neg (by simp [h26])]) ?_
      refine x_istore_n (ls' := [some (.ref (138)), some (.int (nI i)), some (.int (nI (cnt (fun q => decide (ss (2200 * i + q) ≠ -1)) (q + 1)))), some (.int (nI (q)))]) dX7_countStuck_35 rfl (by decide) rfl rfl ?_
      refine x_iinc (y := nI ((q) + 1)) (ls' := [some (.ref (138)), some (.int (nI i)), some (.int (nI (cnt (fun q => decide (ss (2200 * i + q) ≠ -1)) (q + 1)))), some (.int (nI ((q) + 1)))]) dX7_countStuck_36 (by decide) rfl rfl (ii_add _ 1) rfl ?_
      refine x_goto (tgt := 4) dX7_countStuck_39 (by decide) ?_
      exact ih (q + 1) (by omega)
theorem c_countStuck {X : Ev} {M : Hp} {op : Int32} {m t d r n tn : Nat} {me ri lt : Int32} (hO : M[138]? = some (.inr (6, [.int (op), .int (nI m), .int (nI t), .int (nI d), .int (nI r), .int (nI n), .int (nI (2 ^ m - 1)), .ref (139), .ref (140), .ref (141), .ref (142), .ref (143), .ref (144), .ref (145), .ref (146), .ref (147), .int (nI tn), .int (me), .int (ri), .int (lt), .ref (148), .ref (149), .ref (150), .ref (151), .ref (152), .ref (153), .ref (154)]))) {ss : Nat → Int32} (hss : M[144]? = some (.inl (0, 35200, .inl (ss)))) (hn22 : n ≤ 2176) {i : Nat} (hi : i < 16) : Cl X 0 jX7_countStuck [.ref (138), .int (nI i)] M (some (.int (nI (cnt (fun q => decide (ss (2200 * i + q) ≠ -1)) n)))) M := by
  refine Cl.of (ls := [some (.ref (138)), some (.int (nI i)), none, none]) (by decide) rfl (Nat.le_of_ble_eq_true rfl) ?_
  refine x_iconst (y := nI 0) dX7_countStuck_0 rfl ?_
  refine x_istore_n (ls' := [some (.ref (138)), some (.int (nI i)), some (.int (nI 0)), none]) dX7_countStuck_1 rfl (by decide) rfl rfl ?_
  refine x_iconst (y := nI 0) dX7_countStuck_2 rfl ?_
  refine x_istore_n (ls' := [some (.ref (138)), some (.int (nI i)), some (.int (nI 0)), some (.int (nI 0))]) dX7_countStuck_3 rfl (by decide) rfl rfl ?_
  exact lp_countStuck hO hss hn22 hi n 0 (by omega)
theorem c_mset {X : Ev} {M : Hp} {op : Int32} {m t d r n tn : Nat} {me ri lt : Int32} (hO : M[138]? = some (.inr (6, [.int (op), .int (nI m), .int (nI t), .int (nI d), .int (nI r), .int (nI n), .int (nI (2 ^ m - 1)), .ref (139), .ref (140), .ref (141), .ref (142), .ref (143), .ref (144), .ref (145), .ref (146), .ref (147), .int (nI tn), .int (me), .int (ri), .int (lt), .ref (148), .ref (149), .ref (150), .ref (151), .ref (152), .ref (153), .ref (154)]))) {bb : Nat → Bool} (hbb : M[143]? = some (.inl (2, 35200, .inl (fun j => nI ((bb) j).toNat)))) {ss : Nat → Int32} (hss : M[144]? = some (.inl (0, 35200, .inl (ss)))) {a : Nat} (ha : a < 35200) {x : Bool} : Cl X 0 jX7_set [.ref (138), .int (nI a), .int (nI x.toNat)] M none (M.set (143) (.inl (2, 35200, .inl (fun j => nI ((bup bb a (if ss a = -1 then x else bb a)) j).toNat)))) := by
  refine Cl.of (ls := [some (.ref (138)), some (.int (nI a)), some (.int (nI x.toNat))]) (by decide) rfl (Nat.le_of_ble_eq_true rfl) ?_
  refine x_aload_n dX7_set_0 rfl rfl ?_
  refine x_getf (ci := 6) (kf := 11) dX7_set_1 rfl uX7 (by decide) fl_RX7_23 hO rfl ?_
  refine x_iload_n dX7_set_4 rfl rfl ?_
  refine x_aload_n dX7_set_5 rfl rfl ?_
  refine x_getf (ci := 6) (kf := 12) dX7_set_6 rfl uX7 (by decide) fl_RX7_27 hO rfl ?_
  refine x_iload_n dX7_set_9 rfl rfl ?_
  refine x_ild (j := a) dX7_set_10 hss rfl (by omega) (by decide) ?_
  refine x_iconst (y := -1) dX7_set_11 rfl ?_
  refine x_icmp_ne (tgt := 19) dX7_set_12 (by decide) (fun h12 => ?_) (fun h12 => ?_)
  · refine x_aload_n dX7_set_19 rfl rfl ?_
    refine x_getf (ci := 6) (kf := 11) dX7_set_20 rfl uX7 (by decide) fl_RX7_23 hO rfl ?_
    refine x_iload_n dX7_set_23 rfl rfl ?_
    refine x_zld (j := a) dX7_set_24 hbb rfl (by omega) (by decide) ?_
    refine x_zst (j := a) (M1 := (M.set (143) (.inl (2, 35200, .inl (fun j => nI ((bup bb a (if ss a = -1 then x else bb a)) j).toNat))))) dX7_set_25 hbb rfl (by omega) (by decide) (by rw [show upd (fun j => nI ((bb) j).toNat) (a) (vp_nar .boolean (nI (bb (a)).toNat)) = (fun j => nI ((bup bb a (if ss a = -1 then x else bb a)) j).toNat) from (by rw [if_neg h12]; exact zup)] <;> exact rfl) ?_
    exact x_ret dX7_set_26 rfl
  · refine x_iload_n dX7_set_15 rfl rfl ?_
    refine x_goto (tgt := 25) dX7_set_16 (by decide) ?_
    refine x_zst (j := a) (M1 := (M.set (143) (.inl (2, 35200, .inl (fun j => nI ((bup bb a (if ss a = -1 then x else bb a)) j).toNat))))) dX7_set_25 hbb rfl (by omega) (by decide) (by rw [show upd (fun j => nI ((bb) j).toNat) (a) (vp_nar .boolean (nI x.toNat)) = (fun j => nI ((bup bb a (if ss a = -1 then x else bb a)) j).toNat) from (by rw [if_pos h12]; exact zup)] <;> exact rfl) ?_
    exact x_ret dX7_set_26 rfl
/-- a bit of page i that is programmed -/
def pgv (bb : Nat → Bool) (ss : Nat → Int32) (wd : Nat → Bool) (i k : Nat) : Bool := if ss (2200 * i + k) = -1 then bb (2200 * i + k) && wd k else bb (2200 * i + k)
def pgb (bb : Nat → Bool) (ss : Nat → Int32) (wd : Nat → Bool) (i n : Nat) : Nat → Bool := fun j => if 2200 * i ≤ j ∧ j < 2200 * i + n then pgv bb ss wd i (j - 2200 * i) else bb j
theorem pgb_0 {bb : Nat → Bool} {ss : Nat → Int32} {wd : Nat → Bool} {i : Nat} : pgb bb ss wd i 0 = bb := by funext j; unfold pgb; rw [if_neg (by omega)]
theorem pgb_at {bb : Nat → Bool} {ss : Nat → Int32} {wd : Nat → Bool} {i k : Nat} : pgb bb ss wd i k (2200 * i + k) = bb (2200 * i + k) := by unfold pgb; rw [if_neg (by omega)]
theorem pgb_1 {bb : Nat → Bool} {ss : Nat → Int32} {wd : Nat → Bool} {i k : Nat} : pgb bb ss wd i (k + 1) (2200 * i + k) = pgv bb ss wd i k := by unfold pgb; rw [if_pos (by omega), Nat.add_sub_cancel_left]
theorem pgb_up {bb : Nat → Bool} {ss : Nat → Int32} {wd : Nat → Bool} {i k : Nat} : bup (pgb bb ss wd i k) (2200 * i + k) (pgv bb ss wd i k) = pgb bb ss wd i (k + 1) := by
  funext j
  by_cases h : j = 2200 * i + k
  · subst h; rw [pgb_1]; unfold bup; rw [if_pos rfl]
  · unfold bup pgb
    rw [if_neg h]
    by_cases h2 : 2200 * i ≤ j ∧ j < 2200 * i + k
    · rw [if_pos h2, if_pos (by omega)]
    · rw [if_neg h2, if_neg (by omega)]
theorem pgb_z {bb : Nat → Bool} {ss : Nat → Int32} {wd : Nat → Bool} {i k : Nat} (h : wd k = false) : bup (pgb bb ss wd i k) (2200 * i + k) (if ss (2200 * i + k) = -1 then false else pgb bb ss wd i k (2200 * i + k)) = pgb bb ss wd i (k + 1) := by
  rw [← pgb_up]; congr 1; rw [pgb_at]; unfold pgv; rw [h, Bool.and_false]
theorem pgb_s {bb : Nat → Bool} {ss : Nat → Int32} {wd : Nat → Bool} {i k : Nat} (h : wd k = true) : pgb bb ss wd i k = pgb bb ss wd i (k + 1) := by
  rw [← pgb_up]
  funext j
  by_cases hj : j = 2200 * i + k
  · subst hj; unfold bup; rw [if_pos rfl, pgb_at]; unfold pgv; rw [h, Bool.and_true]; split <;> rfl
  · unfold bup; rw [if_neg hj]
theorem bxe {a b : Bool} (h : nI a.toNat = nI b.toNat) : (a ^^ b) = false := by
  match a, b, h with
  | true, true, _ => rfl
  | false, false, _ => rfl
  | true, false, h => exact absurd h (by decide)
  | false, true, h => exact absurd h (by decide)
theorem bxn {a b : Bool} (h : ¬ nI a.toNat = nI b.toNat) : (a ^^ b) = true := by
  match a, b, h with
  | true, true, h => exact absurd rfl h
  | false, false, h => exact absurd rfl h
  | true, false, _ => rfl
  | false, true, _ => rfl
theorem pg_fw {X : Ev} {d' : Nat} {M0 M M' : Hp} {v : Option Value} {pc : Nat} {a b c e : Value} {f : Option Value} (kc : G X d' jX7_program M0 pc [some a, some b, some c, some e, none] [] M v M') : G X d' jX7_program M0 pc [some a, some b, some c, some e, f] [] M v M' := x_fewer (fun q w h => by match q, h with | 0, h => exact h | 1, h => exact h | 2, h => exact h | 3, h => exact h | 4, h => cases h | q + 5, h => cases h) kc
theorem lp_mprog {X : Ev} {M0 M : Hp} {op : Int32} {m t d r n tn : Nat} {me ri lt : Int32} (hO : M[138]? = some (.inr (6, [.int (op), .int (nI m), .int (nI t), .int (nI d), .int (nI r), .int (nI n), .int (nI (2 ^ m - 1)), .ref (139), .ref (140), .ref (141), .ref (142), .ref (143), .ref (144), .ref (145), .ref (146), .ref (147), .int (nI tn), .int (me), .int (ri), .int (lt), .ref (148), .ref (149), .ref (150), .ref (151), .ref (152), .ref (153), .ref (154)]))) {bb : Nat → Bool} (hbb : M[143]? = some (.inl (2, 35200, .inl (fun j => nI ((bb) j).toNat)))) {ss : Nat → Int32} (hss : M[144]? = some (.inl (0, 35200, .inl (ss)))) {wd : Nat → Bool} (hwd : M[150]? = some (.inl (2, 2200, .inl (fun j => nI ((wd) j).toNat)))) (hn22 : n ≤ 2176) {i : Nat} (hi : i < 16) : ∀ (zz q : Nat), q + zz = n → G X 1 jX7_program M0 4 [some (.ref (138)), some (.int (nI i)), some (.int (nI (cnt (fun q => pgv bb ss wd i q ^^ wd q) (q)))), some (.int (nI (q))), none] [] (M.set (143) (.inl (2, 35200, .inl (fun j => nI ((pgb bb ss wd i (q)) j).toNat)))) (some (.int (nI (cnt (fun q => pgv bb ss wd i q ^^ wd q) n)))) (M.set (143) (.inl (2, 35200, .inl (fun j => nI ((pgb bb ss wd i (n)) j).toNat)))) := by
  intro zz
  induction zz with
  | zero =>
    intro q hqq
    have hqq : q = n := by omega
    subst hqq
    refine x_iload_n dX7_program_4 rfl rfl ?_
    refine x_aload_n dX7_program_5 rfl rfl ?_
    refine x_getf (ci := 6) (kf := 5) dX7_program_6 rfl uX7 (by decide) fl_RX7_113 (gn hO (by decide)) rfl ?_
    refine x_icmp_ge (tgt := 67) dX7_program_9 (by decide) (fun _ => ?_) (fun h => False.elim (h (nI_le (Nat.le_refl _) (by omega))))
    refine x_iload_n dX7_program_67 rfl rfl ?_
    exact x_ireturn_eq dX7_program_68 rfl rfl
  | succ zz ih =>
    intro q hqq
    have e1 : cnt (fun q => pgv bb ss wd i q ^^ wd q) (q + 1) = cnt (fun q => pgv bb ss wd i q ^^ wd q) q + (if pgv bb ss wd i q ^^ wd q then 1 else 0) := rfl
    refine x_iload_n dX7_program_4 rfl rfl ?_
    refine x_aload_n dX7_program_5 rfl rfl ?_
    refine x_getf (ci := 6) (kf := 5) dX7_program_6 rfl uX7 (by decide) fl_RX7_113 (gn hO (by decide)) rfl ?_
    refine x_icmp_ge (tgt := 67) dX7_program_9 (by decide) (fun h => False.elim (nI_ge (by omega : q < n) (by omega) h)) (fun _ => ?_)
    refine x_sipush (y := nI 2200) dX7_program_12 rfl ?_
    refine x_iload_n dX7_program_15 rfl rfl ?_
    refine x_imul dX7_program_16 ?_
    refine x_casti (y := nI (2200 * i)) (pk_mul _ _) ?_
    refine x_iload_n dX7_program_17 rfl rfl ?_
    refine x_iadd dX7_program_18 ?_
    refine x_casti (y := nI (2200 * i + q)) (nI_add _ _) ?_
    refine x_istore (ls' := [some (.ref (138)), some (.int (nI i)), some (.int (nI (cnt (fun q => pgv bb ss wd i q ^^ wd q) (q)))), some (.int (nI (q))), some (.int (nI (2200 * i + q)))]) dX7_program_19 (by decide) rfl rfl ?_
    refine x_aload_n dX7_program_21 rfl rfl ?_
    refine x_getf (ci := 6) (kf := 22) dX7_program_22 rfl uX7 (by decide) fl_RX7_45 (gn hO (by decide)) rfl ?_
    refine x_iload_n dX7_program_25 rfl rfl ?_
    refine x_zld (j := q) dX7_program_26 (gn hwd (by decide)) rfl (by omega) (by decide) ?_
    refine x_if_ne (tgt := 37) dX7_program_27 (by decide) (fun h27 => ?_) (fun h27 => ?_)
    · refine G.hp (congrArg (fun z : Nat → Bool => M.set 143 (.inl (2, 35200, .inl (fun j => nI (z j).toNat)))) (pgb_s (bt1 h27))) ?_
      refine x_iload_n dX7_program_37 rfl rfl ?_
      refine x_aload_n dX7_program_38 rfl rfl ?_
      refine x_getf (ci := 6) (kf := 11) dX7_program_39 rfl uX7 (by decide) fl_RX7_23 (gn hO (by decide)) rfl ?_
      refine x_iload dX7_program_42 rfl ?_
      refine x_zld (j := 2200 * i + q) dX7_program_44 (gs hbb) rfl (by omega) (by decide) ?_
      refine x_casti (y := nI (pgv bb ss wd i q).toNat) (by rw [pgb_1]) ?_
      refine x_aload_n dX7_program_45 rfl rfl ?_
      refine x_getf (ci := 6) (kf := 22) dX7_program_46 rfl uX7 (by decide) fl_RX7_45 (gn hO (by decide)) rfl ?_
      refine x_iload_n dX7_program_49 rfl rfl ?_
      refine x_zld (j := q) dX7_program_50 (gn hwd (by decide)) rfl (by omega) (by decide) ?_
      refine x_icmp_eq (tgt := 58) dX7_program_51 (by decide) (fun h51 => ?_) (fun h51 => ?_)
      · refine x_iconst (y := nI 0) dX7_program_58 rfl ?_
        refine x_iadd dX7_program_59 ?_
        refine x_casti (y := nI (cnt (fun q => pgv bb ss wd i q ^^ wd q) (q + 1))) (by rw [nI_add, e1, if_neg (by rw [bxe h51]; decide)]) ?_
        refine x_istore_n (ls' := [some (.ref (138)), some (.int (nI i)), some (.int (nI (cnt (fun q => pgv bb ss wd i q ^^ wd q) (q + 1)))), some (.int (nI (q))), some (.int (nI (2200 * i + q)))]) dX7_program_60 rfl (by decide) rfl rfl ?_
        refine x_iinc (y := nI ((q) + 1)) (ls' := [some (.ref (138)), some (.int (nI i)), some (.int (nI (cnt (fun q => pgv bb ss wd i q ^^ wd q) (q + 1)))), some (.int (nI ((q) + 1))), some (.int (nI (2200 * i + q)))]) dX7_program_61 (by decide) rfl rfl (ii_add _ 1) rfl ?_
        refine x_goto (tgt := 4) dX7_program_64 (by decide) ?_
        refine pg_fw ?_
        exact ih (q + 1) (by omega)
      · refine x_iconst (y := nI 1) dX7_program_54 rfl ?_
        refine x_goto (tgt := 59) dX7_program_55 (by decide) ?_
        refine x_iadd dX7_program_59 ?_
        refine x_casti (y := nI (cnt (fun q => pgv bb ss wd i q ^^ wd q) (q + 1))) (by rw [nI_add, e1, if_pos (bxn h51)]) ?_
        refine x_istore_n (ls' := [some (.ref (138)), some (.int (nI i)), some (.int (nI (cnt (fun q => pgv bb ss wd i q ^^ wd q) (q + 1)))), some (.int (nI (q))), some (.int (nI (2200 * i + q)))]) dX7_program_60 rfl (by decide) rfl rfl ?_
        refine x_iinc (y := nI ((q) + 1)) (ls' := [some (.ref (138)), some (.int (nI i)), some (.int (nI (cnt (fun q => pgv bb ss wd i q ^^ wd q) (q + 1)))), some (.int (nI ((q) + 1))), some (.int (nI (2200 * i + q)))]) dX7_program_61 (by decide) rfl rfl (ii_add _ 1) rfl ?_
        refine x_goto (tgt := 4) dX7_program_64 (by decide) ?_
        refine pg_fw ?_
        exact ih (q + 1) (by omega)
    · refine x_aload_n dX7_program_30 rfl rfl ?_
      refine x_iload dX7_program_31 rfl ?_
      refine x_iconst (y := nI 0) dX7_program_33 rfl ?_
      refine x_callV (ci := 6) (as := [.int (nI (2200 * i + q)), .int (nI 0)]) dX7_program_34 mk_X7_set in_X7_set se_X7_set ml_RX7_145 rfl (gn hO (by decide)) (by decide) rfl rfl (Nat.le_of_ble_eq_true rfl) (c_mset (x := false) (gn hO (by decide)) (gs hbb) (gn hss (by decide)) (by omega)) ?_
      refine G.hp (show ((M.set (143) (.inl (2, 35200, .inl (fun j => nI ((pgb bb ss wd i (q)) j).toNat)))).set (143) (.inl (2, 35200, .inl (fun j => nI ((bup (pgb bb ss wd i q) (2200 * i + q) (if ss (2200 * i + q) = -1 then false else pgb bb ss wd i q (2200 * i + q))) j).toNat))) : Hp) = (M.set (143) (.inl (2, 35200, .inl (fun j => nI ((bup (pgb bb ss wd i q) (2200 * i + q) (if ss (2200 * i + q) = -1 then false else pgb bb ss wd i q (2200 * i + q))) j).toNat)))) from (ss0)) ?_
      refine G.hp (congrArg (fun z : Nat → Bool => M.set 143 (.inl (2, 35200, .inl (fun j => nI (z j).toNat)))) (pgb_z (bt0 h27))) ?_
      refine x_iload_n dX7_program_37 rfl rfl ?_
      refine x_aload_n dX7_program_38 rfl rfl ?_
      refine x_getf (ci := 6) (kf := 11) dX7_program_39 rfl uX7 (by decide) fl_RX7_23 (gn hO (by decide)) rfl ?_
      refine x_iload dX7_program_42 rfl ?_
      refine x_zld (j := 2200 * i + q) dX7_program_44 (gs hbb) rfl (by omega) (by decide) ?_
      refine x_casti (y := nI (pgv bb ss wd i q).toNat) (by rw [pgb_1]) ?_
      refine x_aload_n dX7_program_45 rfl rfl ?_
      refine x_getf (ci := 6) (kf := 22) dX7_program_46 rfl uX7 (by decide) fl_RX7_45 (gn hO (by decide)) rfl ?_
      refine x_iload_n dX7_program_49 rfl rfl ?_
      refine x_zld (j := q) dX7_program_50 (gn hwd (by decide)) rfl (by omega) (by decide) ?_
      refine x_icmp_eq (tgt := 58) dX7_program_51 (by decide) (fun h51 => ?_) (fun h51 => ?_)
      · refine x_iconst (y := nI 0) dX7_program_58 rfl ?_
        refine x_iadd dX7_program_59 ?_
        refine x_casti (y := nI (cnt (fun q => pgv bb ss wd i q ^^ wd q) (q + 1))) (by rw [nI_add, e1, if_neg (by rw [bxe h51]; decide)]) ?_
        refine x_istore_n (ls' := [some (.ref (138)), some (.int (nI i)), some (.int (nI (cnt (fun q => pgv bb ss wd i q ^^ wd q) (q + 1)))), some (.int (nI (q))), some (.int (nI (2200 * i + q)))]) dX7_program_60 rfl (by decide) rfl rfl ?_
        refine x_iinc (y := nI ((q) + 1)) (ls' := [some (.ref (138)), some (.int (nI i)), some (.int (nI (cnt (fun q => pgv bb ss wd i q ^^ wd q) (q + 1)))), some (.int (nI ((q) + 1))), some (.int (nI (2200 * i + q)))]) dX7_program_61 (by decide) rfl rfl (ii_add _ 1) rfl ?_
        refine x_goto (tgt := 4) dX7_program_64 (by decide) ?_
        refine pg_fw ?_
        exact ih (q + 1) (by omega)
      · refine x_iconst (y := nI 1) dX7_program_54 rfl ?_
        refine x_goto (tgt := 59) dX7_program_55 (by decide) ?_
        refine x_iadd dX7_program_59 ?_
        refine x_casti (y := nI (cnt (fun q => pgv bb ss wd i q ^^ wd q) (q + 1))) (by rw [nI_add, e1, if_pos (bxn h51)]) ?_
        refine x_istore_n (ls' := [some (.ref (138)), some (.int (nI i)), some (.int (nI (cnt (fun q => pgv bb ss wd i q ^^ wd q) (q + 1)))), some (.int (nI (q))), some (.int (nI (2200 * i + q)))]) dX7_program_60 rfl (by decide) rfl rfl ?_
        refine x_iinc (y := nI ((q) + 1)) (ls' := [some (.ref (138)), some (.int (nI i)), some (.int (nI (cnt (fun q => pgv bb ss wd i q ^^ wd q) (q + 1)))), some (.int (nI ((q) + 1))), some (.int (nI (2200 * i + q)))]) dX7_program_61 (by decide) rfl rfl (ii_add _ 1) rfl ?_
        refine x_goto (tgt := 4) dX7_program_64 (by decide) ?_
        refine pg_fw ?_
        exact ih (q + 1) (by omega)
theorem c_mprogram {X : Ev} {M : Hp} {op : Int32} {m t d r n tn : Nat} {me ri lt : Int32} (hO : M[138]? = some (.inr (6, [.int (op), .int (nI m), .int (nI t), .int (nI d), .int (nI r), .int (nI n), .int (nI (2 ^ m - 1)), .ref (139), .ref (140), .ref (141), .ref (142), .ref (143), .ref (144), .ref (145), .ref (146), .ref (147), .int (nI tn), .int (me), .int (ri), .int (lt), .ref (148), .ref (149), .ref (150), .ref (151), .ref (152), .ref (153), .ref (154)]))) {bb : Nat → Bool} (hbb : M[143]? = some (.inl (2, 35200, .inl (fun j => nI ((bb) j).toNat)))) {ss : Nat → Int32} (hss : M[144]? = some (.inl (0, 35200, .inl (ss)))) {wd : Nat → Bool} (hwd : M[150]? = some (.inl (2, 2200, .inl (fun j => nI ((wd) j).toNat)))) (hn22 : n ≤ 2176) {i : Nat} (hi : i < 16) : Cl X 1 jX7_program [.ref (138), .int (nI i)] M (some (.int (nI (cnt (fun q => pgv bb ss wd i q ^^ wd q) n)))) (M.set (143) (.inl (2, 35200, .inl (fun j => nI ((pgb bb ss wd i (n)) j).toNat)))) := by
  refine Cl.of (ls := [some (.ref (138)), some (.int (nI i)), none, none, none]) (by decide) rfl (Nat.le_of_ble_eq_true rfl) ?_
  refine x_iconst (y := nI 0) dX7_program_0 rfl ?_
  refine x_istore_n (ls' := [some (.ref (138)), some (.int (nI i)), some (.int (nI 0)), none, none]) dX7_program_1 rfl (by decide) rfl rfl ?_
  refine x_iconst (y := nI 0) dX7_program_2 rfl ?_
  refine x_istore_n (ls' := [some (.ref (138)), some (.int (nI i)), some (.int (nI 0)), some (.int (nI 0)), none]) dX7_program_3 rfl (by decide) rfl rfl ?_
  refine G.hp (set_id hbb (c' := .inl (2, 35200, .inl (fun j => nI ((pgb bb ss wd i (0)) j).toNat))) (by rw [pgb_0])) ?_
  exact lp_mprog hO hbb hss hwd hn22 hi n 0 (by omega)
def wpb (bb : Nat → Bool) (ss : Nat → Int32) (i n : Nat) : Nat → Bool := fun j => if 2200 * i ≤ j ∧ j < 2200 * i + n then (if ss j = -1 then true else bb j) else bb j
def wpk (kk : Nat → Bool) (i n : Nat) : Nat → Bool := fun j => if 2200 * i ≤ j ∧ j < 2200 * i + n then false else kk j
theorem wpb_0 {bb : Nat → Bool} {ss : Nat → Int32} {i : Nat} : wpb bb ss i 0 = bb := by funext j; unfold wpb; rw [if_neg (by omega)]
theorem wpk_0 {kk : Nat → Bool} {i : Nat} : wpk kk i 0 = kk := by funext j; unfold wpk; rw [if_neg (by omega)]
theorem bup_s {f : Nat → Bool} {k : Nat} {x : Bool} : bup f k x k = x := if_pos rfl
theorem bup_n {f : Nat → Bool} {k j : Nat} {x : Bool} (h : j ≠ k) : bup f k x j = f j := if_neg h
theorem wpb_in {bb : Nat → Bool} {ss : Nat → Int32} {i n j : Nat} (h : 2200 * i ≤ j ∧ j < 2200 * i + n) : wpb bb ss i n j = if ss j = -1 then true else bb j := if_pos h
theorem wpb_out {bb : Nat → Bool} {ss : Nat → Int32} {i n j : Nat} (h : ¬ (2200 * i ≤ j ∧ j < 2200 * i + n)) : wpb bb ss i n j = bb j := if_neg h
theorem wpb_up {bb : Nat → Bool} {ss : Nat → Int32} {i k : Nat} : bup (wpb bb ss i k) (2200 * i + k) (if ss (2200 * i + k) = -1 then true else wpb bb ss i k (2200 * i + k)) = wpb bb ss i (k + 1) := by
  funext j
  by_cases h : j = 2200 * i + k
  · subst h; rw [bup_s, wpb_in (n := k + 1) (by omega), wpb_out (n := k) (by omega)]
  · rw [bup_n h]
    by_cases h2 : 2200 * i ≤ j ∧ j < 2200 * i + k
    · rw [wpb_in h2, wpb_in (by omega)]
    · rw [wpb_out h2, wpb_out (by omega)]
theorem wpk_up {kk : Nat → Bool} {i k : Nat} : bup (wpk kk i k) (2200 * i + k) false = wpk kk i (k + 1) := by
  funext j
  unfold bup wpk
  by_cases h : j = 2200 * i + k
  · subst h; rw [if_pos rfl, if_pos ⟨by omega, by omega⟩]
  · rw [if_neg h]
    by_cases h2 : 2200 * i ≤ j ∧ j < 2200 * i + k
    · rw [if_pos h2, if_pos (by omega)]
    · rw [if_neg h2, if_neg (by omega)]
theorem lp_mwipe {X : Ev} {M0 M M' : Hp} {v : Option Value} {op : Int32} {m t d r n tn : Nat} {me ri lt : Int32} (hO : M[138]? = some (.inr (6, [.int (op), .int (nI m), .int (nI t), .int (nI d), .int (nI r), .int (nI n), .int (nI (2 ^ m - 1)), .ref (139), .ref (140), .ref (141), .ref (142), .ref (143), .ref (144), .ref (145), .ref (146), .ref (147), .int (nI tn), .int (me), .int (ri), .int (lt), .ref (148), .ref (149), .ref (150), .ref (151), .ref (152), .ref (153), .ref (154)]))) {bb : Nat → Bool} (hbb : M[143]? = some (.inl (2, 35200, .inl (fun j => nI ((bb) j).toNat)))) {ss : Nat → Int32} (hss : M[144]? = some (.inl (0, 35200, .inl (ss)))) {kk : Nat → Bool} (hkk : M[145]? = some (.inl (2, 35200, .inl (fun j => nI ((kk) j).toNat)))) {we : Nat → Int32} (hwe : M[146]? = some (.inl (0, 16, .inl (we)))) (hn22 : n ≤ 2176) {i : Nat} (hi : i < 16) (k : G X 1 jX7_wipe M0 41 [some (.ref (138)), some (.int (nI i)), some (.int (nI (n)))] [] ((M.set (143) (.inl (2, 35200, .inl (fun j => nI ((wpb bb ss i (n)) j).toNat)))).set (145) (.inl (2, 35200, .inl (fun j => nI ((wpk kk i (n)) j).toNat)))) v M') : ∀ (zz q : Nat), q + zz = n → G X 1 jX7_wipe M0 2 [some (.ref (138)), some (.int (nI i)), some (.int (nI (q)))] [] ((M.set (143) (.inl (2, 35200, .inl (fun j => nI ((wpb bb ss i (q)) j).toNat)))).set (145) (.inl (2, 35200, .inl (fun j => nI ((wpk kk i (q)) j).toNat)))) v M' := by
  intro zz
  induction zz with
  | zero =>
    intro q hqq
    have hqq : q = n := by omega
    subst hqq
    refine x_iload_n dX7_wipe_2 rfl rfl ?_
    refine x_aload_n dX7_wipe_3 rfl rfl ?_
    refine x_getf (ci := 6) (kf := 5) dX7_wipe_4 rfl uX7 (by decide) fl_RX7_113 (gn (gn hO (by decide)) (by decide)) rfl ?_
    refine x_icmp_ge (tgt := 41) dX7_wipe_7 (by decide) (fun _ => ?_) (fun h => False.elim (h (nI_le (Nat.le_refl _) (by omega))))
    exact k
  | succ zz ih =>
    intro q hqq
    refine x_iload_n dX7_wipe_2 rfl rfl ?_
    refine x_aload_n dX7_wipe_3 rfl rfl ?_
    refine x_getf (ci := 6) (kf := 5) dX7_wipe_4 rfl uX7 (by decide) fl_RX7_113 (gn (gn hO (by decide)) (by decide)) rfl ?_
    refine x_icmp_ge (tgt := 41) dX7_wipe_7 (by decide) (fun h => False.elim (nI_ge (by omega : q < n) (by omega) h)) (fun _ => ?_)
    refine x_aload_n dX7_wipe_10 rfl rfl ?_
    refine x_sipush (y := nI 2200) dX7_wipe_11 rfl ?_
    refine x_iload_n dX7_wipe_14 rfl rfl ?_
    refine x_imul dX7_wipe_15 ?_
    refine x_casti (y := nI (2200 * i)) (pk_mul _ _) ?_
    refine x_iload_n dX7_wipe_16 rfl rfl ?_
    refine x_iadd dX7_wipe_17 ?_
    refine x_casti (y := nI (2200 * i + q)) (nI_add _ _) ?_
    refine x_iconst (y := nI 1) dX7_wipe_18 rfl ?_
    refine x_callV (ci := 6) (as := [.int (nI (2200 * i + q)), .int (nI 1)]) dX7_wipe_19 mk_X7_set in_X7_set se_X7_set ml_RX7_145 rfl (gn (gn hO (by decide)) (by decide)) (by decide) rfl rfl (Nat.le_of_ble_eq_true rfl) (c_mset (x := true) (gn (gn hO (by decide)) (by decide)) (gn (gs hbb) (by decide)) (gn (gn hss (by decide)) (by decide)) (by omega)) ?_
    refine G.hp (show (((M.set (143) (.inl (2, 35200, .inl (fun j => nI ((wpb bb ss i (q)) j).toNat)))).set (145) (.inl (2, 35200, .inl (fun j => nI ((wpk kk i (q)) j).toNat)))).set (143) (.inl (2, 35200, .inl (fun j => nI ((bup (wpb bb ss i q) (2200 * i + q) (if ss (2200 * i + q) = -1 then true else wpb bb ss i q (2200 * i + q))) j).toNat))) : Hp) = ((M.set (143) (.inl (2, 35200, .inl (fun j => nI ((bup (wpb bb ss i q) (2200 * i + q) (if ss (2200 * i + q) = -1 then true else wpb bb ss i q (2200 * i + q))) j).toNat)))).set (145) (.inl (2, 35200, .inl (fun j => nI ((wpk kk i (q)) j).toNat)))) from (ss1 (by decide))) ?_
    refine G.hp (congrArg (fun z : Nat → Bool => (M.set 143 (.inl (2, 35200, .inl (fun j => nI (z j).toNat)))).set 145 (.inl (2, 35200, .inl (fun j => nI ((wpk kk i (q)) j).toNat)))) wpb_up) ?_
    refine x_aload_n dX7_wipe_22 rfl rfl ?_
    refine x_getf (ci := 6) (kf := 13) dX7_wipe_23 rfl uX7 (by decide) fl_RX7_30 (gn (gn hO (by decide)) (by decide)) rfl ?_
    refine x_sipush (y := nI 2200) dX7_wipe_26 rfl ?_
    refine x_iload_n dX7_wipe_29 rfl rfl ?_
    refine x_imul dX7_wipe_30 ?_
    refine x_casti (y := nI (2200 * i)) (pk_mul _ _) ?_
    refine x_iload_n dX7_wipe_31 rfl rfl ?_
    refine x_iadd dX7_wipe_32 ?_
    refine x_casti (y := nI (2200 * i + q)) (nI_add _ _) ?_
    refine x_iconst (y := nI 0) dX7_wipe_33 rfl ?_
    refine x_zst (j := 2200 * i + q) (M1 := ((M.set (143) (.inl (2, 35200, .inl (fun j => nI ((wpb bb ss i (q + 1)) j).toNat)))).set (145) (.inl (2, 35200, .inl (fun j => nI ((wpk kk i (q + 1)) j).toNat))))) dX7_wipe_34 (gs (gn hkk (by decide))) rfl (by omega) (by decide) (by rw [show upd (fun j => nI ((wpk kk i (q)) j).toNat) (2200 * i + q) (vp_nar .boolean (nI 0)) = (fun j => nI ((wpk kk i (q + 1)) j).toNat) from ((zup (x := false)).trans (congrArg (fun z : Nat → Bool => fun j => nI (z j).toNat) wpk_up))] <;> exact (ss0)) ?_
    refine x_iinc (y := nI ((q) + 1)) (ls' := [some (.ref (138)), some (.int (nI i)), some (.int (nI ((q) + 1)))]) dX7_wipe_35 (by decide) rfl rfl (ii_add _ 1) rfl ?_
    refine x_goto (tgt := 2) dX7_wipe_38 (by decide) ?_
    exact ih (q + 1) (by omega)
theorem c_mwipe {X : Ev} {M : Hp} {op : Int32} {m t d r n tn : Nat} {me ri lt : Int32} (hO : M[138]? = some (.inr (6, [.int (op), .int (nI m), .int (nI t), .int (nI d), .int (nI r), .int (nI n), .int (nI (2 ^ m - 1)), .ref (139), .ref (140), .ref (141), .ref (142), .ref (143), .ref (144), .ref (145), .ref (146), .ref (147), .int (nI tn), .int (me), .int (ri), .int (lt), .ref (148), .ref (149), .ref (150), .ref (151), .ref (152), .ref (153), .ref (154)]))) {bb : Nat → Bool} (hbb : M[143]? = some (.inl (2, 35200, .inl (fun j => nI ((bb) j).toNat)))) {ss : Nat → Int32} (hss : M[144]? = some (.inl (0, 35200, .inl (ss)))) {kk : Nat → Bool} (hkk : M[145]? = some (.inl (2, 35200, .inl (fun j => nI ((kk) j).toNat)))) {we : Nat → Int32} (hwe : M[146]? = some (.inl (0, 16, .inl (we)))) (hn22 : n ≤ 2176) {i : Nat} (hi : i < 16) : Cl X 1 jX7_wipe [.ref (138), .int (nI i)] M none (((M.set (143) (.inl (2, 35200, .inl (fun j => nI ((wpb bb ss i (n)) j).toNat)))).set (145) (.inl (2, 35200, .inl (fun j => nI ((wpk kk i (n)) j).toNat)))).set (146) (.inl (0, 16, .inl (upd we i (we i + nI 1))))) := by
  refine Cl.of (ls := [some (.ref (138)), some (.int (nI i)), none]) (by decide) rfl (Nat.le_of_ble_eq_true rfl) ?_
  refine x_iconst (y := nI 0) dX7_wipe_0 rfl ?_
  refine x_istore_n (ls' := [some (.ref (138)), some (.int (nI i)), some (.int (nI 0))]) dX7_wipe_1 rfl (by decide) rfl rfl ?_
  refine G.hp ((set_id hbb (c' := .inl (2, 35200, .inl (fun j => nI ((wpb bb ss i (0)) j).toNat))) (by rw [wpb_0])).trans (set_id (gn hkk (by decide)) (c' := .inl (2, 35200, .inl (fun j => nI ((wpk kk i (0)) j).toNat))) (by rw [wpk_0]))) (lp_mwipe hO hbb hss hkk hwe hn22 hi ?_ n 0 (by omega))
  refine x_aload_n dX7_wipe_41 rfl rfl ?_
  refine x_getf (ci := 6) (kf := 14) dX7_wipe_42 rfl uX7 (by decide) fl_RX7_33 (gn (gn hO (by decide)) (by decide)) rfl ?_
  refine x_iload_n dX7_wipe_45 rfl rfl ?_
  refine x_dup2 dX7_wipe_46 rfl rfl ?_
  refine x_ild (j := i) dX7_wipe_47 (gn (gn hwe (by decide)) (by decide)) rfl (by omega) (by decide) ?_
  refine x_iconst (y := nI 1) dX7_wipe_48 rfl ?_
  refine x_iadd dX7_wipe_49 ?_
  refine x_ist (j := i) (M1 := (((M.set (143) (.inl (2, 35200, .inl (fun j => nI ((wpb bb ss i (n)) j).toNat)))).set (145) (.inl (2, 35200, .inl (fun j => nI ((wpk kk i (n)) j).toNat)))).set (146) (.inl (0, 16, .inl (upd we (i) ((we (i)) + (nI 1))))))) dX7_wipe_50 (gn (gn hwe (by decide)) (by decide)) rfl (by omega) (by decide) rfl ?_
  exact x_ret dX7_wipe_51 rfl
theorem c_mbit {X : Ev} {M : Hp} {m t d r n tn : Nat} {me ri lt : Int32} (hO : M[138]? = some (.inr (6, [.int (1), .int (nI m), .int (nI t), .int (nI d), .int (nI r), .int (nI n), .int (nI (2 ^ m - 1)), .ref (139), .ref (140), .ref (141), .ref (142), .ref (143), .ref (144), .ref (145), .ref (146), .ref (147), .int (nI tn), .int (me), .int (ri), .int (lt), .ref (148), .ref (149), .ref (150), .ref (151), .ref (152), .ref (153), .ref (154)]))) {bb : Nat → Bool} (hbb : M[143]? = some (.inl (2, 35200, .inl (fun j => nI ((bb) j).toNat)))) (hn22 : n ≤ 2176) {i : Nat} (hi : i < 16) {k : Nat} (hk : k < n) : Cl X 9 jX7_bit [.ref (138), .int (nI i), .int (nI k)] M (some (.int (nI (bb (2200 * i + k)).toNat))) M := by
  have hn31 : n < 2 ^ 31 := by omega
  refine Cl.of (ls := [some (.ref (138)), some (.int (nI i)), some (.int (nI k))]) (by decide) rfl (Nat.le_of_ble_eq_true rfl) ?_
  refine x_aload_n dX7_bit_0 rfl rfl ?_
  refine x_getf (ci := 6) (kf := 0) dX7_bit_1 rfl uX7 (by decide) fl_RX7_100 hO rfl ?_
  refine x_if_ne (tgt := 10) dX7_bit_4 (by decide) (fun _ => ?_) (fun h => False.elim (absurd h (by decide)))
  refine x_aload_n dX7_bit_10 rfl rfl ?_
  refine x_iload_n dX7_bit_11 rfl rfl ?_
  refine x_iload_n dX7_bit_12 rfl rfl ?_
  refine x_callV (ci := 6) (as := [.int (nI i), .int (nI k)]) dX7_bit_13 mk_X7_isBit in_X7_isBit se_X7_isBit ml_RX7_155 rfl hO (by decide) rfl rfl (Nat.le_of_ble_eq_true rfl) (c_isBit hO hn31) ?_
  refine x_if_eq (tgt := 42) dX7_bit_16 (by decide) (fun h => False.elim (ite_ne (by rw [inl_n hi (by decide), inl_n hk (by omega)]; rfl) h)) (fun _ => ?_)
  refine x_aload_n dX7_bit_19 rfl rfl ?_
  refine x_getf (ci := 6) (kf := 11) dX7_bit_20 rfl uX7 (by decide) fl_RX7_23 hO rfl ?_
  refine x_sipush (y := nI 2200) dX7_bit_23 rfl ?_
  refine x_iload_n dX7_bit_26 rfl rfl ?_
  refine x_imul dX7_bit_27 ?_
  refine x_casti (y := nI (2200 * i)) (pk_mul _ _) ?_
  refine x_iload_n dX7_bit_28 rfl rfl ?_
  refine x_iadd dX7_bit_29 ?_
  refine x_casti (y := nI (2200 * i + k)) (nI_add _ _) ?_
  refine x_zld (j := 2200 * i + k) dX7_bit_30 hbb rfl (by omega) (by decide) ?_
  refine x_if_eq (tgt := 38) dX7_bit_31 (by decide) (fun h31 => ?_) (fun h31 => ?_)
  · refine x_iconst (y := nI 0) dX7_bit_38 rfl ?_
    refine x_goto (tgt := 44) dX7_bit_39 (by decide) ?_
    exact x_ireturn_eq dX7_bit_44 rfl (by rw [bt0 h31]; rfl)
  · refine x_iconst (y := nI 1) dX7_bit_34 rfl ?_
    refine x_goto (tgt := 44) dX7_bit_35 (by decide) ?_
    exact x_ireturn_eq dX7_bit_44 rfl (by rw [bt1 h31]; rfl)
theorem c_mflip {X : Ev} {M : Hp} {m t d r n tn : Nat} {me ri lt : Int32} (hO : M[138]? = some (.inr (6, [.int (1), .int (nI m), .int (nI t), .int (nI d), .int (nI r), .int (nI n), .int (nI (2 ^ m - 1)), .ref (139), .ref (140), .ref (141), .ref (142), .ref (143), .ref (144), .ref (145), .ref (146), .ref (147), .int (nI tn), .int (me), .int (ri), .int (lt), .ref (148), .ref (149), .ref (150), .ref (151), .ref (152), .ref (153), .ref (154)]))) {bb : Nat → Bool} (hbb : M[143]? = some (.inl (2, 35200, .inl (fun j => nI ((bb) j).toNat)))) {ss : Nat → Int32} (hss : M[144]? = some (.inl (0, 35200, .inl (ss)))) (hn22 : n ≤ 2176) {i : Nat} (hi : i < 16) {k : Nat} (hk : k < n) : Cl X 9 jX7_flip [.ref (138), .int (nI i), .int (nI k)] M (some (.int (nI ((bup bb (2200 * i + k) (if ss (2200 * i + k) = -1 then !bb (2200 * i + k) else bb (2200 * i + k))) (2200 * i + k)).toNat))) (M.set (143) (.inl (2, 35200, .inl (fun j => nI ((bup bb (2200 * i + k) (if ss (2200 * i + k) = -1 then !bb (2200 * i + k) else bb (2200 * i + k))) j).toNat)))) := by
  have hn31 : n < 2 ^ 31 := by omega
  refine Cl.of (ls := [some (.ref (138)), some (.int (nI i)), some (.int (nI k)), none]) (by decide) rfl (Nat.le_of_ble_eq_true rfl) ?_
  refine x_aload_n dX7_flip_0 rfl rfl ?_
  refine x_getf (ci := 6) (kf := 0) dX7_flip_1 rfl uX7 (by decide) fl_RX7_100 hO rfl ?_
  refine x_if_ne (tgt := 10) dX7_flip_4 (by decide) (fun _ => ?_) (fun h => False.elim (absurd h (by decide)))
  refine x_aload_n dX7_flip_10 rfl rfl ?_
  refine x_iload_n dX7_flip_11 rfl rfl ?_
  refine x_iload_n dX7_flip_12 rfl rfl ?_
  refine x_callV (ci := 6) (as := [.int (nI i), .int (nI k)]) dX7_flip_13 mk_X7_isBit in_X7_isBit se_X7_isBit ml_RX7_155 rfl hO (by decide) rfl rfl (Nat.le_of_ble_eq_true rfl) (c_isBit hO hn31) ?_
  refine x_if_ne (tgt := 22) dX7_flip_16 (by decide) (fun _ => ?_) (fun h => False.elim (ite_ne (by rw [inl_n hi (by decide), inl_n hk (by omega)]; rfl) h))
  refine x_sipush (y := nI 2200) dX7_flip_22 rfl ?_
  refine x_iload_n dX7_flip_25 rfl rfl ?_
  refine x_imul dX7_flip_26 ?_
  refine x_casti (y := nI (2200 * i)) (pk_mul _ _) ?_
  refine x_iload_n dX7_flip_27 rfl rfl ?_
  refine x_iadd dX7_flip_28 ?_
  refine x_casti (y := nI (2200 * i + k)) (nI_add _ _) ?_
  refine x_istore_n (ls' := [some (.ref (138)), some (.int (nI i)), some (.int (nI k)), some (.int (nI (2200 * i + k)))]) dX7_flip_29 rfl (by decide) rfl rfl ?_
  refine x_aload_n dX7_flip_30 rfl rfl ?_
  refine x_iload_n dX7_flip_31 rfl rfl ?_
  refine x_aload_n dX7_flip_32 rfl rfl ?_
  refine x_getf (ci := 6) (kf := 11) dX7_flip_33 rfl uX7 (by decide) fl_RX7_23 hO rfl ?_
  refine x_iload_n dX7_flip_36 rfl rfl ?_
  refine x_zld (j := 2200 * i + k) dX7_flip_37 hbb rfl (by omega) (by decide) ?_
  refine x_if_ne (tgt := 45) dX7_flip_38 (by decide) (fun h38 => ?_) (fun h38 => ?_)
  · refine x_iconst (y := nI 0) dX7_flip_45 rfl ?_
    refine x_callV (ci := 6) (as := [.int (nI (2200 * i + k)), .int (nI 0)]) dX7_flip_46 mk_X7_set in_X7_set se_X7_set ml_RX7_145 rfl hO (by decide) rfl rfl (Nat.le_of_ble_eq_true rfl) (c_mset (x := false) hO hbb hss (show 2200 * i + k < 35200 by omega)) ?_
    refine G.hp (congrArg (fun z : Bool => M.set 143 (.inl (2, 35200, .inl (fun j => nI ((bup bb (2200 * i + k) (if ss (2200 * i + k) = -1 then z else bb (2200 * i + k))) j).toNat)))) (show false = !bb (2200 * i + k) by rw [bt1 h38]; rfl)) ?_
    refine x_aload_n dX7_flip_49 rfl rfl ?_
    refine x_getf (ci := 6) (kf := 11) dX7_flip_50 rfl uX7 (by decide) fl_RX7_23 (gn hO (by decide)) rfl ?_
    refine x_iload_n dX7_flip_53 rfl rfl ?_
    refine x_zld (j := 2200 * i + k) dX7_flip_54 (gs hbb) rfl (by omega) (by decide) ?_
    refine x_if_eq (tgt := 62) dX7_flip_55 (by decide) (fun h55 => ?_) (fun h55 => ?_)
    · refine x_iconst (y := nI 0) dX7_flip_62 rfl ?_
      exact x_ireturn_eq dX7_flip_63 rfl (by rw [bt0 h55]; rfl)
    · refine x_iconst (y := nI 1) dX7_flip_58 rfl ?_
      refine x_goto (tgt := 63) dX7_flip_59 (by decide) ?_
      exact x_ireturn_eq dX7_flip_63 rfl (by rw [bt1 h55]; rfl)
  · refine x_iconst (y := nI 1) dX7_flip_41 rfl ?_
    refine x_goto (tgt := 46) dX7_flip_42 (by decide) ?_
    refine x_callV (ci := 6) (as := [.int (nI (2200 * i + k)), .int (nI 1)]) dX7_flip_46 mk_X7_set in_X7_set se_X7_set ml_RX7_145 rfl hO (by decide) rfl rfl (Nat.le_of_ble_eq_true rfl) (c_mset (x := true) hO hbb hss (show 2200 * i + k < 35200 by omega)) ?_
    refine G.hp (congrArg (fun z : Bool => M.set 143 (.inl (2, 35200, .inl (fun j => nI ((bup bb (2200 * i + k) (if ss (2200 * i + k) = -1 then z else bb (2200 * i + k))) j).toNat)))) (show true = !bb (2200 * i + k) by rw [bt0 h38]; rfl)) ?_
    refine x_aload_n dX7_flip_49 rfl rfl ?_
    refine x_getf (ci := 6) (kf := 11) dX7_flip_50 rfl uX7 (by decide) fl_RX7_23 (gn hO (by decide)) rfl ?_
    refine x_iload_n dX7_flip_53 rfl rfl ?_
    refine x_zld (j := 2200 * i + k) dX7_flip_54 (gs hbb) rfl (by omega) (by decide) ?_
    refine x_if_eq (tgt := 62) dX7_flip_55 (by decide) (fun h55 => ?_) (fun h55 => ?_)
    · refine x_iconst (y := nI 0) dX7_flip_62 rfl ?_
      exact x_ireturn_eq dX7_flip_63 rfl (by rw [bt0 h55]; rfl)
    · refine x_iconst (y := nI 1) dX7_flip_58 rfl ?_
      refine x_goto (tgt := 63) dX7_flip_59 (by decide) ?_
      exact x_ireturn_eq dX7_flip_63 rfl (by rw [bt1 h55]; rfl)
theorem nar_z {z : Int32} (h : z = 0 ∨ z = 1) : vp_nar .boolean z = nI (decide (z ≠ 0)).toNat := by
  rcases h with h | h <;> subst h <;> decide
theorem c_mmark {X : Ev} {M : Hp} {m t d r n tn : Nat} {me ri lt : Int32} (hO : M[138]? = some (.inr (6, [.int (1), .int (nI m), .int (nI t), .int (nI d), .int (nI r), .int (nI n), .int (nI (2 ^ m - 1)), .ref (139), .ref (140), .ref (141), .ref (142), .ref (143), .ref (144), .ref (145), .ref (146), .ref (147), .int (nI tn), .int (me), .int (ri), .int (lt), .ref (148), .ref (149), .ref (150), .ref (151), .ref (152), .ref (153), .ref (154)]))) {kk : Nat → Bool} (hkk : M[145]? = some (.inl (2, 35200, .inl (fun j => nI ((kk) j).toNat)))) (hn22 : n ≤ 2176) {i : Nat} (hi : i < 16) {k : Nat} (hk : k < n) {z : Int32} (hz : z = 0 ∨ z = 1) : Cl X 9 jX7_mark [.ref (138), .int (nI i), .int (nI k), .int (z)] M (some (.int (nI (cnt (fun q => (bup kk (2200 * i + k) (decide (z ≠ 0))) (2200 * i + q)) n)))) (M.set (145) (.inl (2, 35200, .inl (fun j => nI ((bup kk (2200 * i + k) (decide (z ≠ 0))) j).toNat)))) := by
  have hn31 : n < 2 ^ 31 := by omega
  refine Cl.of (ls := [some (.ref (138)), some (.int (nI i)), some (.int (nI k)), some (.int (z))]) (by decide) rfl (Nat.le_of_ble_eq_true rfl) ?_
  refine x_aload_n dX7_mark_0 rfl rfl ?_
  refine x_getf (ci := 6) (kf := 0) dX7_mark_1 rfl uX7 (by decide) fl_RX7_100 hO rfl ?_
  refine x_if_ne (tgt := 10) dX7_mark_4 (by decide) (fun _ => ?_) (fun h => False.elim (absurd h (by decide)))
  refine x_aload_n dX7_mark_10 rfl rfl ?_
  refine x_iload_n dX7_mark_11 rfl rfl ?_
  refine x_iload_n dX7_mark_12 rfl rfl ?_
  refine x_callV (ci := 6) (as := [.int (nI i), .int (nI k)]) dX7_mark_13 mk_X7_isBit in_X7_isBit se_X7_isBit ml_RX7_155 rfl hO (by decide) rfl rfl (Nat.le_of_ble_eq_true rfl) (c_isBit hO hn31) ?_
  refine x_if_ne (tgt := 22) dX7_mark_16 (by decide) (fun _ => ?_) (fun h => False.elim (ite_ne (by rw [inl_n hi (by decide), inl_n hk (by omega)]; rfl) h))
  refine x_aload_n dX7_mark_22 rfl rfl ?_
  refine x_getf (ci := 6) (kf := 13) dX7_mark_23 rfl uX7 (by decide) fl_RX7_30 hO rfl ?_
  refine x_sipush (y := nI 2200) dX7_mark_26 rfl ?_
  refine x_iload_n dX7_mark_29 rfl rfl ?_
  refine x_imul dX7_mark_30 ?_
  refine x_casti (y := nI (2200 * i)) (pk_mul _ _) ?_
  refine x_iload_n dX7_mark_31 rfl rfl ?_
  refine x_iadd dX7_mark_32 ?_
  refine x_casti (y := nI (2200 * i + k)) (nI_add _ _) ?_
  refine x_iload_n dX7_mark_33 rfl rfl ?_
  refine x_zst (j := 2200 * i + k) (M1 := (M.set (145) (.inl (2, 35200, .inl (fun j => nI ((bup kk (2200 * i + k) (decide (z ≠ 0))) j).toNat))))) dX7_mark_34 hkk rfl (by omega) (by decide) (by rw [show upd (fun j => nI ((kk) j).toNat) (2200 * i + k) (vp_nar .boolean (z)) = (fun j => nI ((bup kk (2200 * i + k) (decide (z ≠ 0))) j).toNat) from (by rw [nar_z hz]; exact zupi)] <;> exact rfl) ?_
  refine x_aload_n dX7_mark_35 rfl rfl ?_
  refine x_iload_n dX7_mark_36 rfl rfl ?_
  refine x_callV (ci := 6) (as := [.int (nI i)]) dX7_mark_37 mk_X7_countMarks in_X7_countMarks se_X7_countMarks ml_RX7_162 rfl (gn hO (by decide)) (by decide) rfl rfl (Nat.le_of_ble_eq_true rfl) (c_countMarks (gn hO (by decide)) (gs hkk) hn22 hi) ?_
  exact x_ireturn_eq dX7_mark_40 rfl rfl
theorem c_mstick {X : Ev} {M : Hp} {m t d r n tn : Nat} {me ri lt : Int32} (hO : M[138]? = some (.inr (6, [.int (1), .int (nI m), .int (nI t), .int (nI d), .int (nI r), .int (nI n), .int (nI (2 ^ m - 1)), .ref (139), .ref (140), .ref (141), .ref (142), .ref (143), .ref (144), .ref (145), .ref (146), .ref (147), .int (nI tn), .int (me), .int (ri), .int (lt), .ref (148), .ref (149), .ref (150), .ref (151), .ref (152), .ref (153), .ref (154)]))) {bb : Nat → Bool} (hbb : M[143]? = some (.inl (2, 35200, .inl (fun j => nI ((bb) j).toNat)))) {ss : Nat → Int32} (hss : M[144]? = some (.inl (0, 35200, .inl (ss)))) (hn22 : n ≤ 2176) {i : Nat} (hi : i < 16) {k : Nat} (hk : k < n) {z : Int32} (hz1 : -1 ≤ z.toInt) (hz2 : z.toInt ≤ 1) : Cl X 9 jX7_stick [.ref (138), .int (nI i), .int (nI k), .int (z)] M (some (.int (nI (cnt (fun q => decide ((upd ss (2200 * i + k) z) (2200 * i + q) ≠ -1)) n)))) ((M.set (144) (.inl (0, 35200, .inl (upd ss (2200 * i + k) z)))).set (143) (.inl (2, 35200, .inl (fun j => nI ((bup bb (2200 * i + k) (if z = -1 then bb (2200 * i + k) else decide (z = 1))) j).toNat)))) := by
  have hn31 : n < 2 ^ 31 := by omega
  refine Cl.of (ls := [some (.ref (138)), some (.int (nI i)), some (.int (nI k)), some (.int (z)), none]) (by decide) rfl (Nat.le_of_ble_eq_true rfl) ?_
  refine x_aload_n dX7_stick_0 rfl rfl ?_
  refine x_getf (ci := 6) (kf := 0) dX7_stick_1 rfl uX7 (by decide) fl_RX7_100 hO rfl ?_
  refine x_if_ne (tgt := 10) dX7_stick_4 (by decide) (fun _ => ?_) (fun h => False.elim (absurd h (by decide)))
  refine x_aload_n dX7_stick_10 rfl rfl ?_
  refine x_iload_n dX7_stick_11 rfl rfl ?_
  refine x_iload_n dX7_stick_12 rfl rfl ?_
  refine x_callV (ci := 6) (as := [.int (nI i), .int (nI k)]) dX7_stick_13 mk_X7_isBit in_X7_isBit se_X7_isBit ml_RX7_155 rfl hO (by decide) rfl rfl (Nat.le_of_ble_eq_true rfl) (c_isBit hO hn31) ?_
  refine x_if_eq (tgt := 28) dX7_stick_16 (by decide) (fun h => False.elim (ite_ne (by rw [inl_n hi (by decide), inl_n hk (by omega)]; rfl) h)) (fun _ => ?_)
  refine x_iload_n dX7_stick_19 rfl rfl ?_
  refine x_iconst (y := -1) dX7_stick_20 rfl ?_
  refine x_iconst (y := nI 1) dX7_stick_21 rfl ?_
  refine x_callS (as := [.int (z), .int (-1), .int (nI 1)]) dX7_stick_22 mk_X7_within st_X7_within ml_RX7_68 (by decide) rfl rfl (Nat.le_of_ble_eq_true rfl) (c_within) ?_
  refine x_if_ne (tgt := 31) dX7_stick_25 (by decide) (fun _ => ?_) (fun h => False.elim (ite_ne (b := wi z (-1) (nI 1)) (decide_eq_true ⟨hz1, hz2⟩) h))
  refine x_sipush (y := nI 2200) dX7_stick_31 rfl ?_
  refine x_iload_n dX7_stick_34 rfl rfl ?_
  refine x_imul dX7_stick_35 ?_
  refine x_casti (y := nI (2200 * i)) (pk_mul _ _) ?_
  refine x_iload_n dX7_stick_36 rfl rfl ?_
  refine x_iadd dX7_stick_37 ?_
  refine x_casti (y := nI (2200 * i + k)) (nI_add _ _) ?_
  refine x_istore (ls' := [some (.ref (138)), some (.int (nI i)), some (.int (nI k)), some (.int (z)), some (.int (nI (2200 * i + k)))]) dX7_stick_38 (by decide) rfl rfl ?_
  refine x_aload_n dX7_stick_40 rfl rfl ?_
  refine x_getf (ci := 6) (kf := 12) dX7_stick_41 rfl uX7 (by decide) fl_RX7_27 hO rfl ?_
  refine x_iload dX7_stick_44 rfl ?_
  refine x_iload_n dX7_stick_46 rfl rfl ?_
  refine x_ist (j := 2200 * i + k) (M1 := (M.set (144) (.inl (0, 35200, .inl (upd ss (2200 * i + k) z))))) dX7_stick_47 hss rfl (by omega) (by decide) (by rw [show upd ss (2200 * i + k) (z) = (upd ss (2200 * i + k) z) from rfl] <;> exact rfl) ?_
  refine x_aload_n dX7_stick_48 rfl rfl ?_
  refine x_getf (ci := 6) (kf := 11) dX7_stick_49 rfl uX7 (by decide) fl_RX7_23 (gn hO (by decide)) rfl ?_
  refine x_iload dX7_stick_52 rfl ?_
  refine x_iload_n dX7_stick_54 rfl rfl ?_
  refine x_iconst (y := -1) dX7_stick_55 rfl ?_
  refine x_icmp_ne (tgt := 69) dX7_stick_56 (by decide) (fun h56 => ?_) (fun h56 => ?_)
  · refine x_iload_n dX7_stick_69 rfl rfl ?_
    refine x_iconst (y := nI 1) dX7_stick_70 rfl ?_
    refine x_icmp_ne (tgt := 78) dX7_stick_71 (by decide) (fun h71 => ?_) (fun h71 => ?_)
    · refine x_iconst (y := nI 0) dX7_stick_78 rfl ?_
      refine x_zst (j := 2200 * i + k) (M1 := ((M.set (144) (.inl (0, 35200, .inl (upd ss (2200 * i + k) z)))).set (143) (.inl (2, 35200, .inl (fun j => nI ((bup bb (2200 * i + k) (if z = -1 then bb (2200 * i + k) else decide (z = 1))) j).toNat))))) dX7_stick_79 (gn hbb (by decide)) rfl (by omega) (by decide) (by rw [show upd (fun j => nI ((bb) j).toNat) (2200 * i + k) (vp_nar .boolean (nI 0)) = (fun j => nI ((bup bb (2200 * i + k) (if z = -1 then bb (2200 * i + k) else decide (z = 1))) j).toNat) from (by rw [if_neg h56, decide_eq_false (show ¬ z = 1 from h71)]; exact zup (x := false))] <;> exact rfl) ?_
      refine x_aload_n dX7_stick_80 rfl rfl ?_
      refine x_iload_n dX7_stick_81 rfl rfl ?_
      refine x_callV (ci := 6) (as := [.int (nI i)]) dX7_stick_82 mk_X7_countStuck in_X7_countStuck se_X7_countStuck ml_RX7_159 rfl (gn (gn hO (by decide)) (by decide)) (by decide) rfl rfl (Nat.le_of_ble_eq_true rfl) (c_countStuck (gn (gn hO (by decide)) (by decide)) (gn (gs hss) (by decide)) hn22 hi) ?_
      exact x_ireturn_eq dX7_stick_85 rfl rfl
    · refine x_iconst (y := nI 1) dX7_stick_74 rfl ?_
      refine x_goto (tgt := 79) dX7_stick_75 (by decide) ?_
      refine x_zst (j := 2200 * i + k) (M1 := ((M.set (144) (.inl (0, 35200, .inl (upd ss (2200 * i + k) z)))).set (143) (.inl (2, 35200, .inl (fun j => nI ((bup bb (2200 * i + k) (if z = -1 then bb (2200 * i + k) else decide (z = 1))) j).toNat))))) dX7_stick_79 (gn hbb (by decide)) rfl (by omega) (by decide) (by rw [show upd (fun j => nI ((bb) j).toNat) (2200 * i + k) (vp_nar .boolean (nI 1)) = (fun j => nI ((bup bb (2200 * i + k) (if z = -1 then bb (2200 * i + k) else decide (z = 1))) j).toNat) from (by rw [if_neg h56, decide_eq_true (show z = 1 from h71)]; exact zup (x := true))] <;> exact rfl) ?_
      refine x_aload_n dX7_stick_80 rfl rfl ?_
      refine x_iload_n dX7_stick_81 rfl rfl ?_
      refine x_callV (ci := 6) (as := [.int (nI i)]) dX7_stick_82 mk_X7_countStuck in_X7_countStuck se_X7_countStuck ml_RX7_159 rfl (gn (gn hO (by decide)) (by decide)) (by decide) rfl rfl (Nat.le_of_ble_eq_true rfl) (c_countStuck (gn (gn hO (by decide)) (by decide)) (gn (gs hss) (by decide)) hn22 hi) ?_
      exact x_ireturn_eq dX7_stick_85 rfl rfl
  · refine x_aload_n dX7_stick_59 rfl rfl ?_
    refine x_getf (ci := 6) (kf := 11) dX7_stick_60 rfl uX7 (by decide) fl_RX7_23 (gn hO (by decide)) rfl ?_
    refine x_iload dX7_stick_63 rfl ?_
    refine x_zld (j := 2200 * i + k) dX7_stick_65 (gn hbb (by decide)) rfl (by omega) (by decide) ?_
    refine x_goto (tgt := 79) dX7_stick_66 (by decide) ?_
    refine x_zst (j := 2200 * i + k) (M1 := ((M.set (144) (.inl (0, 35200, .inl (upd ss (2200 * i + k) z)))).set (143) (.inl (2, 35200, .inl (fun j => nI ((bup bb (2200 * i + k) (if z = -1 then bb (2200 * i + k) else decide (z = 1))) j).toNat))))) dX7_stick_79 (gn hbb (by decide)) rfl (by omega) (by decide) (by rw [show upd (fun j => nI ((bb) j).toNat) (2200 * i + k) (vp_nar .boolean (nI (bb (2200 * i + k)).toNat)) = (fun j => nI ((bup bb (2200 * i + k) (if z = -1 then bb (2200 * i + k) else decide (z = 1))) j).toNat) from (by rw [if_pos h56]; exact zup)] <;> exact rfl) ?_
    refine x_aload_n dX7_stick_80 rfl rfl ?_
    refine x_iload_n dX7_stick_81 rfl rfl ?_
    refine x_callV (ci := 6) (as := [.int (nI i)]) dX7_stick_82 mk_X7_countStuck in_X7_countStuck se_X7_countStuck ml_RX7_159 rfl (gn (gn hO (by decide)) (by decide)) (by decide) rfl rfl (Nat.le_of_ble_eq_true rfl) (c_countStuck (gn (gn hO (by decide)) (by decide)) (gn (gs hss) (by decide)) hn22 hi) ?_
    exact x_ireturn_eq dX7_stick_85 rfl rfl
theorem c_merase {X : Ev} {M : Hp} {m t d r n tn : Nat} {me ri lt : Int32} (hO : M[138]? = some (.inr (6, [.int (1), .int (nI m), .int (nI t), .int (nI d), .int (nI r), .int (nI n), .int (nI (2 ^ m - 1)), .ref (139), .ref (140), .ref (141), .ref (142), .ref (143), .ref (144), .ref (145), .ref (146), .ref (147), .int (nI tn), .int (me), .int (ri), .int (lt), .ref (148), .ref (149), .ref (150), .ref (151), .ref (152), .ref (153), .ref (154)]))) {bb : Nat → Bool} (hbb : M[143]? = some (.inl (2, 35200, .inl (fun j => nI ((bb) j).toNat)))) {ss : Nat → Int32} (hss : M[144]? = some (.inl (0, 35200, .inl (ss)))) {kk : Nat → Bool} (hkk : M[145]? = some (.inl (2, 35200, .inl (fun j => nI ((kk) j).toNat)))) {we : Nat → Int32} (hwe : M[146]? = some (.inl (0, 16, .inl (we)))) (hn22 : n ≤ 2176) {i : Nat} (hi : i < 16) : Cl X 9 jX7_erase [.ref (138), .int (nI i)] M (some (.int (we i + nI 1))) (((M.set (143) (.inl (2, 35200, .inl (fun j => nI ((wpb bb ss i (n)) j).toNat)))).set (145) (.inl (2, 35200, .inl (fun j => nI ((wpk kk i (n)) j).toNat)))).set (146) (.inl (0, 16, .inl (upd we i (we i + nI 1))))) := by
  refine Cl.of (ls := [some (.ref (138)), some (.int (nI i))]) (by decide) rfl (Nat.le_of_ble_eq_true rfl) ?_
  refine x_aload_n dX7_erase_0 rfl rfl ?_
  refine x_getf (ci := 6) (kf := 0) dX7_erase_1 rfl uX7 (by decide) fl_RX7_100 hO rfl ?_
  refine x_if_ne (tgt := 10) dX7_erase_4 (by decide) (fun _ => ?_) (fun h => False.elim (absurd h (by decide)))
  refine x_iload_n dX7_erase_10 rfl rfl ?_
  refine x_callS (as := [.int (nI i)]) dX7_erase_11 mk_X7_isPage st_X7_isPage ml_RX7_142 (by decide) rfl rfl (Nat.le_of_ble_eq_true rfl) (c_isPage) ?_
  refine x_if_ne (tgt := 20) dX7_erase_14 (by decide) (fun _ => ?_) (fun h => False.elim (ite_ne (inl_n hi (by decide)) h))
  refine x_aload_n dX7_erase_20 rfl rfl ?_
  refine x_iload_n dX7_erase_21 rfl rfl ?_
  refine x_callV (ci := 6) (as := [.int (nI i)]) dX7_erase_22 mk_X7_wipe in_X7_wipe se_X7_wipe ml_RX7_152 rfl hO (by decide) rfl rfl (Nat.le_of_ble_eq_true rfl) (c_mwipe hO hbb hss hkk hwe hn22 hi) ?_
  refine x_aload_n dX7_erase_25 rfl rfl ?_
  refine x_getf (ci := 6) (kf := 14) dX7_erase_26 rfl uX7 (by decide) fl_RX7_33 (gn (gn (gn hO (by decide)) (by decide)) (by decide)) rfl ?_
  refine x_iload_n dX7_erase_29 rfl rfl ?_
  refine x_ild (j := i) dX7_erase_30 (gs (gn (gn hwe (by decide)) (by decide))) rfl (by omega) (by decide) ?_
  exact x_ireturn_eq dX7_erase_31 rfl (by rw [pk_us])
theorem c_mtold0_ {X : Ev} {M : Hp} {m t d r n tn : Nat} {me ri lt : Int32} (hO : M[138]? = some (.inr (6, [.int (1), .int (nI m), .int (nI t), .int (nI d), .int (nI r), .int (nI n), .int (nI (2 ^ m - 1)), .ref (139), .ref (140), .ref (141), .ref (142), .ref (143), .ref (144), .ref (145), .ref (146), .ref (147), .int (nI tn), .int (me), .int (ri), .int (lt), .ref (148), .ref (149), .ref (150), .ref (151), .ref (152), .ref (153), .ref (154)]))) {we : Nat → Int32} (hwe : M[146]? = some (.inl (0, 16, .inl (we)))) (hn22 : n ≤ 2176) {i : Nat} (hi : i < 16) {z : Int32} (hz : z.toInt = 0) : Cl X 9 jX7_told [.ref (138), .int (nI i), .int (z)] M (some (.int (we i))) M := by
  refine Cl.of (ls := [some (.ref (138)), some (.int (nI i)), some (.int (z)), none, none, none]) (by decide) rfl (Nat.le_of_ble_eq_true rfl) ?_
  refine x_aload_n dX7_told_0 rfl rfl ?_
  refine x_getf (ci := 6) (kf := 0) dX7_told_1 rfl uX7 (by decide) fl_RX7_100 hO rfl ?_
  refine x_if_ne (tgt := 10) dX7_told_4 (by decide) (fun _ => ?_) (fun h => False.elim (absurd h (by decide)))
  refine x_iload_n dX7_told_10 rfl rfl ?_
  refine x_callS (as := [.int (nI i)]) dX7_told_11 mk_X7_isPage st_X7_isPage ml_RX7_142 (by decide) rfl rfl (Nat.le_of_ble_eq_true rfl) (c_isPage) ?_
  refine x_if_eq (tgt := 27) dX7_told_14 (by decide) (fun h => False.elim (ite_ne (inl_n hi (by decide)) h)) (fun _ => ?_)
  refine x_iload_n dX7_told_17 rfl rfl ?_
  refine x_iconst (y := nI 0) dX7_told_18 rfl ?_
  refine x_bipush (y := nI 19) dX7_told_19 rfl ?_
  refine x_callS (as := [.int (z), .int (nI 0), .int (nI 19)]) dX7_told_21 mk_X7_within st_X7_within ml_RX7_68 (by decide) rfl rfl (Nat.le_of_ble_eq_true rfl) (c_within) ?_
  refine x_if_ne (tgt := 30) dX7_told_24 (by decide) (fun _ => ?_) (fun h => False.elim (ite_ne (decide_eq_true (by rw [nI_toInt (n := 0) (by decide), nI_toInt (n := 19) (by decide)]; omega)) h))
  refine x_iload_n dX7_told_30 rfl rfl ?_
  refine x_tabIn (tgt := 60) dX7_told_31 (by omega) (by omega) (by rw [hz]; rfl) (by decide) ?_
  refine x_aload_n dX7_told_60 rfl rfl ?_
  refine x_getf (ci := 6) (kf := 14) dX7_told_61 rfl uX7 (by decide) fl_RX7_33 hO rfl ?_
  refine x_iload_n dX7_told_64 rfl rfl ?_
  refine x_ild (j := i) dX7_told_65 hwe rfl (by omega) (by decide) ?_
  exact x_ireturn_eq dX7_told_66 rfl rfl
theorem c_mtold1_ {X : Ev} {M : Hp} {m t d r n tn : Nat} {me ri lt : Int32} (hO : M[138]? = some (.inr (6, [.int (1), .int (nI m), .int (nI t), .int (nI d), .int (nI r), .int (nI n), .int (nI (2 ^ m - 1)), .ref (139), .ref (140), .ref (141), .ref (142), .ref (143), .ref (144), .ref (145), .ref (146), .ref (147), .int (nI tn), .int (me), .int (ri), .int (lt), .ref (148), .ref (149), .ref (150), .ref (151), .ref (152), .ref (153), .ref (154)]))) {kk : Nat → Bool} (hkk : M[145]? = some (.inl (2, 35200, .inl (fun j => nI ((kk) j).toNat)))) (hn22 : n ≤ 2176) {i : Nat} (hi : i < 16) {z : Int32} (hz : z.toInt = 1) : Cl X 9 jX7_told [.ref (138), .int (nI i), .int (z)] M (some (.int (nI (cnt (fun q => kk (2200 * i + q)) n)))) M := by
  refine Cl.of (ls := [some (.ref (138)), some (.int (nI i)), some (.int (z)), none, none, none]) (by decide) rfl (Nat.le_of_ble_eq_true rfl) ?_
  refine x_aload_n dX7_told_0 rfl rfl ?_
  refine x_getf (ci := 6) (kf := 0) dX7_told_1 rfl uX7 (by decide) fl_RX7_100 hO rfl ?_
  refine x_if_ne (tgt := 10) dX7_told_4 (by decide) (fun _ => ?_) (fun h => False.elim (absurd h (by decide)))
  refine x_iload_n dX7_told_10 rfl rfl ?_
  refine x_callS (as := [.int (nI i)]) dX7_told_11 mk_X7_isPage st_X7_isPage ml_RX7_142 (by decide) rfl rfl (Nat.le_of_ble_eq_true rfl) (c_isPage) ?_
  refine x_if_eq (tgt := 27) dX7_told_14 (by decide) (fun h => False.elim (ite_ne (inl_n hi (by decide)) h)) (fun _ => ?_)
  refine x_iload_n dX7_told_17 rfl rfl ?_
  refine x_iconst (y := nI 0) dX7_told_18 rfl ?_
  refine x_bipush (y := nI 19) dX7_told_19 rfl ?_
  refine x_callS (as := [.int (z), .int (nI 0), .int (nI 19)]) dX7_told_21 mk_X7_within st_X7_within ml_RX7_68 (by decide) rfl rfl (Nat.le_of_ble_eq_true rfl) (c_within) ?_
  refine x_if_ne (tgt := 30) dX7_told_24 (by decide) (fun _ => ?_) (fun h => False.elim (ite_ne (decide_eq_true (by rw [nI_toInt (n := 0) (by decide), nI_toInt (n := 19) (by decide)]; omega)) h))
  refine x_iload_n dX7_told_30 rfl rfl ?_
  refine x_tabIn (tgt := 67) dX7_told_31 (by omega) (by omega) (by rw [hz]; rfl) (by decide) ?_
  refine x_aload_n dX7_told_67 rfl rfl ?_
  refine x_iload_n dX7_told_68 rfl rfl ?_
  refine x_callV (ci := 6) (as := [.int (nI i)]) dX7_told_69 mk_X7_countMarks in_X7_countMarks se_X7_countMarks ml_RX7_162 rfl hO (by decide) rfl rfl (Nat.le_of_ble_eq_true rfl) (c_countMarks hO hkk hn22 hi) ?_
  exact x_ireturn_eq dX7_told_72 rfl rfl
theorem c_mtold2_ {X : Ev} {M : Hp} {m t d r n tn : Nat} {me ri lt : Int32} (hO : M[138]? = some (.inr (6, [.int (1), .int (nI m), .int (nI t), .int (nI d), .int (nI r), .int (nI n), .int (nI (2 ^ m - 1)), .ref (139), .ref (140), .ref (141), .ref (142), .ref (143), .ref (144), .ref (145), .ref (146), .ref (147), .int (nI tn), .int (me), .int (ri), .int (lt), .ref (148), .ref (149), .ref (150), .ref (151), .ref (152), .ref (153), .ref (154)]))) {ss : Nat → Int32} (hss : M[144]? = some (.inl (0, 35200, .inl (ss)))) (hn22 : n ≤ 2176) {i : Nat} (hi : i < 16) {z : Int32} (hz : z.toInt = 2) : Cl X 9 jX7_told [.ref (138), .int (nI i), .int (z)] M (some (.int (nI (cnt (fun q => decide (ss (2200 * i + q) ≠ -1)) n)))) M := by
  refine Cl.of (ls := [some (.ref (138)), some (.int (nI i)), some (.int (z)), none, none, none]) (by decide) rfl (Nat.le_of_ble_eq_true rfl) ?_
  refine x_aload_n dX7_told_0 rfl rfl ?_
  refine x_getf (ci := 6) (kf := 0) dX7_told_1 rfl uX7 (by decide) fl_RX7_100 hO rfl ?_
  refine x_if_ne (tgt := 10) dX7_told_4 (by decide) (fun _ => ?_) (fun h => False.elim (absurd h (by decide)))
  refine x_iload_n dX7_told_10 rfl rfl ?_
  refine x_callS (as := [.int (nI i)]) dX7_told_11 mk_X7_isPage st_X7_isPage ml_RX7_142 (by decide) rfl rfl (Nat.le_of_ble_eq_true rfl) (c_isPage) ?_
  refine x_if_eq (tgt := 27) dX7_told_14 (by decide) (fun h => False.elim (ite_ne (inl_n hi (by decide)) h)) (fun _ => ?_)
  refine x_iload_n dX7_told_17 rfl rfl ?_
  refine x_iconst (y := nI 0) dX7_told_18 rfl ?_
  refine x_bipush (y := nI 19) dX7_told_19 rfl ?_
  refine x_callS (as := [.int (z), .int (nI 0), .int (nI 19)]) dX7_told_21 mk_X7_within st_X7_within ml_RX7_68 (by decide) rfl rfl (Nat.le_of_ble_eq_true rfl) (c_within) ?_
  refine x_if_ne (tgt := 30) dX7_told_24 (by decide) (fun _ => ?_) (fun h => False.elim (ite_ne (decide_eq_true (by rw [nI_toInt (n := 0) (by decide), nI_toInt (n := 19) (by decide)]; omega)) h))
  refine x_iload_n dX7_told_30 rfl rfl ?_
  refine x_tabIn (tgt := 73) dX7_told_31 (by omega) (by omega) (by rw [hz]; rfl) (by decide) ?_
  refine x_aload_n dX7_told_73 rfl rfl ?_
  refine x_iload_n dX7_told_74 rfl rfl ?_
  refine x_callV (ci := 6) (as := [.int (nI i)]) dX7_told_75 mk_X7_countStuck in_X7_countStuck se_X7_countStuck ml_RX7_159 rfl hO (by decide) rfl rfl (Nat.le_of_ble_eq_true rfl) (c_countStuck hO hss hn22 hi) ?_
  exact x_ireturn_eq dX7_told_78 rfl rfl
theorem c_mtold3_ {X : Ev} {M : Hp} {m t d r n tn : Nat} {me ri lt : Int32} (hO : M[138]? = some (.inr (6, [.int (1), .int (nI m), .int (nI t), .int (nI d), .int (nI r), .int (nI n), .int (nI (2 ^ m - 1)), .ref (139), .ref (140), .ref (141), .ref (142), .ref (143), .ref (144), .ref (145), .ref (146), .ref (147), .int (nI tn), .int (me), .int (ri), .int (lt), .ref (148), .ref (149), .ref (150), .ref (151), .ref (152), .ref (153), .ref (154)]))) {bb : Nat → Bool} (hbb : M[143]? = some (.inl (2, 35200, .inl (fun j => nI ((bb) j).toNat)))) (hn22 : n ≤ 2176) {i : Nat} (hi : i < 16) {z : Int32} (hz : z.toInt = 3) : Cl X 9 jX7_told [.ref (138), .int (nI i), .int (z)] M (some (.int (nI (cnt (fun q => !bb (2200 * i + q)) n)))) M := by
  refine Cl.of (ls := [some (.ref (138)), some (.int (nI i)), some (.int (z)), none, none, none]) (by decide) rfl (Nat.le_of_ble_eq_true rfl) ?_
  refine x_aload_n dX7_told_0 rfl rfl ?_
  refine x_getf (ci := 6) (kf := 0) dX7_told_1 rfl uX7 (by decide) fl_RX7_100 hO rfl ?_
  refine x_if_ne (tgt := 10) dX7_told_4 (by decide) (fun _ => ?_) (fun h => False.elim (absurd h (by decide)))
  refine x_iload_n dX7_told_10 rfl rfl ?_
  refine x_callS (as := [.int (nI i)]) dX7_told_11 mk_X7_isPage st_X7_isPage ml_RX7_142 (by decide) rfl rfl (Nat.le_of_ble_eq_true rfl) (c_isPage) ?_
  refine x_if_eq (tgt := 27) dX7_told_14 (by decide) (fun h => False.elim (ite_ne (inl_n hi (by decide)) h)) (fun _ => ?_)
  refine x_iload_n dX7_told_17 rfl rfl ?_
  refine x_iconst (y := nI 0) dX7_told_18 rfl ?_
  refine x_bipush (y := nI 19) dX7_told_19 rfl ?_
  refine x_callS (as := [.int (z), .int (nI 0), .int (nI 19)]) dX7_told_21 mk_X7_within st_X7_within ml_RX7_68 (by decide) rfl rfl (Nat.le_of_ble_eq_true rfl) (c_within) ?_
  refine x_if_ne (tgt := 30) dX7_told_24 (by decide) (fun _ => ?_) (fun h => False.elim (ite_ne (decide_eq_true (by rw [nI_toInt (n := 0) (by decide), nI_toInt (n := 19) (by decide)]; omega)) h))
  refine x_iload_n dX7_told_30 rfl rfl ?_
  refine x_tabIn (tgt := 79) dX7_told_31 (by omega) (by omega) (by rw [hz]; rfl) (by decide) ?_
  refine x_aload_n dX7_told_79 rfl rfl ?_
  refine x_iload_n dX7_told_80 rfl rfl ?_
  refine x_callV (ci := 6) (as := [.int (nI i)]) dX7_told_81 mk_X7_countZeros in_X7_countZeros se_X7_countZeros ml_RX7_178 rfl hO (by decide) rfl rfl (Nat.le_of_ble_eq_true rfl) (c_countZeros hO hbb hn22 hi) ?_
  exact x_ireturn_eq dX7_told_84 rfl rfl
theorem lp_mtold {X : Ev} {M0 M : Hp} {m t d r n tn : Nat} {me ri lt : Int32} (hO : M[138]? = some (.inr (6, [.int (1), .int (nI m), .int (nI t), .int (nI d), .int (nI r), .int (nI n), .int (nI (2 ^ m - 1)), .ref (139), .ref (140), .ref (141), .ref (142), .ref (143), .ref (144), .ref (145), .ref (146), .ref (147), .int (nI tn), .int (me), .int (ri), .int (lt), .ref (148), .ref (149), .ref (150), .ref (151), .ref (152), .ref (153), .ref (154)]))) {bb : Nat → Bool} (hbb : M[143]? = some (.inl (2, 35200, .inl (fun j => nI ((bb) j).toNat)))) (hn22 : n ≤ 2176) {i : Nat} (hi : i < 16) {a i2 : Nat} (hi2 : i2 < 16) : ∀ (zz q : Nat), q + zz = n → G X 9 jX7_told M0 100 [some (.ref (138)), some (.int (nI i)), some (.int (nI a)), some (.int (nI i2)), some (.int (nI (cnt (fun q => bb (2200 * i + q) ^^ bb (2200 * i2 + q)) (q)))), some (.int (nI (q)))] [] M (some (.int (nI (cnt (fun q => bb (2200 * i + q) ^^ bb (2200 * i2 + q)) n)))) M := by
  intro zz
  induction zz with
  | zero =>
    intro q hqq
    have hqq : q = n := by omega
    subst hqq
    refine x_iload dX7_told_100 rfl ?_
    refine x_aload_n dX7_told_102 rfl rfl ?_
    refine x_getf (ci := 6) (kf := 5) dX7_told_103 rfl uX7 (by decide) fl_RX7_113 hO rfl ?_
    refine x_icmp_ge (tgt := 154) dX7_told_106 (by decide) (fun _ => ?_) (fun h => False.elim (h (nI_le (Nat.le_refl _) (by omega))))
    refine x_iload dX7_told_154 rfl ?_
    exact x_ireturn_eq dX7_told_156 rfl rfl
  | succ zz ih =>
    intro q hqq
    have e1 : cnt (fun q => bb (2200 * i + q) ^^ bb (2200 * i2 + q)) (q + 1) = cnt (fun q => bb (2200 * i + q) ^^ bb (2200 * i2 + q)) q + (if bb (2200 * i + q) ^^ bb (2200 * i2 + q) then 1 else 0) := rfl
    refine x_iload dX7_told_100 rfl ?_
    refine x_aload_n dX7_told_102 rfl rfl ?_
    refine x_getf (ci := 6) (kf := 5) dX7_told_103 rfl uX7 (by decide) fl_RX7_113 hO rfl ?_
    refine x_icmp_ge (tgt := 154) dX7_told_106 (by decide) (fun h => False.elim (nI_ge (by omega : q < n) (by omega) h)) (fun _ => ?_)
    refine x_iload dX7_told_109 rfl ?_
    refine x_aload_n dX7_told_111 rfl rfl ?_
    refine x_getf (ci := 6) (kf := 11) dX7_told_112 rfl uX7 (by decide) fl_RX7_23 hO rfl ?_
    refine x_sipush (y := nI 2200) dX7_told_115 rfl ?_
    refine x_iload_n dX7_told_118 rfl rfl ?_
    refine x_imul dX7_told_119 ?_
    refine x_casti (y := nI (2200 * i)) (pk_mul _ _) ?_
    refine x_iload dX7_told_120 rfl ?_
    refine x_iadd dX7_told_122 ?_
    refine x_casti (y := nI (2200 * i + q)) (nI_add _ _) ?_
    refine x_zld (j := 2200 * i + q) dX7_told_123 hbb rfl (by omega) (by decide) ?_
    refine x_aload_n dX7_told_124 rfl rfl ?_
    refine x_getf (ci := 6) (kf := 11) dX7_told_125 rfl uX7 (by decide) fl_RX7_23 hO rfl ?_
    refine x_sipush (y := nI 2200) dX7_told_128 rfl ?_
    refine x_iload_n dX7_told_131 rfl rfl ?_
    refine x_imul dX7_told_132 ?_
    refine x_casti (y := nI (2200 * i2)) (pk_mul _ _) ?_
    refine x_iload dX7_told_133 rfl ?_
    refine x_iadd dX7_told_135 ?_
    refine x_casti (y := nI (2200 * i2 + q)) (nI_add _ _) ?_
    refine x_zld (j := 2200 * i2 + q) dX7_told_136 hbb rfl (by omega) (by decide) ?_
    refine x_icmp_eq (tgt := 144) dX7_told_137 (by decide) (fun h137 => ?_) (fun h137 => ?_)
    · refine x_iconst (y := nI 0) dX7_told_144 rfl ?_
      refine x_iadd dX7_told_145 ?_
      refine x_casti (y := nI (cnt (fun q => bb (2200 * i + q) ^^ bb (2200 * i2 + q)) (q + 1))) (by rw [nI_add, e1, if_neg (by rw [bxe h137]; decide)]) ?_
      refine x_istore (ls' := [some (.ref (138)), some (.int (nI i)), some (.int (nI a)), some (.int (nI i2)), some (.int (nI (cnt (fun q => bb (2200 * i + q) ^^ bb (2200 * i2 + q)) (q + 1)))), some (.int (nI (q)))]) dX7_told_146 (by decide) rfl rfl ?_
      refine x_iinc (y := nI ((q) + 1)) (ls' := [some (.ref (138)), some (.int (nI i)), some (.int (nI a)), some (.int (nI i2)), some (.int (nI (cnt (fun q => bb (2200 * i + q) ^^ bb (2200 * i2 + q)) (q + 1)))), some (.int (nI ((q) + 1)))]) dX7_told_148 (by decide) rfl rfl (ii_add _ 1) rfl ?_
      refine x_goto (tgt := 100) dX7_told_151 (by decide) ?_
      exact ih (q + 1) (by omega)
    · refine x_iconst (y := nI 1) dX7_told_140 rfl ?_
      refine x_goto (tgt := 145) dX7_told_141 (by decide) ?_
      refine x_iadd dX7_told_145 ?_
      refine x_casti (y := nI (cnt (fun q => bb (2200 * i + q) ^^ bb (2200 * i2 + q)) (q + 1))) (by rw [nI_add, e1, if_pos (bxn h137)]) ?_
      refine x_istore (ls' := [some (.ref (138)), some (.int (nI i)), some (.int (nI a)), some (.int (nI i2)), some (.int (nI (cnt (fun q => bb (2200 * i + q) ^^ bb (2200 * i2 + q)) (q + 1)))), some (.int (nI (q)))]) dX7_told_146 (by decide) rfl rfl ?_
      refine x_iinc (y := nI ((q) + 1)) (ls' := [some (.ref (138)), some (.int (nI i)), some (.int (nI a)), some (.int (nI i2)), some (.int (nI (cnt (fun q => bb (2200 * i + q) ^^ bb (2200 * i2 + q)) (q + 1)))), some (.int (nI ((q) + 1)))]) dX7_told_148 (by decide) rfl rfl (ii_add _ 1) rfl ?_
      refine x_goto (tgt := 100) dX7_told_151 (by decide) ?_
      exact ih (q + 1) (by omega)
theorem c_mtold4_ {X : Ev} {M : Hp} {m t d r n tn : Nat} {me ri lt : Int32} (hO : M[138]? = some (.inr (6, [.int (1), .int (nI m), .int (nI t), .int (nI d), .int (nI r), .int (nI n), .int (nI (2 ^ m - 1)), .ref (139), .ref (140), .ref (141), .ref (142), .ref (143), .ref (144), .ref (145), .ref (146), .ref (147), .int (nI tn), .int (me), .int (ri), .int (lt), .ref (148), .ref (149), .ref (150), .ref (151), .ref (152), .ref (153), .ref (154)]))) {bb : Nat → Bool} (hbb : M[143]? = some (.inl (2, 35200, .inl (fun j => nI ((bb) j).toNat)))) (hn22 : n ≤ 2176) {i : Nat} (hi : i < 16) {a i2 : Nat} (ha4 : 4 ≤ a) (ha20 : a < 20) (hia : i2 = (i + a - 4) % 16) : Cl X 9 jX7_told [.ref (138), .int (nI i), .int (nI a)] M (some (.int (nI (cnt (fun q => bb (2200 * i + q) ^^ bb (2200 * i2 + q)) n)))) M := by
  have hz := nI_toInt (n := a) (by omega)
  refine Cl.of (ls := [some (.ref (138)), some (.int (nI i)), some (.int (nI a)), none, none, none]) (by decide) rfl (Nat.le_of_ble_eq_true rfl) ?_
  refine x_aload_n dX7_told_0 rfl rfl ?_
  refine x_getf (ci := 6) (kf := 0) dX7_told_1 rfl uX7 (by decide) fl_RX7_100 hO rfl ?_
  refine x_if_ne (tgt := 10) dX7_told_4 (by decide) (fun _ => ?_) (fun h => False.elim (absurd h (by decide)))
  refine x_iload_n dX7_told_10 rfl rfl ?_
  refine x_callS (as := [.int (nI i)]) dX7_told_11 mk_X7_isPage st_X7_isPage ml_RX7_142 (by decide) rfl rfl (Nat.le_of_ble_eq_true rfl) (c_isPage) ?_
  refine x_if_eq (tgt := 27) dX7_told_14 (by decide) (fun h => False.elim (ite_ne (inl_n hi (by decide)) h)) (fun _ => ?_)
  refine x_iload_n dX7_told_17 rfl rfl ?_
  refine x_iconst (y := nI 0) dX7_told_18 rfl ?_
  refine x_bipush (y := nI 19) dX7_told_19 rfl ?_
  refine x_callS (as := [.int (nI a), .int (nI 0), .int (nI 19)]) dX7_told_21 mk_X7_within st_X7_within ml_RX7_68 (by decide) rfl rfl (Nat.le_of_ble_eq_true rfl) (c_within) ?_
  refine x_if_ne (tgt := 30) dX7_told_24 (by decide) (fun _ => ?_) (fun h => False.elim (ite_ne (decide_eq_true (by rw [nI_toInt (n := a) (by omega), nI_toInt (n := 0) (by decide), nI_toInt (n := 19) (by decide)]; omega)) h))
  refine x_iload_n dX7_told_30 rfl rfl ?_
  refine x_tabOut (tgt := 85) dX7_told_31 (by omega) (by decide) ?_
  refine x_iload_n dX7_told_85 rfl rfl ?_
  refine x_iload_n dX7_told_86 rfl rfl ?_
  refine x_iadd dX7_told_87 ?_
  refine x_casti (y := nI (i + a)) (nI_add _ _) ?_
  refine x_iconst (y := nI 4) dX7_told_88 rfl ?_
  refine x_isub dX7_told_89 ?_
  refine x_casti (y := nI (i + a - 4)) (pk_sub (by omega)) ?_
  refine x_bipush (y := nI 16) dX7_told_90 rfl ?_
  refine x_irem dX7_told_92 (by decide) ?_
  refine x_casti (y := nI i2) (by rw [rem_n (by omega) (by decide) (by decide), hia]) ?_
  refine x_istore_n (ls' := [some (.ref (138)), some (.int (nI i)), some (.int (nI a)), some (.int (nI i2)), none, none]) dX7_told_93 rfl (by decide) rfl rfl ?_
  refine x_iconst (y := nI 0) dX7_told_94 rfl ?_
  refine x_istore (ls' := [some (.ref (138)), some (.int (nI i)), some (.int (nI a)), some (.int (nI i2)), some (.int (nI 0)), none]) dX7_told_95 (by decide) rfl rfl ?_
  refine x_iconst (y := nI 0) dX7_told_97 rfl ?_
  refine x_istore (ls' := [some (.ref (138)), some (.int (nI i)), some (.int (nI a)), some (.int (nI i2)), some (.int (nI 0)), some (.int (nI 0))]) dX7_told_98 (by decide) rfl rfl ?_
  exact lp_mtold hO hbb hn22 hi (by omega) n 0 (by omega)
