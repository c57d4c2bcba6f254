/-! PAGEMENDER: its methods, where the call is in order -/
theorem c_times {X : Ev} {M : Hp}  {ra rr rl : Int32} (h0 : M[0]? = some (.inr (5, [.ref (1), .ref (5), .ref (12), .ref (21), .ref (134), .ref (136), .int (1), .int (ra), .int (rr), .int (rl)]))) {m : Nat} (hf : M[1]? = some (.inr (1, [.ref (2), .ref (3), .ref (4), .int (nI m), .int (nI (2 ^ m - 1))]))) {pw : Nat → Int32} (hp : M[2]? = some (.inl (0, 8192, .inl (pw)))) {lg : Nat → Int32} (hq : M[3]? = some (.inl (0, 8192, .inl (lg)))) (hF : FT pw lg m) {a b : Nat} (ha : a < 2 ^ m) (hb : b < 2 ^ m) : Cl X 9 jX6_times [.ref (0), .int (nI a), .int (nI b)] M (some (.int (nI (fmul m a b)))) M := by
  have ht := two_le hF.1.1 hF.1.2
  refine Cl.of (ls := [some (.ref (0)), some (.int (nI a)), some (.int (nI b))]) (by decide) rfl (Nat.le_of_ble_eq_true rfl) ?_
  refine x_aload_n dX6_times_0 rfl rfl ?_
  refine x_getf (ci := 5) (kf := 6) dX6_times_1 rfl uX6 (by decide) fl_RX6_84 h0 rfl ?_
  refine x_if_ne (tgt := 10) dX6_times_4 (by decide) (fun _ => ?_) (fun h => False.elim (absurd h (by decide)))
  refine x_aload_n dX6_times_10 rfl rfl ?_
  refine x_getf (ci := 5) (kf := 0) dX6_times_11 rfl uX6 (by decide) fl_RX6_12 h0 rfl ?_
  refine x_iload_n dX6_times_14 rfl rfl ?_
  refine x_callV (ci := 1) (as := [.int (nI a)]) dX6_times_15 mk_X2_has in_X2_has se_X2_has ml_RX6_88 rfl hf (by decide) rfl rfl (Nat.le_of_ble_eq_true rfl) (c_has hf hp hq hF) ?_
  refine x_if_eq (tgt := 32) dX6_times_18 (by decide) (fun h => False.elim (ite_ne (inr_n hF.1.1 hF.1.2 ha) h)) (fun _ => ?_)
  refine x_aload_n dX6_times_21 rfl rfl ?_
  refine x_getf (ci := 5) (kf := 0) dX6_times_22 rfl uX6 (by decide) fl_RX6_12 h0 rfl ?_
  refine x_iload_n dX6_times_25 rfl rfl ?_
  refine x_callV (ci := 1) (as := [.int (nI b)]) dX6_times_26 mk_X2_has in_X2_has se_X2_has ml_RX6_88 rfl hf (by decide) rfl rfl (Nat.le_of_ble_eq_true rfl) (c_has hf hp hq hF) ?_
  refine x_if_ne (tgt := 35) dX6_times_29 (by decide) (fun _ => ?_) (fun h => False.elim (ite_ne (inr_n hF.1.1 hF.1.2 hb) h))
  refine x_aload_n dX6_times_35 rfl rfl ?_
  refine x_getf (ci := 5) (kf := 0) dX6_times_36 rfl uX6 (by decide) fl_RX6_12 h0 rfl ?_
  refine x_iload_n dX6_times_39 rfl rfl ?_
  refine x_iload_n dX6_times_40 rfl rfl ?_
  refine x_callV (ci := 1) (as := [.int (nI a), .int (nI b)]) dX6_times_41 mk_X2_product in_X2_product se_X2_product ml_RX6_92 rfl hf (by decide) rfl rfl (Nat.le_of_ble_eq_true rfl) (c_product hf hp hq hF ha hb) ?_
  exact x_ireturn_eq dX6_times_44 rfl rfl
theorem c_inverse {X : Ev} {M : Hp}  {ra rr rl : Int32} (h0 : M[0]? = some (.inr (5, [.ref (1), .ref (5), .ref (12), .ref (21), .ref (134), .ref (136), .int (1), .int (ra), .int (rr), .int (rl)]))) {m : Nat} (hf : M[1]? = some (.inr (1, [.ref (2), .ref (3), .ref (4), .int (nI m), .int (nI (2 ^ m - 1))]))) {pw : Nat → Int32} (hp : M[2]? = some (.inl (0, 8192, .inl (pw)))) {lg : Nat → Int32} (hq : M[3]? = some (.inl (0, 8192, .inl (lg)))) (hF : FT pw lg m) {a : Nat} (ha0 : a ≠ 0) (ha : a < 2 ^ m) : Cl X 9 jX6_inverse [.ref (0), .int (nI a)] M (some (.int (nI (finv m a)))) M := by
  have ht := two_le hF.1.1 hF.1.2
  refine Cl.of (ls := [some (.ref (0)), some (.int (nI a))]) (by decide) rfl (Nat.le_of_ble_eq_true rfl) ?_
  refine x_aload_n dX6_inverse_0 rfl rfl ?_
  refine x_getf (ci := 5) (kf := 6) dX6_inverse_1 rfl uX6 (by decide) fl_RX6_84 h0 rfl ?_
  refine x_if_ne (tgt := 10) dX6_inverse_4 (by decide) (fun _ => ?_) (fun h => False.elim (absurd h (by decide)))
  refine x_aload_n dX6_inverse_10 rfl rfl ?_
  refine x_getf (ci := 5) (kf := 0) dX6_inverse_11 rfl uX6 (by decide) fl_RX6_12 h0 rfl ?_
  refine x_iload_n dX6_inverse_14 rfl rfl ?_
  refine x_callV (ci := 1) (as := [.int (nI a)]) dX6_inverse_15 mk_X2_has in_X2_has se_X2_has ml_RX6_88 rfl hf (by decide) rfl rfl (Nat.le_of_ble_eq_true rfl) (c_has hf hp hq hF) ?_
  refine x_if_eq (tgt := 25) dX6_inverse_18 (by decide) (fun h => False.elim (ite_ne (inr_n hF.1.1 hF.1.2 ha) h)) (fun _ => ?_)
  refine x_iload_n dX6_inverse_21 rfl rfl ?_
  refine x_if_ne (tgt := 28) dX6_inverse_22 (by decide) (fun _ => ?_) (fun h => False.elim (ha0 ((nI_eq (by omega) (by decide)).mp h)))
  refine x_aload_n dX6_inverse_28 rfl rfl ?_
  refine x_getf (ci := 5) (kf := 0) dX6_inverse_29 rfl uX6 (by decide) fl_RX6_12 h0 rfl ?_
  refine x_iload_n dX6_inverse_32 rfl rfl ?_
  refine x_callV (ci := 1) (as := [.int (nI a)]) dX6_inverse_33 mk_X2_reciprocal in_X2_reciprocal se_X2_reciprocal ml_RX6_95 rfl hf (by decide) rfl rfl (Nat.le_of_ble_eq_true rfl) (c_reciprocal hf hp hq hF ha0 ha) ?_
  exact x_ireturn_eq dX6_inverse_36 rfl rfl
theorem c_log {X : Ev} {M : Hp}  {ra rr rl : Int32} (h0 : M[0]? = some (.inr (5, [.ref (1), .ref (5), .ref (12), .ref (21), .ref (134), .ref (136), .int (1), .int (ra), .int (rr), .int (rl)]))) {m : Nat} (hf : M[1]? = some (.inr (1, [.ref (2), .ref (3), .ref (4), .int (nI m), .int (nI (2 ^ m - 1))]))) {pw : Nat → Int32} (hp : M[2]? = some (.inl (0, 8192, .inl (pw)))) {lg : Nat → Int32} (hq : M[3]? = some (.inl (0, 8192, .inl (lg)))) (hF : FT pw lg m) {a : Nat} (ha0 : a ≠ 0) (ha : a < 2 ^ m) : Cl X 9 jX6_log [.ref (0), .int (nI a)] M (some (.int (nI (lgn m a)))) M := by
  have ht := two_le hF.1.1 hF.1.2
  refine Cl.of (ls := [some (.ref (0)), some (.int (nI a))]) (by decide) rfl (Nat.le_of_ble_eq_true rfl) ?_
  refine x_aload_n dX6_log_0 rfl rfl ?_
  refine x_getf (ci := 5) (kf := 6) dX6_log_1 rfl uX6 (by decide) fl_RX6_84 h0 rfl ?_
  refine x_if_ne (tgt := 10) dX6_log_4 (by decide) (fun _ => ?_) (fun h => False.elim (absurd h (by decide)))
  refine x_aload_n dX6_log_10 rfl rfl ?_
  refine x_getf (ci := 5) (kf := 0) dX6_log_11 rfl uX6 (by decide) fl_RX6_12 h0 rfl ?_
  refine x_iload_n dX6_log_14 rfl rfl ?_
  refine x_callV (ci := 1) (as := [.int (nI a)]) dX6_log_15 mk_X2_has in_X2_has se_X2_has ml_RX6_88 rfl hf (by decide) rfl rfl (Nat.le_of_ble_eq_true rfl) (c_has hf hp hq hF) ?_
  refine x_if_eq (tgt := 25) dX6_log_18 (by decide) (fun h => False.elim (ite_ne (inr_n hF.1.1 hF.1.2 ha) h)) (fun _ => ?_)
  refine x_iload_n dX6_log_21 rfl rfl ?_
  refine x_if_ne (tgt := 28) dX6_log_22 (by decide) (fun _ => ?_) (fun h => False.elim (ha0 ((nI_eq (by omega) (by decide)).mp h)))
  refine x_aload_n dX6_log_28 rfl rfl ?_
  refine x_getf (ci := 5) (kf := 0) dX6_log_29 rfl uX6 (by decide) fl_RX6_12 h0 rfl ?_
  refine x_getf (ci := 1) (kf := 1) dX6_log_32 rfl uX2 (by decide) fl_RX6_104 hf rfl ?_
  refine x_iload_n dX6_log_35 rfl rfl ?_
  refine x_ild (j := a) dX6_log_36 hq rfl (by omega) (by decide) ?_
  exact x_ireturn_eq dX6_log_37 rfl (hF.lg ha0 ha)
theorem c_power {X : Ev} {M : Hp}  {ra rr rl : Int32} (h0 : M[0]? = some (.inr (5, [.ref (1), .ref (5), .ref (12), .ref (21), .ref (134), .ref (136), .int (1), .int (ra), .int (rr), .int (rl)]))) {m : Nat} (hf : M[1]? = some (.inr (1, [.ref (2), .ref (3), .ref (4), .int (nI m), .int (nI (2 ^ m - 1))]))) {pw : Nat → Int32} (hp : M[2]? = some (.inl (0, 8192, .inl (pw)))) {lg : Nat → Int32} (hq : M[3]? = some (.inl (0, 8192, .inl (lg)))) (hF : FT pw lg m) {z : Int32} (hz1 : -100000 ≤ z.toInt) (hz2 : z.toInt ≤ 100000) : Cl X 9 jX6_power [.ref (0), .int (z)] M (some (.int (nI (pwr m (red z (2 ^ m - 1)))))) M := by
  refine Cl.of (ls := [some (.ref (0)), some (.int (z))]) (by decide) rfl (Nat.le_of_ble_eq_true rfl) ?_
  refine x_aload_n dX6_power_0 rfl rfl ?_
  refine x_getf (ci := 5) (kf := 6) dX6_power_1 rfl uX6 (by decide) fl_RX6_84 h0 rfl ?_
  refine x_if_ne (tgt := 10) dX6_power_4 (by decide) (fun _ => ?_) (fun h => False.elim (absurd h (by decide)))
  refine x_iload_n dX6_power_10 rfl rfl ?_
  refine x_ldc (y := (-100000)) dX6_power_11 ki_RX6_99 ?_
  refine x_icmp_lt (tgt := 22) dX6_power_13 (by decide) (fun h => False.elim (absurd (Int32.lt_iff_toInt_lt.mp h) (Int.not_lt.mpr hz1))) (fun _ => ?_)
  refine x_iload_n dX6_power_16 rfl rfl ?_
  refine x_ldc (y := (100000)) dX6_power_17 ki_RX6_100 ?_
  refine x_icmp_le (tgt := 25) dX6_power_19 (by decide) (fun _ => ?_) (fun h => False.elim (h (Int32.le_iff_toInt_le.mpr hz2)))
  refine x_aload_n dX6_power_25 rfl rfl ?_
  refine x_getf (ci := 5) (kf := 0) dX6_power_26 rfl uX6 (by decide) fl_RX6_12 h0 rfl ?_
  refine x_iload_n dX6_power_29 rfl rfl ?_
  refine x_callV (ci := 1) (as := [.int (z)]) dX6_power_30 mk_X2_powerOfA in_X2_powerOfA se_X2_powerOfA ml_RX6_101 rfl hf (by decide) rfl rfl (Nat.le_of_ble_eq_true rfl) (c_powerOfA hf hp hq hF) ?_
  exact x_ireturn_eq dX6_power_33 rfl rfl
theorem c_minimal {X : Ev} {M : Hp}  {ra rr rl : Int32} (h0 : M[0]? = some (.inr (5, [.ref (1), .ref (5), .ref (12), .ref (21), .ref (134), .ref (136), .int (1), .int (ra), .int (rr), .int (rl)]))) {m : Nat} (hf : M[1]? = some (.inr (1, [.ref (2), .ref (3), .ref (4), .int (nI m), .int (nI (2 ^ m - 1))]))) {pw : Nat → Int32} (hp : M[2]? = some (.inl (0, 8192, .inl (pw)))) {lg : Nat → Int32} (hq : M[3]? = some (.inl (0, 8192, .inl (lg)))) {cf : Nat → Int32} (hc : M[4]? = some (.inl (0, 14, .inl (cf)))) (hF : FT pw lg m) {i : Nat} (hi : i < 2 ^ m - 1) : Cl X 9 jX6_minimal [.ref (0), .int (nI i)] M (some (.int (nI (mpoly m i)))) (M.set (4) (.inl (0, 14, .inl (fun j => nI (mpc m (i % (2 ^ m - 1)) (csize i m) j))))) := by
  have ht := two_le hF.1.1 hF.1.2
  refine Cl.of (ls := [some (.ref (0)), some (.int (nI i))]) (by decide) rfl (Nat.le_of_ble_eq_true rfl) ?_
  refine x_aload_n dX6_minimal_0 rfl rfl ?_
  refine x_getf (ci := 5) (kf := 6) dX6_minimal_1 rfl uX6 (by decide) fl_RX6_84 h0 rfl ?_
  refine x_if_ne (tgt := 10) dX6_minimal_4 (by decide) (fun _ => ?_) (fun h => False.elim (absurd h (by decide)))
  refine x_iload_n dX6_minimal_10 rfl rfl ?_
  refine x_if_lt (tgt := 25) dX6_minimal_11 (by decide) (fun h => False.elim (absurd h (nI_pos (by omega)))) (fun _ => ?_)
  refine x_iload_n dX6_minimal_14 rfl rfl ?_
  refine x_aload_n dX6_minimal_15 rfl rfl ?_
  refine x_getf (ci := 5) (kf := 0) dX6_minimal_16 rfl uX6 (by decide) fl_RX6_12 h0 rfl ?_
  refine x_getf (ci := 1) (kf := 4) dX6_minimal_19 rfl uX2 (by decide) fl_RX6_108 hf rfl ?_
  refine x_icmp_lt (tgt := 28) dX6_minimal_22 (by decide) (fun _ => ?_) (fun h => False.elim (h ((nI_ltI (by omega) (by omega)).mpr hi)))
  refine x_aload_n dX6_minimal_28 rfl rfl ?_
  refine x_getf (ci := 5) (kf := 0) dX6_minimal_29 rfl uX6 (by decide) fl_RX6_12 h0 rfl ?_
  refine x_iload_n dX6_minimal_32 rfl rfl ?_
  refine x_callV (ci := 1) (as := [.int (nI i)]) dX6_minimal_33 mk_X2_minimalPolynomial in_X2_minimalPolynomial se_X2_minimalPolynomial ml_RX6_111 rfl hf (by decide) rfl rfl (Nat.le_of_ble_eq_true rfl) (c_minimalPolynomial hf hp hq hF hc (by decide) (by decide) (by decide) (by omega)) ?_
  exact x_ireturn_eq dX6_minimal_36 rfl rfl
theorem c_generator {X : Ev} {M : Hp} {t d r n : Nat} {s : Ms} {ra rr rl : Int32} (h0 : M[0]? = some (.inr (5, [.ref (1), .ref (5), .ref (12), .ref (21), .ref (134), .ref (136), .int (1), .int (ra), .int (rr), .int (rl)])))  (ho : M[5]? = some (.inr (0, [.ref (1), .ref (6), .ref (7), .ref (8), .ref (9), .ref (10), .int (nI t), .int (nI d), .int (nI r), .int (nI n), .long (s.1.1), .long (s.1.2)]))) {gp : Nat → Bool} (hpl : M[6]? = some (.inl (0, 105, .inl (fun j => nI ((gp) j).toNat)))) (hr8 : r ≤ 104) {i : Nat} (hi : i ≤ r) : Cl X 9 jX6_generator [.ref (0), .int (nI i)] M (some (.int (nI (gp i).toNat))) M := by
  refine Cl.of (ls := [some (.ref (0)), some (.int (nI i))]) (by decide) rfl (Nat.le_of_ble_eq_true rfl) ?_
  refine x_aload_n dX6_generator_0 rfl rfl ?_
  refine x_getf (ci := 5) (kf := 6) dX6_generator_1 rfl uX6 (by decide) fl_RX6_84 h0 rfl ?_
  refine x_if_ne (tgt := 10) dX6_generator_4 (by decide) (fun _ => ?_) (fun h => False.elim (absurd h (by decide)))
  refine x_iload_n dX6_generator_10 rfl rfl ?_
  refine x_if_ge (tgt := 17) dX6_generator_11 (by decide) (fun _ => ?_) (fun h => False.elim (h ((i32_ge_iff _).mpr (by rw [nI_toInt (by omega)]; omega))))
  refine x_iload_n dX6_generator_17 rfl rfl ?_
  refine x_aload_n dX6_generator_18 rfl rfl ?_
  refine x_getf (ci := 5) (kf := 1) dX6_generator_19 rfl uX6 (by decide) fl_RX6_21 h0 rfl ?_
  refine x_getf (ci := 0) (kf := 8) dX6_generator_22 rfl uX0 (by decide) fl_RX6_114 ho rfl ?_
  refine x_icmp_le (tgt := 32) dX6_generator_25 (by decide) (fun _ => ?_) (fun h => False.elim (h ((nI_leI (by omega) (by omega)).mpr hi)))
  refine x_aload_n dX6_generator_32 rfl rfl ?_
  refine x_getf (ci := 5) (kf := 1) dX6_generator_33 rfl uX6 (by decide) fl_RX6_21 h0 rfl ?_
  refine x_getf (ci := 0) (kf := 1) dX6_generator_36 rfl uX0 (by decide) fl_RX6_117 ho rfl ?_
  refine x_iload_n dX6_generator_39 rfl rfl ?_
  refine x_ild (j := i) dX6_generator_40 hpl rfl (by omega) (by decide) ?_
  exact x_ireturn_eq dX6_generator_41 rfl rfl
theorem c_generatorZ {X : Ev} {M : Hp} {t d r n : Nat} {s : Ms} {ra rr rl : Int32} (h0 : M[0]? = some (.inr (5, [.ref (1), .ref (5), .ref (12), .ref (21), .ref (134), .ref (136), .int (1), .int (ra), .int (rr), .int (rl)])))  (ho : M[5]? = some (.inr (0, [.ref (1), .ref (6), .ref (7), .ref (8), .ref (9), .ref (10), .int (nI t), .int (nI d), .int (nI r), .int (nI n), .long (s.1.1), .long (s.1.2)]))) (hr8 : r ≤ 104) {z : Int32} (hz : (r : Int) < z.toInt) : Cl X 9 jX6_generator [.ref (0), .int (z)] M (some (.int (0))) M := by
  refine Cl.of (ls := [some (.ref (0)), some (.int (z))]) (by decide) rfl (Nat.le_of_ble_eq_true rfl) ?_
  refine x_aload_n dX6_generator_0 rfl rfl ?_
  refine x_getf (ci := 5) (kf := 6) dX6_generator_1 rfl uX6 (by decide) fl_RX6_84 h0 rfl ?_
  refine x_if_ne (tgt := 10) dX6_generator_4 (by decide) (fun _ => ?_) (fun h => False.elim (absurd h (by decide)))
  refine x_iload_n dX6_generator_10 rfl rfl ?_
  refine x_if_ge (tgt := 17) dX6_generator_11 (by decide) (fun _ => ?_) (fun h => False.elim (h ((i32_ge_iff z).mpr (by omega))))
  refine x_iload_n dX6_generator_17 rfl rfl ?_
  refine x_aload_n dX6_generator_18 rfl rfl ?_
  refine x_getf (ci := 5) (kf := 1) dX6_generator_19 rfl uX6 (by decide) fl_RX6_21 h0 rfl ?_
  refine x_getf (ci := 0) (kf := 8) dX6_generator_22 rfl uX0 (by decide) fl_RX6_114 ho rfl ?_
  refine x_icmp_le (tgt := 32) dX6_generator_25 (by decide) (fun h => False.elim (absurd (Int32.le_iff_toInt_le.mp h) (by rw [nI_toInt (by omega)]; omega))) (fun _ => ?_)
  refine x_iconst (y := nI 0) dX6_generator_28 rfl ?_
  refine x_goto (tgt := 41) dX6_generator_29 (by decide) ?_
  exact x_ireturn_eq dX6_generator_41 rfl rfl
theorem c_get {X : Ev} {M : Hp} {t d r n : Nat} {s : Ms} {ra rr rl : Int32} (h0 : M[0]? = some (.inr (5, [.ref (1), .ref (5), .ref (12), .ref (21), .ref (134), .ref (136), .int (1), .int (ra), .int (rr), .int (rl)])))  (ho : M[5]? = some (.inr (0, [.ref (1), .ref (6), .ref (7), .ref (8), .ref (9), .ref (10), .int (nI t), .int (nI d), .int (nI r), .int (nI n), .long (s.1.1), .long (s.1.2)])))  (hBu : M[134]? = some (.inr (4, [.ref (135)]))) {uf : Nat → Int64} (hbu : M[135]? = some (.inl (1, 34, .inr (.inl (uf))))) (hd8 : d ≤ 256) {i : Nat} (hi : i < d) : Cl X 9 jX6_get [.ref (0), .int (nI i)] M (some (.int (nI (rby uf i)))) M := by
  have hn31 : d < 2 ^ 31 := by omega
  refine Cl.of (ls := [some (.ref (0)), some (.int (nI i))]) (by decide) rfl (Nat.le_of_ble_eq_true rfl) ?_
  refine x_aload_n dX6_get_0 rfl rfl ?_
  refine x_getf (ci := 5) (kf := 6) dX6_get_1 rfl uX6 (by decide) fl_RX6_84 h0 rfl ?_
  refine x_if_ne (tgt := 10) dX6_get_4 (by decide) (fun _ => ?_) (fun h => False.elim (absurd h (by decide)))
  refine x_aload_n dX6_get_10 rfl rfl ?_
  refine x_iload_n dX6_get_11 rfl rfl ?_
  refine x_callV (ci := 5) (as := [.int (nI i)]) dX6_get_12 mk_X6_hasByte in_X6_hasByte se_X6_hasByte ml_RX6_120 rfl h0 (by decide) rfl rfl (Nat.le_of_ble_eq_true rfl) (c_hasByte h0 ho hn31) ?_
  refine x_if_ne (tgt := 21) dX6_get_15 (by decide) (fun _ => ?_) (fun h => False.elim (ite_ne (inl_n hi (by omega)) h))
  refine x_aload_n dX6_get_21 rfl rfl ?_
  refine x_getf (ci := 5) (kf := 4) dX6_get_22 rfl uX6 (by decide) fl_RX6_44 h0 rfl ?_
  refine x_iload_n dX6_get_25 rfl rfl ?_
  refine x_callV (ci := 4) (as := [.int (nI i)]) dX6_get_26 mk_X5_byteAt in_X5_byteAt se_X5_byteAt ml_RX6_123 rfl hBu (by decide) rfl rfl (Nat.le_of_ble_eq_true rfl) (c_byteAt hBu hbu (by omega)) ?_
  exact x_ireturn_eq dX6_get_29 rfl rfl
theorem c_put {X : Ev} {M : Hp} {t d r n : Nat} {s : Ms} {ra rr rl : Int32} (h0 : M[0]? = some (.inr (5, [.ref (1), .ref (5), .ref (12), .ref (21), .ref (134), .ref (136), .int (1), .int (ra), .int (rr), .int (rl)])))  (ho : M[5]? = some (.inr (0, [.ref (1), .ref (6), .ref (7), .ref (8), .ref (9), .ref (10), .int (nI t), .int (nI d), .int (nI r), .int (nI n), .long (s.1.1), .long (s.1.2)])))  (hBu : M[134]? = some (.inr (4, [.ref (135)]))) {uf : Nat → Int64} (hbu : M[135]? = some (.inl (1, 34, .inr (.inl (uf))))) (hd8 : d ≤ 256) {i : Nat} (hi : i < d) {z : Int32} : Cl X 9 jX6_put [.ref (0), .int (nI i), .int (z)] M (some (.int (nI (rby uf i)))) (M.set (135) (.inl (1, 34, .inr (.inl (rsetb uf i (b255 z)))))) := by
  have hn31 : d < 2 ^ 31 := by omega
  refine Cl.of (ls := [some (.ref (0)), some (.int (nI i)), some (.int (z)), none]) (by decide) rfl (Nat.le_of_ble_eq_true rfl) ?_
  refine x_aload_n dX6_put_0 rfl rfl ?_
  refine x_getf (ci := 5) (kf := 6) dX6_put_1 rfl uX6 (by decide) fl_RX6_84 h0 rfl ?_
  refine x_if_ne (tgt := 10) dX6_put_4 (by decide) (fun _ => ?_) (fun h => False.elim (absurd h (by decide)))
  refine x_aload_n dX6_put_10 rfl rfl ?_
  refine x_iload_n dX6_put_11 rfl rfl ?_
  refine x_callV (ci := 5) (as := [.int (nI i)]) dX6_put_12 mk_X6_hasByte in_X6_hasByte se_X6_hasByte ml_RX6_120 rfl h0 (by decide) rfl rfl (Nat.le_of_ble_eq_true rfl) (c_hasByte h0 ho hn31) ?_
  refine x_if_ne (tgt := 21) dX6_put_15 (by decide) (fun _ => ?_) (fun h => False.elim (ite_ne (inl_n hi (by omega)) h))
  refine x_aload_n dX6_put_21 rfl rfl ?_
  refine x_getf (ci := 5) (kf := 4) dX6_put_22 rfl uX6 (by decide) fl_RX6_44 h0 rfl ?_
  refine x_iload_n dX6_put_25 rfl rfl ?_
  refine x_callV (ci := 4) (as := [.int (nI i)]) dX6_put_26 mk_X5_byteAt in_X5_byteAt se_X5_byteAt ml_RX6_123 rfl hBu (by decide) rfl rfl (Nat.le_of_ble_eq_true rfl) (c_byteAt hBu hbu (by omega)) ?_
  refine x_istore_n (ls' := [some (.ref (0)), some (.int (nI i)), some (.int (z)), some (.int (nI (rby uf i)))]) dX6_put_29 rfl (by decide) rfl rfl ?_
  refine x_aload_n dX6_put_30 rfl rfl ?_
  refine x_getf (ci := 5) (kf := 4) dX6_put_31 rfl uX6 (by decide) fl_RX6_44 h0 rfl ?_
  refine x_iload_n dX6_put_34 rfl rfl ?_
  refine x_iload_n dX6_put_35 rfl rfl ?_
  refine x_sipush (y := nI 255) dX6_put_36 rfl ?_
  refine x_iand dX6_put_39 ?_
  refine x_casti (y := nI (b255 z)) (and255 z) ?_
  refine x_callV (ci := 4) (as := [.int (nI i), .int (nI (b255 z))]) dX6_put_40 mk_X5_setByte in_X5_setByte se_X5_setByte ml_RX6_126 rfl hBu (by decide) rfl rfl (Nat.le_of_ble_eq_true rfl) (c_setByte hBu hbu (by omega)) ?_
  refine x_iload_n dX6_put_43 rfl rfl ?_
  exact x_ireturn_eq dX6_put_44 rfl rfl
/-- eight bytes into a row, from byte i on -/
def rfil (f : Nat → Int64) (i : Nat) (v : Int64) : Nat → (Nat → Int64)
  | 0 => f
  | j + 1 => rsetb (rfil f i v j) (i + j) (uN v / 2 ^ (56 - 8 * j) % 256)
theorem lp_fill {X : Ev} {M0 M M' : Hp} {v : Option Value} {t d r n : Nat} {s : Ms} {ra rr rl : Int32} (h0 : M[0]? = some (.inr (5, [.ref (1), .ref (5), .ref (12), .ref (21), .ref (134), .ref (136), .int (1), .int (ra), .int (rr), .int (rl)])))  (ho : M[5]? = some (.inr (0, [.ref (1), .ref (6), .ref (7), .ref (8), .ref (9), .ref (10), .int (nI t), .int (nI d), .int (nI r), .int (nI n), .long (s.1.1), .long (s.1.2)])))  (hBu : M[134]? = some (.inr (4, [.ref (135)]))) {uf : Nat → Int64} (hbu : M[135]? = some (.inl (1, 34, .inr (.inl (uf))))) (hd8 : d ≤ 256) {i : Nat} (hi : i < d) {lv : Int64} (k : G X 9 jX6_fill M0 79 [some (.ref (0)), some (.int (nI i)), some (.long (lv)), none, some (.int (nI (min 8 (d - i)))), some (.int (nI ((min 8 (d - i)))))] [] (M.set (135) (.inl (1, 34, .inr (.inl (rfil uf i lv (min 8 (d - i))))))) v M') : ∀ (zz jj : Nat), jj + zz = min 8 (d - i) → G X 9 jX6_fill M0 40 [some (.ref (0)), some (.int (nI i)), some (.long (lv)), none, some (.int (nI (min 8 (d - i)))), some (.int (nI (jj)))] [] (M.set (135) (.inl (1, 34, .inr (.inl (rfil uf i lv jj))))) v M' := by
  intro zz
  induction zz with
  | zero =>
    intro jj hj
    have hj : jj = min 8 (d - i) := by omega
    subst hj
    refine x_iload dX6_fill_40 rfl ?_
    refine x_iload dX6_fill_42 rfl ?_
    refine x_icmp_ge (tgt := 79) dX6_fill_44 (by decide) (fun _ => ?_) (fun h => False.elim (h (nI_le (Nat.le_refl _) (by omega))))
    exact k
  | succ zz ih =>
    intro jj hj
    refine x_iload dX6_fill_40 rfl ?_
    refine x_iload dX6_fill_42 rfl ?_
    refine x_icmp_ge (tgt := 79) dX6_fill_44 (by decide) (fun h => False.elim (nI_ge (by omega : jj < min 8 (d - i)) (by omega) h)) (fun _ => ?_)
    refine x_aload_n dX6_fill_47 rfl rfl ?_
    refine x_getf (ci := 5) (kf := 4) dX6_fill_48 rfl uX6 (by decide) fl_RX6_44 (gn h0 (by decide)) rfl ?_
    refine x_iload_n dX6_fill_51 rfl rfl ?_
    refine x_iload dX6_fill_52 rfl ?_
    refine x_iadd dX6_fill_54 ?_
    refine x_casti (y := nI (i + jj)) (nI_add _ _) ?_
    refine x_lload_n dX6_fill_55 rfl rfl ?_
    refine x_bipush (y := nI 56) dX6_fill_56 rfl ?_
    refine x_bipush (y := nI 8) dX6_fill_58 rfl ?_
    refine x_iload dX6_fill_60 rfl ?_
    refine x_imul dX6_fill_62 ?_
    refine x_casti (y := nI (8 * jj)) (pk_mul _ _) ?_
    refine x_isub dX6_fill_63 ?_
    refine x_casti (y := nI (56 - 8 * jj)) (pk_sub (by omega)) ?_
    refine x_lushr dX6_fill_64 ?_
    refine x_l2i dX6_fill_65 ?_
    refine x_sipush (y := nI 255) dX6_fill_66 rfl ?_
    refine x_iand dX6_fill_69 ?_
    refine x_casti (y := nI (uN lv / 2 ^ (56 - 8 * jj) % 256)) (l_byte _ (by omega)) ?_
    refine x_callV (ci := 4) (as := [.int (nI (i + jj)), .int (nI (uN lv / 2 ^ (56 - 8 * jj) % 256))]) dX6_fill_70 mk_X5_setByte in_X5_setByte se_X5_setByte ml_RX6_126 rfl (gn hBu (by decide)) (by decide) rfl rfl (Nat.le_of_ble_eq_true rfl) (c_setByte (gn hBu (by decide)) (gs hbu) (by omega)) ?_
    refine G.hp (show ((M.set (135) (.inl (1, 34, .inr (.inl (rfil uf i lv jj))))).set (135) (.inl (1, 34, .inr (.inl (rfil uf i lv (jj + 1))))) : Hp) = (M.set (135) (.inl (1, 34, .inr (.inl (rfil uf i lv (jj + 1)))))) from (ss0)) ?_
    refine x_iinc (y := nI ((jj) + 1)) (ls' := [some (.ref (0)), some (.int (nI i)), some (.long (lv)), none, some (.int (nI (min 8 (d - i)))), some (.int (nI ((jj) + 1)))]) dX6_fill_73 (by decide) rfl rfl (ii_add _ 1) rfl ?_
    refine x_goto (tgt := 40) dX6_fill_76 (by decide) ?_
    exact ih (jj + 1) (by omega)
theorem c_fill {X : Ev} {M : Hp} {t d r n : Nat} {s : Ms} {ra rr rl : Int32} (h0 : M[0]? = some (.inr (5, [.ref (1), .ref (5), .ref (12), .ref (21), .ref (134), .ref (136), .int (1), .int (ra), .int (rr), .int (rl)])))  (ho : M[5]? = some (.inr (0, [.ref (1), .ref (6), .ref (7), .ref (8), .ref (9), .ref (10), .int (nI t), .int (nI d), .int (nI r), .int (nI n), .long (s.1.1), .long (s.1.2)])))  (hBu : M[134]? = some (.inr (4, [.ref (135)]))) {uf : Nat → Int64} (hbu : M[135]? = some (.inl (1, 34, .inr (.inl (uf))))) (hd8 : d ≤ 256) {i : Nat} (hi : i < d) {lv : Int64} : Cl X 9 jX6_fill [.ref (0), .int (nI i), .long (lv)] M (some (.int (nI (min 8 (d - i))))) (M.set (135) (.inl (1, 34, .inr (.inl (rfil uf i lv (min 8 (d - i))))))) := by
  have hn31 : d < 2 ^ 31 := by omega
  refine Cl.of (ls := [some (.ref (0)), some (.int (nI i)), some (.long (lv)), none, none, none]) (by decide) rfl (Nat.le_of_ble_eq_true rfl) ?_
  refine x_aload_n dX6_fill_0 rfl rfl ?_
  refine x_getf (ci := 5) (kf := 6) dX6_fill_1 rfl uX6 (by decide) fl_RX6_84 h0 rfl ?_
  refine x_if_ne (tgt := 10) dX6_fill_4 (by decide) (fun _ => ?_) (fun h => False.elim (absurd h (by decide)))
  refine x_aload_n dX6_fill_10 rfl rfl ?_
  refine x_iload_n dX6_fill_11 rfl rfl ?_
  refine x_callV (ci := 5) (as := [.int (nI i)]) dX6_fill_12 mk_X6_hasByte in_X6_hasByte se_X6_hasByte ml_RX6_120 rfl h0 (by decide) rfl rfl (Nat.le_of_ble_eq_true rfl) (c_hasByte h0 ho hn31) ?_
  refine x_if_ne (tgt := 21) dX6_fill_15 (by decide) (fun _ => ?_) (fun h => False.elim (ite_ne (inl_n hi (by omega)) h))
  refine x_bipush (y := nI 8) dX6_fill_21 rfl ?_
  refine x_aload_n dX6_fill_23 rfl rfl ?_
  refine x_getf (ci := 5) (kf := 1) dX6_fill_24 rfl uX6 (by decide) fl_RX6_21 h0 rfl ?_
  refine x_getf (ci := 0) (kf := 7) dX6_fill_27 rfl uX0 (by decide) fl_RX6_129 ho rfl ?_
  refine x_iload_n dX6_fill_30 rfl rfl ?_
  refine x_isub dX6_fill_31 ?_
  refine x_casti (y := nI (d - i)) (pk_sub (by omega)) ?_
  refine x_callS (as := [.int (nI 8), .int (nI (d - i))]) dX6_fill_32 mk_J9_min_7cf53 st_J9_min_7cf53 ml_RX6_132 (by decide) rfl rfl (Nat.le_of_ble_eq_true rfl) (c_min (by omega) (by omega)) ?_
  refine x_istore (ls' := [some (.ref (0)), some (.int (nI i)), some (.long (lv)), none, some (.int (nI (min 8 (d - i)))), none]) dX6_fill_35 (by decide) rfl rfl ?_
  refine x_iconst (y := nI 0) dX6_fill_37 rfl ?_
  refine x_istore (ls' := [some (.ref (0)), some (.int (nI i)), some (.long (lv)), none, some (.int (nI (min 8 (d - i)))), some (.int (nI 0))]) dX6_fill_38 (by decide) rfl rfl ?_
  refine G.hp (set_id hbu (c' := .inl (1, 34, .inr (.inl (rfil uf i lv 0)))) rfl) (lp_fill h0 ho hBu hbu hd8 hi ?_ (min 8 (d - i)) 0 (by omega))
  refine x_iload dX6_fill_79 rfl ?_
  exact x_ireturn_eq dX6_fill_81 rfl rfl
theorem c_tail {X : Ev} {M : Hp} {t d r n : Nat} {s : Ms} {ra rr rl : Int32} (h0 : M[0]? = some (.inr (5, [.ref (1), .ref (5), .ref (12), .ref (21), .ref (134), .ref (136), .int (1), .int (ra), .int (rr), .int (rl)])))  (ho : M[5]? = some (.inr (0, [.ref (1), .ref (6), .ref (7), .ref (8), .ref (9), .ref (10), .int (nI t), .int (nI d), .int (nI r), .int (nI n), .long (s.1.1), .long (s.1.2)]))) {hs : Nat → Int64} (hh : M[7]? = some (.inl (1, 256, .inr (.inl (hs))))) {ls : Nat → Int64} (hl : M[8]? = some (.inl (1, 256, .inr (.inl (ls)))))  (hBu : M[134]? = some (.inr (4, [.ref (135)]))) {uf : Nat → Int64} (hbu : M[135]? = some (.inl (1, 34, .inr (.inl (uf))))) (hd8 : d ≤ 256) (hr8 : r ≤ 104) {i : Nat} (hi : i < r) : Cl X 9 jX6_tail [.ref (0), .int (nI i)] M (some (.int (nI (rb (cmp uf (tkd hs ls uf d).1 (tkd hs ls uf d).2 d r) (8 * d + i)).toNat))) ((M.set (5) (.inr (0, [.ref (1), .ref (6), .ref (7), .ref (8), .ref (9), .ref (10), .int (nI t), .int (nI d), .int (nI r), .int (nI n), .long ((tkd hs ls uf d).1), .long ((tkd hs ls uf d).2)]))).set (135) (.inl (1, 34, .inr (.inl (cmp uf (tkd hs ls uf d).1 (tkd hs ls uf d).2 d r))))) := by
  refine Cl.of (ls := [some (.ref (0)), some (.int (nI i))]) (by decide) rfl (Nat.le_of_ble_eq_true rfl) ?_
  refine x_aload_n dX6_tail_0 rfl rfl ?_
  refine x_getf (ci := 5) (kf := 6) dX6_tail_1 rfl uX6 (by decide) fl_RX6_84 h0 rfl ?_
  refine x_if_ne (tgt := 10) dX6_tail_4 (by decide) (fun _ => ?_) (fun h => False.elim (absurd h (by decide)))
  refine x_iload_n dX6_tail_10 rfl rfl ?_
  refine x_if_lt (tgt := 25) dX6_tail_11 (by decide) (fun h => False.elim (absurd h (nI_pos (by omega)))) (fun _ => ?_)
  refine x_iload_n dX6_tail_14 rfl rfl ?_
  refine x_aload_n dX6_tail_15 rfl rfl ?_
  refine x_getf (ci := 5) (kf := 1) dX6_tail_16 rfl uX6 (by decide) fl_RX6_21 h0 rfl ?_
  refine x_getf (ci := 0) (kf := 8) dX6_tail_19 rfl uX0 (by decide) fl_RX6_114 ho rfl ?_
  refine x_icmp_lt (tgt := 28) dX6_tail_22 (by decide) (fun _ => ?_) (fun h => False.elim (h ((nI_ltI (by omega) (by omega)).mpr hi)))
  refine x_aload_n dX6_tail_28 rfl rfl ?_
  refine x_getf (ci := 5) (kf := 1) dX6_tail_29 rfl uX6 (by decide) fl_RX6_21 h0 rfl ?_
  refine x_aload_n dX6_tail_32 rfl rfl ?_
  refine x_getf (ci := 5) (kf := 4) dX6_tail_33 rfl uX6 (by decide) fl_RX6_44 h0 rfl ?_
  refine x_callV (ci := 0) (as := [.ref (134)]) dX6_tail_36 mk_X0_complete in_X0_complete se_X0_complete ml_RX6_137 rfl ho (by decide) rfl rfl (Nat.le_of_ble_eq_true rfl) (c_complete ho hh hl hBu hbu (by decide) hd8 hr8) ?_
  refine x_aload_n dX6_tail_39 rfl rfl ?_
  refine x_getf (ci := 5) (kf := 4) dX6_tail_40 rfl uX6 (by decide) fl_RX6_44 (gn (gn h0 (by decide)) (by decide)) rfl ?_
  refine x_bipush (y := nI 8) dX6_tail_43 rfl ?_
  refine x_aload_n dX6_tail_45 rfl rfl ?_
  refine x_getf (ci := 5) (kf := 1) dX6_tail_46 rfl uX6 (by decide) fl_RX6_21 (gn (gn h0 (by decide)) (by decide)) rfl ?_
  refine x_getf (ci := 0) (kf := 7) dX6_tail_49 rfl uX0 (by decide) fl_RX6_129 (gn (gs ho) (by decide)) rfl ?_
  refine x_imul dX6_tail_52 ?_
  refine x_casti (y := nI (8 * d)) (pk_mul _ _) ?_
  refine x_iload_n dX6_tail_53 rfl rfl ?_
  refine x_iadd dX6_tail_54 ?_
  refine x_casti (y := nI (8 * d + i)) (nI_add _ _) ?_
  refine x_callV (ci := 4) (as := [.int (nI (8 * d + i))]) dX6_tail_55 mk_X5_at in_X5_at se_X5_at ml_RX6_140 rfl (gn (gn hBu (by decide)) (by decide)) (by decide) rfl rfl (Nat.le_of_ble_eq_true rfl) (c_at (gn (gn hBu (by decide)) (by decide)) (gs (gn hbu (by decide))) (by omega)) ?_
  exact x_ireturn_eq dX6_tail_58 rfl rfl
theorem c_write {X : Ev} {M : Hp} {t d r n : Nat} {s : Ms} {g i : Nat} (hi16 : i < 16) (hgi : 22 + 7 * i = g) {ra rr rl : Int32} (h0 : M[0]? = some (.inr (5, [.ref (1), .ref (5), .ref (12), .ref (21), .ref (134), .ref (136), .int (1), .int (ra), .int (rr), .int (rl)])))  (ho : M[5]? = some (.inr (0, [.ref (1), .ref (6), .ref (7), .ref (8), .ref (9), .ref (10), .int (nI t), .int (nI d), .int (nI r), .int (nI n), .long (s.1.1), .long (s.1.2)]))) {hs : Nat → Int64} (hh : M[7]? = some (.inl (1, 256, .inr (.inl (hs))))) {ls : Nat → Int64} (hl : M[8]? = some (.inl (1, 256, .inr (.inl (ls)))))  (h21 : M[21]? = some (.inl (3, 16, .inr (.inr (.inr (.inr (pgs 16)))))))  (hBu : M[134]? = some (.inr (4, [.ref (135)]))) {uf : Nat → Int64} (hbu : M[135]? = some (.inl (1, 34, .inr (.inl (uf))))) {wr : Int32} (hg : M[g]? = some (.inr (3, [.ref (g + 1), .ref (g + 3), .ref (g + 5), .int (wr)])))  (hB : M[g + 1]? = some (.inr (4, [.ref (g + 2)]))) {bf : Nat → Int64} (hb : M[g + 2]? = some (.inl (1, 34, .inr (.inl (bf)))))  (hS : M[g + 3]? = some (.inr (4, [.ref (g + 4)]))) {sf : Nat → Int64} (hs_ : M[g + 4]? = some (.inl (1, 34, .inr (.inl (sf)))))  (hK : M[g + 5]? = some (.inr (4, [.ref (g + 6)]))) {kf : Nat → Int64} (hk : M[g + 6]? = some (.inl (1, 34, .inr (.inl (kf))))) (hd8 : d ≤ 256) (hr8 : r ≤ 104) : Cl X 9 jX6_write [.ref (0), .int (nI i)] M (some (.int (nI (rones (fun j => rpg bf (cmp uf (tkd hs ls uf d).1 (tkd hs ls uf d).2 d r) sf 34 j ^^^ (cmp uf (tkd hs ls uf d).1 (tkd hs ls uf d).2 d r) j) 34)))) (((M.set (5) (.inr (0, [.ref (1), .ref (6), .ref (7), .ref (8), .ref (9), .ref (10), .int (nI t), .int (nI d), .int (nI r), .int (nI n), .long ((tkd hs ls uf d).1), .long ((tkd hs ls uf d).2)]))).set (135) (.inl (1, 34, .inr (.inl (cmp uf (tkd hs ls uf d).1 (tkd hs ls uf d).2 d r))))).set (g + 2) (.inl (1, 34, .inr (.inl (rpg bf (cmp uf (tkd hs ls uf d).1 (tkd hs ls uf d).2 d r) sf 34))))) := by
  refine Cl.of (ls := [some (.ref (0)), some (.int (nI i))]) (by decide) rfl (Nat.le_of_ble_eq_true rfl) ?_
  refine x_aload_n dX6_write_0 rfl rfl ?_
  refine x_getf (ci := 5) (kf := 6) dX6_write_1 rfl uX6 (by decide) fl_RX6_84 h0 rfl ?_
  refine x_if_ne (tgt := 10) dX6_write_4 (by decide) (fun _ => ?_) (fun h => False.elim (absurd h (by decide)))
  refine x_aload_n dX6_write_10 rfl rfl ?_
  refine x_iload_n dX6_write_11 rfl rfl ?_
  refine x_callV (ci := 5) (as := [.int (nI i)]) dX6_write_12 mk_X6_hasPage in_X6_hasPage se_X6_hasPage ml_RX6_143 rfl h0 (by decide) rfl rfl (Nat.le_of_ble_eq_true rfl) (c_hasPage) ?_
  refine x_if_ne (tgt := 21) dX6_write_15 (by decide) (fun _ => ?_) (fun h => False.elim (ite_ne (inl_n hi16 (by decide)) h))
  refine x_aload_n dX6_write_21 rfl rfl ?_
  refine x_getf (ci := 5) (kf := 1) dX6_write_22 rfl uX6 (by decide) fl_RX6_21 h0 rfl ?_
  refine x_aload_n dX6_write_25 rfl rfl ?_
  refine x_getf (ci := 5) (kf := 4) dX6_write_26 rfl uX6 (by decide) fl_RX6_44 h0 rfl ?_
  refine x_callV (ci := 0) (as := [.ref (134)]) dX6_write_29 mk_X0_complete in_X0_complete se_X0_complete ml_RX6_137 rfl ho (by decide) rfl rfl (Nat.le_of_ble_eq_true rfl) (c_complete ho hh hl hBu hbu (by decide) hd8 hr8) ?_
  refine x_aload_n dX6_write_32 rfl rfl ?_
  refine x_getf (ci := 5) (kf := 3) dX6_write_33 rfl uX6 (by decide) fl_RX6_36 (gn (gn h0 (by decide)) (by decide)) rfl ?_
  refine x_iload_n dX6_write_36 rfl rfl ?_
  refine x_ald (j := i) dX6_write_37 (gn (gn h21 (by decide)) (by decide)) rfl (by omega) (by decide) (pgs_at hi16 hgi) ?_
  refine x_aload_n dX6_write_38 rfl rfl ?_
  refine x_getf (ci := 5) (kf := 4) dX6_write_39 rfl uX6 (by decide) fl_RX6_44 (gn (gn h0 (by decide)) (by decide)) rfl ?_
  refine x_callV (ci := 3) (as := [.ref (134)]) dX6_write_42 mk_X4_program in_X4_program se_X4_program ml_RX6_146 rfl (gn (gn hg (by omega)) (by omega)) (by decide) rfl rfl (Nat.le_of_ble_eq_true rfl) (c_program (gn (gn hg (by omega)) (by omega)) (gn (gn hB (by omega)) (by omega)) (gn (gn hb (by omega)) (by omega)) (gn (gn hS (by omega)) (by omega)) (gn (gn hs_ (by omega)) (by omega)) (gn (gn hK (by omega)) (by omega)) (gn (gn hk (by omega)) (by omega)) (gn (gn hBu (by decide)) (by decide)) (gs (gn hbu (by decide))) (Or.inr (by omega))) ?_
  exact x_ireturn_eq dX6_write_45 rfl rfl
theorem c_erase {X : Ev} {M : Hp} {t d r n : Nat} {s : Ms} {g i : Nat} (hi16 : i < 16) (hgi : 22 + 7 * i = g) {ra rr rl : Int32} (h0 : M[0]? = some (.inr (5, [.ref (1), .ref (5), .ref (12), .ref (21), .ref (134), .ref (136), .int (1), .int (ra), .int (rr), .int (rl)])))  (ho : M[5]? = some (.inr (0, [.ref (1), .ref (6), .ref (7), .ref (8), .ref (9), .ref (10), .int (nI t), .int (nI d), .int (nI r), .int (nI n), .long (s.1.1), .long (s.1.2)])))  (hR : M[10]? = some (.inr (4, [.ref (11)]))) {on : Nat → Int64} (hon : M[11]? = some (.inl (1, 34, .inr (.inl (on)))))  (h21 : M[21]? = some (.inl (3, 16, .inr (.inr (.inr (.inr (pgs 16))))))) {wr : Int32} (hg : M[g]? = some (.inr (3, [.ref (g + 1), .ref (g + 3), .ref (g + 5), .int (wr)])))  (hB : M[g + 1]? = some (.inr (4, [.ref (g + 2)]))) {bf : Nat → Int64} (hb : M[g + 2]? = some (.inl (1, 34, .inr (.inl (bf)))))  (hS : M[g + 3]? = some (.inr (4, [.ref (g + 4)]))) {sf : Nat → Int64} (hs_ : M[g + 4]? = some (.inl (1, 34, .inr (.inl (sf)))))  (hK : M[g + 5]? = some (.inr (4, [.ref (g + 6)]))) {kf : Nat → Int64} (hk : M[g + 6]? = some (.inl (1, 34, .inr (.inl (kf))))) : Cl X 9 jX6_erase [.ref (0), .int (nI i)] M (some (.int (wr + nI 1))) (((M.set (g + 2) (.inl (1, 34, .inr (.inl (rwp bf on sf 34))))).set (g + 6) (.inl (1, 34, .inr (.inl (fun _ => 0))))).set (g) (.inr (3, [.ref (g + 1), .ref (g + 3), .ref (g + 5), .int (wr + nI 1)]))) := by
  refine Cl.of (ls := [some (.ref (0)), some (.int (nI i))]) (by decide) rfl (Nat.le_of_ble_eq_true rfl) ?_
  refine x_aload_n dX6_erase_0 rfl rfl ?_
  refine x_getf (ci := 5) (kf := 6) dX6_erase_1 rfl uX6 (by decide) fl_RX6_84 h0 rfl ?_
  refine x_if_ne (tgt := 10) dX6_erase_4 (by decide) (fun _ => ?_) (fun h => False.elim (absurd h (by decide)))
  refine x_aload_n dX6_erase_10 rfl rfl ?_
  refine x_iload_n dX6_erase_11 rfl rfl ?_
  refine x_callV (ci := 5) (as := [.int (nI i)]) dX6_erase_12 mk_X6_hasPage in_X6_hasPage se_X6_hasPage ml_RX6_143 rfl h0 (by decide) rfl rfl (Nat.le_of_ble_eq_true rfl) (c_hasPage) ?_
  refine x_if_ne (tgt := 21) dX6_erase_15 (by decide) (fun _ => ?_) (fun h => False.elim (ite_ne (inl_n hi16 (by decide)) h))
  refine x_aload_n dX6_erase_21 rfl rfl ?_
  refine x_getf (ci := 5) (kf := 3) dX6_erase_22 rfl uX6 (by decide) fl_RX6_36 h0 rfl ?_
  refine x_iload_n dX6_erase_25 rfl rfl ?_
  refine x_ald (j := i) dX6_erase_26 h21 rfl (by omega) (by decide) (pgs_at hi16 hgi) ?_
  refine x_aload_n dX6_erase_27 rfl rfl ?_
  refine x_getf (ci := 5) (kf := 1) dX6_erase_28 rfl uX6 (by decide) fl_RX6_21 h0 rfl ?_
  refine x_getf (ci := 0) (kf := 5) dX6_erase_31 rfl uX0 (by decide) fl_RX6_64 ho rfl ?_
  refine x_callV (ci := 3) (as := [.ref (10)]) dX6_erase_34 mk_X4_wipe in_X4_wipe se_X4_wipe ml_RX6_150 rfl hg (by decide) rfl rfl (Nat.le_of_ble_eq_true rfl) (c_wipe hg hB hb hS hs_ hK hk hR hon (Or.inl (by omega))) ?_
  refine x_aload_n dX6_erase_37 rfl rfl ?_
  refine x_getf (ci := 5) (kf := 3) dX6_erase_38 rfl uX6 (by decide) fl_RX6_36 (gn (gn (gn h0 (by omega)) (by omega)) (by omega)) rfl ?_
  refine x_iload_n dX6_erase_41 rfl rfl ?_
  refine x_ald (j := i) dX6_erase_42 (gn (gn (gn h21 (by omega)) (by omega)) (by omega)) rfl (by omega) (by decide) (pgs_at hi16 hgi) ?_
  refine x_getf (ci := 3) (kf := 3) dX6_erase_43 rfl uX4 (by decide) fl_RX6_153 (gs (gn (gn hg (by omega)) (by omega))) rfl ?_
  exact x_ireturn_eq dX6_erase_46 rfl rfl
theorem c_flip {X : Ev} {M : Hp} {t d r n : Nat} {s : Ms} {g i : Nat} (hi16 : i < 16) (hgi : 22 + 7 * i = g) {ra rr rl : Int32} (h0 : M[0]? = some (.inr (5, [.ref (1), .ref (5), .ref (12), .ref (21), .ref (134), .ref (136), .int (1), .int (ra), .int (rr), .int (rl)])))  (ho : M[5]? = some (.inr (0, [.ref (1), .ref (6), .ref (7), .ref (8), .ref (9), .ref (10), .int (nI t), .int (nI d), .int (nI r), .int (nI n), .long (s.1.1), .long (s.1.2)])))  (h21 : M[21]? = some (.inl (3, 16, .inr (.inr (.inr (.inr (pgs 16))))))) {wr : Int32} (hg : M[g]? = some (.inr (3, [.ref (g + 1), .ref (g + 3), .ref (g + 5), .int (wr)])))  (hB : M[g + 1]? = some (.inr (4, [.ref (g + 2)]))) {bf : Nat → Int64} (hb : M[g + 2]? = some (.inl (1, 34, .inr (.inl (bf)))))  (hS : M[g + 3]? = some (.inr (4, [.ref (g + 4)]))) {sf : Nat → Int64} (hs_ : M[g + 4]? = some (.inl (1, 34, .inr (.inl (sf)))))  (hK : M[g + 5]? = some (.inr (4, [.ref (g + 6)]))) {kf : Nat → Int64} (hk : M[g + 6]? = some (.inl (1, 34, .inr (.inl (kf))))) (hd8 : d ≤ 256) (hr8 : r ≤ 104) (hn8 : n = 8 * d + r) {k : Nat} (hk2 : k < n) : Cl X 9 jX6_flip [.ref (0), .int (nI i), .int (nI k)] M (some (.int (nI (rb (rflip bf sf k) k).toNat))) (M.set (g + 2) (.inl (1, 34, .inr (.inl (rflip bf sf k))))) := by
  have hn31 : n < 2 ^ 31 := by omega
  refine Cl.of (ls := [some (.ref (0)), some (.int (nI i)), some (.int (nI k))]) (by decide) rfl (Nat.le_of_ble_eq_true rfl) ?_
  refine x_aload_n dX6_flip_0 rfl rfl ?_
  refine x_getf (ci := 5) (kf := 6) dX6_flip_1 rfl uX6 (by decide) fl_RX6_84 h0 rfl ?_
  refine x_if_ne (tgt := 10) dX6_flip_4 (by decide) (fun _ => ?_) (fun h => False.elim (absurd h (by decide)))
  refine x_aload_n dX6_flip_10 rfl rfl ?_
  refine x_iload_n dX6_flip_11 rfl rfl ?_
  refine x_callV (ci := 5) (as := [.int (nI i)]) dX6_flip_12 mk_X6_hasPage in_X6_hasPage se_X6_hasPage ml_RX6_143 rfl h0 (by decide) rfl rfl (Nat.le_of_ble_eq_true rfl) (c_hasPage) ?_
  refine x_if_eq (tgt := 26) dX6_flip_15 (by decide) (fun h => False.elim (ite_ne (inl_n hi16 (by decide)) h)) (fun _ => ?_)
  refine x_aload_n dX6_flip_18 rfl rfl ?_
  refine x_iload_n dX6_flip_19 rfl rfl ?_
  refine x_callV (ci := 5) (as := [.int (nI k)]) dX6_flip_20 mk_X6_hasBit in_X6_hasBit se_X6_hasBit ml_RX6_156 rfl h0 (by decide) rfl rfl (Nat.le_of_ble_eq_true rfl) (c_hasBit h0 ho hn31) ?_
  refine x_if_ne (tgt := 29) dX6_flip_23 (by decide) (fun _ => ?_) (fun h => False.elim (ite_ne (inl_n hk2 (by omega)) h))
  refine x_aload_n dX6_flip_29 rfl rfl ?_
  refine x_getf (ci := 5) (kf := 3) dX6_flip_30 rfl uX6 (by decide) fl_RX6_36 h0 rfl ?_
  refine x_iload_n dX6_flip_33 rfl rfl ?_
  refine x_ald (j := i) dX6_flip_34 h21 rfl (by omega) (by decide) (pgs_at hi16 hgi) ?_
  refine x_iload_n dX6_flip_35 rfl rfl ?_
  refine x_callV (ci := 3) (as := [.int (nI k)]) dX6_flip_36 mk_X4_turn in_X4_turn se_X4_turn ml_RX6_159 rfl hg (by decide) rfl rfl (Nat.le_of_ble_eq_true rfl) (c_turn hg hB hb hS hs_ hK hk (by omega)) ?_
  exact x_ireturn_eq dX6_flip_39 rfl rfl
theorem c_bit {X : Ev} {M : Hp} {t d r n : Nat} {s : Ms} {g i : Nat} (hi16 : i < 16) (hgi : 22 + 7 * i = g) {ra rr rl : Int32} (h0 : M[0]? = some (.inr (5, [.ref (1), .ref (5), .ref (12), .ref (21), .ref (134), .ref (136), .int (1), .int (ra), .int (rr), .int (rl)])))  (ho : M[5]? = some (.inr (0, [.ref (1), .ref (6), .ref (7), .ref (8), .ref (9), .ref (10), .int (nI t), .int (nI d), .int (nI r), .int (nI n), .long (s.1.1), .long (s.1.2)])))  (h21 : M[21]? = some (.inl (3, 16, .inr (.inr (.inr (.inr (pgs 16))))))) {wr : Int32} (hg : M[g]? = some (.inr (3, [.ref (g + 1), .ref (g + 3), .ref (g + 5), .int (wr)])))  (hB : M[g + 1]? = some (.inr (4, [.ref (g + 2)]))) {bf : Nat → Int64} (hb : M[g + 2]? = some (.inl (1, 34, .inr (.inl (bf)))))  (hS : M[g + 3]? = some (.inr (4, [.ref (g + 4)]))) {sf : Nat → Int64} (hs_ : M[g + 4]? = some (.inl (1, 34, .inr (.inl (sf)))))  (hK : M[g + 5]? = some (.inr (4, [.ref (g + 6)]))) {kf : Nat → Int64} (hk : M[g + 6]? = some (.inl (1, 34, .inr (.inl (kf))))) (hd8 : d ≤ 256) (hr8 : r ≤ 104) (hn8 : n = 8 * d + r) {k : Nat} (hk2 : k < n) : Cl X 9 jX6_bit [.ref (0), .int (nI i), .int (nI k)] M (some (.int (nI (rb bf k).toNat))) M := by
  have hn31 : n < 2 ^ 31 := by omega
  refine Cl.of (ls := [some (.ref (0)), some (.int (nI i)), some (.int (nI k))]) (by decide) rfl (Nat.le_of_ble_eq_true rfl) ?_
  refine x_aload_n dX6_bit_0 rfl rfl ?_
  refine x_getf (ci := 5) (kf := 6) dX6_bit_1 rfl uX6 (by decide) fl_RX6_84 h0 rfl ?_
  refine x_if_ne (tgt := 10) dX6_bit_4 (by decide) (fun _ => ?_) (fun h => False.elim (absurd h (by decide)))
  refine x_aload_n dX6_bit_10 rfl rfl ?_
  refine x_iload_n dX6_bit_11 rfl rfl ?_
  refine x_callV (ci := 5) (as := [.int (nI i)]) dX6_bit_12 mk_X6_hasPage in_X6_hasPage se_X6_hasPage ml_RX6_143 rfl h0 (by decide) rfl rfl (Nat.le_of_ble_eq_true rfl) (c_hasPage) ?_
  refine x_if_eq (tgt := 26) dX6_bit_15 (by decide) (fun h => False.elim (ite_ne (inl_n hi16 (by decide)) h)) (fun _ => ?_)
  refine x_aload_n dX6_bit_18 rfl rfl ?_
  refine x_iload_n dX6_bit_19 rfl rfl ?_
  refine x_callV (ci := 5) (as := [.int (nI k)]) dX6_bit_20 mk_X6_hasBit in_X6_hasBit se_X6_hasBit ml_RX6_156 rfl h0 (by decide) rfl rfl (Nat.le_of_ble_eq_true rfl) (c_hasBit h0 ho hn31) ?_
  refine x_if_ne (tgt := 29) dX6_bit_23 (by decide) (fun _ => ?_) (fun h => False.elim (ite_ne (inl_n hk2 (by omega)) h))
  refine x_aload_n dX6_bit_29 rfl rfl ?_
  refine x_getf (ci := 5) (kf := 3) dX6_bit_30 rfl uX6 (by decide) fl_RX6_36 h0 rfl ?_
  refine x_iload_n dX6_bit_33 rfl rfl ?_
  refine x_ald (j := i) dX6_bit_34 h21 rfl (by omega) (by decide) (pgs_at hi16 hgi) ?_
  refine x_getf (ci := 3) (kf := 0) dX6_bit_35 rfl uX4 (by decide) fl_RX6_177 hg rfl ?_
  refine x_iload_n dX6_bit_38 rfl rfl ?_
  refine x_callV (ci := 4) (as := [.int (nI k)]) dX6_bit_39 mk_X5_at in_X5_at se_X5_at ml_RX6_140 rfl hB (by decide) rfl rfl (Nat.le_of_ble_eq_true rfl) (c_at hB hb (by omega)) ?_
  exact x_ireturn_eq dX6_bit_42 rfl rfl
theorem c_mark {X : Ev} {M : Hp} {t d r n : Nat} {s : Ms} {g i : Nat} (hi16 : i < 16) (hgi : 22 + 7 * i = g) {ra rr rl : Int32} (h0 : M[0]? = some (.inr (5, [.ref (1), .ref (5), .ref (12), .ref (21), .ref (134), .ref (136), .int (1), .int (ra), .int (rr), .int (rl)])))  (ho : M[5]? = some (.inr (0, [.ref (1), .ref (6), .ref (7), .ref (8), .ref (9), .ref (10), .int (nI t), .int (nI d), .int (nI r), .int (nI n), .long (s.1.1), .long (s.1.2)])))  (h21 : M[21]? = some (.inl (3, 16, .inr (.inr (.inr (.inr (pgs 16))))))) {wr : Int32} (hg : M[g]? = some (.inr (3, [.ref (g + 1), .ref (g + 3), .ref (g + 5), .int (wr)])))  (hB : M[g + 1]? = some (.inr (4, [.ref (g + 2)]))) {bf : Nat → Int64} (hb : M[g + 2]? = some (.inl (1, 34, .inr (.inl (bf)))))  (hS : M[g + 3]? = some (.inr (4, [.ref (g + 4)]))) {sf : Nat → Int64} (hs_ : M[g + 4]? = some (.inl (1, 34, .inr (.inl (sf)))))  (hK : M[g + 5]? = some (.inr (4, [.ref (g + 6)]))) {kf : Nat → Int64} (hk : M[g + 6]? = some (.inl (1, 34, .inr (.inl (kf))))) (hd8 : d ≤ 256) (hr8 : r ≤ 104) (hn8 : n = 8 * d + r) {k : Nat} (hk2 : k < n) {z : Int32} : Cl X 9 jX6_mark [.ref (0), .int (nI i), .int (nI k), .int (z)] M (some (.int (nI (rones (rset kf k (decide (z ≠ 0))) 34)))) (M.set (g + 6) (.inl (1, 34, .inr (.inl (rset kf k (decide (z ≠ 0))))))) := by
  have hn31 : n < 2 ^ 31 := by omega
  refine Cl.of (ls := [some (.ref (0)), some (.int (nI i)), some (.int (nI k)), some (.int (z))]) (by decide) rfl (Nat.le_of_ble_eq_true rfl) ?_
  refine x_aload_n dX6_mark_0 rfl rfl ?_
  refine x_getf (ci := 5) (kf := 6) dX6_mark_1 rfl uX6 (by decide) fl_RX6_84 h0 rfl ?_
  refine x_if_ne (tgt := 10) dX6_mark_4 (by decide) (fun _ => ?_) (fun h => False.elim (absurd h (by decide)))
  refine x_aload_n dX6_mark_10 rfl rfl ?_
  refine x_iload_n dX6_mark_11 rfl rfl ?_
  refine x_callV (ci := 5) (as := [.int (nI i)]) dX6_mark_12 mk_X6_hasPage in_X6_hasPage se_X6_hasPage ml_RX6_143 rfl h0 (by decide) rfl rfl (Nat.le_of_ble_eq_true rfl) (c_hasPage) ?_
  refine x_if_eq (tgt := 26) dX6_mark_15 (by decide) (fun h => False.elim (ite_ne (inl_n hi16 (by decide)) h)) (fun _ => ?_)
  refine x_aload_n dX6_mark_18 rfl rfl ?_
  refine x_iload_n dX6_mark_19 rfl rfl ?_
  refine x_callV (ci := 5) (as := [.int (nI k)]) dX6_mark_20 mk_X6_hasBit in_X6_hasBit se_X6_hasBit ml_RX6_156 rfl h0 (by decide) rfl rfl (Nat.le_of_ble_eq_true rfl) (c_hasBit h0 ho hn31) ?_
  refine x_if_ne (tgt := 29) dX6_mark_23 (by decide) (fun _ => ?_) (fun h => False.elim (ite_ne (inl_n hk2 (by omega)) h))
  refine x_aload_n dX6_mark_29 rfl rfl ?_
  refine x_getf (ci := 5) (kf := 3) dX6_mark_30 rfl uX6 (by decide) fl_RX6_36 h0 rfl ?_
  refine x_iload_n dX6_mark_33 rfl rfl ?_
  refine x_ald (j := i) dX6_mark_34 h21 rfl (by omega) (by decide) (pgs_at hi16 hgi) ?_
  refine x_getf (ci := 3) (kf := 2) dX6_mark_35 rfl uX4 (by decide) fl_RX6_171 hg rfl ?_
  refine x_iload_n dX6_mark_38 rfl rfl ?_
  refine x_iload_n dX6_mark_39 rfl rfl ?_
  refine x_if_eq (tgt := 47) dX6_mark_40 (by decide) (fun h40 => ?_) (fun h40 => ?_)
  · refine x_iconst (y := nI 0) dX6_mark_47 rfl ?_
    refine x_callV (ci := 4) (as := [.int (nI k), .int (nI 0)]) dX6_mark_48 mk_X5_set in_X5_set se_X5_set ml_RX6_174 rfl hK (by decide) rfl rfl (Nat.le_of_ble_eq_true rfl) (c_set hK hk (by omega) (b0 := decide (z ≠ 0)) (by rw [show decide (z ≠ 0) = false from decide_eq_false (fun hh => hh h40)]; decide)) ?_
    refine x_aload_n dX6_mark_51 rfl rfl ?_
    refine x_getf (ci := 5) (kf := 3) dX6_mark_52 rfl uX6 (by decide) fl_RX6_36 (gn h0 (by omega)) rfl ?_
    refine x_iload_n dX6_mark_55 rfl rfl ?_
    refine x_ald (j := i) dX6_mark_56 (gn h21 (by omega)) rfl (by omega) (by decide) (pgs_at hi16 hgi) ?_
    refine x_getf (ci := 3) (kf := 2) dX6_mark_57 rfl uX4 (by decide) fl_RX6_171 (gn hg (by omega)) rfl ?_
    refine x_callV (ci := 4) (as := []) dX6_mark_60 mk_X5_ones in_X5_ones se_X5_ones ml_RX6_168 rfl (gn hK (by omega)) (by decide) rfl rfl (Nat.le_of_ble_eq_true rfl) (c_ones (gn hK (by omega)) (gs hk)) ?_
    exact x_ireturn_eq dX6_mark_63 rfl rfl
  · refine x_iconst (y := nI 1) dX6_mark_43 rfl ?_
    refine x_goto (tgt := 48) dX6_mark_44 (by decide) ?_
    refine x_callV (ci := 4) (as := [.int (nI k), .int (nI 1)]) dX6_mark_48 mk_X5_set in_X5_set se_X5_set ml_RX6_174 rfl hK (by decide) rfl rfl (Nat.le_of_ble_eq_true rfl) (c_set hK hk (by omega) (b0 := decide (z ≠ 0)) (by rw [decide_eq_true h40]; decide)) ?_
    refine x_aload_n dX6_mark_51 rfl rfl ?_
    refine x_getf (ci := 5) (kf := 3) dX6_mark_52 rfl uX6 (by decide) fl_RX6_36 (gn h0 (by omega)) rfl ?_
    refine x_iload_n dX6_mark_55 rfl rfl ?_
    refine x_ald (j := i) dX6_mark_56 (gn h21 (by omega)) rfl (by omega) (by decide) (pgs_at hi16 hgi) ?_
    refine x_getf (ci := 3) (kf := 2) dX6_mark_57 rfl uX4 (by decide) fl_RX6_171 (gn hg (by omega)) rfl ?_
    refine x_callV (ci := 4) (as := []) dX6_mark_60 mk_X5_ones in_X5_ones se_X5_ones ml_RX6_168 rfl (gn hK (by omega)) (by decide) rfl rfl (Nat.le_of_ble_eq_true rfl) (c_ones (gn hK (by omega)) (gs hk)) ?_
    exact x_ireturn_eq dX6_mark_63 rfl rfl
theorem c_stickN {X : Ev} {M : Hp} {t d r n : Nat} {s : Ms} {g i : Nat} (hi16 : i < 16) (hgi : 22 + 7 * i = g) {ra rr rl : Int32} (h0 : M[0]? = some (.inr (5, [.ref (1), .ref (5), .ref (12), .ref (21), .ref (134), .ref (136), .int (1), .int (ra), .int (rr), .int (rl)])))  (ho : M[5]? = some (.inr (0, [.ref (1), .ref (6), .ref (7), .ref (8), .ref (9), .ref (10), .int (nI t), .int (nI d), .int (nI r), .int (nI n), .long (s.1.1), .long (s.1.2)])))  (h21 : M[21]? = some (.inl (3, 16, .inr (.inr (.inr (.inr (pgs 16))))))) {wr : Int32} (hg : M[g]? = some (.inr (3, [.ref (g + 1), .ref (g + 3), .ref (g + 5), .int (wr)])))  (hB : M[g + 1]? = some (.inr (4, [.ref (g + 2)]))) {bf : Nat → Int64} (hb : M[g + 2]? = some (.inl (1, 34, .inr (.inl (bf)))))  (hS : M[g + 3]? = some (.inr (4, [.ref (g + 4)]))) {sf : Nat → Int64} (hs_ : M[g + 4]? = some (.inl (1, 34, .inr (.inl (sf)))))  (hK : M[g + 5]? = some (.inr (4, [.ref (g + 6)]))) {kf : Nat → Int64} (hk : M[g + 6]? = some (.inl (1, 34, .inr (.inl (kf))))) (hd8 : d ≤ 256) (hr8 : r ≤ 104) (hn8 : n = 8 * d + r) {k : Nat} (hk2 : k < n) : Cl X 9 jX6_stick [.ref (0), .int (nI i), .int (nI k), .int (-1)] M (some (.int (nI (rones (rset sf k false) 34)))) (M.set (g + 4) (.inl (1, 34, .inr (.inl (rset sf k false))))) := by
  have hn31 : n < 2 ^ 31 := by omega
  refine Cl.of (ls := [some (.ref (0)), some (.int (nI i)), some (.int (nI k)), some (.int (-1))]) (by decide) rfl (Nat.le_of_ble_eq_true rfl) ?_
  refine x_aload_n dX6_stick_0 rfl rfl ?_
  refine x_getf (ci := 5) (kf := 6) dX6_stick_1 rfl uX6 (by decide) fl_RX6_84 h0 rfl ?_
  refine x_if_ne (tgt := 10) dX6_stick_4 (by decide) (fun _ => ?_) (fun h => False.elim (absurd h (by decide)))
  refine x_aload_n dX6_stick_10 rfl rfl ?_
  refine x_iload_n dX6_stick_11 rfl rfl ?_
  refine x_callV (ci := 5) (as := [.int (nI i)]) dX6_stick_12 mk_X6_hasPage in_X6_hasPage se_X6_hasPage ml_RX6_143 rfl h0 (by decide) rfl rfl (Nat.le_of_ble_eq_true rfl) (c_hasPage) ?_
  refine x_if_eq (tgt := 36) dX6_stick_15 (by decide) (fun h => False.elim (ite_ne (inl_n hi16 (by decide)) h)) (fun _ => ?_)
  refine x_aload_n dX6_stick_18 rfl rfl ?_
  refine x_iload_n dX6_stick_19 rfl rfl ?_
  refine x_callV (ci := 5) (as := [.int (nI k)]) dX6_stick_20 mk_X6_hasBit in_X6_hasBit se_X6_hasBit ml_RX6_156 rfl h0 (by decide) rfl rfl (Nat.le_of_ble_eq_true rfl) (c_hasBit h0 ho hn31) ?_
  refine x_if_eq (tgt := 36) dX6_stick_23 (by decide) (fun h => False.elim (ite_ne (inl_n hk2 (by omega)) h)) (fun _ => ?_)
  refine x_iload_n dX6_stick_26 rfl rfl ?_
  refine x_iconst (y := -1) dX6_stick_27 rfl ?_
  refine x_icmp_lt (tgt := 36) dX6_stick_28 (by decide) (fun h => False.elim (absurd h (by decide))) (fun _ => ?_)
  refine x_iload_n dX6_stick_31 rfl rfl ?_
  refine x_iconst (y := nI 1) dX6_stick_32 rfl ?_
  refine x_icmp_le (tgt := 39) dX6_stick_33 (by decide) (fun _ => ?_) (fun h => False.elim (absurd h (by decide)))
  refine x_aload_n dX6_stick_39 rfl rfl ?_
  refine x_getf (ci := 5) (kf := 3) dX6_stick_40 rfl uX6 (by decide) fl_RX6_36 h0 rfl ?_
  refine x_iload_n dX6_stick_43 rfl rfl ?_
  refine x_ald (j := i) dX6_stick_44 h21 rfl (by omega) (by decide) (pgs_at hi16 hgi) ?_
  refine x_iload_n dX6_stick_45 rfl rfl ?_
  refine x_iload_n dX6_stick_46 rfl rfl ?_
  refine x_callV (ci := 3) (as := [.int (nI k), .int (-1)]) dX6_stick_47 mk_X4_hold in_X4_hold se_X4_hold ml_RX6_162 rfl hg (by decide) rfl rfl (Nat.le_of_ble_eq_true rfl) (c_holdN hg hB hb hS hs_ hK hk (by omega)) ?_
  refine x_aload_n dX6_stick_50 rfl rfl ?_
  refine x_getf (ci := 5) (kf := 3) dX6_stick_51 rfl uX6 (by decide) fl_RX6_36 (gn h0 (by omega)) rfl ?_
  refine x_iload_n dX6_stick_54 rfl rfl ?_
  refine x_ald (j := i) dX6_stick_55 (gn h21 (by omega)) rfl (by omega) (by decide) (pgs_at hi16 hgi) ?_
  refine x_getf (ci := 3) (kf := 1) dX6_stick_56 rfl uX4 (by decide) fl_RX6_165 (gn hg (by omega)) rfl ?_
  refine x_callV (ci := 4) (as := []) dX6_stick_59 mk_X5_ones in_X5_ones se_X5_ones ml_RX6_168 rfl (gn hS (by omega)) (by decide) rfl rfl (Nat.le_of_ble_eq_true rfl) (c_ones (gn hS (by omega)) (gs hs_)) ?_
  exact x_ireturn_eq dX6_stick_62 rfl rfl
theorem c_stickV {X : Ev} {M : Hp} {t d r n : Nat} {s : Ms} {g i : Nat} (hi16 : i < 16) (hgi : 22 + 7 * i = g) {ra rr rl : Int32} (h0 : M[0]? = some (.inr (5, [.ref (1), .ref (5), .ref (12), .ref (21), .ref (134), .ref (136), .int (1), .int (ra), .int (rr), .int (rl)])))  (ho : M[5]? = some (.inr (0, [.ref (1), .ref (6), .ref (7), .ref (8), .ref (9), .ref (10), .int (nI t), .int (nI d), .int (nI r), .int (nI n), .long (s.1.1), .long (s.1.2)])))  (h21 : M[21]? = some (.inl (3, 16, .inr (.inr (.inr (.inr (pgs 16))))))) {wr : Int32} (hg : M[g]? = some (.inr (3, [.ref (g + 1), .ref (g + 3), .ref (g + 5), .int (wr)])))  (hB : M[g + 1]? = some (.inr (4, [.ref (g + 2)]))) {bf : Nat → Int64} (hb : M[g + 2]? = some (.inl (1, 34, .inr (.inl (bf)))))  (hS : M[g + 3]? = some (.inr (4, [.ref (g + 4)]))) {sf : Nat → Int64} (hs_ : M[g + 4]? = some (.inl (1, 34, .inr (.inl (sf)))))  (hK : M[g + 5]? = some (.inr (4, [.ref (g + 6)]))) {kf : Nat → Int64} (hk : M[g + 6]? = some (.inl (1, 34, .inr (.inl (kf))))) (hd8 : d ≤ 256) (hr8 : r ≤ 104) (hn8 : n = 8 * d + r) {k : Nat} (hk2 : k < n) {z : Nat} (hz : z ≤ 1) : Cl X 9 jX6_stick [.ref (0), .int (nI i), .int (nI k), .int (nI z)] M (some (.int (nI (rones (rset sf k true) 34)))) ((M.set (g + 4) (.inl (1, 34, .inr (.inl (rset sf k true))))).set (g + 2) (.inl (1, 34, .inr (.inl (rset bf k (z == 1)))))) := by
  have hn31 : n < 2 ^ 31 := by omega
  refine Cl.of (ls := [some (.ref (0)), some (.int (nI i)), some (.int (nI k)), some (.int (nI z))]) (by decide) rfl (Nat.le_of_ble_eq_true rfl) ?_
  refine x_aload_n dX6_stick_0 rfl rfl ?_
  refine x_getf (ci := 5) (kf := 6) dX6_stick_1 rfl uX6 (by decide) fl_RX6_84 h0 rfl ?_
  refine x_if_ne (tgt := 10) dX6_stick_4 (by decide) (fun _ => ?_) (fun h => False.elim (absurd h (by decide)))
  refine x_aload_n dX6_stick_10 rfl rfl ?_
  refine x_iload_n dX6_stick_11 rfl rfl ?_
  refine x_callV (ci := 5) (as := [.int (nI i)]) dX6_stick_12 mk_X6_hasPage in_X6_hasPage se_X6_hasPage ml_RX6_143 rfl h0 (by decide) rfl rfl (Nat.le_of_ble_eq_true rfl) (c_hasPage) ?_
  refine x_if_eq (tgt := 36) dX6_stick_15 (by decide) (fun h => False.elim (ite_ne (inl_n hi16 (by decide)) h)) (fun _ => ?_)
  refine x_aload_n dX6_stick_18 rfl rfl ?_
  refine x_iload_n dX6_stick_19 rfl rfl ?_
  refine x_callV (ci := 5) (as := [.int (nI k)]) dX6_stick_20 mk_X6_hasBit in_X6_hasBit se_X6_hasBit ml_RX6_156 rfl h0 (by decide) rfl rfl (Nat.le_of_ble_eq_true rfl) (c_hasBit h0 ho hn31) ?_
  refine x_if_eq (tgt := 36) dX6_stick_23 (by decide) (fun h => False.elim (ite_ne (inl_n hk2 (by omega)) h)) (fun _ => ?_)
  refine x_iload_n dX6_stick_26 rfl rfl ?_
  refine x_iconst (y := -1) dX6_stick_27 rfl ?_
  refine x_icmp_lt (tgt := 36) dX6_stick_28 (by decide) (fun h => False.elim (absurd (Int32.lt_iff_toInt_lt.mp h) (by rw [nI_toInt (by omega)]; show ¬ (z : Int) < -1; omega))) (fun _ => ?_)
  refine x_iload_n dX6_stick_31 rfl rfl ?_
  refine x_iconst (y := nI 1) dX6_stick_32 rfl ?_
  refine x_icmp_le (tgt := 39) dX6_stick_33 (by decide) (fun _ => ?_) (fun h => False.elim (h (Int32.le_iff_toInt_le.mpr (by rw [nI_toInt (by omega), nI_toInt (by omega)]; omega))))
  refine x_aload_n dX6_stick_39 rfl rfl ?_
  refine x_getf (ci := 5) (kf := 3) dX6_stick_40 rfl uX6 (by decide) fl_RX6_36 h0 rfl ?_
  refine x_iload_n dX6_stick_43 rfl rfl ?_
  refine x_ald (j := i) dX6_stick_44 h21 rfl (by omega) (by decide) (pgs_at hi16 hgi) ?_
  refine x_iload_n dX6_stick_45 rfl rfl ?_
  refine x_iload_n dX6_stick_46 rfl rfl ?_
  refine x_callV (ci := 3) (as := [.int (nI k), .int (nI z)]) dX6_stick_47 mk_X4_hold in_X4_hold se_X4_hold ml_RX6_162 rfl hg (by decide) rfl rfl (Nat.le_of_ble_eq_true rfl) (c_holdV hg hB hb hS hs_ hK hk (by omega) hz) ?_
  refine x_aload_n dX6_stick_50 rfl rfl ?_
  refine x_getf (ci := 5) (kf := 3) dX6_stick_51 rfl uX6 (by decide) fl_RX6_36 (gn (gn h0 (by omega)) (by omega)) rfl ?_
  refine x_iload_n dX6_stick_54 rfl rfl ?_
  refine x_ald (j := i) dX6_stick_55 (gn (gn h21 (by omega)) (by omega)) rfl (by omega) (by decide) (pgs_at hi16 hgi) ?_
  refine x_getf (ci := 3) (kf := 1) dX6_stick_56 rfl uX4 (by decide) fl_RX6_165 (gn (gn hg (by omega)) (by omega)) rfl ?_
  refine x_callV (ci := 4) (as := []) dX6_stick_59 mk_X5_ones in_X5_ones se_X5_ones ml_RX6_168 rfl (gn (gn hS (by omega)) (by omega)) (by decide) rfl rfl (Nat.le_of_ble_eq_true rfl) (c_ones (gn (gn hS (by omega)) (by omega)) (gn (gs hs_) (by omega))) ?_
  exact x_ireturn_eq dX6_stick_62 rfl rfl
