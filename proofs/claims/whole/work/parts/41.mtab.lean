/-! THE MODEL: its tables -/
theorem mulx_0 (m : Nat) : mulx m 0 = 0 := by
  unfold mulx
  rw [if_neg (by have := Nat.two_pow_pos m; omega)]
theorem prh_2 {m a : Nat} (h2 : 2 ≤ m) : prh m a 2 m = mulx m a := by
  have h0 : ∀ c, c ≤ m - 2 → prh m a 2 c = 0 := by
    intro c
    induction c with
    | zero => intro _; rfl
    | succ c ih =>
      intro hc
      unfold prh
      rw [ih (by omega), mulx_0, if_neg (by
        have : m - 1 - c = (m - 3 - c) + 2 := by omega
        rw [this, Nat.testBit_eq_decide_div_mod_eq, Nat.pow_add]
        have h4 : 2 / (2 ^ (m - 3 - c) * 2 ^ 2) = 0 := Nat.div_eq_of_lt (by have := Nat.two_pow_pos (m - 3 - c); omega)
        rw [h4]; decide)]
      rfl
  obtain ⟨k, rfl⟩ : ∃ k, m = k + 2 := ⟨m - 2, by omega⟩
  show mulx (k + 2) (mulx (k + 2) (prh (k + 2) a 2 k) ^^^ (if (2 : Nat).testBit (k + 2 - 1 - k) then a else 0)) ^^^ (if (2 : Nat).testBit (k + 2 - 1 - (k + 1)) then a else 0) = _
  rw [h0 k (by omega), mulx_0, show k + 2 - 1 - k = 1 by omega, show k + 2 - 1 - (k + 1) = 0 by omega]
  simp [Nat.testBit_eq_decide_div_mod_eq]
theorem exq_eq {n s : Nat} (h : s < n) : ∀ k, exq n s k = 2 ^ k * s % n
  | 0 => by show s = _; rw [Nat.pow_zero, Nat.one_mul, Nat.mod_eq_of_lt h]
  | k + 1 => by
    show dbl (exq n s k) n = _
    rw [dbl_mod (exq_lt h k), exq_eq h k, Nat.mul_mod_mod, Nat.pow_succ]
    congr 1
    rw [Nat.mul_comm (2 ^ k) 2, Nat.mul_assoc]
theorem exq_m {m s : Nat} (h : s < 2 ^ m - 1) : exq (2 ^ m - 1) s m = s := by
  rw [exq_eq h]
  obtain ⟨n, hn⟩ : ∃ n, 2 ^ m = n + 1 := ⟨2 ^ m - 1, by omega⟩
  rw [hn] at h ⊢
  rw [Nat.add_sub_cancel] at h ⊢
  rw [Nat.add_mul, Nat.one_mul, Nat.add_comm, Nat.add_mul_mod_self_left, Nat.mod_eq_of_lt h]
theorem csl_spec {n s : Nat} (h : s < n) : ∀ (r k : Nat), csl n s r (exq n s k) k = k + r ∨ (exq n s (csl n s r (exq n s k) k) = s) 
  | 0, k => Or.inl rfl
  | r + 1, k => by
    unfold csl
    split
    · rename_i he; exact Or.inr he
    · have := csl_spec h r (k + 1)
      rcases this with h1 | h1
      · left; rw [show dbl (exq n s k) n = exq n s (k + 1) from rfl, h1]; omega
      · right; exact h1
theorem csl_min {n s : Nat} (h : s < n) : ∀ (r k j : Nat), k ≤ j → j < csl n s r (exq n s k) k → exq n s j ≠ s
  | 0, k, j, h1, h2 => absurd h2 (by show ¬ j < k; omega)
  | r + 1, k, j, h1, h2 => by
    unfold csl at h2
    split at h2
    · omega
    · rename_i he
      by_cases hj : j = k
      · subst hj; exact he
      · exact csl_min h r (k + 1) j (by omega) h2
theorem csize_spec {i m : Nat} (hm : 1 ≤ m) (hi : i < 2 ^ m - 1) : exq (2 ^ m - 1) i (csize i m) = i ∧ ∀ k, 0 < k → k < csize i m → exq (2 ^ m - 1) i k ≠ i := by
  unfold csize
  rw [Nat.mod_eq_of_lt hi]
  refine ⟨?_, fun k h0 hk => csl_min hi (m - 1) 1 k h0 hk⟩
  rcases csl_spec hi (m - 1) 1 with h | h
  · rw [show csl (2 ^ m - 1) i (m - 1) (dbl i (2 ^ m - 1)) 1 = 1 + (m - 1) from h, show 1 + (m - 1) = m by omega]; exact exq_m hi
  · exact h
theorem lp_mkf {X : Ev} {M0 M M' : Hp} {v : Option Value} {op : Int32} {m0 t d r n tn : Nat} {me ri lt : Int32} (hO : M[138]? = some (.inr (6, [.int (op), .int (nI m0), .int (nI t), .int (nI d), .int (nI r), .int (nI n), .int (nI (2 ^ m0 - 1)), .ref (139), .ref (140), .ref (141), .ref (142), .ref (143), .ref (144), .ref (145), .ref (146), .ref (147), .int (nI tn), .int (me), .int (ri), .int (lt), .ref (148), .ref (149), .ref (150), .ref (151), .ref (152), .ref (153), .ref (154)]))) {pw : Nat → Int32} (hp : M[139]? = some (.inl (0, 8192, .inl (pw)))) {lg : Nat → Int32} (hq : M[140]? = some (.inl (0, 8192, .inl (lg)))) {m : Nat} (h3 : 3 ≤ m) (h13 : m ≤ 13) (k : G X 2 jX7_makeField M0 53 [some (.ref (138)), some (.int (nI m)), some (.int (nI (pwr m ((2 ^ m - 1))))), some (.int (nI ((2 ^ m - 1))))] [] (((M.set (138) (.inr (6, [.int (op), .int (nI m), .int (nI t), .int (nI d), .int (nI r), .int (nI n), .int (nI (2 ^ m - 1)), .ref (139), .ref (140), .ref (141), .ref (142), .ref (143), .ref (144), .ref (145), .ref (146), .ref (147), .int (nI tn), .int (me), .int (ri), .int (lt), .ref (148), .ref (149), .ref (150), .ref (151), .ref (152), .ref (153), .ref (154)]))).set (139) (.inl (0, 8192, .inl (tpw pw m ((2 ^ m - 1)))))).set (140) (.inl (0, 8192, .inl (tlg lg m ((2 ^ m - 1)))))) v M') : ∀ (zz i : Nat), i + zz = (2 ^ m - 1) → G X 2 jX7_makeField M0 18 [some (.ref (138)), some (.int (nI m)), some (.int (nI (pwr m (i)))), some (.int (nI (i)))] [] (((M.set (138) (.inr (6, [.int (op), .int (nI m), .int (nI t), .int (nI d), .int (nI r), .int (nI n), .int (nI (2 ^ m - 1)), .ref (139), .ref (140), .ref (141), .ref (142), .ref (143), .ref (144), .ref (145), .ref (146), .ref (147), .int (nI tn), .int (me), .int (ri), .int (lt), .ref (148), .ref (149), .ref (150), .ref (151), .ref (152), .ref (153), .ref (154)]))).set (139) (.inl (0, 8192, .inl (tpw pw m (i))))).set (140) (.inl (0, 8192, .inl (tlg lg m (i))))) v M' := by
  have ht := two_le h3 h13
  have hpl : ∀ i, pwr m i < 2 ^ m := pwr_lt h3 h13
  intro zz
  induction zz with
  | zero =>
    intro i hi
    have hi : i = (2 ^ m - 1) := by omega
    subst hi
    refine x_iload_n dX7_makeField_18 rfl rfl ?_
    refine x_aload_n dX7_makeField_19 rfl rfl ?_
    refine x_getf (ci := 6) (kf := 6) dX7_makeField_20 rfl uX7 (by decide) fl_RX7_64 (gn (gn (gs hO) (by decide)) (by decide)) rfl ?_
    refine x_icmp_ge (tgt := 53) dX7_makeField_23 (by decide) (fun _ => ?_) (fun h => False.elim (h (nI_le (Nat.le_refl _) (by omega))))
    exact k
  | succ zz ih =>
    intro i hi
    refine x_iload_n dX7_makeField_18 rfl rfl ?_
    refine x_aload_n dX7_makeField_19 rfl rfl ?_
    refine x_getf (ci := 6) (kf := 6) dX7_makeField_20 rfl uX7 (by decide) fl_RX7_64 (gn (gn (gs hO) (by decide)) (by decide)) rfl ?_
    refine x_icmp_ge (tgt := 53) dX7_makeField_23 (by decide) (fun h => False.elim (nI_ge (by omega : i < 2 ^ m - 1) (by omega) h)) (fun _ => ?_)
    refine x_aload_n dX7_makeField_26 rfl rfl ?_
    refine x_getf (ci := 6) (kf := 7) dX7_makeField_27 rfl uX7 (by decide) fl_RX7_7 (gn (gn (gs hO) (by decide)) (by decide)) rfl ?_
    refine x_iload_n dX7_makeField_30 rfl rfl ?_
    refine x_iload_n dX7_makeField_31 rfl rfl ?_
    refine x_ist (j := i) (M1 := (((M.set (138) (.inr (6, [.int (op), .int (nI m), .int (nI t), .int (nI d), .int (nI r), .int (nI n), .int (nI (2 ^ m - 1)), .ref (139), .ref (140), .ref (141), .ref (142), .ref (143), .ref (144), .ref (145), .ref (146), .ref (147), .int (nI tn), .int (me), .int (ri), .int (lt), .ref (148), .ref (149), .ref (150), .ref (151), .ref (152), .ref (153), .ref (154)]))).set (139) (.inl (0, 8192, .inl (tpw pw m (i + 1))))).set (140) (.inl (0, 8192, .inl (tlg lg m (i)))))) dX7_makeField_32 (gn (gs (gn hp (by decide))) (by decide)) rfl (by omega) (by decide) (by rw [show upd (tpw pw m (i)) (i) (nI (pwr m (i))) = (tpw pw m (i + 1)) from tpw_step] <;> exact (ss1 (by decide))) ?_
    refine x_aload_n dX7_makeField_33 rfl rfl ?_
    refine x_getf (ci := 6) (kf := 8) dX7_makeField_34 rfl uX7 (by decide) fl_RX7_13 (gn (gn (gs hO) (by decide)) (by decide)) rfl ?_
    refine x_iload_n dX7_makeField_37 rfl rfl ?_
    refine x_iload_n dX7_makeField_38 rfl rfl ?_
    refine x_ist (j := pwr m (i)) (M1 := (((M.set (138) (.inr (6, [.int (op), .int (nI m), .int (nI t), .int (nI d), .int (nI r), .int (nI n), .int (nI (2 ^ m - 1)), .ref (139), .ref (140), .ref (141), .ref (142), .ref (143), .ref (144), .ref (145), .ref (146), .ref (147), .int (nI tn), .int (me), .int (ri), .int (lt), .ref (148), .ref (149), .ref (150), .ref (151), .ref (152), .ref (153), .ref (154)]))).set (139) (.inl (0, 8192, .inl (tpw pw m (i + 1))))).set (140) (.inl (0, 8192, .inl (tlg lg m (i + 1)))))) dX7_makeField_39 (gs (gn (gn hq (by decide)) (by decide))) rfl (by have := hpl i; omega) (by decide) (by rw [show upd (tlg lg m (i)) (pwr m (i)) (nI (i)) = (tlg lg m (i + 1)) from rfl] <;> exact (ss0)) ?_
    refine x_iload_n dX7_makeField_40 rfl rfl ?_
    refine x_iconst (y := nI 2) dX7_makeField_41 rfl ?_
    refine x_iload_n dX7_makeField_42 rfl rfl ?_
    refine x_callS (as := [.int (nI (pwr m (i))), .int (nI 2), .int (nI m)]) dX7_makeField_43 mk_X7_product st_X7_product ml_RX7_89 (by decide) rfl rfl (Nat.le_of_ble_eq_true rfl) (c_mproduct h3 h13 (pwr_lt h3 h13 i) (by decide)) ?_
    refine x_casti (y := nI (pwr m (i + 1))) (by rw [prh_2 (by omega)]; rfl) ?_
    refine x_istore_n (ls' := [some (.ref (138)), some (.int (nI m)), some (.int (nI (pwr m (i + 1)))), some (.int (nI (i)))]) dX7_makeField_46 rfl (by decide) rfl rfl ?_
    refine x_iinc (y := nI ((i) + 1)) (ls' := [some (.ref (138)), some (.int (nI m)), some (.int (nI (pwr m (i + 1)))), some (.int (nI ((i) + 1)))]) dX7_makeField_47 (by decide) rfl rfl (ii_add _ 1) rfl ?_
    refine x_goto (tgt := 18) dX7_makeField_50 (by decide) ?_
    exact ih (i + 1) (by omega)
theorem c_makeField {X : Ev} {M : Hp} {op : Int32} {m0 t d r n tn : Nat} {me ri lt : Int32} (hO : M[138]? = some (.inr (6, [.int (op), .int (nI m0), .int (nI t), .int (nI d), .int (nI r), .int (nI n), .int (nI (2 ^ m0 - 1)), .ref (139), .ref (140), .ref (141), .ref (142), .ref (143), .ref (144), .ref (145), .ref (146), .ref (147), .int (nI tn), .int (me), .int (ri), .int (lt), .ref (148), .ref (149), .ref (150), .ref (151), .ref (152), .ref (153), .ref (154)]))) {pw : Nat → Int32} (hp : M[139]? = some (.inl (0, 8192, .inl (pw)))) {lg : Nat → Int32} (hq : M[140]? = some (.inl (0, 8192, .inl (lg)))) {m : Nat} (h3 : 3 ≤ m) (h13 : m ≤ 13) : Cl X 2 jX7_makeField [.ref (138), .int (nI m)] M none (((M.set (138) (.inr (6, [.int (op), .int (nI m), .int (nI t), .int (nI d), .int (nI r), .int (nI n), .int (nI (2 ^ m - 1)), .ref (139), .ref (140), .ref (141), .ref (142), .ref (143), .ref (144), .ref (145), .ref (146), .ref (147), .int (nI tn), .int (me), .int (ri), .int (lt), .ref (148), .ref (149), .ref (150), .ref (151), .ref (152), .ref (153), .ref (154)]))).set (139) (.inl (0, 8192, .inl (tpw pw m (2 ^ m - 1))))).set (140) (.inl (0, 8192, .inl (tlg lg m (2 ^ m - 1))))) := by
  have ht := two_le h3 h13
  refine Cl.of (ls := [some (.ref (138)), some (.int (nI m)), none, none]) (by decide) rfl (Nat.le_of_ble_eq_true rfl) ?_
  refine x_aload_n dX7_makeField_0 rfl rfl ?_
  refine x_iload_n dX7_makeField_1 rfl rfl ?_
  refine x_putf (ci := 6) (kf := 1) (ty0 := tyX7) (M1 := (M.set (138) (.inr (6, [.int (op), .int (nI m), .int (nI t), .int (nI d), .int (nI r), .int (nI n), .int (nI (2 ^ m0 - 1)), .ref (139), .ref (140), .ref (141), .ref (142), .ref (143), .ref (144), .ref (145), .ref (146), .ref (147), .int (nI tn), .int (me), .int (ri), .int (lt), .ref (148), .ref (149), .ref (150), .ref (151), .ref (152), .ref (153), .ref (154)])))) dX7_makeField_2 rfl uX7 tyX7_ok nmX7 (by decide) fl_RX7_86 rfl rfl rfl rfl hO (Nat.le_of_ble_eq_true rfl) rfl ?_
  refine x_aload_n dX7_makeField_5 rfl rfl ?_
  refine x_iconst (y := nI 1) dX7_makeField_6 rfl ?_
  refine x_iload_n dX7_makeField_7 rfl rfl ?_
  refine x_ishl dX7_makeField_8 ?_
  refine x_casti (y := nI (2 ^ m)) (sl_m (by omega)) ?_
  refine x_iconst (y := nI 1) dX7_makeField_9 rfl ?_
  refine x_isub dX7_makeField_10 ?_
  refine x_casti (y := nI (2 ^ m - 1)) (pk_sub (by omega)) ?_
  refine x_putf (ci := 6) (kf := 6) (ty0 := tyX7) (M1 := (M.set (138) (.inr (6, [.int (op), .int (nI m), .int (nI t), .int (nI d), .int (nI r), .int (nI n), .int (nI (2 ^ m - 1)), .ref (139), .ref (140), .ref (141), .ref (142), .ref (143), .ref (144), .ref (145), .ref (146), .ref (147), .int (nI tn), .int (me), .int (ri), .int (lt), .ref (148), .ref (149), .ref (150), .ref (151), .ref (152), .ref (153), .ref (154)])))) dX7_makeField_11 rfl uX7 tyX7_ok nmX7 (by decide) fl_RX7_64 rfl rfl rfl rfl (gs hO) (Nat.le_of_ble_eq_true rfl) (ss0) ?_
  refine x_iconst (y := nI 1) dX7_makeField_14 rfl ?_
  refine x_istore_n (ls' := [some (.ref (138)), some (.int (nI m)), some (.int (nI 1)), none]) dX7_makeField_15 rfl (by decide) rfl rfl ?_
  refine x_iconst (y := nI 0) dX7_makeField_16 rfl ?_
  refine x_istore_n (ls' := [some (.ref (138)), some (.int (nI m)), some (.int (nI 1)), some (.int (nI 0))]) dX7_makeField_17 rfl (by decide) rfl rfl ?_
  refine G.hp (show _ = (((M.set (138) (.inr (6, [.int (op), .int (nI m), .int (nI t), .int (nI d), .int (nI r), .int (nI n), .int (nI (2 ^ m - 1)), .ref (139), .ref (140), .ref (141), .ref (142), .ref (143), .ref (144), .ref (145), .ref (146), .ref (147), .int (nI tn), .int (me), .int (ri), .int (lt), .ref (148), .ref (149), .ref (150), .ref (151), .ref (152), .ref (153), .ref (154)]))).set (139) (.inl (0, 8192, .inl (tpw pw m (0))))).set (140) (.inl (0, 8192, .inl (tlg lg m (0))))) from ((set_id (gn hp (by decide)) (c' := .inl (0, 8192, .inl (tpw pw m (0)))) (by rw [show tpw pw m 0 = pw by funext j; simp [tpw]])).trans (set_id (gn (gn hq (by decide)) (by decide)) (c' := .inl (0, 8192, .inl (tlg lg m (0)))) rfl))) (lp_mkf hO hp hq h3 h13 ?_ (2 ^ m - 1) 0 (by omega))
  exact x_ret dX7_makeField_53 rfl
