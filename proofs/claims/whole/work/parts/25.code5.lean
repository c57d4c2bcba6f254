/-! CODE: THE GENERATOR, and the code made -/
theorem mnum_lt {c : Nat → Nat} (hc : ∀ j, c j < 8192) : ∀ k, k ≤ 14 → mnum c k < 2 ^ 27
  | 0, _ => Nat.two_pow_pos 27
  | k + 1, hk => by
    have h1 : 2 ^ k ≤ 2 ^ 13 := Nat.pow_le_pow_right (by decide) (by omega)
    have h2 : c k * 2 ^ k ≤ 8191 * 2 ^ 13 := Nat.mul_le_mul (by have := hc k; omega) h1
    exact Nat.or_lt_two_pow (mnum_lt hc k (by omega)) (by omega)
/-- the number of THE MINIMAL POLYNOMIAL of A^i -/
def mpoly (m i : Nat) : Nat := mnum (mpc m (i % (2 ^ m - 1)) (csize i m)) (csize i m + 1)
theorem mpoly_lt {m i : Nat} (h3 : 3 ≤ m) (h13 : m ≤ 13) : mpoly m i < 2 ^ 27 := by
  have ht := two_le h3 h13
  have hc := csize_le (i := i) (m := m) (by omega)
  exact mnum_lt (fun j => by have := mpc_lt h3 h13 (s := i % (2 ^ m - 1)) (csize i m) j; omega) _ (by omega)
abbrev Gs : Type := (Nat → Bool) × Nat × (Nat → Int32)
def gnx (m i : Nat) (s : Gs) : Gs := if cnew i m then (mdown (mpoly m i) (csize i m) (s.2.1 + 1) s.1, s.2.1 + csize i m, fun j => nI (mpc m (i % (2 ^ m - 1)) (csize i m) j)) else s
def gmk (m t : Nat) : Nat → Nat → Gs → Gs
  | 0, _, s => s
  | f + 1, i, s => if 2 * t ≤ i then s else gmk m t f (i + 2) (gnx m i s)
def g0 : Nat → Bool := fun j => j == 0
/-- THE GENERATOR's bits, its degree, and what is left in the field's row -/
def gen (m t : Nat) (cf : Nat → Int32) : Gs := gmk m t t 1 (g0, 0, cf)
theorem g0_eq : upd (fun _ => nI 0) 0 (nI 1) = fun j => nI (g0 j).toNat := by
  funext j
  by_cases h : j = 0
  · subst h; rfl
  · rw [pk_un h]
    show nI 0 = nI (j == 0).toNat
    rw [beq_false_of_ne h]; rfl
theorem gnx_r {m i : Nat} {s : Gs} (h : 1 ≤ m) (h13 : m ≤ 13) : (gnx m i s).2.1 ≤ s.2.1 + 13 := by
  have hc := csize_le (i := i) h
  unfold gnx
  split
  · show s.2.1 + csize i m ≤ _; omega
  · omega
theorem gmk_r {m t : Nat} (h : 1 ≤ m) (h13 : m ≤ 13) : ∀ (f i : Nat) (s : Gs), (gmk m t f i s).2.1 ≤ s.2.1 + 13 * f
  | 0, _, _ => Nat.le_refl _
  | f + 1, i, s => by
    have h1 := gmk_r h h13 (t := t) f (i + 2) (gnx m i s)
    have h2 := gnx_r (i := i) (s := s) h h13
    show (if 2 * t ≤ i then s else _ : Gs).2.1 ≤ _
    split
    · omega
    · omega
theorem gen_r {m t : Nat} {cf : Nat → Int32} (h : 1 ≤ m) (h13 : m ≤ 13) (ht : t ≤ 8) : (gen m t cf).2.1 ≤ 104 := by
  have := gmk_r h h13 (t := t) t 1 (g0, 0, cf)
  unfold gen
  have e : ((g0, 0, cf) : Gs).2.1 = 0 := rfl
  omega
theorem lp_mkp {X : Ev} {M0 M : Hp} {t d m : Nat} {hi lo : Int64} {r0 n0 : Int32} (ho : M[5]? = some (.inr (0, [.ref (1), .ref (6), .ref (7), .ref (8), .ref (9), .ref (10), .int (nI t), .int (nI d), .int (r0), .int (n0), .long (hi), .long (lo)]))) {pl : Nat → Int32} (hpl : M[6]? = some (.inl (0, 105, .inl (pl)))) {pw lg cf : Nat → Int32} (hf : M[1]? = some (.inr (1, [.ref (2), .ref (3), .ref (4), .int (nI m), .int (nI (2 ^ m - 1))]))) (hp : M[2]? = some (.inl (0, 8192, .inl (pw)))) (hq : M[3]? = some (.inl (0, 8192, .inl (lg)))) (hF : FT pw lg m) (hc : M[4]? = some (.inl (0, 14, .inl (cf)))) (ht8 : t ≤ 8) : ∀ (f i : Nat) (s : Gs), i + 2 * f = 2 * t + 1 → s.2.1 + 13 * f ≤ 104 → G X 4 jX0_makePolynomial M0 22 [some (.ref (5)), some (.int (nI (i)))] [] (((M.set (6) (.inl (0, 105, .inl (fun j => nI ((s.1) j).toNat)))).set (5) (.inr (0, [.ref (1), .ref (6), .ref (7), .ref (8), .ref (9), .ref (10), .int (nI t), .int (nI d), .int (nI s.2.1), .int (n0), .long (hi), .long (lo)]))).set (4) (.inl (0, 14, .inl (s.2.2)))) none (((M.set (6) (.inl (0, 105, .inl (fun j => nI (((gmk m t f i s).1) j).toNat)))).set (5) (.inr (0, [.ref (1), .ref (6), .ref (7), .ref (8), .ref (9), .ref (10), .int (nI t), .int (nI d), .int (nI (gmk m t f i s).2.1), .int (n0), .long (hi), .long (lo)]))).set (4) (.inl (0, 14, .inl ((gmk m t f i s).2.2)))) := by
  have ht := two_le hF.1.1 hF.1.2
  intro f
  induction f with
  | zero =>
    intro i s hii hr
    refine x_iload_n dX0_makePolynomial_22 rfl rfl ?_
    refine x_iconst (y := nI 2) dX0_makePolynomial_23 rfl ?_
    refine x_aload_n dX0_makePolynomial_24 rfl rfl ?_
    refine x_getf (ci := 0) (kf := 6) dX0_makePolynomial_25 rfl uX0 (by decide) fl_RX0_36 (gn (gs (gn ho (by decide))) (by decide)) rfl ?_
    refine x_imul dX0_makePolynomial_28 ?_
    refine x_casti (y := nI (2 * t)) (pk_mul _ _) ?_
    refine x_icmp_ge (tgt := 75) dX0_makePolynomial_29 (by decide) (fun _ => ?_) (fun h => False.elim (h (nI_le (by omega) (by omega))))
    exact x_ret dX0_makePolynomial_75 rfl
  | succ f ih =>
    intro i s hii hr
    have hcs := csize_le (i := i) (m := m) (by have := hF.1.1; omega)
    have h13 := hF.1.2
    have hpl2 := mpoly_lt (i := i) hF.1.1 hF.1.2
    have hz : gmk m t (f + 1) i s = gmk m t f (i + 2) (gnx m i s) := if_neg (by omega)
    rw [hz]
    refine x_iload_n dX0_makePolynomial_22 rfl rfl ?_
    refine x_iconst (y := nI 2) dX0_makePolynomial_23 rfl ?_
    refine x_aload_n dX0_makePolynomial_24 rfl rfl ?_
    refine x_getf (ci := 0) (kf := 6) dX0_makePolynomial_25 rfl uX0 (by decide) fl_RX0_36 (gn (gs (gn ho (by decide))) (by decide)) rfl ?_
    refine x_imul dX0_makePolynomial_28 ?_
    refine x_casti (y := nI (2 * t)) (pk_mul _ _) ?_
    refine x_icmp_ge (tgt := 75) dX0_makePolynomial_29 (by decide) (fun h => False.elim (nI_ge (by omega : i < 2 * t) (by omega) h)) (fun _ => ?_)
    refine x_iload_n dX0_makePolynomial_32 rfl rfl ?_
    refine x_aload_n dX0_makePolynomial_33 rfl rfl ?_
    refine x_getf (ci := 0) (kf := 0) dX0_makePolynomial_34 rfl uX0 (by decide) fl_RX0_32 (gn (gs (gn ho (by decide))) (by decide)) rfl ?_
    refine x_getf (ci := 1) (kf := 3) dX0_makePolynomial_37 rfl uX2 (by decide) fl_RX0_65 (gn (gn (gn hf (by decide)) (by decide)) (by decide)) rfl ?_
    refine x_callS (as := [.int (nI (i)), .int (nI m)]) dX0_makePolynomial_40 mk_X1_isNew st_X1_isNew ml_RX0_70 (by decide) rfl rfl (Nat.le_of_ble_eq_true rfl) (c_isNew hF.1.1 hF.1.2 (by omega)) ?_
    refine x_if_eq (tgt := 69) dX0_makePolynomial_43 (by decide) (fun h43 => ?_) (fun h43 => ?_)
    · refine x_iinc (y := nI ((i) + 2)) (ls' := [some (.ref (5)), some (.int (nI ((i) + 2)))]) dX0_makePolynomial_69 (by decide) rfl rfl (ii_add _ 2) rfl ?_
      refine x_goto (tgt := 22) dX0_makePolynomial_72 (by decide) ?_
      have hcn : cnew i m = false := by
        cases hq2 : cnew i m
        · first | rfl | exact absurd (by rw [hq2]; rfl) h43
        · first | rfl | (rw [hq2] at h43; exact absurd h43 (by decide))
      have hg : gnx m i s = s := by
        unfold gnx; rw [hcn]; rfl
      rw [hg]
      exact ih (i + 2) s (by omega) (by omega)
    · refine x_aload_n dX0_makePolynomial_46 rfl rfl ?_
      refine x_aload_n dX0_makePolynomial_47 rfl rfl ?_
      refine x_getf (ci := 0) (kf := 0) dX0_makePolynomial_48 rfl uX0 (by decide) fl_RX0_32 (gn (gs (gn ho (by decide))) (by decide)) rfl ?_
      refine x_iload_n dX0_makePolynomial_51 rfl rfl ?_
      refine x_callV (ci := 1) (as := [.int (nI (i))]) dX0_makePolynomial_52 mk_X2_minimalPolynomial in_X2_minimalPolynomial se_X2_minimalPolynomial ml_RX0_76 rfl (gn (gn (gn hf (by decide)) (by decide)) (by decide)) (by decide) rfl rfl (Nat.le_of_ble_eq_true rfl) (c_minimalPolynomial (gn (gn (gn hf (by decide)) (by decide)) (by decide)) (gn (gn (gn hp (by decide)) (by decide)) (by decide)) (gn (gn (gn hq (by decide)) (by decide)) (by decide)) hF (gs (gn (gn hc (by decide)) (by decide))) (by decide) (by decide) (by decide) (by omega)) ?_
      refine G.hp (show ((((M.set (6) (.inl (0, 105, .inl (fun j => nI ((s.1) j).toNat)))).set (5) (.inr (0, [.ref (1), .ref (6), .ref (7), .ref (8), .ref (9), .ref (10), .int (nI t), .int (nI d), .int (nI s.2.1), .int (n0), .long (hi), .long (lo)]))).set (4) (.inl (0, 14, .inl (s.2.2)))).set (4) (.inl (0, 14, .inl (fun j => nI (mpc m (i % (2 ^ m - 1)) (csize i m) j)))) : Hp) = (((M.set (6) (.inl (0, 105, .inl (fun j => nI ((s.1) j).toNat)))).set (5) (.inr (0, [.ref (1), .ref (6), .ref (7), .ref (8), .ref (9), .ref (10), .int (nI t), .int (nI d), .int (nI s.2.1), .int (n0), .long (hi), .long (lo)]))).set (4) (.inl (0, 14, .inl (fun j => nI (mpc m (i % (2 ^ m - 1)) (csize i m) j))))) from (ss0)) ?_
      refine x_iload_n dX0_makePolynomial_55 rfl rfl ?_
      refine x_aload_n dX0_makePolynomial_56 rfl rfl ?_
      refine x_getf (ci := 0) (kf := 0) dX0_makePolynomial_57 rfl uX0 (by decide) fl_RX0_32 (gn (gs (gn ho (by decide))) (by decide)) rfl ?_
      refine x_getf (ci := 1) (kf := 3) dX0_makePolynomial_60 rfl uX2 (by decide) fl_RX0_65 (gn (gn (gn hf (by decide)) (by decide)) (by decide)) rfl ?_
      refine x_callS (as := [.int (nI (i)), .int (nI m)]) dX0_makePolynomial_63 mk_X1_size st_X1_size ml_RX0_80 (by decide) rfl rfl (Nat.le_of_ble_eq_true rfl) (c_size hF.1.1 hF.1.2 (by omega)) ?_
      refine x_callV (ci := 0) (as := [.int (nI (mpoly m i)), .int (nI (csize i m))]) dX0_makePolynomial_66 mk_X0_multiplyBy in_X0_multiplyBy se_X0_multiplyBy ml_RX0_84 rfl (gn (gs (gn ho (by decide))) (by decide)) (by decide) rfl rfl (Nat.le_of_ble_eq_true rfl) (c_multiplyBy (gn (gs (gn ho (by decide))) (by decide)) (gn (gn (gs hpl) (by decide)) (by decide)) (fac := mpoly m i) (deg := csize i m) (by omega) (by omega) (by omega)) ?_
      refine G.hp ((congrArg (fun Z : Hp => Z.set (5) (.inr (0, [.ref (1), .ref (6), .ref (7), .ref (8), .ref (9), .ref (10), .int (nI t), .int (nI d), .int (nI (s.2.1 + csize i m)), .int (n0), .long (hi), .long (lo)]))) (show ((((M.set (6) (.inl (0, 105, .inl (fun j => nI ((s.1) j).toNat)))).set (5) (.inr (0, [.ref (1), .ref (6), .ref (7), .ref (8), .ref (9), .ref (10), .int (nI t), .int (nI d), .int (nI s.2.1), .int (n0), .long (hi), .long (lo)]))).set (4) (.inl (0, 14, .inl (fun j => nI (mpc m (i % (2 ^ m - 1)) (csize i m) j))))).set (6) (.inl (0, 105, .inl (fun j => nI ((mdown (mpoly m i) (csize i m) (s.2.1 + 1) s.1) j).toNat))) : Hp) = (((M.set (6) (.inl (0, 105, .inl (fun j => nI ((mdown (mpoly m i) (csize i m) (s.2.1 + 1) s.1) j).toNat)))).set (5) (.inr (0, [.ref (1), .ref (6), .ref (7), .ref (8), .ref (9), .ref (10), .int (nI t), .int (nI d), .int (nI s.2.1), .int (n0), .long (hi), .long (lo)]))).set (4) (.inl (0, 14, .inl (fun j => nI (mpc m (i % (2 ^ m - 1)) (csize i m) j))))) from (ss2 (by decide) (by decide)))).trans (show ((((M.set (6) (.inl (0, 105, .inl (fun j => nI ((mdown (mpoly m i) (csize i m) (s.2.1 + 1) s.1) j).toNat)))).set (5) (.inr (0, [.ref (1), .ref (6), .ref (7), .ref (8), .ref (9), .ref (10), .int (nI t), .int (nI d), .int (nI s.2.1), .int (n0), .long (hi), .long (lo)]))).set (4) (.inl (0, 14, .inl (fun j => nI (mpc m (i % (2 ^ m - 1)) (csize i m) j))))).set (5) (.inr (0, [.ref (1), .ref (6), .ref (7), .ref (8), .ref (9), .ref (10), .int (nI t), .int (nI d), .int (nI (s.2.1 + csize i m)), .int (n0), .long (hi), .long (lo)])) : Hp) = (((M.set (6) (.inl (0, 105, .inl (fun j => nI ((mdown (mpoly m i) (csize i m) (s.2.1 + 1) s.1) j).toNat)))).set (5) (.inr (0, [.ref (1), .ref (6), .ref (7), .ref (8), .ref (9), .ref (10), .int (nI t), .int (nI d), .int (nI (s.2.1 + csize i m)), .int (n0), .long (hi), .long (lo)]))).set (4) (.inl (0, 14, .inl (fun j => nI (mpc m (i % (2 ^ m - 1)) (csize i m) j))))) from (ss1 (by decide)))) ?_
      refine x_iinc (y := nI ((i) + 2)) (ls' := [some (.ref (5)), some (.int (nI ((i) + 2)))]) dX0_makePolynomial_69 (by decide) rfl rfl (ii_add _ 2) rfl ?_
      refine x_goto (tgt := 22) dX0_makePolynomial_72 (by decide) ?_
      have hcn : cnew i m = true := by
        cases hq2 : cnew i m
        · first | rfl | exact absurd (by rw [hq2]; rfl) h43
        · first | rfl | (rw [hq2] at h43; exact absurd h43 (by decide))
      have hg : gnx m i s = (mdown (mpoly m i) (csize i m) (s.2.1 + 1) s.1, s.2.1 + csize i m, fun j => nI (mpc m (i % (2 ^ m - 1)) (csize i m) j)) := by
        unfold gnx; rw [hcn]; rfl
      rw [hg]
      exact ih (i + 2) (mdown (mpoly m i) (csize i m) (s.2.1 + 1) s.1, s.2.1 + csize i m, fun j => nI (mpc m (i % (2 ^ m - 1)) (csize i m) j)) (by omega) (by show s.2.1 + csize i m + 13 * f ≤ 104; omega)
theorem c_makePolynomial {X : Ev} {M : Hp} {t d m : Nat} {hi lo : Int64} {r0 n0 : Int32} (ho : M[5]? = some (.inr (0, [.ref (1), .ref (6), .ref (7), .ref (8), .ref (9), .ref (10), .int (nI t), .int (nI d), .int (r0), .int (n0), .long (hi), .long (lo)]))) {pl : Nat → Int32} (hpl : M[6]? = some (.inl (0, 105, .inl (pl)))) {pw lg cf : Nat → Int32} (hf : M[1]? = some (.inr (1, [.ref (2), .ref (3), .ref (4), .int (nI m), .int (nI (2 ^ m - 1))]))) (hp : M[2]? = some (.inl (0, 8192, .inl (pw)))) (hq : M[3]? = some (.inl (0, 8192, .inl (lg)))) (hF : FT pw lg m) (hc : M[4]? = some (.inl (0, 14, .inl (cf)))) (ht8 : t ≤ 8) : Cl X 4 jX0_makePolynomial [.ref (5)] M none (((M.set (6) (.inl (0, 105, .inl (fun j => nI (((gen m t cf).1) j).toNat)))).set (5) (.inr (0, [.ref (1), .ref (6), .ref (7), .ref (8), .ref (9), .ref (10), .int (nI t), .int (nI d), .int (nI (gen m t cf).2.1), .int (n0), .long (hi), .long (lo)]))).set (4) (.inl (0, 14, .inl ((gen m t cf).2.2)))) := by
  have ht := two_le hF.1.1 hF.1.2
  refine Cl.of (ls := [some (.ref (5)), none]) (by decide) rfl (Nat.le_of_ble_eq_true rfl) ?_
  refine x_aload_n dX0_makePolynomial_0 rfl rfl ?_
  refine x_getf (ci := 0) (kf := 1) dX0_makePolynomial_1 rfl uX0 (by decide) fl_RX0_9 ho rfl ?_
  refine x_iconst (y := nI 0) dX0_makePolynomial_4 rfl ?_
  refine x_callS (as := [.ref (6), .int (nI 0)]) dX0_makePolynomial_5 mk_J7_fill_53178 st_J7_fill_53178 ml_RX0_59 (by decide) rfl rfl (Nat.le_of_ble_eq_true rfl) (c_filli hpl (by decide)) ?_
  refine x_aload_n dX0_makePolynomial_8 rfl rfl ?_
  refine x_getf (ci := 0) (kf := 1) dX0_makePolynomial_9 rfl uX0 (by decide) fl_RX0_9 (gn ho (by decide)) rfl ?_
  refine x_iconst (y := nI 0) dX0_makePolynomial_12 rfl ?_
  refine x_iconst (y := nI 1) dX0_makePolynomial_13 rfl ?_
  refine x_ist (j := 0) (M1 := (M.set (6) (.inl (0, 105, .inl (fun j => nI ((g0) j).toNat))))) dX0_makePolynomial_14 (gs hpl) rfl (by omega) (by decide) (by rw [show upd (fun _ => nI 0) (0) (nI 1) = (fun j => nI ((g0) j).toNat) from g0_eq] <;> exact (ss0)) ?_
  refine x_aload_n dX0_makePolynomial_15 rfl rfl ?_
  refine x_iconst (y := nI 0) dX0_makePolynomial_16 rfl ?_
  refine x_putf (ci := 0) (kf := 8) (ty0 := tyX0) (M1 := ((M.set (6) (.inl (0, 105, .inl (fun j => nI ((g0) j).toNat)))).set (5) (.inr (0, [.ref (1), .ref (6), .ref (7), .ref (8), .ref (9), .ref (10), .int (nI t), .int (nI d), .int (nI 0), .int (n0), .long (hi), .long (lo)])))) dX0_makePolynomial_17 rfl uX0 tyX0_ok nmX0 (by decide) fl_RX0_46 rfl rfl rfl rfl (gn ho (by decide)) (Nat.le_of_ble_eq_true rfl) rfl ?_
  refine x_iconst (y := nI 1) dX0_makePolynomial_20 rfl ?_
  refine x_istore_n (ls' := [some (.ref (5)), some (.int (nI 1))]) dX0_makePolynomial_21 rfl (by decide) rfl rfl ?_
  refine G.hp (set_id (M := ((M.set 6 (.inl (0, 105, .inl (fun j => nI ((g0) j).toNat)))).set 5 (.inr (0, [.ref (1), .ref (6), .ref (7), .ref (8), .ref (9), .ref (10), .int (nI t), .int (nI d), .int (nI 0), .int (n0), .long (hi), .long (lo)])))) (gn (gn hc (by decide)) (by decide)) rfl) (lp_mkp ho hpl hf hp hq hF hc ht8 t 1 (g0, 0, cf) (by omega) (by show 0 + 13 * t ≤ 104; omega))
theorem c_codeBecome {X : Ev} {M : Hp} {t d m : Nat} {hi lo : Int64} {t0 d0 r0 n0 : Int32} (ho : M[5]? = some (.inr (0, [.ref (1), .ref (6), .ref (7), .ref (8), .ref (9), .ref (10), .int (t0), .int (d0), .int (r0), .int (n0), .long (hi), .long (lo)]))) {pl : Nat → Int32} (hpl : M[6]? = some (.inl (0, 105, .inl (pl)))) {pw lg cf : Nat → Int32} (hf : M[1]? = some (.inr (1, [.ref (2), .ref (3), .ref (4), .int (nI m), .int (nI (2 ^ m - 1))]))) (hp : M[2]? = some (.inl (0, 8192, .inl (pw)))) (hq : M[3]? = some (.inl (0, 8192, .inl (lg)))) (hF : FT pw lg m) (hc : M[4]? = some (.inl (0, 14, .inl (cf)))) {hs ls on : Nat → Int64} (hh : M[7]? = some (.inl (1, 256, .inr (.inl (hs))))) (hl : M[8]? = some (.inl (1, 256, .inr (.inl (ls))))) (hR : M[10]? = some (.inr (4, [.ref (11)]))) (hon : M[11]? = some (.inl (1, 34, .inr (.inl (on))))) (ht8 : t ≤ 8) (hd8 : d ≤ 256) : Cl X 5 jX0_become [.ref (5), .int (nI t), .int (nI d)] M none ((((((M.set (5) (.inr (0, [.ref (1), .ref (6), .ref (7), .ref (8), .ref (9), .ref (10), .int (nI t), .int (nI d), .int (nI (gen m t cf).2.1), .int (nI (8 * d + (gen m t cf).2.1)), .long ((rgs (ldH (gen m t cf).1 (gen m t cf).2.1 (gen m t cf).2.1) (ldL (gen m t cf).1 (gen m t cf).2.1 (gen m t cf).2.1) 8).1), .long ((rgs (ldH (gen m t cf).1 (gen m t cf).2.1 (gen m t cf).2.1) (ldL (gen m t cf).1 (gen m t cf).2.1 (gen m t cf).2.1) 8).2)]))).set (6) (.inl (0, 105, .inl (fun j => nI (((gen m t cf).1) j).toNat)))).set (4) (.inl (0, 14, .inl ((gen m t cf).2.2)))).set (11) (.inl (1, 34, .inr (.inl (rfirst (fun _ => 0) (8 * d + (gen m t cf).2.1)))))).set (7) (.inl (1, 256, .inr (.inl (stpH hs (ldH (gen m t cf).1 (gen m t cf).2.1 (gen m t cf).2.1) (ldL (gen m t cf).1 (gen m t cf).2.1 (gen m t cf).2.1) 8))))).set (8) (.inl (1, 256, .inr (.inl (stpL ls (ldH (gen m t cf).1 (gen m t cf).2.1 (gen m t cf).2.1) (ldL (gen m t cf).1 (gen m t cf).2.1 (gen m t cf).2.1) 8))))) := by
  have hgr := gen_r (m := m) (t := t) (cf := cf) (by have := hF.1.1; omega) hF.1.2 ht8
  refine Cl.of (ls := [some (.ref (5)), some (.int (nI t)), some (.int (nI d))]) (by decide) rfl (Nat.le_of_ble_eq_true rfl) ?_
  refine x_aload_n dX0_become_0 rfl rfl ?_
  refine x_iload_n dX0_become_1 rfl rfl ?_
  refine x_putf (ci := 0) (kf := 6) (ty0 := tyX0) (M1 := (M.set (5) (.inr (0, [.ref (1), .ref (6), .ref (7), .ref (8), .ref (9), .ref (10), .int (nI t), .int (d0), .int (r0), .int (n0), .long (hi), .long (lo)])))) dX0_become_2 rfl uX0 tyX0_ok nmX0 (by decide) fl_RX0_36 rfl rfl rfl rfl ho (Nat.le_of_ble_eq_true rfl) rfl ?_
  refine x_aload_n dX0_become_5 rfl rfl ?_
  refine x_iload_n dX0_become_6 rfl rfl ?_
  refine x_putf (ci := 0) (kf := 7) (ty0 := tyX0) (M1 := (M.set (5) (.inr (0, [.ref (1), .ref (6), .ref (7), .ref (8), .ref (9), .ref (10), .int (nI t), .int (nI d), .int (r0), .int (n0), .long (hi), .long (lo)])))) dX0_become_7 rfl uX0 tyX0_ok nmX0 (by decide) fl_RX0_40 rfl rfl rfl rfl (gs ho) (Nat.le_of_ble_eq_true rfl) (ss0) ?_
  refine x_aload_n dX0_become_10 rfl rfl ?_
  refine x_callV (ci := 0) (as := []) dX0_become_11 mk_X0_makePolynomial in_X0_makePolynomial se_X0_makePolynomial ml_RX0_43 rfl (gs ho) (by decide) rfl rfl (Nat.le_of_ble_eq_true rfl) (c_makePolynomial (gs ho) (gn hpl (by decide)) (gn hf (by decide)) (gn hp (by decide)) (gn hq (by decide)) hF (gn hc (by decide)) ht8) ?_
  refine G.hp ((congrArg (fun Z : Hp => Z.set (4) (.inl (0, 14, .inl ((gen m t cf).2.2)))) (show (((M.set (5) (.inr (0, [.ref (1), .ref (6), .ref (7), .ref (8), .ref (9), .ref (10), .int (nI t), .int (nI d), .int (r0), .int (n0), .long (hi), .long (lo)]))).set (6) (.inl (0, 105, .inl (fun j => nI (((gen m t cf).1) j).toNat)))).set (5) (.inr (0, [.ref (1), .ref (6), .ref (7), .ref (8), .ref (9), .ref (10), .int (nI t), .int (nI d), .int (nI (gen m t cf).2.1), .int (n0), .long (hi), .long (lo)])) : Hp) = ((M.set (5) (.inr (0, [.ref (1), .ref (6), .ref (7), .ref (8), .ref (9), .ref (10), .int (nI t), .int (nI d), .int (nI (gen m t cf).2.1), .int (n0), .long (hi), .long (lo)]))).set (6) (.inl (0, 105, .inl (fun j => nI (((gen m t cf).1) j).toNat)))) from (ss1 (by decide)))).trans (show (((M.set (5) (.inr (0, [.ref (1), .ref (6), .ref (7), .ref (8), .ref (9), .ref (10), .int (nI t), .int (nI d), .int (nI (gen m t cf).2.1), .int (n0), .long (hi), .long (lo)]))).set (6) (.inl (0, 105, .inl (fun j => nI (((gen m t cf).1) j).toNat)))).set (4) (.inl (0, 14, .inl ((gen m t cf).2.2))) : Hp) = (((M.set (5) (.inr (0, [.ref (1), .ref (6), .ref (7), .ref (8), .ref (9), .ref (10), .int (nI t), .int (nI d), .int (nI (gen m t cf).2.1), .int (n0), .long (hi), .long (lo)]))).set (6) (.inl (0, 105, .inl (fun j => nI (((gen m t cf).1) j).toNat)))).set (4) (.inl (0, 14, .inl ((gen m t cf).2.2)))) from rfl)) ?_
  refine x_aload_n dX0_become_14 rfl rfl ?_
  refine x_bipush (y := nI 8) dX0_become_15 rfl ?_
  refine x_aload_n dX0_become_17 rfl rfl ?_
  refine x_getf (ci := 0) (kf := 7) dX0_become_18 rfl uX0 (by decide) fl_RX0_40 (gn (gn (gs ho) (by decide)) (by decide)) rfl ?_
  refine x_imul dX0_become_21 ?_
  refine x_casti (y := nI (8 * d)) (pk_mul _ _) ?_
  refine x_aload_n dX0_become_22 rfl rfl ?_
  refine x_getf (ci := 0) (kf := 8) dX0_become_23 rfl uX0 (by decide) fl_RX0_46 (gn (gn (gs ho) (by decide)) (by decide)) rfl ?_
  refine x_iadd dX0_become_26 ?_
  refine x_casti (y := nI (8 * d + (gen m t cf).2.1)) (nI_add _ _) ?_
  refine x_putf (ci := 0) (kf := 9) (ty0 := tyX0) (M1 := (((M.set (5) (.inr (0, [.ref (1), .ref (6), .ref (7), .ref (8), .ref (9), .ref (10), .int (nI t), .int (nI d), .int (nI (gen m t cf).2.1), .int (nI (8 * d + (gen m t cf).2.1)), .long (hi), .long (lo)]))).set (6) (.inl (0, 105, .inl (fun j => nI (((gen m t cf).1) j).toNat)))).set (4) (.inl (0, 14, .inl ((gen m t cf).2.2))))) dX0_become_27 rfl uX0 tyX0_ok nmX0 (by decide) fl_RX0_49 rfl rfl rfl rfl (gn (gn (gs ho) (by decide)) (by decide)) (Nat.le_of_ble_eq_true rfl) (ss2 (by decide) (by decide)) ?_
  refine x_aload_n dX0_become_30 rfl rfl ?_
  refine x_getf (ci := 0) (kf := 5) dX0_become_31 rfl uX0 (by decide) fl_RX0_28 (gn (gn (gs ho) (by decide)) (by decide)) rfl ?_
  refine x_aload_n dX0_become_34 rfl rfl ?_
  refine x_getf (ci := 0) (kf := 9) dX0_become_35 rfl uX0 (by decide) fl_RX0_49 (gn (gn (gs ho) (by decide)) (by decide)) rfl ?_
  refine x_callV (ci := 4) (as := [.int (nI (8 * d + (gen m t cf).2.1))]) dX0_become_38 mk_X5_becomeFirstOnes in_X5_becomeFirstOnes se_X5_becomeFirstOnes ml_RX0_52 rfl (gn (gn (gn hR (by decide)) (by decide)) (by decide)) (by decide) rfl rfl (Nat.le_of_ble_eq_true rfl) (c_becomeFirstOnes (gn (gn (gn hR (by decide)) (by decide)) (by decide)) (gn (gn (gn hon (by decide)) (by decide)) (by decide)) (by decide) (by omega)) ?_
  refine x_aload_n dX0_become_41 rfl rfl ?_
  refine x_callV (ci := 0) (as := []) dX0_become_42 mk_X0_makeSteps in_X0_makeSteps se_X0_makeSteps ml_RX0_56 rfl (gn (gn (gn (gs ho) (by decide)) (by decide)) (by decide)) (by decide) rfl rfl (Nat.le_of_ble_eq_true rfl) (c_makeSteps (pq := (gen m t cf).1) (gn (gn (gn (gs ho) (by decide)) (by decide)) (by decide)) (gn (gn (gs (gn hpl (by decide))) (by decide)) (by decide)) (fun _ _ => rfl) hgr (gn (gn (gn (gn hh (by decide)) (by decide)) (by decide)) (by decide)) (gn (gn (gn (gn hl (by decide)) (by decide)) (by decide)) (by decide))) ?_
  refine G.hp ((congrArg (fun Z : Hp => Z.set (8) (.inl (1, 256, .inr (.inl (stpL ls (ldH (gen m t cf).1 (gen m t cf).2.1 (gen m t cf).2.1) (ldL (gen m t cf).1 (gen m t cf).2.1 (gen m t cf).2.1) 8))))) ((congrArg (fun Z : Hp => Z.set (7) (.inl (1, 256, .inr (.inl (stpH hs (ldH (gen m t cf).1 (gen m t cf).2.1 (gen m t cf).2.1) (ldL (gen m t cf).1 (gen m t cf).2.1 (gen m t cf).2.1) 8))))) (show (((((M.set (5) (.inr (0, [.ref (1), .ref (6), .ref (7), .ref (8), .ref (9), .ref (10), .int (nI t), .int (nI d), .int (nI (gen m t cf).2.1), .int (nI (8 * d + (gen m t cf).2.1)), .long (hi), .long (lo)]))).set (6) (.inl (0, 105, .inl (fun j => nI (((gen m t cf).1) j).toNat)))).set (4) (.inl (0, 14, .inl ((gen m t cf).2.2)))).set (11) (.inl (1, 34, .inr (.inl (rfirst (fun _ => 0) (8 * d + (gen m t cf).2.1)))))).set (5) (.inr (0, [.ref (1), .ref (6), .ref (7), .ref (8), .ref (9), .ref (10), .int (nI t), .int (nI d), .int (nI (gen m t cf).2.1), .int (nI (8 * d + (gen m t cf).2.1)), .long ((rgs (ldH (gen m t cf).1 (gen m t cf).2.1 (gen m t cf).2.1) (ldL (gen m t cf).1 (gen m t cf).2.1 (gen m t cf).2.1) 8).1), .long ((rgs (ldH (gen m t cf).1 (gen m t cf).2.1 (gen m t cf).2.1) (ldL (gen m t cf).1 (gen m t cf).2.1 (gen m t cf).2.1) 8).2)])) : Hp) = ((((M.set (5) (.inr (0, [.ref (1), .ref (6), .ref (7), .ref (8), .ref (9), .ref (10), .int (nI t), .int (nI d), .int (nI (gen m t cf).2.1), .int (nI (8 * d + (gen m t cf).2.1)), .long ((rgs (ldH (gen m t cf).1 (gen m t cf).2.1 (gen m t cf).2.1) (ldL (gen m t cf).1 (gen m t cf).2.1 (gen m t cf).2.1) 8).1), .long ((rgs (ldH (gen m t cf).1 (gen m t cf).2.1 (gen m t cf).2.1) (ldL (gen m t cf).1 (gen m t cf).2.1 (gen m t cf).2.1) 8).2)]))).set (6) (.inl (0, 105, .inl (fun j => nI (((gen m t cf).1) j).toNat)))).set (4) (.inl (0, 14, .inl ((gen m t cf).2.2)))).set (11) (.inl (1, 34, .inr (.inl (rfirst (fun _ => 0) (8 * d + (gen m t cf).2.1)))))) from (ss3 (by decide) (by decide) (by decide)))).trans (show (((((M.set (5) (.inr (0, [.ref (1), .ref (6), .ref (7), .ref (8), .ref (9), .ref (10), .int (nI t), .int (nI d), .int (nI (gen m t cf).2.1), .int (nI (8 * d + (gen m t cf).2.1)), .long ((rgs (ldH (gen m t cf).1 (gen m t cf).2.1 (gen m t cf).2.1) (ldL (gen m t cf).1 (gen m t cf).2.1 (gen m t cf).2.1) 8).1), .long ((rgs (ldH (gen m t cf).1 (gen m t cf).2.1 (gen m t cf).2.1) (ldL (gen m t cf).1 (gen m t cf).2.1 (gen m t cf).2.1) 8).2)]))).set (6) (.inl (0, 105, .inl (fun j => nI (((gen m t cf).1) j).toNat)))).set (4) (.inl (0, 14, .inl ((gen m t cf).2.2)))).set (11) (.inl (1, 34, .inr (.inl (rfirst (fun _ => 0) (8 * d + (gen m t cf).2.1)))))).set (7) (.inl (1, 256, .inr (.inl (stpH hs (ldH (gen m t cf).1 (gen m t cf).2.1 (gen m t cf).2.1) (ldL (gen m t cf).1 (gen m t cf).2.1 (gen m t cf).2.1) 8)))) : Hp) = (((((M.set (5) (.inr (0, [.ref (1), .ref (6), .ref (7), .ref (8), .ref (9), .ref (10), .int (nI t), .int (nI d), .int (nI (gen m t cf).2.1), .int (nI (8 * d + (gen m t cf).2.1)), .long ((rgs (ldH (gen m t cf).1 (gen m t cf).2.1 (gen m t cf).2.1) (ldL (gen m t cf).1 (gen m t cf).2.1 (gen m t cf).2.1) 8).1), .long ((rgs (ldH (gen m t cf).1 (gen m t cf).2.1 (gen m t cf).2.1) (ldL (gen m t cf).1 (gen m t cf).2.1 (gen m t cf).2.1) 8).2)]))).set (6) (.inl (0, 105, .inl (fun j => nI (((gen m t cf).1) j).toNat)))).set (4) (.inl (0, 14, .inl ((gen m t cf).2.2)))).set (11) (.inl (1, 34, .inr (.inl (rfirst (fun _ => 0) (8 * d + (gen m t cf).2.1)))))).set (7) (.inl (1, 256, .inr (.inl (stpH hs (ldH (gen m t cf).1 (gen m t cf).2.1 (gen m t cf).2.1) (ldL (gen m t cf).1 (gen m t cf).2.1 (gen m t cf).2.1) 8))))) from rfl))).trans (show ((((((M.set (5) (.inr (0, [.ref (1), .ref (6), .ref (7), .ref (8), .ref (9), .ref (10), .int (nI t), .int (nI d), .int (nI (gen m t cf).2.1), .int (nI (8 * d + (gen m t cf).2.1)), .long ((rgs (ldH (gen m t cf).1 (gen m t cf).2.1 (gen m t cf).2.1) (ldL (gen m t cf).1 (gen m t cf).2.1 (gen m t cf).2.1) 8).1), .long ((rgs (ldH (gen m t cf).1 (gen m t cf).2.1 (gen m t cf).2.1) (ldL (gen m t cf).1 (gen m t cf).2.1 (gen m t cf).2.1) 8).2)]))).set (6) (.inl (0, 105, .inl (fun j => nI (((gen m t cf).1) j).toNat)))).set (4) (.inl (0, 14, .inl ((gen m t cf).2.2)))).set (11) (.inl (1, 34, .inr (.inl (rfirst (fun _ => 0) (8 * d + (gen m t cf).2.1)))))).set (7) (.inl (1, 256, .inr (.inl (stpH hs (ldH (gen m t cf).1 (gen m t cf).2.1 (gen m t cf).2.1) (ldL (gen m t cf).1 (gen m t cf).2.1 (gen m t cf).2.1) 8))))).set (8) (.inl (1, 256, .inr (.inl (stpL ls (ldH (gen m t cf).1 (gen m t cf).2.1 (gen m t cf).2.1) (ldL (gen m t cf).1 (gen m t cf).2.1 (gen m t cf).2.1) 8)))) : Hp) = ((((((M.set (5) (.inr (0, [.ref (1), .ref (6), .ref (7), .ref (8), .ref (9), .ref (10), .int (nI t), .int (nI d), .int (nI (gen m t cf).2.1), .int (nI (8 * d + (gen m t cf).2.1)), .long ((rgs (ldH (gen m t cf).1 (gen m t cf).2.1 (gen m t cf).2.1) (ldL (gen m t cf).1 (gen m t cf).2.1 (gen m t cf).2.1) 8).1), .long ((rgs (ldH (gen m t cf).1 (gen m t cf).2.1 (gen m t cf).2.1) (ldL (gen m t cf).1 (gen m t cf).2.1 (gen m t cf).2.1) 8).2)]))).set (6) (.inl (0, 105, .inl (fun j => nI (((gen m t cf).1) j).toNat)))).set (4) (.inl (0, 14, .inl ((gen m t cf).2.2)))).set (11) (.inl (1, 34, .inr (.inl (rfirst (fun _ => 0) (8 * d + (gen m t cf).2.1)))))).set (7) (.inl (1, 256, .inr (.inl (stpH hs (ldH (gen m t cf).1 (gen m t cf).2.1 (gen m t cf).2.1) (ldL (gen m t cf).1 (gen m t cf).2.1 (gen m t cf).2.1) 8))))).set (8) (.inl (1, 256, .inr (.inl (stpL ls (ldH (gen m t cf).1 (gen m t cf).2.1 (gen m t cf).2.1) (ldL (gen m t cf).1 (gen m t cf).2.1 (gen m t cf).2.1) 8))))) from rfl)) ?_
  exact x_ret dX0_become_45 rfl
