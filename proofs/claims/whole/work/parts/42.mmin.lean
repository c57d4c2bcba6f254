/-! THE MODEL: minimal polynomials -/
def mdk (m : Nat) (c : Nat → Nat) (r deg k : Nat) : Nat → Nat := fun j => if k < j ∧ j ≤ deg then c (j - 1) ^^^ fmul m (c j) r else c j
theorem mdk_step {m : Nat} {c : Nat → Nat} {r deg k : Nat} (hk : k + 1 ≤ deg) : nup (mdk m c r deg (k + 1)) (k + 1) (c k ^^^ fmul m (c (k + 1)) r) = mdk m c r deg k := by
  funext j
  unfold nup mdk
  by_cases h : j = k + 1
  · subst h; rw [if_pos rfl, if_pos ⟨by omega, hk⟩]; rfl
  · rw [if_neg h]
    by_cases h2 : k + 1 < j ∧ j ≤ deg
    · rw [if_pos h2, if_pos ⟨by omega, h2.2⟩]
    · rw [if_neg h2, if_neg (by omega)]
theorem mdk_top {m : Nat} {c : Nat → Nat} {r deg : Nat} : mdk m c r deg deg = c := by
  funext j; unfold mdk; rw [if_neg (by omega)]
theorem mdk_lo {m : Nat} {c : Nat → Nat} {r deg k j : Nat} (h : j ≤ k) : mdk m c r deg k j = c j := by
  unfold mdk; rw [if_neg (by omega)]
/-- the polynomial in the model's row, times x and a root -/
def mdr (m : Nat) (c : Nat → Nat) (r deg : Nat) : Nat → Nat := nup (mdk m (nup c (deg + 1) (c deg)) r deg 0) 0 (fmul m (c 0) r)
def mdc (m i : Nat) (md : Nat → Nat) : Nat → (Nat → Nat)
  | 0 => nup md 0 1
  | k + 1 => mdr m (mdc m i md k) (pwr m (exq (2 ^ m - 1) i k)) k
theorem mdr_at {m : Nat} {c : Nat → Nat} {r deg j : Nat} (hj : j ≤ deg + 1) : mdr m c r deg j = if j = 0 then fmul m (c 0) r else if j = deg + 1 then c deg else c (j - 1) ^^^ fmul m (c j) r := by
  unfold mdr nup mdk
  by_cases h0 : j = 0
  · rw [if_pos h0, if_pos h0]
  · rw [if_neg h0, if_neg h0]
    by_cases h1 : j = deg + 1
    · subst h1; rw [if_neg (by omega), if_pos rfl]; exact if_pos rfl
    · rw [if_neg h1, if_pos ⟨by omega, by omega⟩]
      simp only [if_neg h1, if_neg (show ¬ j - 1 = deg + 1 by omega)]
theorem mdc_lt {m i : Nat} {md : Nat → Nat} (h3 : 3 ≤ m) (h13 : m ≤ 13) : ∀ (k j : Nat), j ≤ k → mdc m i md k j < 2 ^ m
  | 0, j, h => by
    have ht := two_le h3 h13
    have : j = 0 := by omega
    subst this
    show nup md 0 1 0 < _
    unfold nup; rw [if_pos rfl]; omega
  | k + 1, j, h => by
    show mdr m _ _ k j < _
    rw [mdr_at h]
    split
    · exact fmul_lt h3 h13
    · split
      · exact mdc_lt h3 h13 k k (Nat.le_refl _)
      · exact xor_lt (mdc_lt h3 h13 k (j - 1) (by omega)) (fmul_lt h3 h13)
theorem mpc_hi {m s : Nat} : ∀ (k j : Nat), k < j → mpc m s k j = 0
  | 0, j, h => by show (if j = 0 then 1 else 0) = 0; rw [if_neg (by omega)]
  | k + 1, j, h => by
    show mbr m (mpc m s k) _ k j = 0
    unfold mbr
    rw [if_neg (by omega), if_neg (by omega)]
    exact mpc_hi k j (by omega)
theorem mdc_mpc {m i : Nat} {md : Nat → Nat} : ∀ (k j : Nat), j ≤ k → mdc m i md k j = mpc m i k j
  | 0, j, h => by
    have : j = 0 := by omega
    subst this
    show nup md 0 1 0 = (if (0 : Nat) = 0 then 1 else 0)
    unfold nup; rw [if_pos rfl, if_pos rfl]
  | k + 1, j, h => by
    show mdr m _ _ k j = mbr m (mpc m i k) _ k j
    rw [mdr_at h]
    unfold mbr
    by_cases h0 : j = 0
    · rw [if_pos h0, if_pos h0, mdc_mpc k 0 (by omega)]
    · rw [if_neg h0, if_neg h0, if_pos h]
      by_cases h1 : j = k + 1
      · subst h1
        rw [if_pos rfl, mdc_mpc k k (Nat.le_refl _), mpc_hi k (k + 1) (by omega)]
        unfold fmul; rw [if_pos (Or.inl rfl), Nat.xor_zero, Nat.add_sub_cancel]
      · rw [if_neg h1, mdc_mpc k (j - 1) (by omega), mdc_mpc k j (by omega)]
theorem mnum_congr {c c' : Nat → Nat} : ∀ n, (∀ j, j < n → c j = c' j) → mnum c n = mnum c' n
  | 0, _ => rfl
  | n + 1, h => by
    show mnum c n ||| _ = mnum c' n ||| _
    rw [mnum_congr n (fun j hj => h j (by omega)), h n (by omega)]
def mor (n i k : Nat) : Bool := decide (k = 0) || decide (exq n i k ≠ i)
theorem lp_mdk {X : Ev} {M0 M M' : Hp} {v : Option Value} {op : Int32} {m t d r n tn : Nat} {me ri lt : Int32} (hO : M[138]? = some (.inr (6, [.int (op), .int (nI m), .int (nI t), .int (nI d), .int (nI r), .int (nI n), .int (nI (2 ^ m - 1)), .ref (139), .ref (140), .ref (141), .ref (142), .ref (143), .ref (144), .ref (145), .ref (146), .ref (147), .int (nI tn), .int (me), .int (ri), .int (lt), .ref (148), .ref (149), .ref (150), .ref (151), .ref (152), .ref (153), .ref (154)]))) {pw : Nat → Int32} (hp : M[139]? = some (.inl (0, 8192, .inl (pw)))) {lg : Nat → Int32} (hq : M[140]? = some (.inl (0, 8192, .inl (lg)))) {c md : Nat → Nat} (hmd : M[148]? = some (.inl (0, 16, .inl (fun j => nI ((md) j))))) (hF : FT pw lg m) {r0 deg : Nat} (hr0 : r0 < 2 ^ m) (hdg : deg < 15) (hcb : ∀ j, j ≤ deg → c j < 2 ^ m) {a1 a3 a4 : Int32} (k : G X 2 jX7_minimalOf M0 85 [some (.ref (138)), some (.int (a1)), some (.int (nI deg)), some (.int (a3)), some (.int (a4)), some (.int (nI r0)), some (.int (nI 0))] [] (M.set (148) (.inl (0, 16, .inl (fun j => nI ((mdk m c r0 deg (0)) j))))) v M') : ∀ q, q ≤ deg → G X 2 jX7_minimalOf M0 44 [some (.ref (138)), some (.int (a1)), some (.int (nI deg)), some (.int (a3)), some (.int (a4)), some (.int (nI r0)), some (.int (nI (q)))] [] (M.set (148) (.inl (0, 16, .inl (fun j => nI ((mdk m c r0 deg (q)) j))))) v M' := by
  intro q
  induction q with
  | zero =>
    intro hqq
    refine x_iload dX7_minimalOf_44 rfl ?_
    refine x_if_le (tgt := 85) dX7_minimalOf_46 (by decide) (fun _ => ?_) (fun h => False.elim (absurd (Int32.le_refl _) h))
    exact k
  | succ q ih =>
    intro hqq
    refine x_iload dX7_minimalOf_44 rfl ?_
    refine x_if_le (tgt := 85) dX7_minimalOf_46 (by decide) (fun h => False.elim (absurd (Int32.le_iff_toInt_le.mp h) (by rw [nI_toInt (by omega)]; show ¬ ((q + 1 : Nat) : Int) ≤ 0; omega))) (fun _ => ?_)
    refine x_aload_n dX7_minimalOf_49 rfl rfl ?_
    refine x_getf (ci := 6) (kf := 20) dX7_minimalOf_50 rfl uX7 (by decide) fl_RX7_39 (gn hO (by decide)) rfl ?_
    refine x_iload dX7_minimalOf_53 rfl ?_
    refine x_aload_n dX7_minimalOf_55 rfl rfl ?_
    refine x_getf (ci := 6) (kf := 20) dX7_minimalOf_56 rfl uX7 (by decide) fl_RX7_39 (gn hO (by decide)) rfl ?_
    refine x_iload dX7_minimalOf_59 rfl ?_
    refine x_iconst (y := nI 1) dX7_minimalOf_61 rfl ?_
    refine x_isub dX7_minimalOf_62 ?_
    refine x_casti (y := nI q) (nI_p1) ?_
    refine x_ild (j := q) dX7_minimalOf_63 (gs hmd) rfl (by omega) (by decide) ?_
    refine x_casti (y := nI (c q)) (by rw [mdk_lo (by omega)]) ?_
    refine x_aload_n dX7_minimalOf_64 rfl rfl ?_
    refine x_aload_n dX7_minimalOf_65 rfl rfl ?_
    refine x_getf (ci := 6) (kf := 20) dX7_minimalOf_66 rfl uX7 (by decide) fl_RX7_39 (gn hO (by decide)) rfl ?_
    refine x_iload dX7_minimalOf_69 rfl ?_
    refine x_ild (j := q + 1) dX7_minimalOf_71 (gs hmd) rfl (by omega) (by decide) ?_
    refine x_casti (y := nI (c (q + 1))) (by rw [mdk_lo (by omega)]) ?_
    refine x_iload dX7_minimalOf_72 rfl ?_
    refine x_callV (ci := 6) (as := [.int (nI (c (q + 1))), .int (nI r0)]) dX7_minimalOf_74 mk_X7_by in_X7_by se_X7_by ml_RX7_72 rfl (gn hO (by decide)) (by decide) rfl rfl (Nat.le_of_ble_eq_true rfl) (c_by (gn hO (by decide)) (gn hp (by decide)) (gn hq (by decide)) hF (hcb _ (by omega)) hr0) ?_
    refine x_ixor dX7_minimalOf_77 ?_
    refine x_casti (y := nI (c q ^^^ fmul m (c (q + 1)) r0)) (nI_xor _ _) ?_
    refine x_ist (j := q + 1) (M1 := (M.set (148) (.inl (0, 16, .inl (fun j => nI ((mdk m c r0 deg q) j)))))) dX7_minimalOf_78 (gs hmd) rfl (by omega) (by decide) (by rw [show upd (fun j => nI ((mdk m c r0 deg (q + 1)) j)) (q + 1) (nI (c q ^^^ fmul m (c (q + 1)) r0)) = (fun j => nI ((mdk m c r0 deg q) j)) from (nup_eq.trans (congrArg (fun z : Nat → Nat => fun j => nI (z j)) (mdk_step (by omega))))] <;> exact (ss0)) ?_
    refine x_iinc (y := nI q) (ls' := [some (.ref (138)), some (.int (a1)), some (.int (nI deg)), some (.int (a3)), some (.int (a4)), some (.int (nI r0)), some (.int (nI q))]) dX7_minimalOf_79 (by decide) rfl rfl (nI_m) rfl ?_
    refine x_goto (tgt := 44) dX7_minimalOf_82 (by decide) ?_
    exact ih (by omega)
theorem mn_fw {X : Ev} {d' : Nat} {M0 M M' : Hp} {v : Option Value} {pc : Nat} {a b c e f : Value} {g h : Option Value} (kc : G X d' jX7_minimalOf M0 pc [some a, some b, some c, some e, some f, none, none] [] M v M') : G X d' jX7_minimalOf M0 pc [some a, some b, some c, some e, some f, g, h] [] M v M' := x_fewer (fun q w h => by match q, h with | 0, h => exact h | 1, h => exact h | 2, h => exact h | 3, h => exact h | 4, h => exact h | 5, h => cases h | 6, h => cases h | q + 7, h => cases h) kc
theorem lp_mdc {X : Ev} {M0 M M' : Hp} {v : Option Value} {op : Int32} {m t d r n tn : Nat} {me ri lt : Int32} (hO : M[138]? = some (.inr (6, [.int (op), .int (nI m), .int (nI t), .int (nI d), .int (nI r), .int (nI n), .int (nI (2 ^ m - 1)), .ref (139), .ref (140), .ref (141), .ref (142), .ref (143), .ref (144), .ref (145), .ref (146), .ref (147), .int (nI tn), .int (me), .int (ri), .int (lt), .ref (148), .ref (149), .ref (150), .ref (151), .ref (152), .ref (153), .ref (154)]))) {pw : Nat → Int32} (hp : M[139]? = some (.inl (0, 8192, .inl (pw)))) {lg : Nat → Int32} (hq : M[140]? = some (.inl (0, 8192, .inl (lg)))) {md : Nat → Nat} (hmd : M[148]? = some (.inl (0, 16, .inl (fun j => nI ((md) j))))) (hF : FT pw lg m) {i : Nat} (hi : i < 2 ^ m - 1) (k : G X 2 jX7_minimalOf M0 130 [some (.ref (138)), some (.int (nI i)), some (.int (nI ((csize i m)))), some (.int (nI (exq (2 ^ m - 1) i ((csize i m))))), some (.int (nI (mor (2 ^ m - 1) i ((csize i m))).toNat)), none, none] [] (M.set (148) (.inl (0, 16, .inl (fun j => nI ((mdc m i md ((csize i m))) j))))) v M') : ∀ (zz q : Nat), q + zz = (csize i m) → G X 2 jX7_minimalOf M0 14 [some (.ref (138)), some (.int (nI i)), some (.int (nI (q))), some (.int (nI (exq (2 ^ m - 1) i (q)))), some (.int (nI (mor (2 ^ m - 1) i (q)).toNat)), none, none] [] (M.set (148) (.inl (0, 16, .inl (fun j => nI ((mdc m i md (q)) j))))) v M' := by
  have ht := two_le hF.1.1 hF.1.2
  have hm3 := hF.1.1
  have hm13 := hF.1.2
  have hcs := csize_le (i := i) (m := m) (by omega)
  have hsp := csize_spec (by omega) hi
  intro zz
  induction zz with
  | zero =>
    intro q hqq
    have hqq : q = (csize i m) := by omega
    subst hqq
    have e : mor (2 ^ m - 1) i (csize i m) = false := by unfold mor; rw [hsp.1, decide_eq_false (by omega), decide_eq_false (fun z => z rfl)]; rfl
    rw [e] at k ⊢
    refine x_iload dX7_minimalOf_14 rfl ?_
    refine x_if_eq (tgt := 130) dX7_minimalOf_16 (by decide) (fun _ => ?_) (fun h => False.elim (h rfl))
    exact k
  | succ zz ih =>
    intro q hqq
    have hE : exq (2 ^ m - 1) i (q) < 2 ^ m - 1 := exq_lt hi q
    have hlt := fun j hj => mdc_lt (i := i) (md := md) hF.1.1 hF.1.2 q j hj
    have hpl := pwr_lt hF.1.1 hF.1.2 (exq (2 ^ m - 1) i (q))
    have e : mor (2 ^ m - 1) i q = true := by
      unfold mor
      by_cases h0 : q = 0
      · rw [decide_eq_true h0]; rfl
      · rw [decide_eq_true (hsp.2 q (by omega) (by omega)), Bool.or_true]
    rw [e]
    refine x_iload dX7_minimalOf_14 rfl ?_
    refine x_if_eq (tgt := 130) dX7_minimalOf_16 (by decide) (fun h => False.elim (absurd h (by decide))) (fun _ => ?_)
    refine x_aload_n dX7_minimalOf_19 rfl rfl ?_
    refine x_getf (ci := 6) (kf := 7) dX7_minimalOf_20 rfl uX7 (by decide) fl_RX7_7 (gn hO (by decide)) rfl ?_
    refine x_iload_n dX7_minimalOf_23 rfl rfl ?_
    refine x_ild (j := exq (2 ^ m - 1) i (q)) dX7_minimalOf_24 (gn hp (by decide)) rfl (by omega) (by decide) ?_
    refine x_casti (y := nI (pwr m (exq (2 ^ m - 1) i (q)))) ((hF.2 _ hE).1) ?_
    refine x_istore (ls' := [some (.ref (138)), some (.int (nI i)), some (.int (nI (q))), some (.int (nI (exq (2 ^ m - 1) i (q)))), some (.int (nI true.toNat)), some (.int (nI (pwr m (exq (2 ^ m - 1) i (q))))), none]) dX7_minimalOf_25 (by decide) rfl rfl ?_
    refine x_aload_n dX7_minimalOf_27 rfl rfl ?_
    refine x_getf (ci := 6) (kf := 20) dX7_minimalOf_28 rfl uX7 (by decide) fl_RX7_39 (gn hO (by decide)) rfl ?_
    refine x_iload_n dX7_minimalOf_31 rfl rfl ?_
    refine x_iconst (y := nI 1) dX7_minimalOf_32 rfl ?_
    refine x_iadd dX7_minimalOf_33 ?_
    refine x_casti (y := nI (q + 1)) (nI_add _ _) ?_
    refine x_aload_n dX7_minimalOf_34 rfl rfl ?_
    refine x_getf (ci := 6) (kf := 20) dX7_minimalOf_35 rfl uX7 (by decide) fl_RX7_39 (gn hO (by decide)) rfl ?_
    refine x_iload_n dX7_minimalOf_38 rfl rfl ?_
    refine x_ild (j := q) dX7_minimalOf_39 (gs hmd) rfl (by omega) (by decide) ?_
    refine x_ist (j := q + 1) (M1 := (M.set (148) (.inl (0, 16, .inl (fun j => nI ((nup (mdc m i md q) (q + 1) (mdc m i md q q)) j)))))) dX7_minimalOf_40 (gs hmd) rfl (by omega) (by decide) (by rw [show upd (fun j => nI ((mdc m i md (q)) j)) (q + 1) (nI ((mdc m i md (q)) (q))) = (fun j => nI ((nup (mdc m i md q) (q + 1) (mdc m i md q q)) j)) from nup_eq] <;> exact (ss0)) ?_
    refine x_iload_n dX7_minimalOf_41 rfl rfl ?_
    refine x_istore (ls' := [some (.ref (138)), some (.int (nI i)), some (.int (nI (q))), some (.int (nI (exq (2 ^ m - 1) i (q)))), some (.int (nI true.toNat)), some (.int (nI (pwr m (exq (2 ^ m - 1) i (q))))), some (.int (nI (q)))]) dX7_minimalOf_42 (by decide) rfl rfl ?_
    refine G.hp (congrArg (fun z => M.set 148 (.inl (0, 16, .inl (fun j => nI (z j))))) (mdk_top (m := m) (r := pwr m (exq (2 ^ m - 1) i (q))) (deg := q)).symm) (lp_mdk (c := nup (mdc m i md q) (q + 1) (mdc m i md q q)) hO hp hq hmd hF hpl (by omega) (fun j hj => by show nup _ _ _ j < _; unfold nup; rw [if_neg (by omega)]; exact hlt j hj) ?_ q (Nat.le_refl _))
    refine x_aload_n dX7_minimalOf_85 rfl rfl ?_
    refine x_getf (ci := 6) (kf := 20) dX7_minimalOf_86 rfl uX7 (by decide) fl_RX7_39 (gn hO (by decide)) rfl ?_
    refine x_iconst (y := nI 0) dX7_minimalOf_89 rfl ?_
    refine x_aload_n dX7_minimalOf_90 rfl rfl ?_
    refine x_aload_n dX7_minimalOf_91 rfl rfl ?_
    refine x_getf (ci := 6) (kf := 20) dX7_minimalOf_92 rfl uX7 (by decide) fl_RX7_39 (gn hO (by decide)) rfl ?_
    refine x_iconst (y := nI 0) dX7_minimalOf_95 rfl ?_
    refine x_ild (j := 0) dX7_minimalOf_96 (gs hmd) rfl (by omega) (by decide) ?_
    refine x_casti (y := nI (mdc m i md q 0)) (by rw [mdk_lo (Nat.le_refl _)]; rfl) ?_
    refine x_iload dX7_minimalOf_97 rfl ?_
    refine x_callV (ci := 6) (as := [.int (nI (mdc m i md q 0)), .int (nI (pwr m (exq (2 ^ m - 1) i (q))))]) dX7_minimalOf_99 mk_X7_by in_X7_by se_X7_by ml_RX7_72 rfl (gn hO (by decide)) (by decide) rfl rfl (Nat.le_of_ble_eq_true rfl) (c_by (gn hO (by decide)) (gn hp (by decide)) (gn hq (by decide)) hF (hlt 0 (by omega)) hpl) ?_
    refine x_ist (j := 0) (M1 := (M.set (148) (.inl (0, 16, .inl (fun j => nI ((mdc m i md (q + 1)) j)))))) dX7_minimalOf_102 (gs hmd) rfl (by omega) (by decide) (by rw [show upd (fun j => nI ((mdk m (nup (mdc m i md q) (q + 1) (mdc m i md q q)) (pwr m (exq (2 ^ m - 1) i (q))) q 0) j)) (0) (nI (fmul m (mdc m i md q 0) (pwr m (exq (2 ^ m - 1) i (q))))) = (fun j => nI ((mdc m i md (q + 1)) j)) from nup_eq] <;> exact (ss0)) ?_
    refine x_iinc (y := nI (q + 1)) (ls' := [some (.ref (138)), some (.int (nI i)), some (.int (nI (q + 1))), some (.int (nI (exq (2 ^ m - 1) i (q)))), some (.int (nI true.toNat)), some (.int (nI (pwr m (exq (2 ^ m - 1) i (q))))), some (.int (nI 0))]) dX7_minimalOf_103 (by decide) rfl rfl (ii_add _ 1) rfl ?_
    refine x_iconst (y := nI 2) dX7_minimalOf_106 rfl ?_
    refine x_iload_n dX7_minimalOf_107 rfl rfl ?_
    refine x_imul dX7_minimalOf_108 ?_
    refine x_casti (y := nI (2 * exq (2 ^ m - 1) i (q))) (pk_mul _ _) ?_
    refine x_aload_n dX7_minimalOf_109 rfl rfl ?_
    refine x_getf (ci := 6) (kf := 6) dX7_minimalOf_110 rfl uX7 (by decide) fl_RX7_64 (gn hO (by decide)) rfl ?_
    refine x_irem dX7_minimalOf_113 (nI_nz (by omega) (by omega)) ?_
    refine x_casti (y := nI (exq (2 ^ m - 1) i (q + 1))) (by rw [rem_n (by omega) (by omega) (by omega)]; exact congrArg nI (dbl_mod hE).symm) ?_
    refine x_istore_n (ls' := [some (.ref (138)), some (.int (nI i)), some (.int (nI (q + 1))), some (.int (nI (exq (2 ^ m - 1) i (q + 1)))), some (.int (nI true.toNat)), some (.int (nI (pwr m (exq (2 ^ m - 1) i (q))))), some (.int (nI 0))]) dX7_minimalOf_114 rfl (by decide) rfl rfl ?_
    refine x_iload_n dX7_minimalOf_115 rfl rfl ?_
    refine x_iload_n dX7_minimalOf_116 rfl rfl ?_
    refine x_icmp_eq (tgt := 124) dX7_minimalOf_117 (by decide) (fun h117 => ?_) (fun h117 => ?_)
    · refine x_iconst (y := nI 0) dX7_minimalOf_124 rfl ?_
      refine x_istore (ls' := [some (.ref (138)), some (.int (nI i)), some (.int (nI (q + 1))), some (.int (nI (exq (2 ^ m - 1) i (q + 1)))), some (.int (nI 0)), some (.int (nI (pwr m (exq (2 ^ m - 1) i (q))))), some (.int (nI 0))]) dX7_minimalOf_125 (by decide) rfl rfl ?_
      refine x_goto (tgt := 14) dX7_minimalOf_127 (by decide) ?_
      have e2 : mor (2 ^ m - 1) i (q + 1) = false := by unfold mor; rw [decide_eq_false (by omega), decide_eq_false (fun z => z ((nI_eq (by have := exq_lt hi (q + 1); omega) (by omega)).mp h117))]; rfl
      have hk := ih (q + 1) (by omega)
      rw [e2] at hk
      refine mn_fw ?_
      exact hk
    · refine x_iconst (y := nI 1) dX7_minimalOf_120 rfl ?_
      refine x_goto (tgt := 125) dX7_minimalOf_121 (by decide) ?_
      refine x_istore (ls' := [some (.ref (138)), some (.int (nI i)), some (.int (nI (q + 1))), some (.int (nI (exq (2 ^ m - 1) i (q + 1)))), some (.int (nI 1)), some (.int (nI (pwr m (exq (2 ^ m - 1) i (q))))), some (.int (nI 0))]) dX7_minimalOf_125 (by decide) rfl rfl ?_
      refine x_goto (tgt := 14) dX7_minimalOf_127 (by decide) ?_
      have e2 : mor (2 ^ m - 1) i (q + 1) = true := by unfold mor; rw [decide_eq_false (by omega), decide_eq_true (p := exq (2 ^ m - 1) i (q + 1) ≠ i) (fun z => h117 (by rw [z]))]; rfl
      have hk := ih (q + 1) (by omega)
      rw [e2] at hk
      refine mn_fw ?_
      exact hk
theorem lp_mnum {X : Ev} {M0 M : Hp} {op : Int32} {m t d r n tn : Nat} {me ri lt : Int32} (hO : M[138]? = some (.inr (6, [.int (op), .int (nI m), .int (nI t), .int (nI d), .int (nI r), .int (nI n), .int (nI (2 ^ m - 1)), .ref (139), .ref (140), .ref (141), .ref (142), .ref (143), .ref (144), .ref (145), .ref (146), .ref (147), .int (nI tn), .int (me), .int (ri), .int (lt), .ref (148), .ref (149), .ref (150), .ref (151), .ref (152), .ref (153), .ref (154)]))) {pw : Nat → Int32} (hp : M[139]? = some (.inl (0, 8192, .inl (pw)))) {lg : Nat → Int32} (hq : M[140]? = some (.inl (0, 8192, .inl (lg)))) {md : Nat → Nat} (hmd : M[148]? = some (.inl (0, 16, .inl (fun j => nI ((md) j))))) (hF : FT pw lg m) {i : Nat} (hi : i < 2 ^ m - 1) : ∀ (zz q : Nat), q + zz = (csize i m) + 1 → G X 2 jX7_minimalOf M0 136 [some (.ref (138)), some (.int (nI i)), some (.int (nI (csize i m))), some (.int (nI i)), some (.int (nI false.toNat)), some (.int (nI (mnum (mdc m i md (csize i m)) (q)))), some (.int (nI (q)))] [] (M.set (148) (.inl (0, 16, .inl (fun j => nI ((mdc m i md ((csize i m))) j))))) (some (.int (nI (mnum (mdc m i md (csize i m)) ((csize i m) + 1))))) (M.set (148) (.inl (0, 16, .inl (fun j => nI ((mdc m i md ((csize i m))) j))))) := by
  have ht := two_le hF.1.1 hF.1.2
  have hm3 := hF.1.1
  have hm13 := hF.1.2
  have hcs := csize_le (i := i) (m := m) (by omega)
  intro zz
  induction zz with
  | zero =>
    intro q hqq
    have hqq : q = (csize i m) + 1 := by omega
    subst hqq
    refine x_iload dX7_minimalOf_136 rfl ?_
    refine x_iload_n dX7_minimalOf_138 rfl rfl ?_
    refine x_icmp_gt (tgt := 163) dX7_minimalOf_139 (by decide) (fun _ => ?_) (fun h => False.elim (h ((nI_ltI (by omega) (by omega)).mpr (by omega))))
    refine x_iload dX7_minimalOf_163 rfl ?_
    exact x_ireturn_eq dX7_minimalOf_165 rfl rfl
  | succ zz ih =>
    intro q hqq
    have hlt := mdc_lt (i := i) (md := md) hF.1.1 hF.1.2 (csize i m) q (by omega)
    refine x_iload dX7_minimalOf_136 rfl ?_
    refine x_iload_n dX7_minimalOf_138 rfl rfl ?_
    refine x_icmp_gt (tgt := 163) dX7_minimalOf_139 (by decide) (fun h => False.elim (absurd ((nI_ltI (by omega) (by omega)).mp h) (by omega))) (fun _ => ?_)
    refine x_iload dX7_minimalOf_142 rfl ?_
    refine x_aload_n dX7_minimalOf_144 rfl rfl ?_
    refine x_getf (ci := 6) (kf := 20) dX7_minimalOf_145 rfl uX7 (by decide) fl_RX7_39 (gn hO (by decide)) rfl ?_
    refine x_iload dX7_minimalOf_148 rfl ?_
    refine x_ild (j := q) dX7_minimalOf_150 (gs hmd) rfl (by omega) (by decide) ?_
    refine x_iload dX7_minimalOf_151 rfl ?_
    refine x_ishl dX7_minimalOf_153 ?_
    refine x_casti (y := nI (mdc m i md (csize i m) q * 2 ^ q)) (sl_k (by omega) (by omega)) ?_
    refine x_ior dX7_minimalOf_154 ?_
    refine x_casti (y := nI (mnum (mdc m i md (csize i m)) (q + 1))) (nI_or _ _) ?_
    refine x_istore (ls' := [some (.ref (138)), some (.int (nI i)), some (.int (nI (csize i m))), some (.int (nI i)), some (.int (nI false.toNat)), some (.int (nI (mnum (mdc m i md (csize i m)) (q + 1)))), some (.int (nI (q)))]) dX7_minimalOf_155 (by decide) rfl rfl ?_
    refine x_iinc (y := nI ((q) + 1)) (ls' := [some (.ref (138)), some (.int (nI i)), some (.int (nI (csize i m))), some (.int (nI i)), some (.int (nI false.toNat)), some (.int (nI (mnum (mdc m i md (csize i m)) (q + 1)))), some (.int (nI ((q) + 1)))]) dX7_minimalOf_157 (by decide) rfl rfl (ii_add _ 1) rfl ?_
    refine x_goto (tgt := 136) dX7_minimalOf_160 (by decide) ?_
    exact ih (q + 1) (by omega)
theorem c_minimalOf {X : Ev} {M : Hp} {op : Int32} {m t d r n tn : Nat} {me ri lt : Int32} (hO : M[138]? = some (.inr (6, [.int (op), .int (nI m), .int (nI t), .int (nI d), .int (nI r), .int (nI n), .int (nI (2 ^ m - 1)), .ref (139), .ref (140), .ref (141), .ref (142), .ref (143), .ref (144), .ref (145), .ref (146), .ref (147), .int (nI tn), .int (me), .int (ri), .int (lt), .ref (148), .ref (149), .ref (150), .ref (151), .ref (152), .ref (153), .ref (154)]))) {pw : Nat → Int32} (hp : M[139]? = some (.inl (0, 8192, .inl (pw)))) {lg : Nat → Int32} (hq : M[140]? = some (.inl (0, 8192, .inl (lg)))) {md : Nat → Nat} (hmd : M[148]? = some (.inl (0, 16, .inl (fun j => nI ((md) j))))) (hF : FT pw lg m) {i : Nat} (hi : i < 2 ^ m - 1) : Cl X 2 jX7_minimalOf [.ref (138), .int (nI i)] M (some (.int (nI (mpoly m i)))) (M.set (148) (.inl (0, 16, .inl (fun j => nI ((mdc m i md ((csize i m))) j))))) := by
  have ht := two_le hF.1.1 hF.1.2
  have hm3 := hF.1.1
  have hm13 := hF.1.2
  have hcs := csize_le (i := i) (m := m) (by omega)
  have hsp := csize_spec (by omega) hi
  have e : mor (2 ^ m - 1) i (csize i m) = false := by unfold mor; rw [hsp.1, decide_eq_false (by omega), decide_eq_false (fun z => z rfl)]; rfl
  have eN : mpoly m i = mnum (mdc m i md (csize i m)) ((csize i m) + 1) := by unfold mpoly; rw [Nat.mod_eq_of_lt hi]; exact mnum_congr _ (fun j hj => (mdc_mpc _ _ (by omega)).symm)
  rw [eN]
  refine Cl.of (ls := [some (.ref (138)), some (.int (nI i)), none, none, none, none, none]) (by decide) rfl (Nat.le_of_ble_eq_true rfl) ?_
  refine x_iconst (y := nI 0) dX7_minimalOf_0 rfl ?_
  refine x_istore_n (ls' := [some (.ref (138)), some (.int (nI i)), some (.int (nI 0)), none, none, none, none]) dX7_minimalOf_1 rfl (by decide) rfl rfl ?_
  refine x_aload_n dX7_minimalOf_2 rfl rfl ?_
  refine x_getf (ci := 6) (kf := 20) dX7_minimalOf_3 rfl uX7 (by decide) fl_RX7_39 hO rfl ?_
  refine x_iconst (y := nI 0) dX7_minimalOf_6 rfl ?_
  refine x_iconst (y := nI 1) dX7_minimalOf_7 rfl ?_
  refine x_ist (j := 0) (M1 := (M.set (148) (.inl (0, 16, .inl (fun j => nI ((nup md (0) (1)) j)))))) dX7_minimalOf_8 hmd rfl (by omega) (by decide) (by rw [show upd (fun j => nI ((md) j)) (0) (nI 1) = (fun j => nI ((nup md (0) (1)) j)) from nup_eq] <;> exact rfl) ?_
  refine x_iload_n dX7_minimalOf_9 rfl rfl ?_
  refine x_istore_n (ls' := [some (.ref (138)), some (.int (nI i)), some (.int (nI 0)), some (.int (nI i)), none, none, none]) dX7_minimalOf_10 rfl (by decide) rfl rfl ?_
  refine x_iconst (y := nI 1) dX7_minimalOf_11 rfl ?_
  refine x_istore (ls' := [some (.ref (138)), some (.int (nI i)), some (.int (nI 0)), some (.int (nI i)), some (.int (nI 1)), none, none]) dX7_minimalOf_12 (by decide) rfl rfl ?_
  refine lp_mdc hO hp hq hmd hF hi ?_ (csize i m) 0 (by omega)
  rw [e, hsp.1]
  refine x_iconst (y := nI 0) dX7_minimalOf_130 rfl ?_
  refine x_istore (ls' := [some (.ref (138)), some (.int (nI i)), some (.int (nI (csize i m))), some (.int (nI i)), some (.int (nI false.toNat)), some (.int (nI 0)), none]) dX7_minimalOf_131 (by decide) rfl rfl ?_
  refine x_iconst (y := nI 0) dX7_minimalOf_133 rfl ?_
  refine x_istore (ls' := [some (.ref (138)), some (.int (nI i)), some (.int (nI (csize i m))), some (.int (nI i)), some (.int (nI false.toNat)), some (.int (nI 0)), some (.int (nI 0))]) dX7_minimalOf_134 (by decide) rfl rfl ?_
  exact lp_mnum hO hp hq hmd hF hi ((csize i m) + 1) 0 (by omega)
theorem redl_mul {k e n : Nat} (hk : k < 2 ^ 20) (he : e < 2 ^ 20) : redl ((nI k).toInt64 * (nI e).toInt64) n = k * e % n := by
  unfold redl
  have h : ((nI k).toInt64 * (nI e).toInt64).toInt = ((k * e : Nat) : Int) := by
    have hb : k * e < 2 ^ 40 := Nat.lt_of_lt_of_le (Nat.mul_lt_mul'' hk he) (by decide)
    rw [Int64.toInt_mul, nI_L (by omega), nI_L (by omega), ← Int.natCast_mul, Int.bmod_eq_of_le] <;> omega
  rw [h, ← Int.natCast_emod, Int.toNat_natCast]
theorem lp_gat {X : Ev} {M0 M : Hp} {op : Int32} {m t d r n tn : Nat} {me ri lt : Int32} (hO : M[138]? = some (.inr (6, [.int (op), .int (nI m), .int (nI t), .int (nI d), .int (nI r), .int (nI n), .int (nI (2 ^ m - 1)), .ref (139), .ref (140), .ref (141), .ref (142), .ref (143), .ref (144), .ref (145), .ref (146), .ref (147), .int (nI tn), .int (me), .int (ri), .int (lt), .ref (148), .ref (149), .ref (150), .ref (151), .ref (152), .ref (153), .ref (154)]))) {pw : Nat → Int32} (hp : M[139]? = some (.inl (0, 8192, .inl (pw)))) {gg : Nat → Bool} (hgg : M[141]? = some (.inl (0, 210, .inl (fun j => nI ((gg) j).toNat)))) {lg : Nat → Int32} (hF : FT pw lg m) {deg e : Nat} (hdg : deg < 210) (he : e < 2 ^ m) : ∀ (zz q : Nat), q + zz = deg + 1 → G X 1 jX7_generatorAt M0 5 [some (.ref (138)), some (.int (nI deg)), some (.int (nI e)), some (.int (nI (rsum m gg e (q)))), some (.int (nI (q)))] [] M (some (.int (nI (rsum m gg e (deg + 1))))) M := by
  have ht := two_le hF.1.1 hF.1.2
  have hm3 := hF.1.1
  have hm13 := hF.1.2
  intro zz
  induction zz with
  | zero =>
    intro q hqq
    have hqq : q = deg + 1 := by omega
    subst hqq
    refine x_iload dX7_generatorAt_5 rfl ?_
    refine x_iload_n dX7_generatorAt_7 rfl rfl ?_
    refine x_icmp_gt (tgt := 50) dX7_generatorAt_8 (by decide) (fun _ => ?_) (fun h => False.elim (h ((nI_ltI (by omega) (by omega)).mpr (by omega))))
    refine x_iload_n dX7_generatorAt_50 rfl rfl ?_
    exact x_ireturn_eq dX7_generatorAt_51 rfl rfl
  | succ zz ih =>
    intro q hqq
    have e1 : rsum m gg e (q + 1) = if gg q then rsum m gg e q ^^^ pwr m (q * e) else rsum m gg e q := rfl
    refine x_iload dX7_generatorAt_5 rfl ?_
    refine x_iload_n dX7_generatorAt_7 rfl rfl ?_
    refine x_icmp_gt (tgt := 50) dX7_generatorAt_8 (by decide) (fun h => False.elim (absurd ((nI_ltI (by omega) (by omega)).mp h) (by omega))) (fun _ => ?_)
    refine x_iload_n dX7_generatorAt_11 rfl rfl ?_
    refine x_aload_n dX7_generatorAt_12 rfl rfl ?_
    refine x_getf (ci := 6) (kf := 9) dX7_generatorAt_13 rfl uX7 (by decide) fl_RX7_16 hO rfl ?_
    refine x_iload dX7_generatorAt_16 rfl ?_
    refine x_ild (j := q) dX7_generatorAt_18 hgg rfl (by omega) (by decide) ?_
    refine x_iconst (y := nI 1) dX7_generatorAt_19 rfl ?_
    refine x_icmp_ne (tgt := 41) dX7_generatorAt_20 (by decide) (fun h20 => ?_) (fun h20 => ?_)
    · refine x_iconst (y := nI 0) dX7_generatorAt_41 rfl ?_
      refine x_ixor dX7_generatorAt_42 ?_
      refine x_casti (y := nI (rsum m gg e (q + 1))) (by rw [nI_xor, Nat.xor_zero, e1, if_neg (rb0 h20)]) ?_
      refine x_istore_n (ls' := [some (.ref (138)), some (.int (nI deg)), some (.int (nI e)), some (.int (nI (rsum m gg e (q + 1)))), some (.int (nI (q)))]) dX7_generatorAt_43 rfl (by decide) rfl rfl ?_
      refine x_iinc (y := nI ((q) + 1)) (ls' := [some (.ref (138)), some (.int (nI deg)), some (.int (nI e)), some (.int (nI (rsum m gg e (q + 1)))), some (.int (nI ((q) + 1)))]) dX7_generatorAt_44 (by decide) rfl rfl (ii_add _ 1) rfl ?_
      refine x_goto (tgt := 5) dX7_generatorAt_47 (by decide) ?_
      exact ih (q + 1) (by omega)
    · refine x_aload_n dX7_generatorAt_23 rfl rfl ?_
      refine x_getf (ci := 6) (kf := 7) dX7_generatorAt_24 rfl uX7 (by decide) fl_RX7_7 hO rfl ?_
      refine x_aload_n dX7_generatorAt_27 rfl rfl ?_
      refine x_iload dX7_generatorAt_28 rfl ?_
      refine x_i2l dX7_generatorAt_30 ?_
      refine x_iload_n dX7_generatorAt_31 rfl rfl ?_
      refine x_i2l dX7_generatorAt_32 ?_
      refine x_lmul dX7_generatorAt_33 ?_
      refine x_callV (ci := 6) (as := [.long (((nI (q)).toInt64) * ((nI e).toInt64))]) dX7_generatorAt_34 mk_X7_exponent in_X7_exponent se_X7_exponent ml_RX7_76 rfl hO (by decide) rfl rfl (Nat.le_of_ble_eq_true rfl) (c_exponent hO (by omega) hm13) ?_
      refine x_casti (y := nI (q * e % (2 ^ m - 1))) (by rw [redl_mul (by omega) (by omega)]) ?_
      refine x_ild (j := q * e % (2 ^ m - 1)) dX7_generatorAt_37 hp rfl (by have := Nat.mod_lt (q * e) (show 0 < 2 ^ m - 1 by omega); omega) (by decide) ?_
      refine x_casti (y := nI (pwr m (q * e))) (by rw [(hF.2 _ (Nat.mod_lt _ (by omega))).1, pwr_mod hm3 hm13]) ?_
      refine x_goto (tgt := 42) dX7_generatorAt_38 (by decide) ?_
      refine x_ixor dX7_generatorAt_42 ?_
      refine x_casti (y := nI (rsum m gg e (q + 1))) (by rw [nI_xor, e1, if_pos (rb1 h20)]) ?_
      refine x_istore_n (ls' := [some (.ref (138)), some (.int (nI deg)), some (.int (nI e)), some (.int (nI (rsum m gg e (q + 1)))), some (.int (nI (q)))]) dX7_generatorAt_43 rfl (by decide) rfl rfl ?_
      refine x_iinc (y := nI ((q) + 1)) (ls' := [some (.ref (138)), some (.int (nI deg)), some (.int (nI e)), some (.int (nI (rsum m gg e (q + 1)))), some (.int (nI ((q) + 1)))]) dX7_generatorAt_44 (by decide) rfl rfl (ii_add _ 1) rfl ?_
      refine x_goto (tgt := 5) dX7_generatorAt_47 (by decide) ?_
      exact ih (q + 1) (by omega)
theorem c_generatorAt {X : Ev} {M : Hp} {op : Int32} {m t d r n tn : Nat} {me ri lt : Int32} (hO : M[138]? = some (.inr (6, [.int (op), .int (nI m), .int (nI t), .int (nI d), .int (nI r), .int (nI n), .int (nI (2 ^ m - 1)), .ref (139), .ref (140), .ref (141), .ref (142), .ref (143), .ref (144), .ref (145), .ref (146), .ref (147), .int (nI tn), .int (me), .int (ri), .int (lt), .ref (148), .ref (149), .ref (150), .ref (151), .ref (152), .ref (153), .ref (154)]))) {pw : Nat → Int32} (hp : M[139]? = some (.inl (0, 8192, .inl (pw)))) {gg : Nat → Bool} (hgg : M[141]? = some (.inl (0, 210, .inl (fun j => nI ((gg) j).toNat)))) {lg : Nat → Int32} (hF : FT pw lg m) {deg e : Nat} (hdg : deg < 210) (he : e < 2 ^ m) : Cl X 1 jX7_generatorAt [.ref (138), .int (nI deg), .int (nI e)] M (some (.int (nI (rsum m gg e (deg + 1))))) M := by
  refine Cl.of (ls := [some (.ref (138)), some (.int (nI deg)), some (.int (nI e)), none, none]) (by decide) rfl (Nat.le_of_ble_eq_true rfl) ?_
  refine x_iconst (y := nI 0) dX7_generatorAt_0 rfl ?_
  refine x_istore_n (ls' := [some (.ref (138)), some (.int (nI deg)), some (.int (nI e)), some (.int (nI 0)), none]) dX7_generatorAt_1 rfl (by decide) rfl rfl ?_
  refine x_iconst (y := nI 0) dX7_generatorAt_2 rfl ?_
  refine x_istore (ls' := [some (.ref (138)), some (.int (nI deg)), some (.int (nI e)), some (.int (nI 0)), some (.int (nI 0))]) dX7_generatorAt_3 (by decide) rfl rfl ?_
  exact lp_gat hO hp hgg hF hdg he (deg + 1) 0 (by omega)
