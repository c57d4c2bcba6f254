/-! FIELD: its tables made; polynomials over it -/
def tpw (pw : Nat → Int32) (m n : Nat) : Nat → Int32 := fun j => if j < n then nI (pwr m j) else pw j
def tlg (lg : Nat → Int32) (m : Nat) : Nat → (Nat → Int32)
  | 0 => lg
  | i + 1 => upd (tlg lg m i) (pwr m i) (nI i)
theorem tpw_step {pw : Nat → Int32} {m i : Nat} : upd (tpw pw m i) i (nI (pwr m i)) = tpw pw m (i + 1) := by
  funext j
  by_cases h : j = i
  · subst h; simp [upd, tpw]
  · rw [pk_un h]; unfold tpw; by_cases h2 : j < i
    · rw [if_pos h2, if_pos (by omega)]
    · rw [if_neg h2, if_neg (by omega)]
theorem tlg_at {lg : Nat → Int32} {m : Nat} (h3 : 3 ≤ m) (h13 : m ≤ 13) : ∀ (k i : Nat), k ≤ 2 ^ m - 1 → i < k → tlg lg m k (pwr m i) = nI i
  | 0, i, _, h => absurd h (by omega)
  | k + 1, i, hk, h => by
    show upd (tlg lg m k) (pwr m k) (nI k) (pwr m i) = nI i
    by_cases he : i = k
    · subst he; exact pk_us
    · rw [pk_un (fun z => he (pwr_inj h3 h13 (by omega) (by omega) z))]
      exact tlg_at h3 h13 k i (by omega) (by omega)
theorem FT.made {pw lg : Nat → Int32} {m : Nat} (h3 : 3 ≤ m) (h13 : m ≤ 13) : FT (tpw pw m (2 ^ m - 1)) (tlg lg m (2 ^ m - 1)) m :=
  ⟨⟨h3, h13⟩, fun i hi => ⟨if_pos hi, tlg_at h3 h13 _ i (Nat.le_refl _) hi⟩⟩
theorem mulx_hi {m a : Nat} (h : 2 ^ m ≤ 2 * a) : (2 * a) ^^^ pn m = mulx m a := by unfold mulx; rw [if_pos h]
theorem mulx_lo {m a : Nat} (h : ¬ 2 ^ m ≤ 2 * a) : 2 * a = mulx m a := by unfold mulx; rw [if_neg h]
theorem sl_1 {a : Nat} (h : a < 2 ^ 20) : nI a <<< (nI 1 &&& 31) = nI (2 * a) := by
  rw [pk_shlN _ 1 (by decide) (by omega)]; congr 1; omega
theorem lp_become {X : Ev} {d : Nat} {M0 M M' : Hp} {v : Option Value} {o p q c m : Nat} {mm od : Int32} {pw lg : Nat → Int32} (ho : M[o]? = some (.inr (1, [.ref (p), .ref (q), .ref (c), .int (mm), .int (od)]))) (hp : M[p]? = some (.inl (0, 8192, .inl (pw)))) (hq : M[q]? = some (.inl (0, 8192, .inl (lg)))) (h3 : 3 ≤ m) (h13 : m ≤ 13) (hop : o ≠ p) (hoq : o ≠ q) (hpq : p ≠ q) (k : G X d jX2_become M0 83 [some (.ref (o)), some (.int (nI m)), some (.int (nI (pn m))), some (.int (nI (pwr m ((2 ^ m - 1))))), some (.int (nI ((2 ^ m - 1))))] [] (((M.set (o) (.inr (1, [.ref (p), .ref (q), .ref (c), .int (nI m), .int (nI (2 ^ m - 1))]))).set (p) (.inl (0, 8192, .inl (tpw pw m ((2 ^ m - 1)))))).set (q) (.inl (0, 8192, .inl (tlg lg m ((2 ^ m - 1)))))) v M') : ∀ (r i : Nat), i + r = (2 ^ m - 1) → G X d jX2_become M0 36 [some (.ref (o)), some (.int (nI m)), some (.int (nI (pn m))), some (.int (nI (pwr m (i)))), some (.int (nI (i)))] [] (((M.set (o) (.inr (1, [.ref (p), .ref (q), .ref (c), .int (nI m), .int (nI (2 ^ m - 1))]))).set (p) (.inl (0, 8192, .inl (tpw pw m (i))))).set (q) (.inl (0, 8192, .inl (tlg lg m (i))))) v M' := by
  have ht := two_le h3 h13
  have hpl := pwr_lt h3 h13
  intro r
  induction r with
  | zero =>
    intro i hi
    have hpi := hpl i
    have hi : i = (2 ^ m - 1) := by omega
    subst hi
    refine x_iload dX2_become_36 rfl ?_
    refine x_aload_n dX2_become_38 rfl rfl ?_
    refine x_getf (ci := 1) (kf := 4) dX2_become_39 rfl uX2 (by decide) fl_RX2_25 (gn (gn (gs ho) (Ne.symm hop)) (Ne.symm hoq)) rfl ?_
    refine x_icmp_ge (tgt := 83) dX2_become_42 (by decide) (fun _ => ?_) (fun h => False.elim (h (nI_le (Nat.le_refl _) (by omega))))
    exact k
  | succ r ih =>
    intro i hi
    have hpi := hpl i
    refine x_iload dX2_become_36 rfl ?_
    refine x_aload_n dX2_become_38 rfl rfl ?_
    refine x_getf (ci := 1) (kf := 4) dX2_become_39 rfl uX2 (by decide) fl_RX2_25 (gn (gn (gs ho) (Ne.symm hop)) (Ne.symm hoq)) rfl ?_
    refine x_icmp_ge (tgt := 83) dX2_become_42 (by decide) (fun h => False.elim (nI_ge (by omega : i < 2 ^ m - 1) (by omega) h)) (fun _ => ?_)
    refine x_aload_n dX2_become_45 rfl rfl ?_
    refine x_getf (ci := 1) (kf := 0) dX2_become_46 rfl uX2 (by decide) fl_RX2_9 (gn (gn (gs ho) (Ne.symm hop)) (Ne.symm hoq)) rfl ?_
    refine x_iload dX2_become_49 rfl ?_
    refine x_iload_n dX2_become_51 rfl rfl ?_
    refine x_ist (j := i) (M1 := (((M.set (o) (.inr (1, [.ref (p), .ref (q), .ref (c), .int (nI m), .int (nI (2 ^ m - 1))]))).set (p) (.inl (0, 8192, .inl (tpw pw m (i + 1))))).set (q) (.inl (0, 8192, .inl (tlg lg m (i)))))) dX2_become_52 (gn (gs (gn hp hop)) (Ne.symm hpq)) rfl (by omega) (by decide) (by rw [show upd (tpw pw m (i)) (i) (nI (pwr m (i))) = (tpw pw m (i + 1)) from tpw_step] <;> exact (ss1 hpq)) ?_
    refine x_aload_n dX2_become_53 rfl rfl ?_
    refine x_getf (ci := 1) (kf := 1) dX2_become_54 rfl uX2 (by decide) fl_RX2_15 (gn (gn (gs ho) (Ne.symm hop)) (Ne.symm hoq)) rfl ?_
    refine x_iload_n dX2_become_57 rfl rfl ?_
    refine x_iload dX2_become_58 rfl ?_
    refine x_ist (j := pwr m (i)) (M1 := (((M.set (o) (.inr (1, [.ref (p), .ref (q), .ref (c), .int (nI m), .int (nI (2 ^ m - 1))]))).set (p) (.inl (0, 8192, .inl (tpw pw m (i + 1))))).set (q) (.inl (0, 8192, .inl (tlg lg m (i + 1)))))) dX2_become_60 (gs (gn (gn hq hoq) hpq)) rfl (by omega) (by decide) (by rw [show upd (tlg lg m (i)) (pwr m (i)) (nI (i)) = (tlg lg m (i + 1)) from rfl] <;> exact (ss0)) ?_
    refine x_iload_n dX2_become_61 rfl rfl ?_
    refine x_iconst (y := nI 1) dX2_become_62 rfl ?_
    refine x_ishl dX2_become_63 ?_
    refine x_casti (y := nI (2 * pwr m i)) (sl_1 (by omega)) ?_
    refine x_istore_n (ls' := [some (.ref (o)), some (.int (nI m)), some (.int (nI (pn m))), some (.int (nI (2 * pwr m i))), some (.int (nI (i)))]) dX2_become_64 rfl (by decide) rfl rfl ?_
    refine x_iload_n dX2_become_65 rfl rfl ?_
    refine x_aload_n dX2_become_66 rfl rfl ?_
    refine x_getf (ci := 1) (kf := 4) dX2_become_67 rfl uX2 (by decide) fl_RX2_25 (gn (gn (gs ho) (Ne.symm hop)) (Ne.symm hoq)) rfl ?_
    refine x_icmp_le (tgt := 77) dX2_become_70 (by decide) (fun h70 => ?_) (fun h70 => ?_)
    · refine x_iinc (y := nI ((i) + 1)) (ls' := [some (.ref (o)), some (.int (nI m)), some (.int (nI (pn m))), some (.int (nI (2 * pwr m i))), some (.int (nI ((i) + 1)))]) dX2_become_77 (by decide) rfl rfl (ii_add _ 1) rfl ?_
      refine x_goto (tgt := 36) dX2_become_80 (by decide) ?_
      rw [show (2 * pwr m i) = pwr m (i + 1) from (mulx_lo (by have := (nI_leI (by omega) (by omega)).mp h70; omega))]
      exact ih (i + 1) (by omega)
    · refine x_iload_n dX2_become_73 rfl rfl ?_
      refine x_iload_n dX2_become_74 rfl rfl ?_
      refine x_ixor dX2_become_75 ?_
      refine x_casti (y := nI ((2 * pwr m i) ^^^ pn m)) (nI_xor _ _) ?_
      refine x_istore_n (ls' := [some (.ref (o)), some (.int (nI m)), some (.int (nI (pn m))), some (.int (nI ((2 * pwr m i) ^^^ pn m))), some (.int (nI (i)))]) dX2_become_76 rfl (by decide) rfl rfl ?_
      refine x_iinc (y := nI ((i) + 1)) (ls' := [some (.ref (o)), some (.int (nI m)), some (.int (nI (pn m))), some (.int (nI ((2 * pwr m i) ^^^ pn m))), some (.int (nI ((i) + 1)))]) dX2_become_77 (by decide) rfl rfl (ii_add _ 1) rfl ?_
      refine x_goto (tgt := 36) dX2_become_80 (by decide) ?_
      rw [show ((2 * pwr m i) ^^^ pn m) = pwr m (i + 1) from (mulx_hi (by have hz := Nat.lt_of_not_le (fun z : 2 * pwr m i ≤ 2 ^ m - 1 => h70 (nI_le z (by omega))); omega))]
      exact ih (i + 1) (by omega)
theorem c_becomeM {X : Ev} {M : Hp} {o p q c m : Nat} {mm od : Int32} {pw lg : Nat → Int32} (ho : M[o]? = some (.inr (1, [.ref (p), .ref (q), .ref (c), .int (mm), .int (od)]))) (hp : M[p]? = some (.inl (0, 8192, .inl (pw)))) (hq : M[q]? = some (.inl (0, 8192, .inl (lg)))) (h3 : 3 ≤ m) (h13 : m ≤ 13) (hop : o ≠ p) (hoq : o ≠ q) (hpq : p ≠ q) (hne : ¬ nI m = mm) : Cl X 0 jX2_become [.ref (o), .int (nI m)] M none (((M.set o (.inr (1, [.ref (p), .ref (q), .ref (c), .int (nI m), .int (nI (2 ^ m - 1))]))).set p (.inl (0, 8192, .inl (tpw pw m (2 ^ m - 1))))).set q (.inl (0, 8192, .inl (tlg lg m (2 ^ m - 1))))) := by
  have ht := two_le h3 h13
  refine Cl.of (ls := [some (.ref (o)), some (.int (nI m)), none, none, none]) (by decide) rfl (Nat.le_of_ble_eq_true rfl) ?_
  refine x_iload_n dX2_become_0 rfl rfl ?_
  refine x_aload_n dX2_become_1 rfl rfl ?_
  refine x_getf (ci := 1) (kf := 3) dX2_become_2 rfl uX2 (by decide) fl_RX2_21 ho rfl ?_
  refine x_icmp_ne (tgt := 9) dX2_become_5 (by decide) (fun _ => ?_) (fun h => False.elim (absurd h hne))
  refine x_aload_n dX2_become_9 rfl rfl ?_
  refine x_iload_n dX2_become_10 rfl rfl ?_
  refine x_putf (ci := 1) (kf := 3) (ty0 := tyX2) (M1 := (M.set (o) (.inr (1, [.ref (p), .ref (q), .ref (c), .int (nI m), .int (od)])))) dX2_become_11 rfl uX2 tyX2_ok nmX2 (by decide) fl_RX2_21 rfl rfl rfl rfl ho (Nat.le_of_ble_eq_true rfl) rfl ?_
  refine x_aload_n dX2_become_14 rfl rfl ?_
  refine x_iconst (y := nI 1) dX2_become_15 rfl ?_
  refine x_iload_n dX2_become_16 rfl rfl ?_
  refine x_ishl dX2_become_17 ?_
  refine x_casti (y := nI (2 ^ m)) (sl_m (by omega)) ?_
  refine x_iconst (y := nI 1) dX2_become_18 rfl ?_
  refine x_isub dX2_become_19 ?_
  refine x_casti (y := nI (2 ^ m - 1)) (pk_sub (by omega)) ?_
  refine x_putf (ci := 1) (kf := 4) (ty0 := tyX2) (M1 := (M.set (o) (.inr (1, [.ref (p), .ref (q), .ref (c), .int (nI m), .int (nI (2 ^ m - 1))])))) dX2_become_20 rfl uX2 tyX2_ok nmX2 (by decide) fl_RX2_25 rfl rfl rfl rfl (gs ho) (Nat.le_of_ble_eq_true rfl) (ss0) ?_
  refine x_gets dX2_become_23 fl_RX2_28 ?_
  refine x_iload_n dX2_become_26 rfl rfl ?_
  refine x_iconst (y := nI 3) dX2_become_27 rfl ?_
  refine x_isub dX2_become_28 ?_
  refine x_casti (y := nI (m - 3)) (pk_sub h3) ?_
  refine x_pald (j := m - 3) dX2_become_29 rfl (by omega) ?_
  refine x_casti (y := nI (pn m)) (pols_nI h3 h13) ?_
  refine x_istore_n (ls' := [some (.ref (o)), some (.int (nI m)), some (.int (nI (pn m))), none, none]) dX2_become_30 rfl (by decide) rfl rfl ?_
  refine x_iconst (y := nI 1) dX2_become_31 rfl ?_
  refine x_istore_n (ls' := [some (.ref (o)), some (.int (nI m)), some (.int (nI (pn m))), some (.int (nI 1)), none]) dX2_become_32 rfl (by decide) rfl rfl ?_
  refine x_iconst (y := nI 0) dX2_become_33 rfl ?_
  refine x_istore (ls' := [some (.ref (o)), some (.int (nI m)), some (.int (nI (pn m))), some (.int (nI 1)), some (.int (nI 0))]) dX2_become_34 (by decide) rfl rfl ?_
  refine G.hp ?_ (lp_become ho hp hq h3 h13 hop hoq hpq (x_ret dX2_become_83 rfl) (2 ^ m - 1) 0 (by omega))
  have e1 : tpw pw m 0 = pw := by funext j; simp [tpw]
  rw [e1]
  show _ = ((M.set o _).set p _).set q (.inl (0, 8192, .inl (lg)))
  rw [← set_id (M := (M.set o (.inr (1, [.ref (p), .ref (q), .ref (c), .int (nI m), .int (nI (2 ^ m - 1))]))).set p (.inl (0, 8192, .inl (pw)))) (gn (gn hq hoq) hpq) rfl, ← set_id (M := M.set o (.inr (1, [.ref (p), .ref (q), .ref (c), .int (nI m), .int (nI (2 ^ m - 1))]))) (gn hp hop) rfl]
theorem c_becomeS {X : Ev} {M : Hp} {o p q c m : Nat} {od : Int32} (ho : M[o]? = some (.inr (1, [.ref p, .ref q, .ref c, .int (nI m), .int od]))) : Cl X 0 jX2_become [.ref o, .int (nI m)] M none M := by
  refine Cl.of (ls := [some (.ref (o)), some (.int (nI m)), none, none, none]) (by decide) rfl (Nat.le_of_ble_eq_true rfl) ?_
  refine x_iload_n dX2_become_0 rfl rfl ?_
  refine x_aload_n dX2_become_1 rfl rfl ?_
  refine x_getf (ci := 1) (kf := 3) dX2_become_2 rfl uX2 (by decide) fl_RX2_21 ho rfl ?_
  refine x_icmp_ne (tgt := 9) dX2_become_5 (by decide) (fun h => False.elim (h rfl)) (fun _ => ?_)
  exact x_ret dX2_become_8 rfl
/-- a polynomial times x + r; deg is its degree -/
def mbr (m : Nat) (c : Nat → Nat) (r deg : Nat) : Nat → Nat := fun j => if j = 0 then fmul m (c 0) r else if j ≤ deg + 1 then c (j - 1) ^^^ fmul m (c j) r else c j
def mbk (m : Nat) (c : Nat → Nat) (r deg k : Nat) : Nat → Nat := fun j => if k < j ∧ j ≤ deg + 1 then c (j - 1) ^^^ fmul m (c j) r else c j
theorem mbk_step {m : Nat} {c : Nat → Nat} {r deg k : Nat} (hk : k + 1 ≤ deg + 1) : upd (fun j => nI (mbk m c r deg (k + 1) j)) (k + 1) (nI (c k ^^^ fmul m (c (k + 1)) r)) = fun j => nI (mbk m c r deg k j) := by
  funext j
  by_cases h : j = k + 1
  · subst h; rw [pk_us]; unfold mbk; rw [if_pos ⟨by omega, hk⟩]; rfl
  · rw [pk_un h]; unfold mbk; congr 1
    by_cases h2 : k + 1 < j ∧ j ≤ deg + 1
    · rw [if_pos h2, if_pos ⟨by omega, h2.2⟩]
    · rw [if_neg h2, if_neg (fun z => h2 ⟨by omega, z.2⟩)]
theorem mbk_0 {m : Nat} {c : Nat → Nat} {r deg : Nat} : upd (fun j => nI (mbk m c r deg 0 j)) 0 (nI (fmul m (c 0) r)) = fun j => nI (mbr m c r deg j) := by
  funext j
  by_cases h : j = 0
  · subst h; rw [pk_us]; unfold mbr; rw [if_pos rfl]
  · rw [pk_un h]; unfold mbk mbr; rw [if_neg h]; congr 1
    by_cases h2 : j ≤ deg + 1
    · rw [if_pos ⟨by omega, h2⟩, if_pos h2]
    · rw [if_neg (fun z => h2 z.2), if_neg h2]
theorem mbk_top {m : Nat} {c : Nat → Nat} {r deg : Nat} : mbk m c r deg (deg + 1) = c := by
  funext j; unfold mbk; rw [if_neg (by omega)]
theorem mbk_lo {m : Nat} {c : Nat → Nat} {r deg k j : Nat} (h : j ≤ k) : mbk m c r deg k j = c j := by
  unfold mbk; rw [if_neg (by omega)]
theorem nI_m {k : Nat} : nI (k + 1) + Int32.ofInt (-1) = nI k := pk_m1 k
theorem nI_p1 {k : Nat} : nI (k + 1) - nI 1 = nI k := pk_sub (by omega)
theorem lp_mbr {X : Ev} {M0 M M' : Hp} {v : Option Value} {o p q c m : Nat} {pw lg : Nat → Int32} {cf : Nat → Nat} (ho : M[o]? = some (.inr (1, [.ref (p), .ref (q), .ref (c), .int (nI m), .int (nI (2 ^ m - 1))]))) (hp : M[p]? = some (.inl (0, 8192, .inl (pw)))) (hq : M[q]? = some (.inl (0, 8192, .inl (lg)))) (hF : FT pw lg m) (hc : M[c]? = some (.inl (0, 14, .inl (fun j => nI (cf j))))) (hcb : ∀ j, cf j < 2 ^ m) (hco : c ≠ o) (hcp : c ≠ p) (hcq : c ≠ q) {r deg : Nat} (hr : r < 2 ^ m) (hdg : deg + 1 < 14) (k : G X 1 jX2_multiplyByRoot M0 40 [some (.ref (o)), some (.int (nI r)), some (.int (nI deg)), some (.int (nI 0))] [] (M.set c (.inl (0, 14, .inl (fun j => nI (mbk m cf r deg 0 j))))) v M') : ∀ (i : Nat), i ≤ deg + 1 → G X 1 jX2_multiplyByRoot M0 4 [some (.ref (o)), some (.int (nI r)), some (.int (nI deg)), some (.int (nI i))] [] (M.set c (.inl (0, 14, .inl (fun j => nI (mbk m cf r deg i j))))) v M' := by
  have ht := two_le hF.1.1 hF.1.2
  intro i
  induction i with
  | zero =>
    intro hi
    refine x_iload_n dX2_multiplyByRoot_4 rfl rfl ?_
    refine x_if_le (tgt := 40) dX2_multiplyByRoot_5 (by decide) (fun _ => ?_) (fun h => False.elim (h (by decide)))
    exact k
  | succ i ih =>
    intro hi
    refine x_iload_n dX2_multiplyByRoot_4 rfl rfl ?_
    refine x_if_le (tgt := 40) dX2_multiplyByRoot_5 (by decide) (fun h => False.elim (nI_nle (by omega) (by omega) h)) (fun _ => ?_)
    refine x_aload_n dX2_multiplyByRoot_8 rfl rfl ?_
    refine x_getf (ci := 1) (kf := 2) dX2_multiplyByRoot_9 rfl uX2 (by decide) fl_RX2_18 (gn ho hco) rfl ?_
    refine x_iload_n dX2_multiplyByRoot_12 rfl rfl ?_
    refine x_aload_n dX2_multiplyByRoot_13 rfl rfl ?_
    refine x_getf (ci := 1) (kf := 2) dX2_multiplyByRoot_14 rfl uX2 (by decide) fl_RX2_18 (gn ho hco) rfl ?_
    refine x_iload_n dX2_multiplyByRoot_17 rfl rfl ?_
    refine x_iconst (y := nI 1) dX2_multiplyByRoot_18 rfl ?_
    refine x_isub dX2_multiplyByRoot_19 ?_
    refine x_casti (y := nI i) nI_p1 ?_
    refine x_ild (j := i) dX2_multiplyByRoot_20 (gs hc) rfl (by omega) (by decide) ?_
    refine x_casti (y := nI (cf i)) (congrArg nI (mbk_lo (by omega))) ?_
    refine x_aload_n dX2_multiplyByRoot_21 rfl rfl ?_
    refine x_aload_n dX2_multiplyByRoot_22 rfl rfl ?_
    refine x_getf (ci := 1) (kf := 2) dX2_multiplyByRoot_23 rfl uX2 (by decide) fl_RX2_18 (gn ho hco) rfl ?_
    refine x_iload_n dX2_multiplyByRoot_26 rfl rfl ?_
    refine x_ild (j := i + 1) dX2_multiplyByRoot_27 (gs hc) rfl (by omega) (by decide) ?_
    refine x_casti (y := nI (cf (i + 1))) (congrArg nI (mbk_lo (by omega))) ?_
    refine x_iload_n dX2_multiplyByRoot_28 rfl rfl ?_
    refine x_callV (ci := 1) (as := [.int (nI (cf (i + 1))), .int (nI r)]) dX2_multiplyByRoot_29 mk_X2_product in_X2_product se_X2_product ml_RX2_53 rfl (gn ho hco) (by decide) rfl rfl (Nat.le_of_ble_eq_true rfl) (c_product (gn ho hco) (gn hp hcp) (gn hq hcq) hF (hcb _) hr) ?_
    refine x_ixor dX2_multiplyByRoot_32 ?_
    refine x_casti (y := nI (cf i ^^^ fmul m (cf (i + 1)) r)) (nI_xor _ _) ?_
    refine x_ist (j := i + 1) (M1 := (M.set (c) (.inl (0, 14, .inl (fun j => nI (mbk m cf r deg i j)))))) dX2_multiplyByRoot_33 (gs hc) rfl (by omega) (by decide) (by rw [show upd (fun j => nI (mbk m cf r deg (i + 1) j)) (i + 1) (nI (cf i ^^^ fmul m (cf (i + 1)) r)) = (fun j => nI (mbk m cf r deg i j)) from (mbk_step (by omega))] <;> exact (ss0)) ?_
    refine x_iinc (y := nI i) (ls' := [some (.ref (o)), some (.int (nI r)), some (.int (nI deg)), some (.int (nI i))]) dX2_multiplyByRoot_34 (by decide) rfl rfl nI_m rfl ?_
    refine x_goto (tgt := 4) dX2_multiplyByRoot_37 (by decide) ?_
    exact ih (by omega)
theorem c_multiplyByRoot {X : Ev} {M : Hp} {o p q c m : Nat} {pw lg : Nat → Int32} {cf : Nat → Nat} (ho : M[o]? = some (.inr (1, [.ref (p), .ref (q), .ref (c), .int (nI m), .int (nI (2 ^ m - 1))]))) (hp : M[p]? = some (.inl (0, 8192, .inl (pw)))) (hq : M[q]? = some (.inl (0, 8192, .inl (lg)))) (hF : FT pw lg m) (hc : M[c]? = some (.inl (0, 14, .inl (fun j => nI (cf j))))) (hcb : ∀ j, cf j < 2 ^ m) (hco : c ≠ o) (hcp : c ≠ p) (hcq : c ≠ q) {r deg : Nat} (hr : r < 2 ^ m) (hdg : deg + 1 < 14) : Cl X 1 jX2_multiplyByRoot [.ref (o), .int (nI r), .int (nI deg)] M none (M.set c (.inl (0, 14, .inl (fun j => nI (mbr m cf r deg j))))) := by
  have ht := two_le hF.1.1 hF.1.2
  refine Cl.of (ls := [some (.ref (o)), some (.int (nI r)), some (.int (nI deg)), none]) (by decide) rfl (Nat.le_of_ble_eq_true rfl) ?_
  refine x_iload_n dX2_multiplyByRoot_0 rfl rfl ?_
  refine x_iconst (y := nI 1) dX2_multiplyByRoot_1 rfl ?_
  refine x_iadd dX2_multiplyByRoot_2 ?_
  refine x_casti (y := nI (deg + 1)) (nI_add _ _) ?_
  refine x_istore_n (ls' := [some (.ref (o)), some (.int (nI r)), some (.int (nI deg)), some (.int (nI (deg + 1)))]) dX2_multiplyByRoot_3 rfl (by decide) rfl rfl ?_
  refine G.hp (set_id hc (c' := .inl (0, 14, .inl (fun j => nI (mbk m cf r deg (deg + 1) j)))) (by rw [mbk_top])) (lp_mbr ho hp hq hF hc hcb hco hcp hcq hr hdg ?_ (deg + 1) (Nat.le_refl _))
  refine x_aload_n dX2_multiplyByRoot_40 rfl rfl ?_
  refine x_getf (ci := 1) (kf := 2) dX2_multiplyByRoot_41 rfl uX2 (by decide) fl_RX2_18 (gn ho hco) rfl ?_
  refine x_iconst (y := nI 0) dX2_multiplyByRoot_44 rfl ?_
  refine x_aload_n dX2_multiplyByRoot_45 rfl rfl ?_
  refine x_aload_n dX2_multiplyByRoot_46 rfl rfl ?_
  refine x_getf (ci := 1) (kf := 2) dX2_multiplyByRoot_47 rfl uX2 (by decide) fl_RX2_18 (gn ho hco) rfl ?_
  refine x_iconst (y := nI 0) dX2_multiplyByRoot_50 rfl ?_
  refine x_ild (j := 0) dX2_multiplyByRoot_51 (gs hc) rfl (by omega) (by decide) ?_
  refine x_casti (y := nI (cf 0)) (congrArg nI (mbk_lo (by omega))) ?_
  refine x_iload_n dX2_multiplyByRoot_52 rfl rfl ?_
  refine x_callV (ci := 1) (as := [.int (nI (cf 0)), .int (nI r)]) dX2_multiplyByRoot_53 mk_X2_product in_X2_product se_X2_product ml_RX2_53 rfl (gn ho hco) (by decide) rfl rfl (Nat.le_of_ble_eq_true rfl) (c_product (gn ho hco) (gn hp hcp) (gn hq hcq) hF (hcb _) hr) ?_
  refine x_ist (j := 0) (M1 := (M.set (c) (.inl (0, 14, .inl (fun j => nI (mbr m cf r deg j)))))) dX2_multiplyByRoot_56 (gs hc) rfl (by omega) (by decide) (by rw [show upd (fun j => nI (mbk m cf r deg 0 j)) (0) (nI (fmul m (cf 0) r)) = (fun j => nI (mbr m cf r deg j)) from mbk_0] <;> exact (ss0)) ?_
  exact x_ret dX2_multiplyByRoot_57 rfl
def exq (n s : Nat) : Nat → Nat
  | 0 => s
  | r + 1 => dbl (exq n s r) n
theorem exq_lt {n s : Nat} (h : s < n) : ∀ r, exq n s r < n
  | 0 => h
  | r + 1 => dbl_lt (exq_lt h r)
/-- the product of x + A^e for the first r of the exponents s, 2 s, 4 s .. -/
def mpc (m s : Nat) : Nat → (Nat → Nat)
  | 0 => fun j => if j = 0 then 1 else 0
  | r + 1 => mbr m (mpc m s r) (pwr m (exq (2 ^ m - 1) s r)) r
theorem xor_lt {m a b : Nat} (ha : a < 2 ^ m) (hb : b < 2 ^ m) : a ^^^ b < 2 ^ m := Nat.xor_lt_two_pow ha hb
theorem mbr_lt {m : Nat} (h3 : 3 ≤ m) (h13 : m ≤ 13) {c : Nat → Nat} {r deg : Nat} (h : ∀ j, c j < 2 ^ m) (j : Nat) : mbr m c r deg j < 2 ^ m := by
  unfold mbr
  split
  · exact fmul_lt h3 h13
  · split
    · exact xor_lt (h _) (fmul_lt h3 h13)
    · exact h j
theorem mpc_lt {m s : Nat} (h3 : 3 ≤ m) (h13 : m ≤ 13) : ∀ (r j : Nat), mpc m s r j < 2 ^ m
  | 0, j => by
    have := (two_le h3 h13).1
    show (if j = 0 then 1 else 0) < _
    split <;> omega
  | r + 1, j => mbr_lt h3 h13 (mpc_lt h3 h13 r) j
def mnum (c : Nat → Nat) : Nat → Nat
  | 0 => 0
  | k + 1 => mnum c k ||| (c k * 2 ^ k)
theorem mpc_0 {m s : Nat} : upd (fun _ => nI 0) 0 (nI 1) = fun j => nI (mpc m s 0 j) := by
  funext j
  show (if j = 0 then nI 1 else nI 0) = nI (if j = 0 then 1 else 0)
  split <;> rfl
theorem sl_k {a k : Nat} (ha : a < 8192) (hk : k ≤ 13) : nI a <<< (nI k &&& 31) = nI (a * 2 ^ k) := by
  have h1 : 2 ^ k ≤ 2 ^ 13 := Nat.pow_le_pow_right (by decide) hk
  have h2 : a * 2 ^ k ≤ 8192 * 2 ^ 13 := Nat.mul_le_mul (by omega) h1
  exact pk_shlN _ k (s_l k (by omega)) (by omega)
theorem lp_min1 {X : Ev} {M0 M M' : Hp} {v : Option Value} {o p q c m : Nat} {pw lg cf : Nat → Int32} (ho : M[o]? = some (.inr (1, [.ref (p), .ref (q), .ref (c), .int (nI m), .int (nI (2 ^ m - 1))]))) (hp : M[p]? = some (.inl (0, 8192, .inl (pw)))) (hq : M[q]? = some (.inl (0, 8192, .inl (lg)))) (hF : FT pw lg m) (hc : M[c]? = some (.inl (0, 14, .inl (cf)))) (hco : c ≠ o) (hcp : c ≠ p) (hcq : c ≠ q) {i : Nat} (hi : i < 2 ^ 31) (k : G X 3 jX2_minimalPolynomial M0 69 [some (.ref (o)), some (.int (nI i)), some (.int (nI (csize i m))), some (.int (nI (exq (2 ^ m - 1) (i % (2 ^ m - 1)) ((csize i m))))), some (.int (nI ((csize i m)))), none] [] (M.set c (.inl (0, 14, .inl (fun j => nI (mpc m (i % (2 ^ m - 1)) ((csize i m)) j))))) v M') : ∀ (t r0 : Nat), r0 + t = (csize i m) → G X 3 jX2_minimalPolynomial M0 36 [some (.ref (o)), some (.int (nI i)), some (.int (nI (csize i m))), some (.int (nI (exq (2 ^ m - 1) (i % (2 ^ m - 1)) (r0)))), some (.int (nI (r0))), none] [] (M.set c (.inl (0, 14, .inl (fun j => nI (mpc m (i % (2 ^ m - 1)) (r0) j))))) v M' := by
  have ht := two_le hF.1.1 hF.1.2
  have hs : i % (2 ^ m - 1) < 2 ^ m - 1 := Nat.mod_lt _ (by omega)
  have hcs := csize_le (i := i) (m := m) (by have := hF.1.1; omega)
  have h13 := hF.1.2
  intro t
  induction t with
  | zero =>
    intro r0 hr0
    have hr0 : r0 = (csize i m) := by omega
    subst hr0
    refine x_iload dX2_minimalPolynomial_36 rfl ?_
    refine x_iload_n dX2_minimalPolynomial_38 rfl rfl ?_
    refine x_icmp_ge (tgt := 69) dX2_minimalPolynomial_39 (by decide) (fun _ => ?_) (fun h => False.elim (h (nI_le (Nat.le_refl _) (by omega))))
    exact k
  | succ t ih =>
    intro r0 hr0
    have he := exq_lt hs r0
    refine x_iload dX2_minimalPolynomial_36 rfl ?_
    refine x_iload_n dX2_minimalPolynomial_38 rfl rfl ?_
    refine x_icmp_ge (tgt := 69) dX2_minimalPolynomial_39 (by decide) (fun h => False.elim (nI_ge (by omega : r0 < (csize i m)) (by omega) h)) (fun _ => ?_)
    refine x_aload_n dX2_minimalPolynomial_42 rfl rfl ?_
    refine x_aload_n dX2_minimalPolynomial_43 rfl rfl ?_
    refine x_getf (ci := 1) (kf := 0) dX2_minimalPolynomial_44 rfl uX2 (by decide) fl_RX2_9 (gn ho hco) rfl ?_
    refine x_iload_n dX2_minimalPolynomial_47 rfl rfl ?_
    refine x_ild (j := exq (2 ^ m - 1) (i % (2 ^ m - 1)) (r0)) dX2_minimalPolynomial_48 (gn hp hcp) rfl (by omega) (by decide) ?_
    refine x_casti (y := nI (pwr m (exq (2 ^ m - 1) (i % (2 ^ m - 1)) r0))) ((hF.2 _ he).1) ?_
    refine x_iload dX2_minimalPolynomial_49 rfl ?_
    refine x_callV (ci := 1) (as := [.int (nI (pwr m (exq (2 ^ m - 1) (i % (2 ^ m - 1)) r0))), .int (nI (r0))]) dX2_minimalPolynomial_51 mk_X2_multiplyByRoot in_X2_multiplyByRoot se_X2_multiplyByRoot ml_RX2_46 rfl (gn ho hco) (by decide) rfl rfl (Nat.le_of_ble_eq_true rfl) (c_multiplyByRoot (gn ho hco) (gn hp hcp) (gn hq hcq) hF (gs hc) (mpc_lt hF.1.1 hF.1.2 r0) hco hcp hcq (pwr_lt hF.1.1 hF.1.2 _) (by omega)) ?_
    refine G.hp (ss0) ?_
    refine x_iload_n dX2_minimalPolynomial_54 rfl rfl ?_
    refine x_aload_n dX2_minimalPolynomial_55 rfl rfl ?_
    refine x_getf (ci := 1) (kf := 4) dX2_minimalPolynomial_56 rfl uX2 (by decide) fl_RX2_25 (gn ho hco) rfl ?_
    refine x_callS (as := [.int (nI (exq (2 ^ m - 1) (i % (2 ^ m - 1)) (r0))), .int (nI (2 ^ m - 1))]) dX2_minimalPolynomial_59 mk_X1_doubled st_X1_doubled ml_RX2_50 (by decide) rfl rfl (Nat.le_of_ble_eq_true rfl) (c_doubled he (by omega)) ?_
    refine x_istore_n (ls' := [some (.ref (o)), some (.int (nI i)), some (.int (nI (csize i m))), some (.int (nI (exq (2 ^ m - 1) (i % (2 ^ m - 1)) (r0 + 1)))), some (.int (nI (r0))), none]) dX2_minimalPolynomial_62 rfl (by decide) rfl rfl ?_
    refine x_iinc (y := nI ((r0) + 1)) (ls' := [some (.ref (o)), some (.int (nI i)), some (.int (nI (csize i m))), some (.int (nI (exq (2 ^ m - 1) (i % (2 ^ m - 1)) (r0 + 1)))), some (.int (nI ((r0) + 1))), none]) dX2_minimalPolynomial_63 (by decide) rfl rfl (ii_add _ 1) rfl ?_
    refine x_goto (tgt := 36) dX2_minimalPolynomial_66 (by decide) ?_
    exact ih (r0 + 1) (by omega)
theorem lp_min2 {X : Ev} {M0 M : Hp} {o p q c m : Nat} {pw lg cf : Nat → Int32} (ho : M[o]? = some (.inr (1, [.ref (p), .ref (q), .ref (c), .int (nI m), .int (nI (2 ^ m - 1))]))) (hp : M[p]? = some (.inl (0, 8192, .inl (pw)))) (hq : M[q]? = some (.inl (0, 8192, .inl (lg)))) (hF : FT pw lg m) (hc : M[c]? = some (.inl (0, 14, .inl (cf)))) (hco : c ≠ o) (hcp : c ≠ p) (hcq : c ≠ q) {i : Nat} (hi : i < 2 ^ 31) : ∀ (t r0 : Nat), r0 + t = (csize i m) + 1 → G X 3 jX2_minimalPolynomial M0 75 [some (.ref (o)), some (.int (nI i)), some (.int (nI (csize i m))), some (.int (nI (exq (2 ^ m - 1) (i % (2 ^ m - 1)) (csize i m)))), some (.int (nI (mnum (mpc m (i % (2 ^ m - 1)) (csize i m)) (r0)))), some (.int (nI (r0)))] [] (M.set c (.inl (0, 14, .inl (fun j => nI (mpc m (i % (2 ^ m - 1)) ((csize i m)) j))))) (some (.int (nI (mnum (mpc m (i % (2 ^ m - 1)) (csize i m)) ((csize i m) + 1))))) (M.set c (.inl (0, 14, .inl (fun j => nI (mpc m (i % (2 ^ m - 1)) ((csize i m)) j))))) := by
  have ht := two_le hF.1.1 hF.1.2
  have hs : i % (2 ^ m - 1) < 2 ^ m - 1 := Nat.mod_lt _ (by omega)
  have hcs := csize_le (i := i) (m := m) (by have := hF.1.1; omega)
  have h13 := hF.1.2
  intro t
  induction t with
  | zero =>
    intro r0 hr0
    have hr0 : r0 = (csize i m) + 1 := by omega
    subst hr0
    refine x_iload dX2_minimalPolynomial_75 rfl ?_
    refine x_iload_n dX2_minimalPolynomial_77 rfl rfl ?_
    refine x_icmp_gt (tgt := 102) dX2_minimalPolynomial_78 (by decide) (fun _ => ?_) (fun h => False.elim (h (nI_lt (by omega) (by omega))))
    refine x_iload dX2_minimalPolynomial_102 rfl ?_
    exact x_ireturn_eq dX2_minimalPolynomial_104 rfl rfl
  | succ t ih =>
    intro r0 hr0
    have hm := mpc_lt hF.1.1 hF.1.2 (s := (i % (2 ^ m - 1))) (csize i m) r0
    refine x_iload dX2_minimalPolynomial_75 rfl ?_
    refine x_iload_n dX2_minimalPolynomial_77 rfl rfl ?_
    refine x_icmp_gt (tgt := 102) dX2_minimalPolynomial_78 (by decide) (fun h => False.elim (nI_nlt (by omega) (by omega) h)) (fun _ => ?_)
    refine x_iload dX2_minimalPolynomial_81 rfl ?_
    refine x_aload_n dX2_minimalPolynomial_83 rfl rfl ?_
    refine x_getf (ci := 1) (kf := 2) dX2_minimalPolynomial_84 rfl uX2 (by decide) fl_RX2_18 (gn ho hco) rfl ?_
    refine x_iload dX2_minimalPolynomial_87 rfl ?_
    refine x_ild (j := r0) dX2_minimalPolynomial_89 (gs hc) rfl (by omega) (by decide) ?_
    refine x_iload dX2_minimalPolynomial_90 rfl ?_
    refine x_ishl dX2_minimalPolynomial_92 ?_
    refine x_casti (y := nI (mpc m (i % (2 ^ m - 1)) (csize i m) r0 * 2 ^ r0)) (sl_k (by omega) (by omega)) ?_
    refine x_ior dX2_minimalPolynomial_93 ?_
    refine x_casti (y := nI (mnum (mpc m (i % (2 ^ m - 1)) (csize i m)) (r0 + 1))) (nI_or _ _) ?_
    refine x_istore (ls' := [some (.ref (o)), some (.int (nI i)), some (.int (nI (csize i m))), some (.int (nI (exq (2 ^ m - 1) (i % (2 ^ m - 1)) (csize i m)))), some (.int (nI (mnum (mpc m (i % (2 ^ m - 1)) (csize i m)) (r0 + 1)))), some (.int (nI (r0)))]) dX2_minimalPolynomial_94 (by decide) rfl rfl ?_
    refine x_iinc (y := nI ((r0) + 1)) (ls' := [some (.ref (o)), some (.int (nI i)), some (.int (nI (csize i m))), some (.int (nI (exq (2 ^ m - 1) (i % (2 ^ m - 1)) (csize i m)))), some (.int (nI (mnum (mpc m (i % (2 ^ m - 1)) (csize i m)) (r0 + 1)))), some (.int (nI ((r0) + 1)))]) dX2_minimalPolynomial_96 (by decide) rfl rfl (ii_add _ 1) rfl ?_
    refine x_goto (tgt := 75) dX2_minimalPolynomial_99 (by decide) ?_
    exact ih (r0 + 1) (by omega)
theorem c_minimalPolynomial {X : Ev} {M : Hp} {o p q c m : Nat} {pw lg cf : Nat → Int32} (ho : M[o]? = some (.inr (1, [.ref (p), .ref (q), .ref (c), .int (nI m), .int (nI (2 ^ m - 1))]))) (hp : M[p]? = some (.inl (0, 8192, .inl (pw)))) (hq : M[q]? = some (.inl (0, 8192, .inl (lg)))) (hF : FT pw lg m) (hc : M[c]? = some (.inl (0, 14, .inl (cf)))) (hco : c ≠ o) (hcp : c ≠ p) (hcq : c ≠ q) {i : Nat} (hi : i < 2 ^ 31) : Cl X 3 jX2_minimalPolynomial [.ref (o), .int (nI i)] M (some (.int (nI (mnum (mpc m (i % (2 ^ m - 1)) (csize i m)) ((csize i m) + 1))))) (M.set c (.inl (0, 14, .inl (fun j => nI (mpc m (i % (2 ^ m - 1)) ((csize i m)) j))))) := by
  have ht := two_le hF.1.1 hF.1.2
  have hs : i % (2 ^ m - 1) < 2 ^ m - 1 := Nat.mod_lt _ (by omega)
  have hcs := csize_le (i := i) (m := m) (by have := hF.1.1; omega)
  have h13 := hF.1.2
  refine Cl.of (ls := [some (.ref (o)), some (.int (nI i)), none, none, none, none]) (by decide) rfl (Nat.le_of_ble_eq_true rfl) ?_
  refine x_iload_n dX2_minimalPolynomial_0 rfl rfl ?_
  refine x_aload_n dX2_minimalPolynomial_1 rfl rfl ?_
  refine x_getf (ci := 1) (kf := 3) dX2_minimalPolynomial_2 rfl uX2 (by decide) fl_RX2_21 ho rfl ?_
  refine x_callS (as := [.int (nI i), .int (nI m)]) dX2_minimalPolynomial_5 mk_X1_size st_X1_size ml_RX2_37 (by decide) rfl rfl (Nat.le_of_ble_eq_true rfl) (c_size hF.1.1 hF.1.2 hi) ?_
  refine x_istore_n (ls' := [some (.ref (o)), some (.int (nI i)), some (.int (nI (csize i m))), none, none, none]) dX2_minimalPolynomial_8 rfl (by decide) rfl rfl ?_
  refine x_aload_n dX2_minimalPolynomial_9 rfl rfl ?_
  refine x_getf (ci := 1) (kf := 2) dX2_minimalPolynomial_10 rfl uX2 (by decide) fl_RX2_18 ho rfl ?_
  refine x_iconst (y := nI 0) dX2_minimalPolynomial_13 rfl ?_
  refine x_callS (as := [.ref (c), .int (nI 0)]) dX2_minimalPolynomial_14 mk_J7_fill_53178 st_J7_fill_53178 ml_RX2_40 (by decide) rfl rfl (Nat.le_of_ble_eq_true rfl) (c_filli hc (by decide)) ?_
  refine x_aload_n dX2_minimalPolynomial_17 rfl rfl ?_
  refine x_getf (ci := 1) (kf := 2) dX2_minimalPolynomial_18 rfl uX2 (by decide) fl_RX2_18 (gn ho hco) rfl ?_
  refine x_iconst (y := nI 0) dX2_minimalPolynomial_21 rfl ?_
  refine x_iconst (y := nI 1) dX2_minimalPolynomial_22 rfl ?_
  refine x_ist (j := 0) (M1 := (M.set (c) (.inl (0, 14, .inl (fun j => nI (mpc m (i % (2 ^ m - 1)) 0 j)))))) dX2_minimalPolynomial_23 (gs hc) rfl (by omega) (by decide) (by rw [show upd (fun _ => nI 0) (0) (nI 1) = (fun j => nI (mpc m (i % (2 ^ m - 1)) 0 j)) from mpc_0] <;> exact (ss0)) ?_
  refine x_iload_n dX2_minimalPolynomial_24 rfl rfl ?_
  refine x_aload_n dX2_minimalPolynomial_25 rfl rfl ?_
  refine x_getf (ci := 1) (kf := 4) dX2_minimalPolynomial_26 rfl uX2 (by decide) fl_RX2_25 (gn ho hco) rfl ?_
  refine x_callS (as := [.int (nI i), .int (nI (2 ^ m - 1))]) dX2_minimalPolynomial_29 mk_X1_reduced st_X1_reduced ml_RX2_31 (by decide) rfl rfl (Nat.le_of_ble_eq_true rfl) (c_reducedN hi (by omega) (by omega)) ?_
  refine x_istore_n (ls' := [some (.ref (o)), some (.int (nI i)), some (.int (nI (csize i m))), some (.int (nI (i % (2 ^ m - 1)))), none, none]) dX2_minimalPolynomial_32 rfl (by decide) rfl rfl ?_
  refine x_iconst (y := nI 0) dX2_minimalPolynomial_33 rfl ?_
  refine x_istore (ls' := [some (.ref (o)), some (.int (nI i)), some (.int (nI (csize i m))), some (.int (nI (i % (2 ^ m - 1)))), some (.int (nI 0)), none]) dX2_minimalPolynomial_34 (by decide) rfl rfl ?_
  refine lp_min1 ho hp hq hF hc hco hcp hcq hi ?_ (csize i m) 0 (by omega)
  refine x_iconst (y := nI 0) dX2_minimalPolynomial_69 rfl ?_
  refine x_istore (ls' := [some (.ref (o)), some (.int (nI i)), some (.int (nI (csize i m))), some (.int (nI (exq (2 ^ m - 1) (i % (2 ^ m - 1)) ((csize i m))))), some (.int (nI 0)), none]) dX2_minimalPolynomial_70 (by decide) rfl rfl ?_
  refine x_iconst (y := nI 0) dX2_minimalPolynomial_72 rfl ?_
  refine x_istore (ls' := [some (.ref (o)), some (.int (nI i)), some (.int (nI (csize i m))), some (.int (nI (exq (2 ^ m - 1) (i % (2 ^ m - 1)) ((csize i m))))), some (.int (nI 0)), some (.int (nI 0))]) dX2_minimalPolynomial_73 (by decide) rfl rfl ?_
  exact lp_min2 ho hp hq hF hc hco hcp hcq hi ((csize i m) + 1) 0 (by omega)
