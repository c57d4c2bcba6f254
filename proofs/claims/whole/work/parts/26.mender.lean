/-! MENDER: misses, what is added, syndromes, values of the locator -/
def msl (m : Nat) (sy lc : Nat → Nat) (i : Nat) : Nat → Nat
  | 0 => sy i
  | n + 1 => msl m sy lc i n ^^^ fmul m (lc (n + 1)) (sy (i - (n + 1)))
def adE (m : Nat) (lc ea : Nat → Nat) (sc lag n : Nat) : Nat → Nat := fun j => if lag ≤ j ∧ j < n then lc j ^^^ fmul m sc (ea (j - lag)) else lc j
theorem adE_step {m : Nat} {lc ea : Nat → Nat} {sc lag i : Nat} (h : lag ≤ i) : upd (fun j => nI (adE m lc ea sc lag i j)) i (nI (lc i ^^^ fmul m sc (ea (i - lag)))) = fun j => nI (adE m lc ea sc lag (i + 1) j) := by
  funext j
  by_cases hj : j = i
  · subst hj; rw [pk_us]; unfold adE; rw [if_pos ⟨h, by omega⟩]
  · rw [pk_un hj]; unfold adE; congr 1
    by_cases h2 : lag ≤ j ∧ j < i
    · rw [if_pos h2, if_pos ⟨h2.1, by omega⟩]
    · rw [if_neg h2, if_neg (fun z => h2 ⟨z.1, by omega⟩)]
theorem adE_at {m : Nat} {lc ea : Nat → Nat} {sc lag i : Nat} : adE m lc ea sc lag i i = lc i := by unfold adE; rw [if_neg (by omega)]
theorem adE_0 {m : Nat} {lc ea : Nat → Nat} {sc lag : Nat} : adE m lc ea sc lag lag = lc := by funext j; unfold adE; rw [if_neg (by omega)]
theorem lp_miss {X : Ev} {M0 M : Hp} {m : Nat} (hm : M[12]? = some (.inr (2, [.ref (1), .ref (5), .ref (13), .ref (15), .ref (16), .ref (17), .ref (18), .ref (19), .ref (20)]))) {pw lg : Nat → Int32} (hf : M[1]? = some (.inr (1, [.ref (2), .ref (3), .ref (4), .int (nI m), .int (nI (2 ^ m - 1))]))) (hp : M[2]? = some (.inl (0, 8192, .inl (pw)))) (hq : M[3]? = some (.inl (0, 8192, .inl (lg)))) (hF : FT pw lg m) {sy lc : Nat → Nat} (hsy : M[15]? = some (.inl (0, 17, .inl (fun j => nI ((sy) j))))) (hlc : M[16]? = some (.inl (0, 17, .inl (fun j => nI ((lc) j))))) {i len : Nat} (hi1 : 1 ≤ i) (hi : i ≤ 16) (hlen : len ≤ 16) (hsb : ∀ j, 1 ≤ j → j ≤ i → sy j < 2 ^ m) (hlb : ∀ j, j < 17 → lc j < 2 ^ m) : ∀ (zz n : Nat), n + zz = min len (i - 1) → G X 1 jX3_missAt M0 10 [some (.ref (12)), some (.int (nI i)), some (.int (nI len)), some (.int (nI (msl m sy lc i (n)))), some (.int (nI (n + 1)))] [] M (some (.int (nI (msl m sy lc i (min len (i - 1)))))) M := by
  intro zz
  induction zz with
  | zero =>
    intro n hn
    have hn2 : n = min len (i - 1) := by omega
    refine x_iload dX3_missAt_10 rfl ?_
    refine x_iload_n dX3_missAt_12 rfl rfl ?_
    refine x_icmp_gt (tgt := 54) dX3_missAt_13 (by decide) (fun h13 => ?_) (fun h13 => ?_)
    · refine x_iload_n dX3_missAt_54 rfl rfl ?_
      exact x_ireturn_eq dX3_missAt_55 rfl (by rw [hn2])
    · refine x_iload dX3_missAt_16 rfl ?_
      refine x_iload_n dX3_missAt_18 rfl rfl ?_
      refine x_icmp_ge (tgt := 54) dX3_missAt_19 (by decide) (fun _ => ?_) (fun h => False.elim (h (nI_le (by have hz := (nI_leI (by omega) (by omega)).mp (Int32.not_lt.mp h13); omega) (by omega))))
      refine x_iload_n dX3_missAt_54 rfl rfl ?_
      exact x_ireturn_eq dX3_missAt_55 rfl (by rw [hn2])
  | succ zz ih =>
    intro n hn
    refine x_iload dX3_missAt_10 rfl ?_
    refine x_iload_n dX3_missAt_12 rfl rfl ?_
    refine x_icmp_gt (tgt := 54) dX3_missAt_13 (by decide) (fun h => False.elim (nI_nlt (by omega : n + 1 ≤ len) (by omega) h)) (fun _ => ?_)
    refine x_iload dX3_missAt_16 rfl ?_
    refine x_iload_n dX3_missAt_18 rfl rfl ?_
    refine x_icmp_ge (tgt := 54) dX3_missAt_19 (by decide) (fun h => False.elim (nI_ge (by omega : n + 1 < i) (by omega) h)) (fun _ => ?_)
    refine x_iload_n dX3_missAt_22 rfl rfl ?_
    refine x_aload_n dX3_missAt_23 rfl rfl ?_
    refine x_getf (ci := 2) (kf := 0) dX3_missAt_24 rfl uX3 (by decide) fl_RX3_37 hm rfl ?_
    refine x_aload_n dX3_missAt_27 rfl rfl ?_
    refine x_getf (ci := 2) (kf := 4) dX3_missAt_28 rfl uX3 (by decide) fl_RX3_22 hm rfl ?_
    refine x_iload dX3_missAt_31 rfl ?_
    refine x_ild (j := n + 1) dX3_missAt_33 hlc rfl (by omega) (by decide) ?_
    refine x_aload_n dX3_missAt_34 rfl rfl ?_
    refine x_getf (ci := 2) (kf := 3) dX3_missAt_35 rfl uX3 (by decide) fl_RX3_18 hm rfl ?_
    refine x_iload_n dX3_missAt_38 rfl rfl ?_
    refine x_iload dX3_missAt_39 rfl ?_
    refine x_isub dX3_missAt_41 ?_
    refine x_casti (y := nI (i - (n + 1))) (pk_sub (by omega)) ?_
    refine x_ild (j := i - (n + 1)) dX3_missAt_42 hsy rfl (by omega) (by decide) ?_
    refine x_callV (ci := 1) (as := [.int ((fun j => nI ((lc) j)) (n + 1)), .int ((fun j => nI ((sy) j)) (i - (n + 1)))]) dX3_missAt_43 mk_X2_product in_X2_product se_X2_product ml_RX3_116 rfl hf (by decide) rfl rfl (Nat.le_of_ble_eq_true rfl) (c_product hf hp hq hF (hlb _ (by omega)) (hsb _ (by omega) (by omega))) ?_
    refine x_ixor dX3_missAt_46 ?_
    refine x_casti (y := nI (msl m sy lc i (n + 1))) (nI_xor _ _) ?_
    refine x_istore_n (ls' := [some (.ref (12)), some (.int (nI i)), some (.int (nI len)), some (.int (nI (msl m sy lc i (n + 1)))), some (.int (nI (n + 1)))]) dX3_missAt_47 rfl (by decide) rfl rfl ?_
    refine x_iinc (y := nI ((n + 1) + 1)) (ls' := [some (.ref (12)), some (.int (nI i)), some (.int (nI len)), some (.int (nI (msl m sy lc i (n + 1)))), some (.int (nI ((n + 1) + 1)))]) dX3_missAt_48 (by decide) rfl rfl (ii_add _ 1) rfl ?_
    refine x_goto (tgt := 10) dX3_missAt_51 (by decide) ?_
    exact ih (n + 1) (by omega)
theorem c_missAt {X : Ev} {M : Hp} {m : Nat} (hm : M[12]? = some (.inr (2, [.ref (1), .ref (5), .ref (13), .ref (15), .ref (16), .ref (17), .ref (18), .ref (19), .ref (20)]))) {pw lg : Nat → Int32} (hf : M[1]? = some (.inr (1, [.ref (2), .ref (3), .ref (4), .int (nI m), .int (nI (2 ^ m - 1))]))) (hp : M[2]? = some (.inl (0, 8192, .inl (pw)))) (hq : M[3]? = some (.inl (0, 8192, .inl (lg)))) (hF : FT pw lg m) {sy lc : Nat → Nat} (hsy : M[15]? = some (.inl (0, 17, .inl (fun j => nI ((sy) j))))) (hlc : M[16]? = some (.inl (0, 17, .inl (fun j => nI ((lc) j))))) {i len : Nat} (hi1 : 1 ≤ i) (hi : i ≤ 16) (hlen : len ≤ 16) (hsb : ∀ j, 1 ≤ j → j ≤ i → sy j < 2 ^ m) (hlb : ∀ j, j < 17 → lc j < 2 ^ m) : Cl X 1 jX3_missAt [.ref (12), .int (nI i), .int (nI len)] M (some (.int (nI (msl m sy lc i (min len (i - 1)))))) M := by
  refine Cl.of (ls := [some (.ref (12)), some (.int (nI i)), some (.int (nI len)), none, none]) (by decide) rfl (Nat.le_of_ble_eq_true rfl) ?_
  refine x_aload_n dX3_missAt_0 rfl rfl ?_
  refine x_getf (ci := 2) (kf := 3) dX3_missAt_1 rfl uX3 (by decide) fl_RX3_18 hm rfl ?_
  refine x_iload_n dX3_missAt_4 rfl rfl ?_
  refine x_ild (j := i) dX3_missAt_5 hsy rfl (by omega) (by decide) ?_
  refine x_istore_n (ls' := [some (.ref (12)), some (.int (nI i)), some (.int (nI len)), some (.int ((fun j => nI ((sy) j)) (i))), none]) dX3_missAt_6 rfl (by decide) rfl rfl ?_
  refine x_iconst (y := nI 1) dX3_missAt_7 rfl ?_
  refine x_istore (ls' := [some (.ref (12)), some (.int (nI i)), some (.int (nI len)), some (.int ((fun j => nI ((sy) j)) (i))), some (.int (nI 1))]) dX3_missAt_8 (by decide) rfl rfl ?_
  exact lp_miss hm hf hp hq hF hsy hlc hi1 hi hlen hsb hlb (min len (i - 1)) 0 (by omega)
theorem lp_addE {X : Ev} {M0 M M' : Hp} {v : Option Value} {m : Nat} (hm : M[12]? = some (.inr (2, [.ref (1), .ref (5), .ref (13), .ref (15), .ref (16), .ref (17), .ref (18), .ref (19), .ref (20)]))) {pw lg : Nat → Int32} (hf : M[1]? = some (.inr (1, [.ref (2), .ref (3), .ref (4), .int (nI m), .int (nI (2 ^ m - 1))]))) (hp : M[2]? = some (.inl (0, 8192, .inl (pw)))) (hq : M[3]? = some (.inl (0, 8192, .inl (lg)))) (hF : FT pw lg m) {lc ea : Nat → Nat} (hlc : M[16]? = some (.inl (0, 17, .inl (fun j => nI ((lc) j))))) (hea : M[17]? = some (.inl (0, 17, .inl (fun j => nI ((ea) j))))) {sc lag : Nat} (hlag : lag ≤ 17) (hsc : sc < 2 ^ m) (heb : ∀ j, j < 17 → ea j < 2 ^ m) (kc : G X 1 jX3_addEarlier M0 42 [some (.ref (12)), some (.int (nI sc)), some (.int (nI lag)), some (.int (nI 17))] [] (M.set 16 (.inl (0, 17, .inl (fun j => nI ((adE m lc ea sc lag (17)) j))))) v M') : ∀ (zz i : Nat), i + zz = 17 → lag ≤ i → G X 1 jX3_addEarlier M0 2 [some (.ref (12)), some (.int (nI sc)), some (.int (nI lag)), some (.int (nI (i)))] [] (M.set 16 (.inl (0, 17, .inl (fun j => nI ((adE m lc ea sc lag (i)) j))))) v M' := by
  intro zz
  induction zz with
  | zero =>
    intro i hi hl
    have hi : i = 17 := by omega
    subst hi
    refine x_iload_n dX3_addEarlier_2 rfl rfl ?_
    refine x_aload_n dX3_addEarlier_3 rfl rfl ?_
    refine x_getf (ci := 2) (kf := 4) dX3_addEarlier_4 rfl uX3 (by decide) fl_RX3_22 (gn hm (by decide)) rfl ?_
    refine x_alen dX3_addEarlier_7 (by decide) (gs hlc) rfl ?_
    refine x_icmp_ge (tgt := 42) dX3_addEarlier_8 (by decide) (fun _ => ?_) (fun h => False.elim (h (nI_le (Nat.le_refl _) (by decide))))
    exact kc
  | succ zz ih =>
    intro i hi hl
    refine x_iload_n dX3_addEarlier_2 rfl rfl ?_
    refine x_aload_n dX3_addEarlier_3 rfl rfl ?_
    refine x_getf (ci := 2) (kf := 4) dX3_addEarlier_4 rfl uX3 (by decide) fl_RX3_22 (gn hm (by decide)) rfl ?_
    refine x_alen dX3_addEarlier_7 (by decide) (gs hlc) rfl ?_
    refine x_icmp_ge (tgt := 42) dX3_addEarlier_8 (by decide) (fun h => False.elim (nI_ge (by omega : i < 17) (by decide) h)) (fun _ => ?_)
    refine x_aload_n dX3_addEarlier_11 rfl rfl ?_
    refine x_getf (ci := 2) (kf := 4) dX3_addEarlier_12 rfl uX3 (by decide) fl_RX3_22 (gn hm (by decide)) rfl ?_
    refine x_iload_n dX3_addEarlier_15 rfl rfl ?_
    refine x_dup2 dX3_addEarlier_16 rfl rfl ?_
    refine x_ild (j := i) dX3_addEarlier_17 (gs hlc) rfl (by omega) (by decide) ?_
    refine x_casti (y := nI (lc i)) (congrArg nI adE_at) ?_
    refine x_aload_n dX3_addEarlier_18 rfl rfl ?_
    refine x_getf (ci := 2) (kf := 0) dX3_addEarlier_19 rfl uX3 (by decide) fl_RX3_37 (gn hm (by decide)) rfl ?_
    refine x_iload_n dX3_addEarlier_22 rfl rfl ?_
    refine x_aload_n dX3_addEarlier_23 rfl rfl ?_
    refine x_getf (ci := 2) (kf := 5) dX3_addEarlier_24 rfl uX3 (by decide) fl_RX3_25 (gn hm (by decide)) rfl ?_
    refine x_iload_n dX3_addEarlier_27 rfl rfl ?_
    refine x_iload_n dX3_addEarlier_28 rfl rfl ?_
    refine x_isub dX3_addEarlier_29 ?_
    refine x_casti (y := nI (i - lag)) (pk_sub hl) ?_
    refine x_ild (j := i - lag) dX3_addEarlier_30 (gn hea (by decide)) rfl (by omega) (by decide) ?_
    refine x_callV (ci := 1) (as := [.int (nI sc), .int ((fun j => nI ((ea) j)) (i - lag))]) dX3_addEarlier_31 mk_X2_product in_X2_product se_X2_product ml_RX3_116 rfl (gn hf (by decide)) (by decide) rfl rfl (Nat.le_of_ble_eq_true rfl) (c_product (gn hf (by decide)) (gn hp (by decide)) (gn hq (by decide)) hF hsc (heb _ (by omega))) ?_
    refine x_ixor dX3_addEarlier_34 ?_
    refine x_casti (y := nI (lc i ^^^ fmul m sc (ea (i - lag)))) (nI_xor _ _) ?_
    refine x_ist (j := i) (M1 := (M.set (16) (.inl (0, 17, .inl (fun j => nI ((adE m lc ea sc lag (i + 1)) j)))))) dX3_addEarlier_35 (gs hlc) rfl (by omega) (by decide) (by rw [show upd (fun j => nI ((adE m lc ea sc lag (i)) j)) (i) (nI (lc i ^^^ fmul m sc (ea (i - lag)))) = (fun j => nI ((adE m lc ea sc lag (i + 1)) j)) from (adE_step hl)] <;> exact (ss0)) ?_
    refine x_iinc (y := nI ((i) + 1)) (ls' := [some (.ref (12)), some (.int (nI sc)), some (.int (nI lag)), some (.int (nI ((i) + 1)))]) dX3_addEarlier_36 (by decide) rfl rfl (ii_add _ 1) rfl ?_
    refine x_goto (tgt := 2) dX3_addEarlier_39 (by decide) ?_
    exact ih (i + 1) (by omega) (by omega)
theorem c_addEarlier {X : Ev} {M : Hp} {m : Nat} (hm : M[12]? = some (.inr (2, [.ref (1), .ref (5), .ref (13), .ref (15), .ref (16), .ref (17), .ref (18), .ref (19), .ref (20)]))) {pw lg : Nat → Int32} (hf : M[1]? = some (.inr (1, [.ref (2), .ref (3), .ref (4), .int (nI m), .int (nI (2 ^ m - 1))]))) (hp : M[2]? = some (.inl (0, 8192, .inl (pw)))) (hq : M[3]? = some (.inl (0, 8192, .inl (lg)))) (hF : FT pw lg m) {lc ea : Nat → Nat} (hlc : M[16]? = some (.inl (0, 17, .inl (fun j => nI ((lc) j))))) (hea : M[17]? = some (.inl (0, 17, .inl (fun j => nI ((ea) j))))) {sc lag : Nat} (hlag : lag ≤ 17) (hsc : sc < 2 ^ m) (heb : ∀ j, j < 17 → ea j < 2 ^ m) : Cl X 1 jX3_addEarlier [.ref (12), .int (nI sc), .int (nI lag)] M none (M.set 16 (.inl (0, 17, .inl (fun j => nI ((adE m lc ea sc lag (17)) j))))) := by
  refine Cl.of (ls := [some (.ref (12)), some (.int (nI sc)), some (.int (nI lag)), none]) (by decide) rfl (Nat.le_of_ble_eq_true rfl) ?_
  refine x_iload_n dX3_addEarlier_0 rfl rfl ?_
  refine x_istore_n (ls' := [some (.ref (12)), some (.int (nI sc)), some (.int (nI lag)), some (.int (nI lag))]) dX3_addEarlier_1 rfl (by decide) rfl rfl ?_
  refine G.hp (set_id hlc (c' := .inl (0, 17, .inl (fun j => nI ((adE m lc ea sc lag (lag)) j)))) (by rw [adE_0])) (lp_addE hm hf hp hq hF hlc hea hlag hsc heb (x_ret dX3_addEarlier_42 rfl) (17 - lag) lag (by omega) (Nat.le_refl _))
theorem lp_abm {X : Ev} {M0 M M' : Hp} {v : Option Value} {g : Nat} {wr : Int32} {bf kf wf : Nat → Int64} (hm : M[12]? = some (.inr (2, [.ref (1), .ref (5), .ref (13), .ref (15), .ref (16), .ref (17), .ref (18), .ref (19), .ref (20)]))) (hw : M[13]? = some (.inr (4, [.ref (14)]))) (hwf : M[14]? = some (.inl (1, 34, .inr (.inl (wf))))) (hg : M[g]? = some (.inr (3, [.ref (g + 1), .ref (g + 3), .ref (g + 5), .int (wr)]))) (hB : M[g + 1]? = some (.inr (4, [.ref (g + 2)]))) (hb : M[g + 2]? = some (.inl (1, 34, .inr (.inl (bf))))) (hK : M[g + 5]? = some (.inr (4, [.ref (g + 6)]))) (hk : M[g + 6]? = some (.inl (1, 34, .inr (.inl (kf))))) (k : G X 1 jX3_apartBesidesMarks M0 55 [some (.ref (12)), some (.ref (g)), some (.int (nI (rones (fun j => (wf j ^^^ bf j) &&& (kf j ^^^ (-1))) (34)))), some (.int (nI 34))] [] M v M') : ∀ (zz i : Nat), i + zz = 34 → G X 1 jX3_apartBesidesMarks M0 4 [some (.ref (12)), some (.ref (g)), some (.int (nI (rones (fun j => (wf j ^^^ bf j) &&& (kf j ^^^ (-1))) (i)))), some (.int (nI (i)))] [] M v M' := by
  intro zz
  induction zz with
  | zero =>
    intro i hi
    have hi : i = 34 := by omega
    subst hi
    refine x_iload_n dX3_apartBesidesMarks_4 rfl rfl ?_
    refine x_bipush (y := nI 34) dX3_apartBesidesMarks_5 rfl ?_
    refine x_icmp_ge (tgt := 55) dX3_apartBesidesMarks_7 (by decide) (fun _ => ?_) (fun h => False.elim (h (nI_le (Nat.le_refl _) (by decide))))
    exact k
  | succ zz ih =>
    intro i hi
    refine x_iload_n dX3_apartBesidesMarks_4 rfl rfl ?_
    refine x_bipush (y := nI 34) dX3_apartBesidesMarks_5 rfl ?_
    refine x_icmp_ge (tgt := 55) dX3_apartBesidesMarks_7 (by decide) (fun h => False.elim (nI_ge (by omega : i < 34) (by decide) h)) (fun _ => ?_)
    refine x_iload_n dX3_apartBesidesMarks_10 rfl rfl ?_
    refine x_aload_n dX3_apartBesidesMarks_11 rfl rfl ?_
    refine x_getf (ci := 2) (kf := 2) dX3_apartBesidesMarks_12 rfl uX3 (by decide) fl_RX3_12 hm rfl ?_
    refine x_getf (ci := 4) (kf := 0) dX3_apartBesidesMarks_15 rfl uX5 (by decide) fl_RX3_71 hw rfl ?_
    refine x_iload_n dX3_apartBesidesMarks_18 rfl rfl ?_
    refine x_lld (j := i) dX3_apartBesidesMarks_19 hwf rfl (by omega) (by decide) ?_
    refine x_aload_n dX3_apartBesidesMarks_20 rfl rfl ?_
    refine x_getf (ci := 3) (kf := 0) dX3_apartBesidesMarks_21 rfl uX4 (by decide) fl_RX3_64 hg rfl ?_
    refine x_getf (ci := 4) (kf := 0) dX3_apartBesidesMarks_24 rfl uX5 (by decide) fl_RX3_71 hB rfl ?_
    refine x_iload_n dX3_apartBesidesMarks_27 rfl rfl ?_
    refine x_lld (j := i) dX3_apartBesidesMarks_28 hb rfl (by omega) (by decide) ?_
    refine x_lxor dX3_apartBesidesMarks_29 ?_
    refine x_aload_n dX3_apartBesidesMarks_30 rfl rfl ?_
    refine x_getf (ci := 3) (kf := 2) dX3_apartBesidesMarks_31 rfl uX4 (by decide) fl_RX3_45 hg rfl ?_
    refine x_getf (ci := 4) (kf := 0) dX3_apartBesidesMarks_34 rfl uX5 (by decide) fl_RX3_71 hK rfl ?_
    refine x_iload_n dX3_apartBesidesMarks_37 rfl rfl ?_
    refine x_lld (j := i) dX3_apartBesidesMarks_38 hk rfl (by omega) (by decide) ?_
    refine x_ldc2 (y := (-1)) dX3_apartBesidesMarks_39 kl_RX3_75 ?_
    refine x_lxor dX3_apartBesidesMarks_42 ?_
    refine x_land dX3_apartBesidesMarks_43 ?_
    refine x_callS (as := [.long (((wf (i)) ^^^ (bf (i))) &&& ((kf (i)) ^^^ ((-1))))]) dX3_apartBesidesMarks_44 mk_J13_bitCount_95d88 st_J13_bitCount_95d88 ml_RX3_85 (by decide) rfl rfl (Nat.le_of_ble_eq_true rfl) c_bitCount ?_
    refine x_iadd dX3_apartBesidesMarks_47 ?_
    refine x_casti (y := nI (rones (fun j => (wf j ^^^ bf j) &&& (kf j ^^^ (-1))) (i + 1))) (nI_add _ _) ?_
    refine x_istore_n (ls' := [some (.ref (12)), some (.ref (g)), some (.int (nI (rones (fun j => (wf j ^^^ bf j) &&& (kf j ^^^ (-1))) (i + 1)))), some (.int (nI (i)))]) dX3_apartBesidesMarks_48 rfl (by decide) rfl rfl ?_
    refine x_iinc (y := nI ((i) + 1)) (ls' := [some (.ref (12)), some (.ref (g)), some (.int (nI (rones (fun j => (wf j ^^^ bf j) &&& (kf j ^^^ (-1))) (i + 1)))), some (.int (nI ((i) + 1)))]) dX3_apartBesidesMarks_49 (by decide) rfl rfl (ii_add _ 1) rfl ?_
    refine x_goto (tgt := 4) dX3_apartBesidesMarks_52 (by decide) ?_
    exact ih (i + 1) (by omega)
theorem c_apartBesidesMarks {X : Ev} {M : Hp} {g : Nat} {wr : Int32} {bf kf wf : Nat → Int64} (hm : M[12]? = some (.inr (2, [.ref (1), .ref (5), .ref (13), .ref (15), .ref (16), .ref (17), .ref (18), .ref (19), .ref (20)]))) (hw : M[13]? = some (.inr (4, [.ref (14)]))) (hwf : M[14]? = some (.inl (1, 34, .inr (.inl (wf))))) (hg : M[g]? = some (.inr (3, [.ref (g + 1), .ref (g + 3), .ref (g + 5), .int (wr)]))) (hB : M[g + 1]? = some (.inr (4, [.ref (g + 2)]))) (hb : M[g + 2]? = some (.inl (1, 34, .inr (.inl (bf))))) (hK : M[g + 5]? = some (.inr (4, [.ref (g + 6)]))) (hk : M[g + 6]? = some (.inl (1, 34, .inr (.inl (kf))))) : Cl X 1 jX3_apartBesidesMarks [.ref (12), .ref (g)] M (some (.int (nI (rones (fun j => (wf j ^^^ bf j) &&& (kf j ^^^ (-1))) 34)))) M := by
  refine Cl.of (ls := [some (.ref (12)), some (.ref (g)), none, none]) (by decide) rfl (Nat.le_of_ble_eq_true rfl) ?_
  refine x_iconst (y := nI 0) dX3_apartBesidesMarks_0 rfl ?_
  refine x_istore_n (ls' := [some (.ref (12)), some (.ref (g)), some (.int (nI 0)), none]) dX3_apartBesidesMarks_1 rfl (by decide) rfl rfl ?_
  refine x_iconst (y := nI 0) dX3_apartBesidesMarks_2 rfl ?_
  refine x_istore_n (ls' := [some (.ref (12)), some (.ref (g)), some (.int (nI 0)), some (.int (nI 0))]) dX3_apartBesidesMarks_3 rfl (by decide) rfl rfl ?_
  exact lp_abm hm hw hwf hg hB hb hK hk (by
    refine x_iload_n dX3_apartBesidesMarks_55 rfl rfl ?_
    exact x_ireturn_eq dX3_apartBesidesMarks_56 rfl rfl) 34 0 rfl
