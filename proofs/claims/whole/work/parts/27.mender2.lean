/-! MENDER: the syndromes, the locator's value at a bit -/
def tks (m : Nat) (rq : Nat → Bool) (r : Nat) (s0 : Nat → Nat) : Nat → (Nat → Nat)
  | 0 => s0
  | n + 1 => fun j => if j = n + 1 then (if (n + 1) % 2 = 1 then rsum m rq ((n + 1) % (2 ^ m - 1)) r else fmul m (tks m rq r s0 n ((n + 1) / 2)) (tks m rq r s0 n ((n + 1) / 2))) else tks m rq r s0 n j
theorem tks_lt {m : Nat} (h3 : 3 ≤ m) (h13 : m ≤ 13) {rq : Nat → Bool} {r : Nat} {s0 : Nat → Nat} : ∀ (n j : Nat), 1 ≤ j → j ≤ n → tks m rq r s0 n j < 2 ^ m
  | 0, j, h1, h2 => absurd h1 (by omega)
  | n + 1, j, h1, h2 => by
    show (if j = n + 1 then _ else _) < _
    split
    · split
      · exact rsum_lt h3 h13 _
      · exact fmul_lt h3 h13
    · exact tks_lt h3 h13 n j h1 (by omega)
theorem tks_step {m : Nat} {rq : Nat → Bool} {r : Nat} {s0 : Nat → Nat} {n x : Nat} (hx : x = if (n + 1) % 2 = 1 then rsum m rq ((n + 1) % (2 ^ m - 1)) r else fmul m (tks m rq r s0 n ((n + 1) / 2)) (tks m rq r s0 n ((n + 1) / 2))) : upd (fun j => nI (tks m rq r s0 n j)) (n + 1) (nI x) = fun j => nI (tks m rq r s0 (n + 1) j) := by
  funext j
  by_cases h : j = n + 1
  · subst h; rw [pk_us, hx]; show _ = nI (if n + 1 = n + 1 then _ else _); rw [if_pos rfl]
  · rw [pk_un h]; show _ = nI (if j = n + 1 then _ else _); rw [if_neg h]
theorem odd_1 {n : Nat} (h : nI (n % 2 ^ 1) = nI 1) : n % 2 = 1 := (nI_eq (by omega) (by decide)).mp h
theorem odd_0 {n : Nat} (h : ¬ nI (n % 2 ^ 1) = nI 1) : ¬ n % 2 = 1 := fun z => h (by rw [show n % 2 ^ 1 = 1 by omega])
theorem ts_fw {X : Ev} {d' : Nat} {M0 M M' : Hp} {v : Option Value} {pc : Nat} {a b j : Value} (k : G X d' jX3_takeSyndromes M0 pc [some a, some b, none] [] M v M') : G X d' jX3_takeSyndromes M0 pc [some a, some b, some j] [] M v M' := x_fewer (fun q w h => by match q, h with | 0, h => exact h | 1, h => exact h | 2, h => cases h | q + 3, h => cases h) k
theorem lp_tks {X : Ev} {M0 M M' : Hp} {v : Option Value} {m : Nat} (hm : M[12]? = some (.inr (2, [.ref (1), .ref (5), .ref (13), .ref (15), .ref (16), .ref (17), .ref (18), .ref (19), .ref (20)]))) {pw lg : Nat → Int32} (hf : M[1]? = some (.inr (1, [.ref (2), .ref (3), .ref (4), .int (nI m), .int (nI (2 ^ m - 1))]))) (hp : M[2]? = some (.inl (0, 8192, .inl (pw)))) (hq : M[3]? = some (.inl (0, 8192, .inl (lg)))) (hF : FT pw lg m) {t d r n : Nat} {hi lo : Int64} (ho : M[5]? = some (.inr (0, [.ref (1), .ref (6), .ref (7), .ref (8), .ref (9), .ref (10), .int (nI t), .int (nI d), .int (nI r), .int (nI n), .long (hi), .long (lo)]))) (ht8 : t ≤ 8) {rs : Nat → Int32} {rq : Nat → Bool} (hrs : M[9]? = some (.inl (0, 104, .inl (rs)))) (hrq : ∀ j, j < r → rs j = nI (rq j).toNat) (hr : r ≤ 104) {s0 : Nat → Nat} (hsy : M[15]? = some (.inl (0, 17, .inl (fun j => nI ((s0) j))))) (kc : G X 3 jX3_takeSyndromes M0 63 [some (.ref (12)), some (.int (nI ((2 * t) + 1))), none] [] (M.set 15 (.inl (0, 17, .inl (fun j => nI ((tks m rq r s0 (2 * t)) j))))) v M') : ∀ (zz i : Nat), i + zz = 2 * t → G X 3 jX3_takeSyndromes M0 2 [some (.ref (12)), some (.int (nI (i + 1))), none] [] (M.set 15 (.inl (0, 17, .inl (fun j => nI ((tks m rq r s0 (i)) j))))) v M' := by
  intro zz
  induction zz with
  | zero =>
    intro i hii
    have hii : i = 2 * t := by omega
    subst hii
    refine x_iload_n dX3_takeSyndromes_2 rfl rfl ?_
    refine x_iconst (y := nI 2) dX3_takeSyndromes_3 rfl ?_
    refine x_aload_n dX3_takeSyndromes_4 rfl rfl ?_
    refine x_getf (ci := 2) (kf := 1) dX3_takeSyndromes_5 rfl uX3 (by decide) fl_RX3_41 (gn hm (by decide)) rfl ?_
    refine x_getf (ci := 0) (kf := 6) dX3_takeSyndromes_8 rfl uX0 (by decide) fl_RX3_54 (gn ho (by decide)) rfl ?_
    refine x_imul dX3_takeSyndromes_11 ?_
    refine x_casti (y := nI (2 * t)) (pk_mul _ _) ?_
    refine x_icmp_gt (tgt := 63) dX3_takeSyndromes_12 (by decide) (fun _ => ?_) (fun h => False.elim (h (nI_lt (by omega) (by omega))))
    exact kc
  | succ zz ih =>
    intro i hii
    refine x_iload_n dX3_takeSyndromes_2 rfl rfl ?_
    refine x_iconst (y := nI 2) dX3_takeSyndromes_3 rfl ?_
    refine x_aload_n dX3_takeSyndromes_4 rfl rfl ?_
    refine x_getf (ci := 2) (kf := 1) dX3_takeSyndromes_5 rfl uX3 (by decide) fl_RX3_41 (gn hm (by decide)) rfl ?_
    refine x_getf (ci := 0) (kf := 6) dX3_takeSyndromes_8 rfl uX0 (by decide) fl_RX3_54 (gn ho (by decide)) rfl ?_
    refine x_imul dX3_takeSyndromes_11 ?_
    refine x_casti (y := nI (2 * t)) (pk_mul _ _) ?_
    refine x_icmp_gt (tgt := 63) dX3_takeSyndromes_12 (by decide) (fun h => False.elim (nI_nlt (by omega : i + 1 ≤ 2 * t) (by omega) h)) (fun _ => ?_)
    refine x_aload_n dX3_takeSyndromes_15 rfl rfl ?_
    refine x_getf (ci := 2) (kf := 3) dX3_takeSyndromes_16 rfl uX3 (by decide) fl_RX3_18 (gn hm (by decide)) rfl ?_
    refine x_iload_n dX3_takeSyndromes_19 rfl rfl ?_
    refine x_iconst (y := nI 1) dX3_takeSyndromes_20 rfl ?_
    refine x_ishr dX3_takeSyndromes_21 ?_
    refine x_casti (y := nI ((i + 1) / 2)) (sh_n (by omega) 1 2 (by decide) (by decide)) ?_
    refine x_ild (j := (i + 1) / 2) dX3_takeSyndromes_22 (gs hsy) rfl (by omega) (by decide) ?_
    refine x_istore_n (ls' := [some (.ref (12)), some (.int (nI (i + 1))), some (.int ((fun j => nI ((tks m rq r s0 (i)) j)) ((i + 1) / 2)))]) dX3_takeSyndromes_23 rfl (by decide) rfl rfl ?_
    refine x_aload_n dX3_takeSyndromes_24 rfl rfl ?_
    refine x_getf (ci := 2) (kf := 3) dX3_takeSyndromes_25 rfl uX3 (by decide) fl_RX3_18 (gn hm (by decide)) rfl ?_
    refine x_iload_n dX3_takeSyndromes_28 rfl rfl ?_
    refine x_iload_n dX3_takeSyndromes_29 rfl rfl ?_
    refine x_iconst (y := nI 1) dX3_takeSyndromes_30 rfl ?_
    refine x_iand dX3_takeSyndromes_31 ?_
    refine x_casti (y := nI ((i + 1) % 2 ^ 1)) (an_n (by omega) 1 1 (by decide +kernel)) ?_
    refine x_iconst (y := nI 1) dX3_takeSyndromes_32 rfl ?_
    refine x_icmp_ne (tgt := 47) dX3_takeSyndromes_33 (by decide) (fun h33 => ?_) (fun h33 => ?_)
    · refine x_aload_n dX3_takeSyndromes_47 rfl rfl ?_
      refine x_getf (ci := 2) (kf := 0) dX3_takeSyndromes_48 rfl uX3 (by decide) fl_RX3_37 (gn hm (by decide)) rfl ?_
      refine x_iload_n dX3_takeSyndromes_51 rfl rfl ?_
      refine x_iload_n dX3_takeSyndromes_52 rfl rfl ?_
      refine x_callV (ci := 1) (as := [.int ((fun j => nI ((tks m rq r s0 (i)) j)) ((i + 1) / 2)), .int ((fun j => nI ((tks m rq r s0 (i)) j)) ((i + 1) / 2))]) dX3_takeSyndromes_53 mk_X2_product in_X2_product se_X2_product ml_RX3_116 rfl (gn hf (by decide)) (by decide) rfl rfl (Nat.le_of_ble_eq_true rfl) (c_product (gn hf (by decide)) (gn hp (by decide)) (gn hq (by decide)) hF (tks_lt hF.1.1 hF.1.2 _ _ (by have := odd_0 h33; omega) (by omega)) (tks_lt hF.1.1 hF.1.2 _ _ (by have := odd_0 h33; omega) (by omega))) ?_
      refine x_ist (j := i + 1) (M1 := (M.set (15) (.inl (0, 17, .inl (fun j => nI ((tks m rq r s0 (i + 1)) j)))))) dX3_takeSyndromes_56 (gs hsy) rfl (by omega) (by decide) (by rw [show upd (fun j => nI ((tks m rq r s0 (i)) j)) (i + 1) (nI (fmul m (tks m rq r s0 i ((i + 1) / 2)) (tks m rq r s0 i ((i + 1) / 2)))) = (fun j => nI ((tks m rq r s0 (i + 1)) j)) from (tks_step (by rw [if_neg (odd_0 h33)]))] <;> exact (ss0)) ?_
      refine x_iinc (y := nI ((i + 1) + 1)) (ls' := [some (.ref (12)), some (.int (nI ((i + 1) + 1))), some (.int ((fun j => nI ((tks m rq r s0 (i)) j)) ((i + 1) / 2)))]) dX3_takeSyndromes_57 (by decide) rfl rfl (ii_add _ 1) rfl ?_
      refine x_goto (tgt := 2) dX3_takeSyndromes_60 (by decide) ?_
      refine ts_fw ?_
      exact ih (i + 1) (by omega)
    · refine x_aload_n dX3_takeSyndromes_36 rfl rfl ?_
      refine x_getf (ci := 2) (kf := 1) dX3_takeSyndromes_37 rfl uX3 (by decide) fl_RX3_41 (gn hm (by decide)) rfl ?_
      refine x_iload_n dX3_takeSyndromes_40 rfl rfl ?_
      refine x_callV (ci := 0) (as := [.int (nI (i + 1))]) dX3_takeSyndromes_41 mk_X0_restAt in_X0_restAt se_X0_restAt ml_RX3_113 rfl (gn ho (by decide)) (by decide) rfl rfl (Nat.le_of_ble_eq_true rfl) (c_restAt (gn ho (by decide)) (gn hf (by decide)) (gn hp (by decide)) hF (gn hrs (by decide)) hrq hr (a := i + 1) (by omega)) ?_
      refine x_goto (tgt := 56) dX3_takeSyndromes_44 (by decide) ?_
      refine x_ist (j := i + 1) (M1 := (M.set (15) (.inl (0, 17, .inl (fun j => nI ((tks m rq r s0 (i + 1)) j)))))) dX3_takeSyndromes_56 (gs hsy) rfl (by omega) (by decide) (by rw [show upd (fun j => nI ((tks m rq r s0 (i)) j)) (i + 1) (nI (rsum m rq ((i + 1) % (2 ^ m - 1)) r)) = (fun j => nI ((tks m rq r s0 (i + 1)) j)) from (tks_step (by rw [if_pos (odd_1 h33)]))] <;> exact (ss0)) ?_
      refine x_iinc (y := nI ((i + 1) + 1)) (ls' := [some (.ref (12)), some (.int (nI ((i + 1) + 1))), some (.int ((fun j => nI ((tks m rq r s0 (i)) j)) ((i + 1) / 2)))]) dX3_takeSyndromes_57 (by decide) rfl rfl (ii_add _ 1) rfl ?_
      refine x_goto (tgt := 2) dX3_takeSyndromes_60 (by decide) ?_
      refine ts_fw ?_
      exact ih (i + 1) (by omega)
theorem c_takeSyndromes {X : Ev} {M : Hp} {m : Nat} (hm : M[12]? = some (.inr (2, [.ref (1), .ref (5), .ref (13), .ref (15), .ref (16), .ref (17), .ref (18), .ref (19), .ref (20)]))) {pw lg : Nat → Int32} (hf : M[1]? = some (.inr (1, [.ref (2), .ref (3), .ref (4), .int (nI m), .int (nI (2 ^ m - 1))]))) (hp : M[2]? = some (.inl (0, 8192, .inl (pw)))) (hq : M[3]? = some (.inl (0, 8192, .inl (lg)))) (hF : FT pw lg m) {t d r n : Nat} {hi lo : Int64} (ho : M[5]? = some (.inr (0, [.ref (1), .ref (6), .ref (7), .ref (8), .ref (9), .ref (10), .int (nI t), .int (nI d), .int (nI r), .int (nI n), .long (hi), .long (lo)]))) (ht8 : t ≤ 8) {rs : Nat → Int32} {rq : Nat → Bool} (hrs : M[9]? = some (.inl (0, 104, .inl (rs)))) (hrq : ∀ j, j < r → rs j = nI (rq j).toNat) (hr : r ≤ 104) {s0 : Nat → Nat} (hsy : M[15]? = some (.inl (0, 17, .inl (fun j => nI ((s0) j))))) : Cl X 3 jX3_takeSyndromes [.ref (12)] M none (M.set 15 (.inl (0, 17, .inl (fun j => nI ((tks m rq r s0 (2 * t)) j))))) := by
  refine Cl.of (ls := [some (.ref (12)), none, none]) (by decide) rfl (Nat.le_of_ble_eq_true rfl) ?_
  refine x_iconst (y := nI 1) dX3_takeSyndromes_0 rfl ?_
  refine x_istore_n (ls' := [some (.ref (12)), some (.int (nI 1)), none]) dX3_takeSyndromes_1 rfl (by decide) rfl rfl ?_
  refine G.hp (set_id hsy rfl) (lp_tks hm hf hp hq hF ho ht8 hrs hrq hr hsy (x_ret dX3_takeSyndromes_63 rfl) (2 * t) 0 (by omega))
theorem nI_nm1 {l : Nat} (h : l < 2 ^ 31) : ¬ nI l = -1 := fun z => by
  have z2 := congrArg Int32.toInt z
  rw [nI_toInt h] at z2
  have z3 : (-1 : Int32).toInt = -1 := by decide
  rw [z3] at z2
  omega
def lgv : Option Nat → Int32
  | none => -1
  | some l => nI l
def lnx (N k : Nat) (o : Option Nat) : Option Nat := o.map (fun l => if N ≤ l + k then l + k - N else l + k)
def lzs (m : Nat) (lo : Nat → Option Nat) : Nat → Nat
  | 0 => 1
  | n + 1 => match lo (n + 1) with
    | none => lzs m lo n
    | some l => lzs m lo n ^^^ pwr m l
def lzl (N : Nat) (lo : Nat → Option Nat) (n : Nat) : Nat → Option Nat := fun j => if 1 ≤ j ∧ j ≤ n then lnx N j (lo j) else lo j
theorem lzl_at {N : Nat} {lo : Nat → Option Nat} {n : Nat} : lzl N lo n (n + 1) = lo (n + 1) := by unfold lzl; rw [if_neg (by omega)]
theorem lzl_none {N : Nat} {lo : Nat → Option Nat} {n : Nat} (h : lo (n + 1) = none) : lzl N lo (n + 1) = lzl N lo n := by
  funext j
  unfold lzl
  by_cases hj : j = n + 1
  · subst hj; rw [if_pos (by omega), if_neg (by omega), h]; rfl
  · by_cases h2 : 1 ≤ j ∧ j ≤ n
    · rw [if_pos h2, if_pos (by omega)]
    · rw [if_neg h2, if_neg (by omega)]
theorem lzl_some {N : Nat} {lo : Nat → Option Nat} {n l : Nat} (h : lo (n + 1) = some l) {x : Int32} (hx : x = lgv (lnx N (n + 1) (some l))) : upd (fun j => lgv (lzl N lo n j)) (n + 1) x = fun j => lgv (lzl N lo (n + 1) j) := by
  funext j
  by_cases hj : j = n + 1
  · subst hj; rw [pk_us, hx]; unfold lzl; rw [if_pos (by omega), h]
  · rw [pk_un hj]; unfold lzl
    by_cases h2 : 1 ≤ j ∧ j ≤ n
    · rw [if_pos h2, if_pos (by omega)]
    · rw [if_neg h2, if_neg (by omega)]
theorem upd_upd {f : Nat → Int32} {k : Nat} {x y : Int32} : upd (upd f k x) k y = upd f k y := by
  funext j
  by_cases h : j = k
  · subst h; rw [pk_us, pk_us]
  · rw [pk_un h, pk_un h, pk_un h]
theorem lp_liz {X : Ev} {M0 M M' : Hp} {v : Option Value} {m : Nat} (hm : M[12]? = some (.inr (2, [.ref (1), .ref (5), .ref (13), .ref (15), .ref (16), .ref (17), .ref (18), .ref (19), .ref (20)]))) {pw lg : Nat → Int32} (hf : M[1]? = some (.inr (1, [.ref (2), .ref (3), .ref (4), .int (nI m), .int (nI (2 ^ m - 1))]))) (hp : M[2]? = some (.inl (0, 8192, .inl (pw)))) (hq : M[3]? = some (.inl (0, 8192, .inl (lg)))) (hF : FT pw lg m) {lo : Nat → Option Nat} (hlg : M[19]? = some (.inl (0, 9, .inl (fun j => lgv ((lo) j))))) {many : Nat} (hmn : many ≤ 8) (hm4 : 4 ≤ m) (hlo : ∀ j l, 1 ≤ j → j ≤ many → lo j = some l → l < 2 ^ m - 1) (kc : G X 0 jX3_locatorIsZero M0 84 [some (.ref (12)), some (.int (nI many)), some (.int (nI (lzs m lo (many)))), some (.int (nI (many + 1)))] [] (M.set 19 (.inl (0, 9, .inl (fun j => lgv ((lzl (2 ^ m - 1) lo (many)) j))))) v M') : ∀ (zz i : Nat), i + zz = many → G X 0 jX3_locatorIsZero M0 4 [some (.ref (12)), some (.int (nI many)), some (.int (nI (lzs m lo (i)))), some (.int (nI (i + 1)))] [] (M.set 19 (.inl (0, 9, .inl (fun j => lgv ((lzl (2 ^ m - 1) lo (i)) j))))) v M' := by
  have ht := two_le hF.1.1 hF.1.2
  have h16 : 16 ≤ 2 ^ m := Nat.pow_le_pow_right (n := 2) (i := 4) (by decide) hm4
  intro zz
  induction zz with
  | zero =>
    intro i hii
    have hii : i = many := by omega
    subst hii
    refine x_iload_n dX3_locatorIsZero_4 rfl rfl ?_
    refine x_iload_n dX3_locatorIsZero_5 rfl rfl ?_
    refine x_icmp_gt (tgt := 84) dX3_locatorIsZero_6 (by decide) (fun _ => ?_) (fun h => False.elim (h (nI_lt (by omega) (by omega))))
    exact kc
  | succ zz ih =>
    intro i hii
    cases hc : lo (i + 1) with
    | none =>
      refine x_iload_n dX3_locatorIsZero_4 rfl rfl ?_
      refine x_iload_n dX3_locatorIsZero_5 rfl rfl ?_
      refine x_icmp_gt (tgt := 84) dX3_locatorIsZero_6 (by decide) (fun h => False.elim (nI_nlt (by omega : i + 1 ≤ many) (by omega) h)) (fun _ => ?_)
      refine x_aload_n dX3_locatorIsZero_9 rfl rfl ?_
      refine x_getf (ci := 2) (kf := 7) dX3_locatorIsZero_10 rfl uX3 (by decide) fl_RX3_31 (gn hm (by decide)) rfl ?_
      refine x_iload_n dX3_locatorIsZero_13 rfl rfl ?_
      refine x_ild (j := i + 1) dX3_locatorIsZero_14 (gs hlg) rfl (by omega) (by decide) ?_
      refine x_casti (y := -1) (by show lgv (lzl _ lo i (i + 1)) = _; rw [lzl_at, hc]; rfl) ?_
      refine x_iconst (y := -1) dX3_locatorIsZero_15 rfl ?_
      refine x_icmp_eq (tgt := 78) dX3_locatorIsZero_16 (by decide) (fun _ => ?_) (fun h => False.elim (h rfl))
      refine x_iinc (y := nI ((i + 1) + 1)) (ls' := [some (.ref (12)), some (.int (nI many)), some (.int (nI (lzs m lo (i)))), some (.int (nI ((i + 1) + 1)))]) dX3_locatorIsZero_78 (by decide) rfl rfl (ii_add _ 1) rfl ?_
      refine x_goto (tgt := 4) dX3_locatorIsZero_81 (by decide) ?_
      have e1 : lzs m lo (i + 1) = lzs m lo i := by show (match lo (i + 1) with | none => _ | some l => _) = _; rw [hc]
      rw [← e1, ← lzl_none hc]
      exact ih (i + 1) (by omega)
    | some l =>
      have hl := hlo _ _ (by omega) (by omega) hc
      refine x_iload_n dX3_locatorIsZero_4 rfl rfl ?_
      refine x_iload_n dX3_locatorIsZero_5 rfl rfl ?_
      refine x_icmp_gt (tgt := 84) dX3_locatorIsZero_6 (by decide) (fun h => False.elim (nI_nlt (by omega : i + 1 ≤ many) (by omega) h)) (fun _ => ?_)
      refine x_aload_n dX3_locatorIsZero_9 rfl rfl ?_
      refine x_getf (ci := 2) (kf := 7) dX3_locatorIsZero_10 rfl uX3 (by decide) fl_RX3_31 (gn hm (by decide)) rfl ?_
      refine x_iload_n dX3_locatorIsZero_13 rfl rfl ?_
      refine x_ild (j := i + 1) dX3_locatorIsZero_14 (gs hlg) rfl (by omega) (by decide) ?_
      refine x_casti (y := nI l) (by show lgv (lzl _ lo i (i + 1)) = _; rw [lzl_at, hc]; rfl) ?_
      refine x_iconst (y := -1) dX3_locatorIsZero_15 rfl ?_
      refine x_icmp_eq (tgt := 78) dX3_locatorIsZero_16 (by decide) (fun h => False.elim (absurd h (nI_nm1 (by omega)))) (fun _ => ?_)
      refine x_iload_n dX3_locatorIsZero_19 rfl rfl ?_
      refine x_aload_n dX3_locatorIsZero_20 rfl rfl ?_
      refine x_getf (ci := 2) (kf := 0) dX3_locatorIsZero_21 rfl uX3 (by decide) fl_RX3_37 (gn hm (by decide)) rfl ?_
      refine x_getf (ci := 1) (kf := 0) dX3_locatorIsZero_24 rfl uX2 (by decide) fl_RX3_158 (gn hf (by decide)) rfl ?_
      refine x_aload_n dX3_locatorIsZero_27 rfl rfl ?_
      refine x_getf (ci := 2) (kf := 7) dX3_locatorIsZero_28 rfl uX3 (by decide) fl_RX3_31 (gn hm (by decide)) rfl ?_
      refine x_iload_n dX3_locatorIsZero_31 rfl rfl ?_
      refine x_ild (j := i + 1) dX3_locatorIsZero_32 (gs hlg) rfl (by omega) (by decide) ?_
      refine x_casti (y := nI l) (by show lgv (lzl _ lo i (i + 1)) = _; rw [lzl_at, hc]; rfl) ?_
      refine x_ild (j := l) dX3_locatorIsZero_33 (gn hp (by decide)) rfl (by omega) (by decide) ?_
      refine x_casti (y := nI (pwr m l)) ((hF.2 _ hl).1) ?_
      refine x_ixor dX3_locatorIsZero_34 ?_
      refine x_casti (y := nI (lzs m lo (i + 1))) (by rw [nI_xor]; congr 1; show _ = (match lo (i + 1) with | none => _ | some l => _); rw [hc]) ?_
      refine x_istore_n (ls' := [some (.ref (12)), some (.int (nI many)), some (.int (nI (lzs m lo (i + 1)))), some (.int (nI (i + 1)))]) dX3_locatorIsZero_35 rfl (by decide) rfl rfl ?_
      refine x_aload_n dX3_locatorIsZero_36 rfl rfl ?_
      refine x_getf (ci := 2) (kf := 7) dX3_locatorIsZero_37 rfl uX3 (by decide) fl_RX3_31 (gn hm (by decide)) rfl ?_
      refine x_iload_n dX3_locatorIsZero_40 rfl rfl ?_
      refine x_dup2 dX3_locatorIsZero_41 rfl rfl ?_
      refine x_ild (j := i + 1) dX3_locatorIsZero_42 (gs hlg) rfl (by omega) (by decide) ?_
      refine x_casti (y := nI l) (by show lgv (lzl _ lo i (i + 1)) = _; rw [lzl_at, hc]; rfl) ?_
      refine x_iload_n dX3_locatorIsZero_43 rfl rfl ?_
      refine x_iadd dX3_locatorIsZero_44 ?_
      refine x_casti (y := nI (l + (i + 1))) (nI_add _ _) ?_
      refine x_ist (j := i + 1) (M1 := (M.set (19) (.inl (0, 9, .inl (upd (fun j => lgv ((lzl (2 ^ m - 1) lo (i)) j)) (i + 1) (nI (l + (i + 1)))))))) dX3_locatorIsZero_45 (gs hlg) rfl (by omega) (by decide) (ss0) ?_
      refine x_aload_n dX3_locatorIsZero_46 rfl rfl ?_
      refine x_getf (ci := 2) (kf := 7) dX3_locatorIsZero_47 rfl uX3 (by decide) fl_RX3_31 (gn hm (by decide)) rfl ?_
      refine x_iload_n dX3_locatorIsZero_50 rfl rfl ?_
      refine x_ild (j := i + 1) dX3_locatorIsZero_51 (gs hlg) rfl (by omega) (by decide) ?_
      refine x_casti (y := nI (l + (i + 1))) pk_us ?_
      refine x_aload_n dX3_locatorIsZero_52 rfl rfl ?_
      refine x_getf (ci := 2) (kf := 0) dX3_locatorIsZero_53 rfl uX3 (by decide) fl_RX3_37 (gn hm (by decide)) rfl ?_
      refine x_getf (ci := 1) (kf := 4) dX3_locatorIsZero_56 rfl uX2 (by decide) fl_RX3_147 (gn hf (by decide)) rfl ?_
      refine x_icmp_lt (tgt := 78) dX3_locatorIsZero_59 (by decide) (fun h59 => ?_) (fun h59 => ?_)
      · refine x_iinc (y := nI ((i + 1) + 1)) (ls' := [some (.ref (12)), some (.int (nI many)), some (.int (nI (lzs m lo (i + 1)))), some (.int (nI ((i + 1) + 1)))]) dX3_locatorIsZero_78 (by decide) rfl rfl (ii_add _ 1) rfl ?_
        refine x_goto (tgt := 4) dX3_locatorIsZero_81 (by decide) ?_
        rw [show upd (fun j => lgv ((lzl (2 ^ m - 1) lo (i)) j)) (i + 1) (nI (l + (i + 1))) = (fun j => lgv ((lzl (2 ^ m - 1) lo (i + 1)) j)) from lzl_some hc (by show _ = nI (if _ ≤ _ then _ else _); rw [if_neg (by have hz := (nI_ltI (by omega) (by omega)).mp h59; omega)])]
        exact ih (i + 1) (by omega)
      · refine x_aload_n dX3_locatorIsZero_62 rfl rfl ?_
        refine x_getf (ci := 2) (kf := 7) dX3_locatorIsZero_63 rfl uX3 (by decide) fl_RX3_31 (gn hm (by decide)) rfl ?_
        refine x_iload_n dX3_locatorIsZero_66 rfl rfl ?_
        refine x_dup2 dX3_locatorIsZero_67 rfl rfl ?_
        refine x_ild (j := i + 1) dX3_locatorIsZero_68 (gs hlg) rfl (by omega) (by decide) ?_
        refine x_casti (y := nI (l + (i + 1))) pk_us ?_
        refine x_aload_n dX3_locatorIsZero_69 rfl rfl ?_
        refine x_getf (ci := 2) (kf := 0) dX3_locatorIsZero_70 rfl uX3 (by decide) fl_RX3_37 (gn hm (by decide)) rfl ?_
        refine x_getf (ci := 1) (kf := 4) dX3_locatorIsZero_73 rfl uX2 (by decide) fl_RX3_147 (gn hf (by decide)) rfl ?_
        refine x_isub dX3_locatorIsZero_76 ?_
        refine x_casti (y := nI (l + (i + 1) - (2 ^ m - 1))) (pk_sub ((nI_leI (by omega) (by omega)).mp (Int32.not_lt.mp h59))) ?_
        refine x_ist (j := i + 1) (M1 := (M.set (19) (.inl (0, 9, .inl (fun j => lgv ((lzl (2 ^ m - 1) lo (i + 1)) j)))))) dX3_locatorIsZero_77 (gs hlg) rfl (by omega) (by decide) (by rw [show upd (upd (fun j => lgv ((lzl (2 ^ m - 1) lo (i)) j)) (i + 1) (nI (l + (i + 1)))) (i + 1) (nI (l + (i + 1) - (2 ^ m - 1))) = (fun j => lgv ((lzl (2 ^ m - 1) lo (i + 1)) j)) from (upd_upd.trans (lzl_some hc (by show _ = nI (if _ ≤ _ then _ else _); rw [if_pos ((nI_leI (by omega) (by omega)).mp (Int32.not_lt.mp h59))])))] <;> exact (ss0)) ?_
        refine x_iinc (y := nI ((i + 1) + 1)) (ls' := [some (.ref (12)), some (.int (nI many)), some (.int (nI (lzs m lo (i + 1)))), some (.int (nI ((i + 1) + 1)))]) dX3_locatorIsZero_78 (by decide) rfl rfl (ii_add _ 1) rfl ?_
        refine x_goto (tgt := 4) dX3_locatorIsZero_81 (by decide) ?_
        exact ih (i + 1) (by omega)
theorem lzs_lt {m : Nat} (h3 : 3 ≤ m) (h13 : m ≤ 13) {lo : Nat → Option Nat} : ∀ n, lzs m lo n < 2 ^ m
  | 0 => Nat.one_lt_two_pow (by omega)
  | n + 1 => by
    unfold lzs
    split
    · exact lzs_lt h3 h13 n
    · exact xor_lt (lzs_lt h3 h13 n) (pwr_lt h3 h13 _)
theorem c_locatorIsZero {X : Ev} {M : Hp} {m : Nat} (hm : M[12]? = some (.inr (2, [.ref (1), .ref (5), .ref (13), .ref (15), .ref (16), .ref (17), .ref (18), .ref (19), .ref (20)]))) {pw lg : Nat → Int32} (hf : M[1]? = some (.inr (1, [.ref (2), .ref (3), .ref (4), .int (nI m), .int (nI (2 ^ m - 1))]))) (hp : M[2]? = some (.inl (0, 8192, .inl (pw)))) (hq : M[3]? = some (.inl (0, 8192, .inl (lg)))) (hF : FT pw lg m) {lo : Nat → Option Nat} (hlg : M[19]? = some (.inl (0, 9, .inl (fun j => lgv ((lo) j))))) {many : Nat} (hmn : many ≤ 8) (hm4 : 4 ≤ m) (hlo : ∀ j l, 1 ≤ j → j ≤ many → lo j = some l → l < 2 ^ m - 1) : Cl X 0 jX3_locatorIsZero [.ref (12), .int (nI many)] M (some (.int (if lzs m lo many == 0 then 1 else 0))) (M.set 19 (.inl (0, 9, .inl (fun j => lgv ((lzl (2 ^ m - 1) lo (many)) j))))) := by
  have ht := two_le hF.1.1 hF.1.2
  refine Cl.of (ls := [some (.ref (12)), some (.int (nI many)), none, none]) (by decide) rfl (Nat.le_of_ble_eq_true rfl) ?_
  refine x_iconst (y := nI 1) dX3_locatorIsZero_0 rfl ?_
  refine x_istore_n (ls' := [some (.ref (12)), some (.int (nI many)), some (.int (nI 1)), none]) dX3_locatorIsZero_1 rfl (by decide) rfl rfl ?_
  refine x_iconst (y := nI 1) dX3_locatorIsZero_2 rfl ?_
  refine x_istore_n (ls' := [some (.ref (12)), some (.int (nI many)), some (.int (nI 1)), some (.int (nI 1))]) dX3_locatorIsZero_3 rfl (by decide) rfl rfl ?_
  refine G.hp ((set_id hlg rfl).trans (by rw [show lzl (2 ^ m - 1) lo 0 = lo by funext j; unfold lzl; rw [if_neg (by omega)]])) (lp_liz hm hf hp hq hF hlg hmn hm4 hlo ?_ many 0 (by omega))
  have hlz : lzs m lo many < 2 ^ m := lzs_lt hF.1.1 hF.1.2 many
  refine x_iload_n dX3_locatorIsZero_84 rfl rfl ?_
  refine x_if_ne (tgt := 92) dX3_locatorIsZero_85 (by decide) (fun h85 => ?_) (fun h85 => ?_)
  · refine x_iconst (y := nI 0) dX3_locatorIsZero_92 rfl ?_
    exact x_zreturn_eq dX3_locatorIsZero_93 rfl (by rw [beq_false_of_ne (fun z : lzs m lo many = 0 => h85 (by rw [z]; rfl))]; rfl)
  · refine x_iconst (y := nI 1) dX3_locatorIsZero_88 rfl ?_
    refine x_goto (tgt := 93) dX3_locatorIsZero_89 (by decide) ?_
    exact x_zreturn_eq dX3_locatorIsZero_93 rfl (by rw [show lzs m lo many = 0 from (nI_eq (by omega) (by decide)).mp h85]; rfl)
