/-! COSETS -/
def dbl (e n : Nat) : Nat := if n ≤ 2 * e then 2 * e - n else 2 * e
theorem dbl_lt {e n : Nat} (h : e < n) : dbl e n < n := by unfold dbl; split <;> omega
theorem dbl_mod {e n : Nat} (h : e < n) : dbl e n = 2 * e % n := by
  unfold dbl
  split
  · rename_i hc
    rw [Nat.mod_eq_sub_mod hc, Nat.mod_eq_of_lt (by omega)]
  · rw [Nat.mod_eq_of_lt (by omega)]
theorem sl_m {m : Nat} (h : m < 31) : nI 1 <<< (nI m &&& 31) = nI (2 ^ m) := by
  have h2 : 1 * 2 ^ m < 2 ^ 32 := by
    rw [Nat.one_mul]; exact Nat.pow_lt_pow_right (by decide) (by omega)
  rw [pk_shlN (n := 1) _ m (s_l m (by omega)) h2, Nat.one_mul]
theorem red_nat {i n : Nat} (hi : i < 2 ^ 31) : red (nI i) n = i % n := by
  unfold red
  rw [nI_toInt hi]
  omega
theorem two_le {m : Nat} (h3 : 3 ≤ m) (h13 : m ≤ 13) : 8 ≤ 2 ^ m ∧ 2 ^ m ≤ 8192 := ⟨Nat.pow_le_pow_right (n := 2) (i := 3) (by decide) h3, Nat.pow_le_pow_right (n := 2) (j := 13) (by decide) h13⟩
def csl (n s : Nat) : Nat → Nat → Nat → Nat
  | 0, _, k => k
  | r + 1, e, k => if e = s then k else csl n s r (dbl e n) (k + 1)
/-- how many exponents there are with i, doubled again and again -/
def csize (i m : Nat) : Nat := csl (2 ^ m - 1) (i % (2 ^ m - 1)) (m - 1) (dbl (i % (2 ^ m - 1)) (2 ^ m - 1)) 1
def lsl (n : Nat) : Nat → Nat → Nat → Nat
  | 0, _, l => l
  | r + 1, e, l => lsl n r (dbl e n) (min l (dbl e n))
def cleast (i m : Nat) : Nat := lsl (2 ^ m - 1) (m - 1) (i % (2 ^ m - 1)) (i % (2 ^ m - 1))
def isnl (m l i : Nat) : Nat → Nat → Bool
  | 0, _ => true
  | r + 1, b => if i ≤ b then true else if cleast b m = l then false else isnl m l i r (b + 2)
def cnew (i m : Nat) : Bool := isnl m (cleast i m) i i 1
def tll (m t : Nat) : Nat → Nat → Nat → Nat
  | 0, _, s => s
  | r + 1, i, s => if 2 * t ≤ i then s else tll m t r (i + 2) (if cnew i m then s + csize i m else s)
/-- R for m and t, as the class counts it -/
def ctail (m t : Nat) : Nat := tll m t (2 * t) 1 0
theorem c_reduced {X : Ev} {M : Hp} {i : Int32} {n : Nat} (h0 : 0 < n) (hn : n < 2 ^ 31) : Cl X 1 jX1_reduced [.int (i), .int (nI n)] M (some (.int (nI (red i n)))) M := by
  refine Cl.of (ls := [some (.int (i)), some (.int (nI n))]) (by decide) rfl (Nat.le_of_ble_eq_true rfl) ?_
  refine x_iload_n dX1_reduced_0 rfl rfl ?_
  refine x_iconst (y := nI 1) dX1_reduced_1 rfl ?_
  refine x_icmp_ge (tgt := 9) dX1_reduced_2 (by decide) (fun _ => ?_) (fun h => False.elim (h (nI_le h0 hn)))
  refine x_iload_n dX1_reduced_9 rfl rfl ?_
  refine x_iload_n dX1_reduced_10 rfl rfl ?_
  refine x_callS (as := [.int (i), .int (nI n)]) dX1_reduced_11 mk_J9_floorMod_7cf53 st_J9_floorMod_7cf53 ml_RX1_7 (by decide) rfl rfl (Nat.le_of_ble_eq_true rfl) (c_floorMod h0 hn) ?_
  exact x_ireturn_eq dX1_reduced_14 rfl rfl
theorem c_reducedN {X : Ev} {M : Hp} {i n : Nat} (hi : i < 2 ^ 31) (h0 : 0 < n) (hn : n < 2 ^ 31) : Cl X 1 jX1_reduced [.int (nI i), .int (nI n)] M (some (.int (nI (i % n)))) M := by
  have h := c_reduced (X := X) (M := M) (i := nI i) h0 hn
  rw [red_nat hi] at h
  exact h
theorem c_doubled {X : Ev} {M : Hp} {e n : Nat} (he : e < n) (hn : n < 2 ^ 30) : Cl X 0 jX1_doubled [.int (nI e), .int (nI n)] M (some (.int (nI (dbl e n)))) M := by
  refine Cl.of (ls := [some (.int (nI e)), some (.int (nI n))]) (by decide) rfl (Nat.le_of_ble_eq_true rfl) ?_
  refine x_iconst (y := nI 2) dX1_doubled_0 rfl ?_
  refine x_iload_n dX1_doubled_1 rfl rfl ?_
  refine x_imul dX1_doubled_2 ?_
  refine x_casti (y := nI (2 * e)) (pk_mul _ _) ?_
  refine x_iload_n dX1_doubled_3 rfl rfl ?_
  refine x_icmp_lt (tgt := 15) dX1_doubled_4 (by decide) (fun h4 => ?_) (fun h4 => ?_)
  · refine x_iconst (y := nI 2) dX1_doubled_15 rfl ?_
    refine x_iload_n dX1_doubled_16 rfl rfl ?_
    refine x_imul dX1_doubled_17 ?_
    refine x_casti (y := nI (2 * e)) (pk_mul _ _) ?_
    exact x_ireturn_eq dX1_doubled_18 rfl (by unfold dbl; rw [if_neg (by have := (nI_ltI (by omega) (by omega)).mp h4; omega)])
  · refine x_iconst (y := nI 2) dX1_doubled_7 rfl ?_
    refine x_iload_n dX1_doubled_8 rfl rfl ?_
    refine x_imul dX1_doubled_9 ?_
    refine x_casti (y := nI (2 * e)) (pk_mul _ _) ?_
    refine x_iload_n dX1_doubled_10 rfl rfl ?_
    refine x_isub dX1_doubled_11 ?_
    refine x_casti (y := nI (2 * e - n)) (pk_sub ((nI_leI (by omega) (by omega)).mp (Int32.not_lt.mp h4))) ?_
    refine x_goto (tgt := 18) dX1_doubled_12 (by decide) ?_
    exact x_ireturn_eq dX1_doubled_18 rfl (by unfold dbl; rw [if_pos ((nI_leI (by omega) (by omega)).mp (Int32.not_lt.mp h4))])
theorem lp_size {X : Ev} {M0 M : Hp} {i m : Nat} (h3 : 3 ≤ m) (h13 : m ≤ 13) (hi : i < 2 ^ 31) : ∀ (r e k : Nat), k + r = m → e < 2 ^ m - 1 → G X 2 jX1_size M0 22 [some (.int (nI i)), some (.int (nI m)), some (.int (nI (2 ^ m - 1))), some (.int (nI (i % (2 ^ m - 1)))), some (.int (nI e)), some (.int (nI k))] [] M (some (.int (nI (csl (2 ^ m - 1) (i % (2 ^ m - 1)) r e k)))) M := by
  have ht := two_le h3 h13
  have hlt : i % (2 ^ m - 1) < 2 ^ m - 1 := Nat.mod_lt _ (by omega)
  intro r
  induction r with
  | zero =>
    intro e k hk he
    refine x_iload dX1_size_22 rfl ?_
    refine x_iload_n dX1_size_24 rfl rfl ?_
    refine x_icmp_eq (tgt := 48) dX1_size_25 (by decide) (fun h25 => ?_) (fun h25 => ?_)
    · refine x_iload dX1_size_48 rfl ?_
      exact x_ireturn_eq dX1_size_50 rfl rfl
    · refine x_iload dX1_size_28 rfl ?_
      refine x_iload_n dX1_size_30 rfl rfl ?_
      refine x_icmp_ge (tgt := 48) dX1_size_31 (by decide) (fun _ => ?_) (fun h => False.elim (h (nI_le (by omega) (by omega))))
      refine x_iload dX1_size_48 rfl ?_
      exact x_ireturn_eq dX1_size_50 rfl rfl
  | succ r ih =>
    intro e k hk he
    refine x_iload dX1_size_22 rfl ?_
    refine x_iload_n dX1_size_24 rfl rfl ?_
    refine x_icmp_eq (tgt := 48) dX1_size_25 (by decide) (fun h25 => ?_) (fun h25 => ?_)
    · refine x_iload dX1_size_48 rfl ?_
      exact x_ireturn_eq dX1_size_50 rfl (by show nI k = nI (if e = _ then k else _); rw [if_pos ((nI_eq (by omega) (by omega)).mp h25)])
    · refine x_iload dX1_size_28 rfl ?_
      refine x_iload_n dX1_size_30 rfl rfl ?_
      refine x_icmp_ge (tgt := 48) dX1_size_31 (by decide) (fun h => False.elim (nI_ge (by omega : k < m) (by omega) h)) (fun _ => ?_)
      refine x_iload dX1_size_34 rfl ?_
      refine x_iload_n dX1_size_36 rfl rfl ?_
      refine x_callS (as := [.int (nI e), .int (nI (2 ^ m - 1))]) dX1_size_37 mk_X1_doubled st_X1_doubled ml_RX1_18 (by decide) rfl rfl (Nat.le_of_ble_eq_true rfl) (c_doubled (by first | assumption | exact Nat.mod_lt _ (by omega) | exact dbl_lt (by assumption)) (by omega)) ?_
      refine x_istore (ls' := [some (.int (nI i)), some (.int (nI m)), some (.int (nI (2 ^ m - 1))), some (.int (nI (i % (2 ^ m - 1)))), some (.int (nI (dbl e (2 ^ m - 1)))), some (.int (nI k))]) dX1_size_40 (by decide) rfl rfl ?_
      refine x_iinc (y := nI (k + 1)) (ls' := [some (.int (nI i)), some (.int (nI m)), some (.int (nI (2 ^ m - 1))), some (.int (nI (i % (2 ^ m - 1)))), some (.int (nI (dbl e (2 ^ m - 1)))), some (.int (nI (k + 1)))]) dX1_size_42 (by decide) rfl rfl (ii_add _ 1) rfl ?_
      refine x_goto (tgt := 22) dX1_size_45 (by decide) ?_
      have hne : ¬ e = (i % (2 ^ m - 1)) := fun z => h25 (by rw [z])
      have hz : csl (2 ^ m - 1) (i % (2 ^ m - 1)) (r + 1) e k = csl (2 ^ m - 1) (i % (2 ^ m - 1)) r (dbl e (2 ^ m - 1)) (k + 1) := if_neg hne
      rw [hz]
      exact ih (dbl e (2 ^ m - 1)) (k + 1) (by omega) (dbl_lt he)
theorem c_size {X : Ev} {M : Hp} {i m : Nat} (h3 : 3 ≤ m) (h13 : m ≤ 13) (hi : i < 2 ^ 31) : Cl X 2 jX1_size [.int (nI i), .int (nI m)] M (some (.int (nI (csize i m)))) M := by
  have ht := two_le h3 h13
  have hlt : i % (2 ^ m - 1) < 2 ^ m - 1 := Nat.mod_lt _ (by omega)
  refine Cl.of (ls := [some (.int (nI i)), some (.int (nI m)), none, none, none, none]) (by decide) rfl (Nat.le_of_ble_eq_true rfl) ?_
  refine x_iconst (y := nI 1) dX1_size_0 rfl ?_
  refine x_iload_n dX1_size_1 rfl rfl ?_
  refine x_ishl dX1_size_2 ?_
  refine x_casti (y := nI (2 ^ m)) (sl_m (by omega)) ?_
  refine x_iconst (y := nI 1) dX1_size_3 rfl ?_
  refine x_isub dX1_size_4 ?_
  refine x_casti (y := nI (2 ^ m - 1)) (pk_sub (by omega)) ?_
  refine x_istore_n (ls' := [some (.int (nI i)), some (.int (nI m)), some (.int (nI (2 ^ m - 1))), none, none, none]) dX1_size_5 rfl (by decide) rfl rfl ?_
  refine x_iload_n dX1_size_6 rfl rfl ?_
  refine x_iload_n dX1_size_7 rfl rfl ?_
  refine x_callS (as := [.int (nI i), .int (nI (2 ^ m - 1))]) dX1_size_8 mk_X1_reduced st_X1_reduced ml_RX1_13 (by decide) rfl rfl (Nat.le_of_ble_eq_true rfl) (c_reducedN hi (by omega) (by omega)) ?_
  refine x_istore_n (ls' := [some (.int (nI i)), some (.int (nI m)), some (.int (nI (2 ^ m - 1))), some (.int (nI (i % (2 ^ m - 1)))), none, none]) dX1_size_11 rfl (by decide) rfl rfl ?_
  refine x_iload_n dX1_size_12 rfl rfl ?_
  refine x_iload_n dX1_size_13 rfl rfl ?_
  refine x_callS (as := [.int (nI (i % (2 ^ m - 1))), .int (nI (2 ^ m - 1))]) dX1_size_14 mk_X1_doubled st_X1_doubled ml_RX1_18 (by decide) rfl rfl (Nat.le_of_ble_eq_true rfl) (c_doubled (by first | assumption | exact Nat.mod_lt _ (by omega) | exact dbl_lt (by assumption)) (by omega)) ?_
  refine x_istore (ls' := [some (.int (nI i)), some (.int (nI m)), some (.int (nI (2 ^ m - 1))), some (.int (nI (i % (2 ^ m - 1)))), some (.int (nI (dbl (i % (2 ^ m - 1)) (2 ^ m - 1)))), none]) dX1_size_17 (by decide) rfl rfl ?_
  refine x_iconst (y := nI 1) dX1_size_19 rfl ?_
  refine x_istore (ls' := [some (.int (nI i)), some (.int (nI m)), some (.int (nI (2 ^ m - 1))), some (.int (nI (i % (2 ^ m - 1)))), some (.int (nI (dbl (i % (2 ^ m - 1)) (2 ^ m - 1)))), some (.int (nI 1))]) dX1_size_20 (by decide) rfl rfl ?_
  exact lp_size h3 h13 hi (m - 1) _ 1 (by omega) (dbl_lt hlt)
theorem lp_least {X : Ev} {M0 M : Hp} {i m : Nat} (h3 : 3 ≤ m) (h13 : m ≤ 13) (hi : i < 2 ^ 31) : ∀ (r e l k : Nat), k + r = m → e < 2 ^ m - 1 → l < 2 ^ m - 1 → G X 2 jX1_least M0 18 [some (.int (nI i)), some (.int (nI m)), some (.int (nI (2 ^ m - 1))), some (.int (nI e)), some (.int (nI l)), some (.int (nI k))] [] M (some (.int (nI (lsl (2 ^ m - 1) r e l)))) M := by
  have ht := two_le h3 h13
  have hlt : i % (2 ^ m - 1) < 2 ^ m - 1 := Nat.mod_lt _ (by omega)
  intro r
  induction r with
  | zero =>
    intro e l k hk he hl
    refine x_iload dX1_least_18 rfl ?_
    refine x_iload_n dX1_least_20 rfl rfl ?_
    refine x_icmp_ge (tgt := 44) dX1_least_21 (by decide) (fun _ => ?_) (fun h => False.elim (h (nI_le (by omega) (by omega))))
    refine x_iload dX1_least_44 rfl ?_
    exact x_ireturn_eq dX1_least_46 rfl rfl
  | succ r ih =>
    intro e l k hk he hl
    have hd := dbl_lt he
    refine x_iload dX1_least_18 rfl ?_
    refine x_iload_n dX1_least_20 rfl rfl ?_
    refine x_icmp_ge (tgt := 44) dX1_least_21 (by decide) (fun h => False.elim (nI_ge (by omega : k < m) (by omega) h)) (fun _ => ?_)
    refine x_iload_n dX1_least_24 rfl rfl ?_
    refine x_iload_n dX1_least_25 rfl rfl ?_
    refine x_callS (as := [.int (nI e), .int (nI (2 ^ m - 1))]) dX1_least_26 mk_X1_doubled st_X1_doubled ml_RX1_18 (by decide) rfl rfl (Nat.le_of_ble_eq_true rfl) (c_doubled (by first | assumption | exact Nat.mod_lt _ (by omega) | exact dbl_lt (by assumption)) (by omega)) ?_
    refine x_istore_n (ls' := [some (.int (nI i)), some (.int (nI m)), some (.int (nI (2 ^ m - 1))), some (.int (nI (dbl e (2 ^ m - 1)))), some (.int (nI l)), some (.int (nI k))]) dX1_least_29 rfl (by decide) rfl rfl ?_
    refine x_iload dX1_least_30 rfl ?_
    refine x_iload_n dX1_least_32 rfl rfl ?_
    refine x_callS (as := [.int (nI l), .int (nI (dbl e (2 ^ m - 1)))]) dX1_least_33 mk_J9_min_7cf53 st_J9_min_7cf53 ml_RX1_21 (by decide) rfl rfl (Nat.le_of_ble_eq_true rfl) (c_min (by omega) (by omega)) ?_
    refine x_istore (ls' := [some (.int (nI i)), some (.int (nI m)), some (.int (nI (2 ^ m - 1))), some (.int (nI (dbl e (2 ^ m - 1)))), some (.int (nI (min l (dbl e (2 ^ m - 1))))), some (.int (nI k))]) dX1_least_36 (by decide) rfl rfl ?_
    refine x_iinc (y := nI (k + 1)) (ls' := [some (.int (nI i)), some (.int (nI m)), some (.int (nI (2 ^ m - 1))), some (.int (nI (dbl e (2 ^ m - 1)))), some (.int (nI (min l (dbl e (2 ^ m - 1))))), some (.int (nI (k + 1)))]) dX1_least_38 (by decide) rfl rfl (ii_add _ 1) rfl ?_
    refine x_goto (tgt := 18) dX1_least_41 (by decide) ?_
    exact ih (dbl e (2 ^ m - 1)) (min l (dbl e (2 ^ m - 1))) (k + 1) (by omega) hd (by omega)
theorem c_least {X : Ev} {M : Hp} {i m : Nat} (h3 : 3 ≤ m) (h13 : m ≤ 13) (hi : i < 2 ^ 31) : Cl X 2 jX1_least [.int (nI i), .int (nI m)] M (some (.int (nI (cleast i m)))) M := by
  have ht := two_le h3 h13
  have hlt : i % (2 ^ m - 1) < 2 ^ m - 1 := Nat.mod_lt _ (by omega)
  refine Cl.of (ls := [some (.int (nI i)), some (.int (nI m)), none, none, none, none]) (by decide) rfl (Nat.le_of_ble_eq_true rfl) ?_
  refine x_iconst (y := nI 1) dX1_least_0 rfl ?_
  refine x_iload_n dX1_least_1 rfl rfl ?_
  refine x_ishl dX1_least_2 ?_
  refine x_casti (y := nI (2 ^ m)) (sl_m (by omega)) ?_
  refine x_iconst (y := nI 1) dX1_least_3 rfl ?_
  refine x_isub dX1_least_4 ?_
  refine x_casti (y := nI (2 ^ m - 1)) (pk_sub (by omega)) ?_
  refine x_istore_n (ls' := [some (.int (nI i)), some (.int (nI m)), some (.int (nI (2 ^ m - 1))), none, none, none]) dX1_least_5 rfl (by decide) rfl rfl ?_
  refine x_iload_n dX1_least_6 rfl rfl ?_
  refine x_iload_n dX1_least_7 rfl rfl ?_
  refine x_callS (as := [.int (nI i), .int (nI (2 ^ m - 1))]) dX1_least_8 mk_X1_reduced st_X1_reduced ml_RX1_13 (by decide) rfl rfl (Nat.le_of_ble_eq_true rfl) (c_reducedN hi (by omega) (by omega)) ?_
  refine x_istore_n (ls' := [some (.int (nI i)), some (.int (nI m)), some (.int (nI (2 ^ m - 1))), some (.int (nI (i % (2 ^ m - 1)))), none, none]) dX1_least_11 rfl (by decide) rfl rfl ?_
  refine x_iload_n dX1_least_12 rfl rfl ?_
  refine x_istore (ls' := [some (.int (nI i)), some (.int (nI m)), some (.int (nI (2 ^ m - 1))), some (.int (nI (i % (2 ^ m - 1)))), some (.int (nI (i % (2 ^ m - 1)))), none]) dX1_least_13 (by decide) rfl rfl ?_
  refine x_iconst (y := nI 1) dX1_least_15 rfl ?_
  refine x_istore (ls' := [some (.int (nI i)), some (.int (nI m)), some (.int (nI (2 ^ m - 1))), some (.int (nI (i % (2 ^ m - 1)))), some (.int (nI (i % (2 ^ m - 1)))), some (.int (nI 1))]) dX1_least_16 (by decide) rfl rfl ?_
  exact lp_least h3 h13 hi (m - 1) _ _ 1 (by omega) hlt hlt
theorem lsl_lt {n : Nat} : ∀ (r e l : Nat), e < n → l < n → lsl n r e l < n
  | 0, _, _, _, h => h
  | r + 1, e, l, h, h2 => lsl_lt r _ _ (dbl_lt h) (by have := dbl_lt h; omega)
theorem cleast_lt {i m : Nat} (h3 : 3 ≤ m) (h13 : m ≤ 13) : cleast i m < 8192 := by
  have ht := two_le h3 h13
  have := lsl_lt (n := 2 ^ m - 1) (m - 1) _ _ (Nat.mod_lt i (by omega)) (Nat.mod_lt i (by omega))
  unfold cleast
  omega
theorem csl_le {n s : Nat} : ∀ (r e k : Nat), csl n s r e k ≤ k + r ∧ k ≤ csl n s r e k
  | 0, _, _ => ⟨Nat.le_refl _, Nat.le_refl _⟩
  | r + 1, e, k => by
    have := csl_le (n := n) (s := s) r (dbl e n) (k + 1)
    show (if e = s then k else _) ≤ _ ∧ k ≤ (if e = s then k else _)
    split <;> omega
theorem csize_le {i m : Nat} (h : 1 ≤ m) : csize i m ≤ m ∧ 1 ≤ csize i m := by
  have := csl_le (n := 2 ^ m - 1) (s := i % (2 ^ m - 1)) (m - 1) (dbl (i % (2 ^ m - 1)) (2 ^ m - 1)) 1
  unfold csize
  omega
theorem lp_isNew {X : Ev} {M0 M : Hp} {i m : Nat} (h3 : 3 ≤ m) (h13 : m ≤ 13) (hi : i < 2 ^ 20) : ∀ (r b : Nat), i ≤ b + 2 * r → b < 2 ^ 21 → G X 3 jX1_isNew M0 8 [some (.int (nI i)), some (.int (nI m)), some (.int (nI (cleast i m))), some (.int (nI b))] [] M (some (.int (if isnl m (cleast i m) i r b then 1 else 0))) M := by
  have hlt := cleast_lt (i := i) h3 h13
  intro r
  induction r with
  | zero =>
    intro b hb hb2
    refine x_iload_n dX1_isNew_8 rfl rfl ?_
    refine x_iload_n dX1_isNew_9 rfl rfl ?_
    refine x_icmp_ge (tgt := 30) dX1_isNew_10 (by decide) (fun _ => ?_) (fun h => False.elim (h (nI_le (by omega) (by omega))))
    refine x_iconst (y := nI 1) dX1_isNew_30 rfl ?_
    exact x_zreturn_eq dX1_isNew_31 rfl rfl
  | succ r ih =>
    intro b hb hb2
    have hlb := cleast_lt (i := b) h3 h13
    refine x_iload_n dX1_isNew_8 rfl rfl ?_
    refine x_iload_n dX1_isNew_9 rfl rfl ?_
    refine x_icmp_ge (tgt := 30) dX1_isNew_10 (by decide) (fun h10 => ?_) (fun h10 => ?_)
    · refine x_iconst (y := nI 1) dX1_isNew_30 rfl ?_
      exact x_zreturn_eq dX1_isNew_31 rfl (by have hz : isnl m (cleast i m) i (r + 1) b = true := if_pos ((nI_leI (by omega) (by omega)).mp h10); rw [hz]; rfl)
    · refine x_iload_n dX1_isNew_13 rfl rfl ?_
      refine x_iload_n dX1_isNew_14 rfl rfl ?_
      refine x_callS (as := [.int (nI b), .int (nI m)]) dX1_isNew_15 mk_X1_least st_X1_least ml_RX1_24 (by decide) rfl rfl (Nat.le_of_ble_eq_true rfl) (c_least h3 h13 (by omega)) ?_
      refine x_iload_n dX1_isNew_18 rfl rfl ?_
      refine x_icmp_ne (tgt := 24) dX1_isNew_19 (by decide) (fun h19 => ?_) (fun h19 => ?_)
      · refine x_iinc (y := nI (b + 2)) (ls' := [some (.int (nI i)), some (.int (nI m)), some (.int (nI (cleast i m))), some (.int (nI (b + 2)))]) dX1_isNew_24 (by decide) rfl rfl (ii_add _ 2) rfl ?_
        refine x_goto (tgt := 8) dX1_isNew_27 (by decide) ?_
        have hz : isnl m (cleast i m) i (r + 1) b = isnl m (cleast i m) i r (b + 2) := by
          show (if i ≤ b then true else if cleast b m = cleast i m then false else _) = _
          rw [if_neg (fun z => h10 (nI_le z (by omega))), if_neg (fun z => h19 (by rw [z]))]
        rw [hz]
        exact ih (b + 2) (by omega) (by have : ¬ i ≤ b := fun z => h10 (nI_le z (by omega)); omega)
      · have hz : isnl m (cleast i m) i (r + 1) b = false := by
          show (if i ≤ b then true else if cleast b m = cleast i m then false else _) = false
          rw [if_neg (fun z => h10 (nI_le z (by omega))), if_pos ((nI_eq (by omega) (by omega)).mp h19)]
        refine x_iconst (y := nI 0) dX1_isNew_22 rfl ?_
        exact x_zreturn_eq dX1_isNew_23 rfl (by rw [hz]; rfl)
theorem c_isNew {X : Ev} {M : Hp} {i m : Nat} (h3 : 3 ≤ m) (h13 : m ≤ 13) (hi : i < 2 ^ 20) : Cl X 3 jX1_isNew [.int (nI i), .int (nI m)] M (some (.int (if cnew i m then 1 else 0))) M := by
  refine Cl.of (ls := [some (.int (nI i)), some (.int (nI m)), none, none]) (by decide) rfl (Nat.le_of_ble_eq_true rfl) ?_
  refine x_iload_n dX1_isNew_0 rfl rfl ?_
  refine x_iload_n dX1_isNew_1 rfl rfl ?_
  refine x_callS (as := [.int (nI i), .int (nI m)]) dX1_isNew_2 mk_X1_least st_X1_least ml_RX1_24 (by decide) rfl rfl (Nat.le_of_ble_eq_true rfl) (c_least h3 h13 (by omega)) ?_
  refine x_istore_n (ls' := [some (.int (nI i)), some (.int (nI m)), some (.int (nI (cleast i m))), none]) dX1_isNew_5 rfl (by decide) rfl rfl ?_
  refine x_iconst (y := nI 1) dX1_isNew_6 rfl ?_
  refine x_istore_n (ls' := [some (.int (nI i)), some (.int (nI m)), some (.int (nI (cleast i m))), some (.int (nI 1))]) dX1_isNew_7 rfl (by decide) rfl rfl ?_
  exact lp_isNew h3 h13 hi i 1 (by omega) (by decide)
theorem lp_tail {X : Ev} {M0 M : Hp} {m t : Nat} (h3 : 3 ≤ m) (h13 : m ≤ 13) (ht : t ≤ 8) : ∀ (r i s : Nat), 2 * t ≤ i + 2 * r → i < 64 → G X 4 jX1_tailLength M0 4 [some (.int (nI m)), some (.int (nI t)), some (.int (nI s)), some (.int (nI i))] [] M (some (.int (nI (tll m t r i s)))) M := by
  intro r
  induction r with
  | zero =>
    intro i s hb hb2
    refine x_iload_n dX1_tailLength_4 rfl rfl ?_
    refine x_iconst (y := nI 2) dX1_tailLength_5 rfl ?_
    refine x_iload_n dX1_tailLength_6 rfl rfl ?_
    refine x_imul dX1_tailLength_7 ?_
    refine x_casti (y := nI (2 * t)) (pk_mul _ _) ?_
    refine x_icmp_ge (tgt := 33) dX1_tailLength_8 (by decide) (fun _ => ?_) (fun h => False.elim (h (nI_le (by omega) (by omega))))
    refine x_iload_n dX1_tailLength_33 rfl rfl ?_
    exact x_ireturn_eq dX1_tailLength_34 rfl rfl
  | succ r ih =>
    intro i s hb hb2
    have hcs := csize_le (i := i) (m := m) (by omega)
    refine x_iload_n dX1_tailLength_4 rfl rfl ?_
    refine x_iconst (y := nI 2) dX1_tailLength_5 rfl ?_
    refine x_iload_n dX1_tailLength_6 rfl rfl ?_
    refine x_imul dX1_tailLength_7 ?_
    refine x_casti (y := nI (2 * t)) (pk_mul _ _) ?_
    refine x_icmp_ge (tgt := 33) dX1_tailLength_8 (by decide) (fun h8 => ?_) (fun h8 => ?_)
    · refine x_iload_n dX1_tailLength_33 rfl rfl ?_
      exact x_ireturn_eq dX1_tailLength_34 rfl (by have hz : tll m t (r + 1) i s = s := if_pos ((nI_leI (by omega) (by omega)).mp h8); rw [hz])
    · refine x_iload_n dX1_tailLength_11 rfl rfl ?_
      refine x_iload_n dX1_tailLength_12 rfl rfl ?_
      refine x_callS (as := [.int (nI i), .int (nI m)]) dX1_tailLength_13 mk_X1_isNew st_X1_isNew ml_RX1_27 (by decide) rfl rfl (Nat.le_of_ble_eq_true rfl) (c_isNew h3 h13 (by omega)) ?_
      refine x_if_eq (tgt := 27) dX1_tailLength_16 (by decide) (fun h16 => ?_) (fun h16 => ?_)
      · refine x_iinc (y := nI (i + 2)) (ls' := [some (.int (nI m)), some (.int (nI t)), some (.int (nI s)), some (.int (nI (i + 2)))]) dX1_tailLength_27 (by decide) rfl rfl (ii_add _ 2) rfl ?_
        refine x_goto (tgt := 4) dX1_tailLength_30 (by decide) ?_
        have hcn : cnew i m = false := by
          cases hq : cnew i m
          · first | rfl | exact absurd (by rw [hq]; rfl) h16
          · first | rfl | (rw [hq] at h16; exact absurd h16 (by decide))
        have hz : tll m t (r + 1) i s = tll m t r (i + 2) s := by
          show (if 2 * t ≤ i then s else tll m t r (i + 2) (if cnew i m then s + csize i m else s)) = _
          rw [if_neg (fun z => h8 (nI_le z (by omega))), hcn]; rfl
        rw [hz]
        exact ih (i + 2) s (by omega) (by have : ¬ 2 * t ≤ i := fun z => h8 (nI_le z (by omega)); omega)
      · refine x_iload_n dX1_tailLength_19 rfl rfl ?_
        refine x_iload_n dX1_tailLength_20 rfl rfl ?_
        refine x_iload_n dX1_tailLength_21 rfl rfl ?_
        refine x_callS (as := [.int (nI i), .int (nI m)]) dX1_tailLength_22 mk_X1_size st_X1_size ml_RX1_31 (by decide) rfl rfl (Nat.le_of_ble_eq_true rfl) (c_size h3 h13 (by omega)) ?_
        refine x_iadd dX1_tailLength_25 ?_
        refine x_casti (y := nI (s + csize i m)) (nI_add _ _) ?_
        refine x_istore_n (ls' := [some (.int (nI m)), some (.int (nI t)), some (.int (nI (s + csize i m))), some (.int (nI i))]) dX1_tailLength_26 rfl (by decide) rfl rfl ?_
        refine x_iinc (y := nI (i + 2)) (ls' := [some (.int (nI m)), some (.int (nI t)), some (.int (nI (s + csize i m))), some (.int (nI (i + 2)))]) dX1_tailLength_27 (by decide) rfl rfl (ii_add _ 2) rfl ?_
        refine x_goto (tgt := 4) dX1_tailLength_30 (by decide) ?_
        have hcn : cnew i m = true := by
          cases hq : cnew i m
          · first | rfl | exact absurd (by rw [hq]; rfl) h16
          · first | rfl | (rw [hq] at h16; exact absurd h16 (by decide))
        have hz : tll m t (r + 1) i s = tll m t r (i + 2) (s + csize i m) := by
          show (if 2 * t ≤ i then s else tll m t r (i + 2) (if cnew i m then s + csize i m else s)) = _
          rw [if_neg (fun z => h8 (nI_le z (by omega))), hcn]; rfl
        rw [hz]
        exact ih (i + 2) (s + csize i m) (by omega) (by have : ¬ 2 * t ≤ i := fun z => h8 (nI_le z (by omega)); omega)
theorem c_tailLength {X : Ev} {M : Hp} {m t : Nat} (h3 : 3 ≤ m) (h13 : m ≤ 13) (ht : t ≤ 8) : Cl X 4 jX1_tailLength [.int (nI m), .int (nI t)] M (some (.int (nI (ctail m t)))) M := by
  refine Cl.of (ls := [some (.int (nI m)), some (.int (nI t)), none, none]) (by decide) rfl (Nat.le_of_ble_eq_true rfl) ?_
  refine x_iconst (y := nI 0) dX1_tailLength_0 rfl ?_
  refine x_istore_n (ls' := [some (.int (nI m)), some (.int (nI t)), some (.int (nI 0)), none]) dX1_tailLength_1 rfl (by decide) rfl rfl ?_
  refine x_iconst (y := nI 1) dX1_tailLength_2 rfl ?_
  refine x_istore_n (ls' := [some (.int (nI m)), some (.int (nI t)), some (.int (nI 0)), some (.int (nI 1))]) dX1_tailLength_3 rfl (by decide) rfl rfl ?_
  exact lp_tail h3 h13 ht (2 * t) 1 0 (by omega) (by decide)
