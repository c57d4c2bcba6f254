/-! CODE: THE GENERATOR -/
def xin (g : Nat → Bool) (fac k : Nat) : Nat → (Nat → Bool)
  | 0 => g
  | j + 1 => fun i => if i = k + j then (xin g fac k j i ^^ fac.testBit j) else xin g fac k j i
def mstep (g : Nat → Bool) (fac deg k : Nat) : Nat → Bool := if g k then xin (fun i => if i = k then false else g i) fac k (deg + 1) else g
def mdown (fac deg : Nat) : Nat → (Nat → Bool) → (Nat → Bool)
  | 0, g => g
  | c + 1, g => mdown fac deg c (mstep g fac deg c)
def kkd : Nat → Int32
  | 0 => -1
  | k + 1 => nI k
theorem kkd_1 {k : Nat} : nI k + Int32.ofInt (-1) = kkd k := by
  cases k with
  | zero => decide
  | succ k => exact nI_m
theorem kkd_r {r : Nat} : nI r = kkd (r + 1) := rfl
theorem xin_step {g : Nat → Bool} {fac k i : Nat} : upd (fun j => nI (xin g fac k i j).toNat) (k + i) (nI (xin g fac k i (k + i) ^^ fac.testBit i).toNat) = fun j => nI (xin g fac k (i + 1) j).toNat := by
  funext j
  by_cases h : j = k + i
  · subst h; rw [pk_us]; show _ = nI (if k + i = k + i then _ else _ : Bool).toNat; rw [if_pos rfl]
  · rw [pk_un h]; show _ = nI (if j = k + i then _ else _ : Bool).toNat; rw [if_neg h]
theorem clr_step {g : Nat → Bool} {k : Nat} : upd (fun j => nI (g j).toNat) k (nI 0) = fun j => nI ((fun i => if i = k then false else g i) j).toNat := by
  funext j
  by_cases h : j = k
  · subst h; rw [pk_us]; show _ = nI (if j = j then false else _ : Bool).toNat; rw [if_pos rfl]; rfl
  · rw [pk_un h]; show _ = nI (if j = k then false else _ : Bool).toNat; rw [if_neg h]
theorem fbit {fac i : Nat} (hf : fac < 2 ^ 31) (hi : i < 32) : (nI fac >>> (nI i &&& 31)) &&& nI 1 = nI (fac.testBit i).toNat := by
  rw [pk_shrN hf _ i (s_l i hi), pk_and _ 1 (by decide +kernel)]
  have e8 : (nI (fac / 2 ^ i)).toBitVec.toNat = (fac / 2 ^ i) % 2 ^ 32 := BitVec.toNat_ofNat _ 32
  rw [e8, Nat.toNat_testBit]
  congr 1
  omega
theorem lp_mby1 {X : Ev} {M0 M M' : Hp} {v : Option Value} {t d r : Nat} {n0 : Int32} {hi lo : Int64} (ho : M[5]? = some (.inr (0, [.ref (1), .ref (6), .ref (7), .ref (8), .ref (9), .ref (10), .int (nI t), .int (nI d), .int (nI r), .int (n0), .long (hi), .long (lo)]))) {pl : Nat → Int32} (hpl : M[6]? = some (.inl (0, 105, .inl (pl)))) {fac deg : Nat} (hfac : fac < 2 ^ 31) (hdg : deg ≤ 13) (hrd : r + deg ≤ 104) {g : Nat → Bool} {k : Nat} (hkr : k ≤ r) (kc : G X 0 jX0_multiplyBy M0 59 [some (.ref (5)), some (.int (nI fac)), some (.int (nI deg)), some (.int (nI k)), some (.int (nI ((deg + 1))))] [] (M.set (6) (.inl (0, 105, .inl (fun j => nI ((xin g fac k ((deg + 1))) j).toNat)))) v M') : ∀ (zz i : Nat), i + zz = (deg + 1) → G X 0 jX0_multiplyBy M0 29 [some (.ref (5)), some (.int (nI fac)), some (.int (nI deg)), some (.int (nI k)), some (.int (nI (i)))] [] (M.set (6) (.inl (0, 105, .inl (fun j => nI ((xin g fac k (i)) j).toNat)))) v M' := by
  intro zz
  induction zz with
  | zero =>
    intro i hii
    have hii : i = (deg + 1) := by omega
    subst hii
    refine x_iload dX0_multiplyBy_29 rfl ?_
    refine x_iload_n dX0_multiplyBy_31 rfl rfl ?_
    refine x_icmp_gt (tgt := 59) dX0_multiplyBy_32 (by decide) (fun _ => ?_) (fun h => False.elim (h (nI_lt (by omega) (by omega))))
    exact kc
  | succ zz ih =>
    intro i hii
    refine x_iload dX0_multiplyBy_29 rfl ?_
    refine x_iload_n dX0_multiplyBy_31 rfl rfl ?_
    refine x_icmp_gt (tgt := 59) dX0_multiplyBy_32 (by decide) (fun h => False.elim (nI_nlt (by omega : i ≤ deg) (by omega) h)) (fun _ => ?_)
    refine x_aload_n dX0_multiplyBy_35 rfl rfl ?_
    refine x_getf (ci := 0) (kf := 1) dX0_multiplyBy_36 rfl uX0 (by decide) fl_RX0_9 (gn ho (by decide)) rfl ?_
    refine x_iload_n dX0_multiplyBy_39 rfl rfl ?_
    refine x_iload dX0_multiplyBy_40 rfl ?_
    refine x_iadd dX0_multiplyBy_42 ?_
    refine x_casti (y := nI (k + i)) (nI_add _ _) ?_
    refine x_dup2 dX0_multiplyBy_43 rfl rfl ?_
    refine x_ild (j := k + i) dX0_multiplyBy_44 (gs hpl) rfl (by omega) (by decide) ?_
    refine x_iload_n dX0_multiplyBy_45 rfl rfl ?_
    refine x_iload dX0_multiplyBy_46 rfl ?_
    refine x_ishr dX0_multiplyBy_48 ?_
    refine x_iconst (y := nI 1) dX0_multiplyBy_49 rfl ?_
    refine x_iand dX0_multiplyBy_50 ?_
    refine x_casti (y := nI (fac.testBit i).toNat) (fbit hfac (by omega)) ?_
    refine x_ixor dX0_multiplyBy_51 ?_
    refine x_casti (y := nI (xin g fac k i (k + i) ^^ fac.testBit i).toNat) bx2 ?_
    refine x_ist (j := k + i) (M1 := (M.set (6) (.inl (0, 105, .inl (fun j => nI (xin g fac k (i + 1) j).toNat))))) dX0_multiplyBy_52 (gs hpl) rfl (by omega) (by decide) (by rw [show upd (fun j => nI ((xin g fac k (i)) j).toNat) (k + i) (nI (xin g fac k i (k + i) ^^ fac.testBit i).toNat) = (fun j => nI (xin g fac k (i + 1) j).toNat) from xin_step] <;> exact (ss0)) ?_
    refine x_iinc (y := nI ((i) + 1)) (ls' := [some (.ref (5)), some (.int (nI fac)), some (.int (nI deg)), some (.int (nI k)), some (.int (nI ((i) + 1)))]) dX0_multiplyBy_53 (by decide) rfl rfl (ii_add _ 1) rfl ?_
    refine x_goto (tgt := 29) dX0_multiplyBy_56 (by decide) ?_
    exact ih (i + 1) (by omega)
theorem mb_fw {X : Ev} {d' : Nat} {M0 M M' : Hp} {v : Option Value} {pc : Nat} {a b c e j : Value} (k : G X d' jX0_multiplyBy M0 pc [some a, some b, some c, some e, none] [] M v M') : G X d' jX0_multiplyBy M0 pc [some a, some b, some c, some e, some j] [] M v M' := x_fewer (fun q w h => by match q, h with | 0, h => exact h | 1, h => exact h | 2, h => exact h | 3, h => exact h | 4, h => cases h | q + 5, h => cases h) k
theorem lp_mby2 {X : Ev} {M0 M M' : Hp} {v : Option Value} {t d r : Nat} {n0 : Int32} {hi lo : Int64} (ho : M[5]? = some (.inr (0, [.ref (1), .ref (6), .ref (7), .ref (8), .ref (9), .ref (10), .int (nI t), .int (nI d), .int (nI r), .int (n0), .long (hi), .long (lo)]))) {pl : Nat → Int32} (hpl : M[6]? = some (.inl (0, 105, .inl (pl)))) {fac deg : Nat} (hfac : fac < 2 ^ 31) (hdg : deg ≤ 13) (hrd : r + deg ≤ 104) : ∀ (c : Nat) (g : Nat → Bool), c ≤ r + 1 → G X 0 jX0_multiplyBy M0 65 [some (.ref (5)), some (.int (nI fac)), some (.int (nI deg)), some (.int (kkd (0))), none] [] (M.set 6 (.inl (0, 105, .inl (fun j => nI ((mdown fac deg c g) j).toNat)))) v M' → G X 0 jX0_multiplyBy M0 5 [some (.ref (5)), some (.int (nI fac)), some (.int (nI deg)), some (.int (kkd (c))), none] [] (M.set 6 (.inl (0, 105, .inl (fun j => nI ((g) j).toNat)))) v M' := by
  intro c
  induction c with
  | zero =>
    intro g hc kc
    refine x_iload_n dX0_multiplyBy_5 rfl rfl ?_
    refine x_if_lt (tgt := 65) dX0_multiplyBy_6 (by decide) (fun _ => ?_) (fun h => False.elim (h (by decide)))
    exact kc
  | succ k ih =>
    intro g hc kc
    refine x_iload_n dX0_multiplyBy_5 rfl rfl ?_
    refine x_if_lt (tgt := 65) dX0_multiplyBy_6 (by decide) (fun h => False.elim (nI_pos (by omega) h)) (fun _ => ?_)
    refine x_aload_n dX0_multiplyBy_9 rfl rfl ?_
    refine x_getf (ci := 0) (kf := 1) dX0_multiplyBy_10 rfl uX0 (by decide) fl_RX0_9 (gn ho (by decide)) rfl ?_
    refine x_iload_n dX0_multiplyBy_13 rfl rfl ?_
    refine x_ild (j := k) dX0_multiplyBy_14 (gs hpl) rfl (by omega) (by decide) ?_
    refine x_iconst (y := nI 1) dX0_multiplyBy_15 rfl ?_
    refine x_icmp_ne (tgt := 59) dX0_multiplyBy_16 (by decide) (fun h16 => ?_) (fun h16 => ?_)
    · refine x_iinc (y := kkd k) (ls' := [some (.ref (5)), some (.int (nI fac)), some (.int (nI deg)), some (.int (kkd k)), none]) dX0_multiplyBy_59 (by decide) rfl rfl kkd_1 rfl ?_
      refine x_goto (tgt := 5) dX0_multiplyBy_62 (by decide) ?_
      have hz : mstep g fac deg k = g := by
        unfold mstep; rw [rq_0 h16]; rfl
      have hk2 := ih (mstep g fac deg k) (by omega) kc
      rw [hz] at hk2
      exact hk2
    · refine x_aload_n dX0_multiplyBy_19 rfl rfl ?_
      refine x_getf (ci := 0) (kf := 1) dX0_multiplyBy_20 rfl uX0 (by decide) fl_RX0_9 (gn ho (by decide)) rfl ?_
      refine x_iload_n dX0_multiplyBy_23 rfl rfl ?_
      refine x_iconst (y := nI 0) dX0_multiplyBy_24 rfl ?_
      refine x_ist (j := k) (M1 := (M.set (6) (.inl (0, 105, .inl (fun j => nI ((fun i => if i = k then false else g i) j).toNat))))) dX0_multiplyBy_25 (gs hpl) rfl (by omega) (by decide) (by rw [show upd (fun j => nI ((g) j).toNat) (k) (nI 0) = (fun j => nI ((fun i => if i = k then false else g i) j).toNat) from clr_step] <;> exact (ss0)) ?_
      refine x_iconst (y := nI 0) dX0_multiplyBy_26 rfl ?_
      refine x_istore (ls' := [some (.ref (5)), some (.int (nI fac)), some (.int (nI deg)), some (.int (nI k)), some (.int (nI 0))]) dX0_multiplyBy_27 (by decide) rfl rfl ?_
      refine lp_mby1 (g := (fun i => if i = k then false else g i)) ho hpl hfac hdg hrd (by omega) ?_ (deg + 1) 0 (by omega)
      refine x_iinc (y := kkd k) (ls' := [some (.ref (5)), some (.int (nI fac)), some (.int (nI deg)), some (.int (kkd k)), some (.int (nI (deg + 1)))]) dX0_multiplyBy_59 (by decide) rfl rfl kkd_1 rfl ?_
      refine x_goto (tgt := 5) dX0_multiplyBy_62 (by decide) ?_
      have hz : mstep g fac deg k = xin (fun i => if i = k then false else g i) fac k (deg + 1) := by
        unfold mstep; rw [rq_1 h16]; rfl
      rw [← hz]
      refine mb_fw ?_
      exact ih (mstep g fac deg k) (by omega) kc
theorem c_multiplyBy {X : Ev} {M : Hp} {t d r : Nat} {n0 : Int32} {hi lo : Int64} (ho : M[5]? = some (.inr (0, [.ref (1), .ref (6), .ref (7), .ref (8), .ref (9), .ref (10), .int (nI t), .int (nI d), .int (nI r), .int (n0), .long (hi), .long (lo)]))) {g : Nat → Bool} (hpl : M[6]? = some (.inl (0, 105, .inl (fun j => nI ((g) j).toNat)))) {fac deg : Nat} (hfac : fac < 2 ^ 31) (hdg : deg ≤ 13) (hrd : r + deg ≤ 104) : Cl X 0 jX0_multiplyBy [.ref (5), .int (nI fac), .int (nI deg)] M none ((M.set 6 (.inl (0, 105, .inl (fun j => nI ((mdown fac deg (r + 1) g) j).toNat)))).set 5 (.inr (0, [.ref (1), .ref (6), .ref (7), .ref (8), .ref (9), .ref (10), .int (nI t), .int (nI d), .int (nI (r + deg)), .int (n0), .long (hi), .long (lo)]))) := by
  refine Cl.of (ls := [some (.ref (5)), some (.int (nI fac)), some (.int (nI deg)), none, none]) (by decide) rfl (Nat.le_of_ble_eq_true rfl) ?_
  refine x_aload_n dX0_multiplyBy_0 rfl rfl ?_
  refine x_getf (ci := 0) (kf := 8) dX0_multiplyBy_1 rfl uX0 (by decide) fl_RX0_46 ho rfl ?_
  refine x_istore_n (ls' := [some (.ref (5)), some (.int (nI fac)), some (.int (nI deg)), some (.int (nI r)), none]) dX0_multiplyBy_4 rfl (by decide) rfl rfl ?_
  refine G.hp (set_id hpl rfl) (lp_mby2 ho hpl hfac hdg hrd (r + 1) g (Nat.le_refl _) ?_)
  refine x_aload_n dX0_multiplyBy_65 rfl rfl ?_
  refine x_dup dX0_multiplyBy_66 rfl ?_
  refine x_getf (ci := 0) (kf := 8) dX0_multiplyBy_67 rfl uX0 (by decide) fl_RX0_46 (gn ho (by decide)) rfl ?_
  refine x_iload_n dX0_multiplyBy_70 rfl rfl ?_
  refine x_iadd dX0_multiplyBy_71 ?_
  refine x_casti (y := nI (r + deg)) (nI_add _ _) ?_
  refine x_putf (ci := 0) (kf := 8) (ty0 := tyX0) (M1 := ((M.set (6) (.inl (0, 105, .inl (fun j => nI ((mdown fac deg (r + 1) g) j).toNat)))).set (5) (.inr (0, [.ref (1), .ref (6), .ref (7), .ref (8), .ref (9), .ref (10), .int (nI t), .int (nI d), .int (nI (r + deg)), .int (n0), .long (hi), .long (lo)])))) dX0_multiplyBy_72 rfl uX0 tyX0_ok nmX0 (by decide) fl_RX0_46 rfl rfl rfl rfl (gn ho (by decide)) (Nat.le_of_ble_eq_true rfl) rfl ?_
  exact x_ret dX0_multiplyBy_75 rfl
