/-! CODE: the register -/
def rgb (hi lo : Int64) (q : Nat) : Bool := if q < 64 then (uN hi).testBit (63 - q) else (uN lo).testBit (127 - q)
theorem nI_127 {q : Nat} (h : q ≤ 127) : nI 127 - nI q = nI (127 - q) := pk_sub h
theorem nI_63q {q : Nat} (h : q ≤ 63) : nI 63 - nI q = nI (63 - q) := pk_sub h
theorem c_registerAt {X : Ev} {M : Hp} {t d r n : Nat} {hi lo : Int64} (ho : M[5]? = some (.inr (0, [.ref (1), .ref (6), .ref (7), .ref (8), .ref (9), .ref (10), .int (nI t), .int (nI d), .int (nI r), .int (nI n), .long (hi), .long (lo)]))) {q : Nat} (hq : q < 128) : Cl X 0 jX0_registerAt [.ref (5), .int (nI q)] M (some (.int (nI (rgb hi lo q).toNat))) M := by
  refine Cl.of (ls := [some (.ref (5)), some (.int (nI q))]) (by decide) rfl (Nat.le_of_ble_eq_true rfl) ?_
  refine x_iload_n dX0_registerAt_0 rfl rfl ?_
  refine x_bipush (y := nI 64) dX0_registerAt_1 rfl ?_
  refine x_icmp_ge (tgt := 18) dX0_registerAt_3 (by decide) (fun h3 => ?_) (fun h3 => ?_)
  · refine x_aload_n dX0_registerAt_18 rfl rfl ?_
    refine x_getf (ci := 0) (kf := 11) dX0_registerAt_19 rfl uX0 (by decide) fl_RX0_95 ho rfl ?_
    refine x_bipush (y := nI 127) dX0_registerAt_22 rfl ?_
    refine x_iload_n dX0_registerAt_24 rfl rfl ?_
    refine x_isub dX0_registerAt_25 ?_
    refine x_casti (y := nI (127 - q)) (nI_127 (by omega)) ?_
    refine x_lushr dX0_registerAt_26 ?_
    refine x_l2i dX0_registerAt_27 ?_
    refine x_iconst (y := nI 1) dX0_registerAt_28 rfl ?_
    refine x_iand dX0_registerAt_29 ?_
    exact x_ireturn_eq dX0_registerAt_30 rfl (by rw [l_bit _ (by have hz := (nI_leI (by decide) (by omega)).mp h3; omega)]; unfold rgb; rw [if_neg (by have hz := (nI_leI (by decide) (by omega)).mp h3; omega)])
  · refine x_aload_n dX0_registerAt_6 rfl rfl ?_
    refine x_getf (ci := 0) (kf := 10) dX0_registerAt_7 rfl uX0 (by decide) fl_RX0_91 ho rfl ?_
    refine x_bipush (y := nI 63) dX0_registerAt_10 rfl ?_
    refine x_iload_n dX0_registerAt_12 rfl rfl ?_
    refine x_isub dX0_registerAt_13 ?_
    refine x_casti (y := nI (63 - q)) (nI_63q (by have hz := Nat.lt_of_not_le (fun z : 64 ≤ q => h3 (nI_le z (by omega))); omega)) ?_
    refine x_lushr dX0_registerAt_14 ?_
    refine x_goto (tgt := 27) dX0_registerAt_15 (by decide) ?_
    refine x_l2i dX0_registerAt_27 ?_
    refine x_iconst (y := nI 1) dX0_registerAt_28 rfl ?_
    refine x_iand dX0_registerAt_29 ?_
    exact x_ireturn_eq dX0_registerAt_30 rfl (by rw [l_bit _ (by omega)]; unfold rgb; rw [if_pos (Nat.lt_of_not_le (fun z : 64 ≤ q => h3 (nI_le z (by omega))))])
/-- a byte of data goes into the register -/
def lvs (hi : Int64) (b : Nat) : Nat := (uN hi / 2 ^ 56) ^^^ 255 ^^^ b
def stH (hs : Nat → Int64) (hi lo : Int64) (b : Nat) : Int64 := ((hi <<< ((nI 8).toInt64 &&& 63)) ||| ((lo.toUInt64 >>> ((nI 56).toInt64.toUInt64 &&& Int64.toUInt64 63)).toInt64)) ^^^ hs (lvs hi b)
def stL (ls : Nat → Int64) (hi lo : Int64) (b : Nat) : Int64 := (lo <<< ((nI 8).toInt64 &&& 63)) ^^^ ls (lvs hi b)
def tkd (hs ls f : Nat → Int64) : Nat → Int64 × Int64
  | 0 => (0, 0)
  | i + 1 => (stH hs (tkd hs ls f i).1 (tkd hs ls f i).2 (rby f i), stL ls (tkd hs ls f i).1 (tkd hs ls f i).2 (rby f i))
theorem rby_lt (f : Nat → Int64) (i : Nat) : rby f i < 256 := Nat.mod_lt _ (by decide)
theorem lvs_lt (hi : Int64) {b : Nat} (hb : b < 256) : lvs hi b < 256 := by
  have h := uN_lt hi
  exact Nat.xor_lt_two_pow (n := 8) (Nat.xor_lt_two_pow (n := 8) (by omega) (by decide)) hb
theorem lv_i (hi : Int64) : ((hi.toUInt64 >>> ((nI 56).toInt64.toUInt64 &&& Int64.toUInt64 63)).toInt64).toInt32 = nI (uN hi / 2 ^ 56) := by
  rw [uN_i32, uN_sk hi (by decide)]
theorem lp_takeData_fw {X : Ev} {d' : Nat} {M0 M M' : Hp} {v : Option Value} {pc : Nat} {a b i j : Value} (k : G X d' jX0_takeData M0 pc [some a, some b, some i, none] [] M v M') : G X d' jX0_takeData M0 pc [some a, some b, some i, some j] [] M v M' := x_fewer (fun q w h => by match q, h with | 0, h => exact h | 1, h => exact h | 2, h => exact h | 3, h => cases h | q + 4, h => cases h) k
theorem lp_takeData {X : Ev} {M0 M M' : Hp} {v : Option Value} {t d r n : Nat} {hi lo : Int64} (ho : M[5]? = some (.inr (0, [.ref (1), .ref (6), .ref (7), .ref (8), .ref (9), .ref (10), .int (nI t), .int (nI d), .int (nI r), .int (nI n), .long (hi), .long (lo)]))) {hs ls : Nat → Int64} (hh : M[7]? = some (.inl (1, 256, .inr (.inl (hs))))) (hl : M[8]? = some (.inl (1, 256, .inr (.inl (ls))))) {u : Nat} {uf : Nat → Int64} (hU : M[u]? = some (.inr (4, [.ref (u + 1)]))) (hu : M[u + 1]? = some (.inl (1, 34, .inr (.inl (uf))))) (hu5 : 11 < u) (hd : d ≤ 256) (k : G X 1 jX0_takeData M0 89 [some (.ref (5)), some (.ref (u)), some (.int (nI (d))), none] [] (M.set (5) (.inr (0, [.ref (1), .ref (6), .ref (7), .ref (8), .ref (9), .ref (10), .int (nI t), .int (nI d), .int (nI r), .int (nI n), .long ((tkd hs ls uf (d)).1), .long ((tkd hs ls uf (d)).2)]))) v M') : ∀ (zz i : Nat), i + zz = d → G X 1 jX0_takeData M0 12 [some (.ref (5)), some (.ref (u)), some (.int (nI (i))), none] [] (M.set (5) (.inr (0, [.ref (1), .ref (6), .ref (7), .ref (8), .ref (9), .ref (10), .int (nI t), .int (nI d), .int (nI r), .int (nI n), .long ((tkd hs ls uf (i)).1), .long ((tkd hs ls uf (i)).2)]))) v M' := by
  intro zz
  induction zz with
  | zero =>
    intro i hi
    have hi : i = d := by omega
    subst hi
    refine x_iload_n dX0_takeData_12 rfl rfl ?_
    refine x_aload_n dX0_takeData_13 rfl rfl ?_
    refine x_getf (ci := 0) (kf := 7) dX0_takeData_14 rfl uX0 (by decide) fl_RX0_40 (gs ho) rfl ?_
    refine x_icmp_ge (tgt := 89) dX0_takeData_17 (by decide) (fun _ => ?_) (fun h => False.elim (h (nI_le (Nat.le_refl _) (by omega))))
    exact k
  | succ zz ih =>
    intro i hi
    refine x_iload_n dX0_takeData_12 rfl rfl ?_
    refine x_aload_n dX0_takeData_13 rfl rfl ?_
    refine x_getf (ci := 0) (kf := 7) dX0_takeData_14 rfl uX0 (by decide) fl_RX0_40 (gs ho) rfl ?_
    refine x_icmp_ge (tgt := 89) dX0_takeData_17 (by decide) (fun h => False.elim (nI_ge (by omega : i < d) (by omega) h)) (fun _ => ?_)
    refine x_aload_n dX0_takeData_20 rfl rfl ?_
    refine x_getf (ci := 0) (kf := 10) dX0_takeData_21 rfl uX0 (by decide) fl_RX0_91 (gs ho) rfl ?_
    refine x_bipush (y := nI 56) dX0_takeData_24 rfl ?_
    refine x_lushr dX0_takeData_26 ?_
    refine x_l2i dX0_takeData_27 ?_
    refine x_casti (y := nI (uN ((tkd hs ls uf (i)).1) / 2 ^ 56)) (lv_i _) ?_
    refine x_sipush (y := nI 255) dX0_takeData_28 rfl ?_
    refine x_ixor dX0_takeData_31 ?_
    refine x_casti (y := nI ((uN ((tkd hs ls uf (i)).1) / 2 ^ 56) ^^^ 255)) (nI_xor _ _) ?_
    refine x_aload_n dX0_takeData_32 rfl rfl ?_
    refine x_iload_n dX0_takeData_33 rfl rfl ?_
    refine x_callV (ci := 4) (as := [.int (nI (i))]) dX0_takeData_34 mk_X5_byteAt in_X5_byteAt se_X5_byteAt ml_RX0_98 rfl (gn hU (by omega)) (by decide) rfl rfl (Nat.le_of_ble_eq_true rfl) (c_byteAt (gn hU (by omega)) (gn hu (by omega)) (by omega)) ?_
    refine x_ixor dX0_takeData_37 ?_
    refine x_casti (y := nI (lvs ((tkd hs ls uf (i)).1) (rby uf i))) (nI_xor _ _) ?_
    refine x_istore_n (ls' := [some (.ref (5)), some (.ref (u)), some (.int (nI (i))), some (.int (nI (lvs ((tkd hs ls uf (i)).1) (rby uf i))))]) dX0_takeData_38 rfl (by decide) rfl rfl ?_
    refine x_aload_n dX0_takeData_39 rfl rfl ?_
    refine x_aload_n dX0_takeData_40 rfl rfl ?_
    refine x_getf (ci := 0) (kf := 10) dX0_takeData_41 rfl uX0 (by decide) fl_RX0_91 (gs ho) rfl ?_
    refine x_bipush (y := nI 8) dX0_takeData_44 rfl ?_
    refine x_lshl dX0_takeData_46 ?_
    refine x_aload_n dX0_takeData_47 rfl rfl ?_
    refine x_getf (ci := 0) (kf := 11) dX0_takeData_48 rfl uX0 (by decide) fl_RX0_95 (gs ho) rfl ?_
    refine x_bipush (y := nI 56) dX0_takeData_51 rfl ?_
    refine x_lushr dX0_takeData_53 ?_
    refine x_lor dX0_takeData_54 ?_
    refine x_aload_n dX0_takeData_55 rfl rfl ?_
    refine x_getf (ci := 0) (kf := 2) dX0_takeData_56 rfl uX0 (by decide) fl_RX0_15 (gs ho) rfl ?_
    refine x_iload_n dX0_takeData_59 rfl rfl ?_
    refine x_lld (j := lvs ((tkd hs ls uf (i)).1) (rby uf i)) dX0_takeData_60 (gn hh (by decide)) rfl (lvs_lt _ (rby_lt _ _)) (by decide) ?_
    refine x_lxor dX0_takeData_61 ?_
    refine x_putf (ci := 0) (kf := 10) (ty0 := tyX0) (M1 := (M.set (5) (.inr (0, [.ref (1), .ref (6), .ref (7), .ref (8), .ref (9), .ref (10), .int (nI t), .int (nI d), .int (nI r), .int (nI n), .long (((((tkd hs ls uf (i)).1) <<< ((nI 8).toInt64 &&& 63)) ||| ((((tkd hs ls uf (i)).2).toUInt64 >>> ((nI 56).toInt64.toUInt64 &&& Int64.toUInt64 63)).toInt64)) ^^^ (hs (lvs ((tkd hs ls uf (i)).1) (rby uf i)))), .long ((tkd hs ls uf (i)).2)])))) dX0_takeData_62 rfl uX0 tyX0_ok nmX0 (by decide) fl_RX0_91 rfl rfl rfl rfl (gs ho) (Nat.le_of_ble_eq_true rfl) (ss0) ?_
    refine x_aload_n dX0_takeData_65 rfl rfl ?_
    refine x_aload_n dX0_takeData_66 rfl rfl ?_
    refine x_getf (ci := 0) (kf := 11) dX0_takeData_67 rfl uX0 (by decide) fl_RX0_95 (gs ho) rfl ?_
    refine x_bipush (y := nI 8) dX0_takeData_70 rfl ?_
    refine x_lshl dX0_takeData_72 ?_
    refine x_aload_n dX0_takeData_73 rfl rfl ?_
    refine x_getf (ci := 0) (kf := 3) dX0_takeData_74 rfl uX0 (by decide) fl_RX0_19 (gs ho) rfl ?_
    refine x_iload_n dX0_takeData_77 rfl rfl ?_
    refine x_lld (j := lvs ((tkd hs ls uf (i)).1) (rby uf i)) dX0_takeData_78 (gn hl (by decide)) rfl (lvs_lt _ (rby_lt _ _)) (by decide) ?_
    refine x_lxor dX0_takeData_79 ?_
    refine x_putf (ci := 0) (kf := 11) (ty0 := tyX0) (M1 := (M.set (5) (.inr (0, [.ref (1), .ref (6), .ref (7), .ref (8), .ref (9), .ref (10), .int (nI t), .int (nI d), .int (nI r), .int (nI n), .long (((((tkd hs ls uf (i)).1) <<< ((nI 8).toInt64 &&& 63)) ||| ((((tkd hs ls uf (i)).2).toUInt64 >>> ((nI 56).toInt64.toUInt64 &&& Int64.toUInt64 63)).toInt64)) ^^^ (hs (lvs ((tkd hs ls uf (i)).1) (rby uf i)))), .long ((((tkd hs ls uf (i)).2) <<< ((nI 8).toInt64 &&& 63)) ^^^ (ls (lvs ((tkd hs ls uf (i)).1) (rby uf i))))])))) dX0_takeData_80 rfl uX0 tyX0_ok nmX0 (by decide) fl_RX0_95 rfl rfl rfl rfl (gs ho) (Nat.le_of_ble_eq_true rfl) (ss0) ?_
    refine x_iinc (y := nI ((i) + 1)) (ls' := [some (.ref (5)), some (.ref (u)), some (.int (nI ((i) + 1))), some (.int (nI (lvs ((tkd hs ls uf (i)).1) (rby uf i))))]) dX0_takeData_83 (by decide) rfl rfl (ii_add _ 1) rfl ?_
    refine x_goto (tgt := 12) dX0_takeData_86 (by decide) ?_
    refine lp_takeData_fw ?_
    exact ih (i + 1) (by omega)
theorem c_takeData {X : Ev} {M : Hp} {t d r n : Nat} {hi lo : Int64} (ho : M[5]? = some (.inr (0, [.ref (1), .ref (6), .ref (7), .ref (8), .ref (9), .ref (10), .int (nI t), .int (nI d), .int (nI r), .int (nI n), .long (hi), .long (lo)]))) {hs ls : Nat → Int64} (hh : M[7]? = some (.inl (1, 256, .inr (.inl (hs))))) (hl : M[8]? = some (.inl (1, 256, .inr (.inl (ls))))) {u : Nat} {uf : Nat → Int64} (hU : M[u]? = some (.inr (4, [.ref (u + 1)]))) (hu : M[u + 1]? = some (.inl (1, 34, .inr (.inl (uf))))) (hu5 : 11 < u) (hd : d ≤ 256) : Cl X 1 jX0_takeData [.ref (5), .ref (u)] M none (M.set 5 (.inr (0, [.ref (1), .ref (6), .ref (7), .ref (8), .ref (9), .ref (10), .int (nI t), .int (nI d), .int (nI r), .int (nI n), .long ((tkd hs ls uf (d)).1), .long ((tkd hs ls uf (d)).2)]))) := by
  refine Cl.of (ls := [some (.ref (5)), some (.ref (u)), none, none]) (by decide) rfl (Nat.le_of_ble_eq_true rfl) ?_
  refine x_aload_n dX0_takeData_0 rfl rfl ?_
  refine x_lconst (y := 0) dX0_takeData_1 rfl ?_
  refine x_putf (ci := 0) (kf := 10) (ty0 := tyX0) (M1 := (M.set (5) (.inr (0, [.ref (1), .ref (6), .ref (7), .ref (8), .ref (9), .ref (10), .int (nI t), .int (nI d), .int (nI r), .int (nI n), .long (0), .long (lo)])))) dX0_takeData_2 rfl uX0 tyX0_ok nmX0 (by decide) fl_RX0_91 rfl rfl rfl rfl ho (Nat.le_of_ble_eq_true rfl) rfl ?_
  refine x_aload_n dX0_takeData_5 rfl rfl ?_
  refine x_lconst (y := 0) dX0_takeData_6 rfl ?_
  refine x_putf (ci := 0) (kf := 11) (ty0 := tyX0) (M1 := (M.set (5) (.inr (0, [.ref (1), .ref (6), .ref (7), .ref (8), .ref (9), .ref (10), .int (nI t), .int (nI d), .int (nI r), .int (nI n), .long (0), .long (0)])))) dX0_takeData_7 rfl uX0 tyX0_ok nmX0 (by decide) fl_RX0_95 rfl rfl rfl rfl (gs ho) (Nat.le_of_ble_eq_true rfl) (ss0) ?_
  refine x_iconst (y := nI 0) dX0_takeData_10 rfl ?_
  refine x_istore_n (ls' := [some (.ref (5)), some (.ref (u)), some (.int (nI 0)), none]) dX0_takeData_11 rfl (by decide) rfl rfl ?_
  exact lp_takeData ho hh hl hU hu hu5 hd (x_ret dX0_takeData_89 rfl) d 0 (by omega)
def cmp (f : Nat → Int64) (hi lo : Int64) (d : Nat) : Nat → (Nat → Int64)
  | 0 => f
  | q + 1 => rset (cmp f hi lo d q) (8 * d + q) (!(rgb hi lo q))
theorem lp_complete {X : Ev} {M0 M M' : Hp} {v : Option Value} {t d r n : Nat} {hi lo : Int64} (ho : M[5]? = some (.inr (0, [.ref (1), .ref (6), .ref (7), .ref (8), .ref (9), .ref (10), .int (nI t), .int (nI d), .int (nI r), .int (nI n), .long (hi), .long (lo)]))) {hs ls : Nat → Int64} (hh : M[7]? = some (.inl (1, 256, .inr (.inl (hs))))) (hl : M[8]? = some (.inl (1, 256, .inr (.inl (ls))))) {u : Nat} {uf : Nat → Int64} (hU : M[u]? = some (.inr (4, [.ref (u + 1)]))) (hu : M[u + 1]? = some (.inl (1, 34, .inr (.inl (uf))))) (hu5 : 11 < u) (hd : d ≤ 256) (hr : r ≤ 104) (k : G X 2 jX0_complete M0 41 [some (.ref (5)), some (.ref (u)), some (.int (nI (r)))] [] ((M.set (5) (.inr (0, [.ref (1), .ref (6), .ref (7), .ref (8), .ref (9), .ref (10), .int (nI t), .int (nI d), .int (nI r), .int (nI n), .long ((tkd hs ls uf (d)).1), .long ((tkd hs ls uf (d)).2)]))).set (u + 1) (.inl (1, 34, .inr (.inl (cmp uf (tkd hs ls uf d).1 (tkd hs ls uf d).2 d (r)))))) v M') : ∀ (zz i : Nat), i + zz = r → G X 2 jX0_complete M0 7 [some (.ref (5)), some (.ref (u)), some (.int (nI (i)))] [] ((M.set (5) (.inr (0, [.ref (1), .ref (6), .ref (7), .ref (8), .ref (9), .ref (10), .int (nI t), .int (nI d), .int (nI r), .int (nI n), .long ((tkd hs ls uf (d)).1), .long ((tkd hs ls uf (d)).2)]))).set (u + 1) (.inl (1, 34, .inr (.inl (cmp uf (tkd hs ls uf d).1 (tkd hs ls uf d).2 d (i)))))) v M' := by
  intro zz
  induction zz with
  | zero =>
    intro i hi
    have hi : i = r := by omega
    subst hi
    refine x_iload_n dX0_complete_7 rfl rfl ?_
    refine x_aload_n dX0_complete_8 rfl rfl ?_
    refine x_getf (ci := 0) (kf := 8) dX0_complete_9 rfl uX0 (by decide) fl_RX0_46 (gn (gs ho) (by omega)) rfl ?_
    refine x_icmp_ge (tgt := 41) dX0_complete_12 (by decide) (fun _ => ?_) (fun h => False.elim (h (nI_le (Nat.le_refl _) (by omega))))
    exact k
  | succ zz ih =>
    intro i hi
    refine x_iload_n dX0_complete_7 rfl rfl ?_
    refine x_aload_n dX0_complete_8 rfl rfl ?_
    refine x_getf (ci := 0) (kf := 8) dX0_complete_9 rfl uX0 (by decide) fl_RX0_46 (gn (gs ho) (by omega)) rfl ?_
    refine x_icmp_ge (tgt := 41) dX0_complete_12 (by decide) (fun h => False.elim (nI_ge (by omega : i < r) (by omega) h)) (fun _ => ?_)
    refine x_aload_n dX0_complete_15 rfl rfl ?_
    refine x_bipush (y := nI 8) dX0_complete_16 rfl ?_
    refine x_aload_n dX0_complete_18 rfl rfl ?_
    refine x_getf (ci := 0) (kf := 7) dX0_complete_19 rfl uX0 (by decide) fl_RX0_40 (gn (gs ho) (by omega)) rfl ?_
    refine x_imul dX0_complete_22 ?_
    refine x_casti (y := nI (8 * d)) (pk_mul _ _) ?_
    refine x_iload_n dX0_complete_23 rfl rfl ?_
    refine x_iadd dX0_complete_24 ?_
    refine x_casti (y := nI (8 * d + i)) (nI_add _ _) ?_
    refine x_iconst (y := nI 1) dX0_complete_25 rfl ?_
    refine x_aload_n dX0_complete_26 rfl rfl ?_
    refine x_iload_n dX0_complete_27 rfl rfl ?_
    refine x_callV (ci := 0) (as := [.int (nI (i))]) dX0_complete_28 mk_X0_registerAt in_X0_registerAt se_X0_registerAt ml_RX0_105 rfl (gn (gs ho) (by omega)) (by decide) rfl rfl (Nat.le_of_ble_eq_true rfl) (c_registerAt (gn (gs ho) (by omega)) (by omega)) ?_
    refine x_isub dX0_complete_31 ?_
    refine x_casti (y := nI (!(rgb (tkd hs ls uf d).1 (tkd hs ls uf d).2 i)).toNat) bz ?_
    refine x_callV (ci := 4) (as := [.int (nI (8 * d + i)), .int (nI (!(rgb (tkd hs ls uf d).1 (tkd hs ls uf d).2 i)).toNat)]) dX0_complete_32 mk_X5_set in_X5_set se_X5_set ml_RX0_108 rfl (gn (gn hU (by omega)) (by omega)) (by decide) rfl rfl (Nat.le_of_ble_eq_true rfl) (c_set (gn (gn hU (by omega)) (by omega)) (gs (gn hu (by omega))) (by omega) (b0 := !(rgb (tkd hs ls uf d).1 (tkd hs ls uf d).2 i)) bz0) ?_
    refine G.hp (ss0) ?_
    refine x_iinc (y := nI ((i) + 1)) (ls' := [some (.ref (5)), some (.ref (u)), some (.int (nI ((i) + 1)))]) dX0_complete_35 (by decide) rfl rfl (ii_add _ 1) rfl ?_
    refine x_goto (tgt := 7) dX0_complete_38 (by decide) ?_
    exact ih (i + 1) (by omega)
theorem c_complete {X : Ev} {M : Hp} {t d r n : Nat} {hi lo : Int64} (ho : M[5]? = some (.inr (0, [.ref (1), .ref (6), .ref (7), .ref (8), .ref (9), .ref (10), .int (nI t), .int (nI d), .int (nI r), .int (nI n), .long (hi), .long (lo)]))) {hs ls : Nat → Int64} (hh : M[7]? = some (.inl (1, 256, .inr (.inl (hs))))) (hl : M[8]? = some (.inl (1, 256, .inr (.inl (ls))))) {u : Nat} {uf : Nat → Int64} (hU : M[u]? = some (.inr (4, [.ref (u + 1)]))) (hu : M[u + 1]? = some (.inl (1, 34, .inr (.inl (uf))))) (hu5 : 11 < u) (hd : d ≤ 256) (hr : r ≤ 104) : Cl X 2 jX0_complete [.ref (5), .ref (u)] M none ((M.set 5 (.inr (0, [.ref (1), .ref (6), .ref (7), .ref (8), .ref (9), .ref (10), .int (nI t), .int (nI d), .int (nI r), .int (nI n), .long ((tkd hs ls uf (d)).1), .long ((tkd hs ls uf (d)).2)]))).set (u + 1) (.inl (1, 34, .inr (.inl (cmp uf (tkd hs ls uf d).1 (tkd hs ls uf d).2 d r))))) := by
  refine Cl.of (ls := [some (.ref (5)), some (.ref (u)), none]) (by decide) rfl (Nat.le_of_ble_eq_true rfl) ?_
  refine x_aload_n dX0_complete_0 rfl rfl ?_
  refine x_aload_n dX0_complete_1 rfl rfl ?_
  refine x_callV (ci := 0) (as := [.ref (u)]) dX0_complete_2 mk_X0_takeData in_X0_takeData se_X0_takeData ml_RX0_101 rfl ho (by decide) rfl rfl (Nat.le_of_ble_eq_true rfl) (c_takeData ho hh hl hU hu hu5 hd) ?_
  refine x_iconst (y := nI 0) dX0_complete_5 rfl ?_
  refine x_istore_n (ls' := [some (.ref (5)), some (.ref (u)), some (.int (nI 0))]) dX0_complete_6 rfl (by decide) rfl rfl ?_
  refine G.hp (set_id (gn hu (by omega)) rfl) (lp_complete ho hh hl hU hu hu5 hd hr (x_ret dX0_complete_41 rfl) r 0 (by omega))
