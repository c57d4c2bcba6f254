/-! THE MODEL: complete, tail, write, isRight, syndrome -/
def dbit (bu : Nat → Nat) (k : Nat) : Bool := (bu (k / 8)).testBit (7 - k % 8)
def lsk (le gg : Nat → Bool) (f : Bool) (r q : Nat) : Nat → Bool := fun j => if q < j ∧ j ≤ r - 1 then le (j - 1) ^^ (f && gg j) else le j
theorem lsk_step {le gg : Nat → Bool} {f : Bool} {r q : Nat} (h : q + 1 ≤ r - 1) : bup (lsk le gg f r (q + 1)) (q + 1) (le q ^^ (f && gg (q + 1))) = lsk le gg f r q := by
  funext j
  unfold bup lsk
  by_cases hj : j = q + 1
  · subst hj; rw [if_pos rfl, if_pos ⟨by omega, h⟩]; rfl
  · rw [if_neg hj]
    by_cases h2 : q + 1 < j ∧ j ≤ r - 1
    · rw [if_pos h2, if_pos (by omega)]
    · rw [if_neg h2, if_neg (by omega)]
theorem lsk_top {le gg : Nat → Bool} {f : Bool} {r : Nat} : lsk le gg f r (r - 1) = le := by
  funext j; unfold lsk; rw [if_neg (by omega)]
theorem lsk_lo {le gg : Nat → Bool} {f : Bool} {r q j : Nat} (h : j ≤ q) : lsk le gg f r q j = le j := by unfold lsk; rw [if_neg (by omega)]
/-- a bit goes through the register -/
def lst (le gg : Nat → Bool) (f : Bool) (r : Nat) : Nat → Bool := bup (lsk le gg f r 0) 0 (f && gg 0)
def cle (bu : Nat → Nat) (gg le : Nat → Bool) (r : Nat) : Nat → (Nat → Bool)
  | 0 => bst false le 110
  | k + 1 => lst (cle bu gg le r k) gg (cle bu gg le r k (r - 1) ^^ !(dbit bu k)) r
def cwd (bu : Nat → Nat) (wd : Nat → Bool) (k : Nat) : Nat → Bool := fun j => if j < k then dbit bu j else wd j
theorem cwd_up {bu : Nat → Nat} {wd : Nat → Bool} {k : Nat} : bup (cwd bu wd k) k (dbit bu k) = cwd bu wd (k + 1) := by
  funext j
  unfold bup cwd
  by_cases h : j = k
  · subst h; rw [if_pos rfl, if_pos (by omega)]
  · rw [if_neg h]
    by_cases h2 : j < k
    · rw [if_pos h2, if_pos (by omega)]
    · rw [if_neg h2, if_neg (by omega)]
def ctl (w le : Nat → Bool) (d r k : Nat) : Nat → Bool := fun j => if 8 * d ≤ j ∧ j < 8 * d + k then !(le (r - 1 - (j - 8 * d))) else w j
theorem ctl_up {w le : Nat → Bool} {d r k : Nat} : bup (ctl w le d r k) (8 * d + k) (!(le (r - 1 - k))) = ctl w le d r (k + 1) := by
  funext j
  unfold bup ctl
  by_cases h : j = 8 * d + k
  · subst h; rw [if_pos rfl, if_pos ⟨by omega, by omega⟩, Nat.add_sub_cancel_left]
  · rw [if_neg h]
    by_cases h2 : 8 * d ≤ j ∧ j < 8 * d + k
    · rw [if_pos h2, if_pos (by omega)]
    · rw [if_neg h2, if_neg (by omega)]
theorem ctl_0 {w le : Nat → Bool} {d r : Nat} : ctl w le d r 0 = w := by funext j; unfold ctl; rw [if_neg (by omega)]
theorem cwd_0 {bu : Nat → Nat} {wd : Nat → Bool} : cwd bu wd 0 = wd := by funext j; unfold cwd; rw [if_neg (by omega)]
theorem db_eq {bu : Nat → Nat} {k : Nat} (hb : bu (k / 8) < 256) : nI (bu (k / 8)) >>> (nI (7 - k % 8) &&& 31) &&& nI 1 = nI (dbit bu k).toNat := bit_k (by omega) (by omega)
theorem lp_cpz {X : Ev} {M0 M M' : Hp} {v : Option Value} {op : Int32} {m t d r n tn : Nat} {me ri lt : Int32} (hO : M[138]? = some (.inr (6, [.int (op), .int (nI m), .int (nI t), .int (nI d), .int (nI r), .int (nI n), .int (nI (2 ^ m - 1)), .ref (139), .ref (140), .ref (141), .ref (142), .ref (143), .ref (144), .ref (145), .ref (146), .ref (147), .int (nI tn), .int (me), .int (ri), .int (lt), .ref (148), .ref (149), .ref (150), .ref (151), .ref (152), .ref (153), .ref (154)]))) {le : Nat → Bool} (hle : M[151]? = some (.inl (0, 110, .inl (fun j => nI ((le) j).toNat)))) (k : G X 0 jX7_complete M0 21 [some (.ref (138)), some (.int (nI 110)), none, none] [] (M.set (151) (.inl (0, 110, .inl (fun j => nI ((bst false le (110)) j).toNat)))) v M') : ∀ (zz i : Nat), i + zz = 110 → G X 0 jX7_complete M0 2 [some (.ref (138)), some (.int (nI (i))), none, none] [] (M.set (151) (.inl (0, 110, .inl (fun j => nI ((bst false le (i)) j).toNat)))) v M' := by
  intro zz
  induction zz with
  | zero =>
    intro i hi
    have hi : i = 110 := by omega
    subst hi
    refine x_iload_n dX7_complete_2 rfl rfl ?_
    refine x_bipush (y := nI 110) dX7_complete_3 rfl ?_
    refine x_icmp_ge (tgt := 21) dX7_complete_5 (by decide) (fun _ => ?_) (fun h => False.elim (h (nI_le (Nat.le_refl _) (by decide))))
    exact k
  | succ zz ih =>
    intro i hi
    refine x_iload_n dX7_complete_2 rfl rfl ?_
    refine x_bipush (y := nI 110) dX7_complete_3 rfl ?_
    refine x_icmp_ge (tgt := 21) dX7_complete_5 (by decide) (fun h => False.elim (nI_ge (by omega : i < 110) (by decide) h)) (fun _ => ?_)
    refine x_aload_n dX7_complete_8 rfl rfl ?_
    refine x_getf (ci := 6) (kf := 23) dX7_complete_9 rfl uX7 (by decide) fl_RX7_48 (gn hO (by decide)) rfl ?_
    refine x_iload_n dX7_complete_12 rfl rfl ?_
    refine x_iconst (y := nI 0) dX7_complete_13 rfl ?_
    refine x_ist (j := i) (M1 := (M.set (151) (.inl (0, 110, .inl (fun j => nI ((bst false le (i + 1)) j).toNat))))) dX7_complete_14 (gs hle) rfl (by omega) (by decide) (by rw [show upd (fun j => nI ((bst false le (i)) j).toNat) (i) (nI 0) = (fun j => nI ((bst false le (i + 1)) j).toNat) from ((zupi (x := false)).trans (congrArg (fun z : Nat → Bool => fun j => nI (z j).toNat) bst_step))] <;> exact (ss0)) ?_
    refine x_iinc (y := nI ((i) + 1)) (ls' := [some (.ref (138)), some (.int (nI ((i) + 1))), none, none]) dX7_complete_15 (by decide) rfl rfl (ii_add _ 1) rfl ?_
    refine x_goto (tgt := 2) dX7_complete_18 (by decide) ?_
    exact ih (i + 1) (by omega)
theorem lp_cpi {X : Ev} {M0 M M' : Hp} {v : Option Value} {op : Int32} {m t d r n tn : Nat} {me ri lt : Int32} (hO : M[138]? = some (.inr (6, [.int (op), .int (nI m), .int (nI t), .int (nI d), .int (nI r), .int (nI n), .int (nI (2 ^ m - 1)), .ref (139), .ref (140), .ref (141), .ref (142), .ref (143), .ref (144), .ref (145), .ref (146), .ref (147), .int (nI tn), .int (me), .int (ri), .int (lt), .ref (148), .ref (149), .ref (150), .ref (151), .ref (152), .ref (153), .ref (154)]))) {gg : Nat → Bool} (hgg : M[141]? = some (.inl (0, 210, .inl (fun j => nI ((gg) j).toNat)))) {le : Nat → Bool} (hle : M[151]? = some (.inl (0, 110, .inl (fun j => nI ((le) j).toNat)))) (hr8 : r ≤ 104) {c : Nat → Bool} {fb : Bool} {a1 : Int32} (k : G X 0 jX7_complete M0 142 [some (.ref (138)), some (.int (a1)), some (.int (nI fb.toNat)), some (.int (nI 0))] [] (M.set (151) (.inl (0, 110, .inl (fun j => nI ((lsk c gg fb r (0)) j).toNat)))) v M') : ∀ q, q ≤ r - 1 → G X 0 jX7_complete M0 102 [some (.ref (138)), some (.int (a1)), some (.int (nI fb.toNat)), some (.int (nI (q)))] [] (M.set (151) (.inl (0, 110, .inl (fun j => nI ((lsk c gg fb r (q)) j).toNat)))) v M' := by
  intro q
  induction q with
  | zero =>
    intro hqq
    refine x_iload_n dX7_complete_102 rfl rfl ?_
    refine x_if_le (tgt := 142) dX7_complete_103 (by decide) (fun _ => ?_) (fun h => False.elim (absurd (Int32.le_refl _) h))
    exact k
  | succ q ih =>
    intro hqq
    refine x_iload_n dX7_complete_102 rfl rfl ?_
    refine x_if_le (tgt := 142) dX7_complete_103 (by decide) (fun h => False.elim (absurd (Int32.le_iff_toInt_le.mp h) (by rw [nI_toInt (by omega)]; show ¬ ((q + 1 : Nat) : Int) ≤ 0; omega))) (fun _ => ?_)
    refine x_aload_n dX7_complete_106 rfl rfl ?_
    refine x_getf (ci := 6) (kf := 23) dX7_complete_107 rfl uX7 (by decide) fl_RX7_48 (gn hO (by decide)) rfl ?_
    refine x_iload_n dX7_complete_110 rfl rfl ?_
    refine x_aload_n dX7_complete_111 rfl rfl ?_
    refine x_getf (ci := 6) (kf := 23) dX7_complete_112 rfl uX7 (by decide) fl_RX7_48 (gn hO (by decide)) rfl ?_
    refine x_iload_n dX7_complete_115 rfl rfl ?_
    refine x_iconst (y := nI 1) dX7_complete_116 rfl ?_
    refine x_isub dX7_complete_117 ?_
    refine x_casti (y := nI q) (nI_p1) ?_
    refine x_ild (j := q) dX7_complete_118 (gs hle) rfl (by omega) (by decide) ?_
    refine x_casti (y := nI (c q).toNat) (by rw [lsk_lo (by omega)]) ?_
    refine x_iload_n dX7_complete_119 rfl rfl ?_
    refine x_iconst (y := nI 1) dX7_complete_120 rfl ?_
    refine x_icmp_ne (tgt := 133) dX7_complete_121 (by decide) (fun h121 => ?_) (fun h121 => ?_)
    · refine x_iconst (y := nI 0) dX7_complete_133 rfl ?_
      refine x_ixor dX7_complete_134 ?_
      refine x_casti (y := nI (c q ^^ (fb && gg (q + 1))).toNat) (by rw [show fb = false from Bool.eq_false_iff.mpr (rb0 h121), Bool.false_and]; exact xorb (b := false)) ?_
      refine x_ist (j := q + 1) (M1 := (M.set (151) (.inl (0, 110, .inl (fun j => nI ((lsk c gg fb r q) j).toNat))))) dX7_complete_135 (gs hle) rfl (by omega) (by decide) (by rw [show upd (fun j => nI ((lsk c gg fb r (q + 1)) j).toNat) (q + 1) (nI (c q ^^ (fb && gg (q + 1))).toNat) = (fun j => nI ((lsk c gg fb r q) j).toNat) from (zupi.trans (congrArg (fun z : Nat → Bool => fun j => nI (z j).toNat) (lsk_step (by omega))))] <;> exact (ss0)) ?_
      refine x_iinc (y := nI q) (ls' := [some (.ref (138)), some (.int (a1)), some (.int (nI fb.toNat)), some (.int (nI q))]) dX7_complete_136 (by decide) rfl rfl (nI_m) rfl ?_
      refine x_goto (tgt := 102) dX7_complete_139 (by decide) ?_
      exact ih (by omega)
    · refine x_aload_n dX7_complete_124 rfl rfl ?_
      refine x_getf (ci := 6) (kf := 9) dX7_complete_125 rfl uX7 (by decide) fl_RX7_16 (gn hO (by decide)) rfl ?_
      refine x_iload_n dX7_complete_128 rfl rfl ?_
      refine x_ild (j := q + 1) dX7_complete_129 (gn hgg (by decide)) rfl (by omega) (by decide) ?_
      refine x_goto (tgt := 134) dX7_complete_130 (by decide) ?_
      refine x_ixor dX7_complete_134 ?_
      refine x_casti (y := nI (c q ^^ (fb && gg (q + 1))).toNat) (by rw [rb1 h121, Bool.true_and]; exact xorb) ?_
      refine x_ist (j := q + 1) (M1 := (M.set (151) (.inl (0, 110, .inl (fun j => nI ((lsk c gg fb r q) j).toNat))))) dX7_complete_135 (gs hle) rfl (by omega) (by decide) (by rw [show upd (fun j => nI ((lsk c gg fb r (q + 1)) j).toNat) (q + 1) (nI (c q ^^ (fb && gg (q + 1))).toNat) = (fun j => nI ((lsk c gg fb r q) j).toNat) from (zupi.trans (congrArg (fun z : Nat → Bool => fun j => nI (z j).toNat) (lsk_step (by omega))))] <;> exact (ss0)) ?_
      refine x_iinc (y := nI q) (ls' := [some (.ref (138)), some (.int (a1)), some (.int (nI fb.toNat)), some (.int (nI q))]) dX7_complete_136 (by decide) rfl rfl (nI_m) rfl ?_
      refine x_goto (tgt := 102) dX7_complete_139 (by decide) ?_
      exact ih (by omega)
theorem cp_fw {X : Ev} {d' : Nat} {M0 M M' : Hp} {v : Option Value} {pc : Nat} {a b : Value} {c e : Option Value} (kc : G X d' jX7_complete M0 pc [some a, some b, none, none] [] M v M') : G X d' jX7_complete M0 pc [some a, some b, c, e] [] M v M' := x_fewer (fun q w h => by match q, h with | 0, h => exact h | 1, h => exact h | 2, h => cases h | 3, h => cases h | q + 4, h => cases h) kc
theorem lp_cpd {X : Ev} {M0 M M' : Hp} {v : Option Value} {op : Int32} {m t d r n tn : Nat} {me ri lt : Int32} (hO : M[138]? = some (.inr (6, [.int (op), .int (nI m), .int (nI t), .int (nI d), .int (nI r), .int (nI n), .int (nI (2 ^ m - 1)), .ref (139), .ref (140), .ref (141), .ref (142), .ref (143), .ref (144), .ref (145), .ref (146), .ref (147), .int (nI tn), .int (me), .int (ri), .int (lt), .ref (148), .ref (149), .ref (150), .ref (151), .ref (152), .ref (153), .ref (154)]))) {gg : Nat → Bool} (hgg : M[141]? = some (.inl (0, 210, .inl (fun j => nI ((gg) j).toNat)))) {bu : Nat → Nat} (hbu : M[142]? = some (.inl (0, 256, .inl (fun j => nI ((bu) j))))) {wd : Nat → Bool} (hwd : M[150]? = some (.inl (2, 2200, .inl (fun j => nI ((wd) j).toNat)))) {le : Nat → Bool} (hle : M[151]? = some (.inl (0, 110, .inl (fun j => nI ((le) j).toNat)))) (hd8 : d ≤ 256) (hr1 : 1 ≤ r) (hr8 : r ≤ 104) (hbb : ∀ j, j < d → bu j < 256) (k : G X 0 jX7_complete M0 169 [some (.ref (138)), some (.int (nI (8 * d))), none, none] [] ((M.set (150) (.inl (2, 2200, .inl (fun j => nI ((cwd bu wd (8 * d)) j).toNat)))).set (151) (.inl (0, 110, .inl (fun j => nI ((cle bu gg le r (8 * d)) j).toNat)))) v M') : ∀ (zz q : Nat), q + zz = 8 * d → G X 0 jX7_complete M0 23 [some (.ref (138)), some (.int (nI (q))), none, none] [] ((M.set (150) (.inl (2, 2200, .inl (fun j => nI ((cwd bu wd (q)) j).toNat)))).set (151) (.inl (0, 110, .inl (fun j => nI ((cle bu gg le r (q)) j).toNat)))) v M' := by
  intro zz
  induction zz with
  | zero =>
    intro q hqq
    have hqq : q = 8 * d := by omega
    subst hqq
    refine x_iload_n dX7_complete_23 rfl rfl ?_
    refine x_bipush (y := nI 8) dX7_complete_24 rfl ?_
    refine x_aload_n dX7_complete_26 rfl rfl ?_
    refine x_getf (ci := 6) (kf := 3) dX7_complete_27 rfl uX7 (by decide) fl_RX7_107 (gn (gn hO (by decide)) (by decide)) rfl ?_
    refine x_imul dX7_complete_30 ?_
    refine x_casti (y := nI (8 * d)) (pk_mul _ _) ?_
    refine x_icmp_ge (tgt := 169) dX7_complete_31 (by decide) (fun _ => ?_) (fun h => False.elim (h (nI_le (Nat.le_refl _) (by omega))))
    exact k
  | succ zz ih =>
    intro q hqq
    have hk := ih (q + 1) (by omega)
    have hbq := hbb (q / 8) (by omega)
    have hdv : nI q / nI 8 = nI (q / 8) := pk_div (a := q) (by omega) (by decide) (by decide)
    refine x_iload_n dX7_complete_23 rfl rfl ?_
    refine x_bipush (y := nI 8) dX7_complete_24 rfl ?_
    refine x_aload_n dX7_complete_26 rfl rfl ?_
    refine x_getf (ci := 6) (kf := 3) dX7_complete_27 rfl uX7 (by decide) fl_RX7_107 (gn (gn hO (by decide)) (by decide)) rfl ?_
    refine x_imul dX7_complete_30 ?_
    refine x_casti (y := nI (8 * d)) (pk_mul _ _) ?_
    refine x_icmp_ge (tgt := 169) dX7_complete_31 (by decide) (fun h => False.elim (nI_ge (by omega : q < 8 * d) (by omega) h)) (fun _ => ?_)
    refine x_aload_n dX7_complete_34 rfl rfl ?_
    refine x_getf (ci := 6) (kf := 22) dX7_complete_35 rfl uX7 (by decide) fl_RX7_45 (gn (gn hO (by decide)) (by decide)) rfl ?_
    refine x_iload_n dX7_complete_38 rfl rfl ?_
    refine x_aload_n dX7_complete_39 rfl rfl ?_
    refine x_getf (ci := 6) (kf := 10) dX7_complete_40 rfl uX7 (by decide) fl_RX7_19 (gn (gn hO (by decide)) (by decide)) rfl ?_
    refine x_iload_n dX7_complete_43 rfl rfl ?_
    refine x_bipush (y := nI 8) dX7_complete_44 rfl ?_
    refine x_idiv dX7_complete_46 (by decide) ?_
    refine x_casti (y := nI (q / 8)) hdv ?_
    refine x_ild (j := q / 8) dX7_complete_47 (gn (gn hbu (by decide)) (by decide)) rfl (by omega) (by decide) ?_
    refine x_bipush (y := nI 7) dX7_complete_48 rfl ?_
    refine x_iload_n dX7_complete_50 rfl rfl ?_
    refine x_bipush (y := nI 8) dX7_complete_51 rfl ?_
    refine x_irem dX7_complete_53 (by decide) ?_
    refine x_casti (y := nI (q % 8)) (rem_n (by omega) (by decide) (by decide)) ?_
    refine x_isub dX7_complete_54 ?_
    refine x_casti (y := nI (7 - q % 8)) (pk_sub (by omega)) ?_
    refine x_ishr dX7_complete_55 ?_
    refine x_iconst (y := nI 1) dX7_complete_56 rfl ?_
    refine x_iand dX7_complete_57 ?_
    refine x_casti (y := nI (dbit bu q).toNat) (db_eq hbq) ?_
    refine x_iconst (y := nI 1) dX7_complete_58 rfl ?_
    refine x_icmp_ne (tgt := 66) dX7_complete_59 (by decide) (fun h59 => ?_) (fun h59 => ?_)
    · refine x_iconst (y := nI 0) dX7_complete_66 rfl ?_
      refine x_zst (j := q) (M1 := ((M.set (150) (.inl (2, 2200, .inl (fun j => nI ((cwd bu wd (q + 1)) j).toNat)))).set (151) (.inl (0, 110, .inl (fun j => nI ((cle bu gg le r (q)) j).toNat))))) dX7_complete_67 (gn (gs hwd) (by decide)) rfl (by omega) (by decide) (by rw [show upd (fun j => nI ((cwd bu wd (q)) j).toNat) (q) (vp_nar .boolean (nI 0)) = (fun j => nI ((cwd bu wd (q + 1)) j).toNat) from (by rw [← cwd_up, show dbit bu q = false from Bool.eq_false_iff.mpr (rb0 h59)]; exact zup (x := false))] <;> exact (ss1 (by decide))) ?_
      refine x_aload_n dX7_complete_68 rfl rfl ?_
      refine x_getf (ci := 6) (kf := 23) dX7_complete_69 rfl uX7 (by decide) fl_RX7_48 (gn (gn hO (by decide)) (by decide)) rfl ?_
      refine x_aload_n dX7_complete_72 rfl rfl ?_
      refine x_getf (ci := 6) (kf := 4) dX7_complete_73 rfl uX7 (by decide) fl_RX7_110 (gn (gn hO (by decide)) (by decide)) rfl ?_
      refine x_iconst (y := nI 1) dX7_complete_76 rfl ?_
      refine x_isub dX7_complete_77 ?_
      refine x_casti (y := nI (r - 1)) (pk_sub (by omega)) ?_
      refine x_ild (j := r - 1) dX7_complete_78 (gs (gn hle (by decide))) rfl (by omega) (by decide) ?_
      refine x_aload_n dX7_complete_79 rfl rfl ?_
      refine x_getf (ci := 6) (kf := 22) dX7_complete_80 rfl uX7 (by decide) fl_RX7_45 (gn (gn hO (by decide)) (by decide)) rfl ?_
      refine x_iload_n dX7_complete_83 rfl rfl ?_
      refine x_zld (j := q) dX7_complete_84 (gn (gs hwd) (by decide)) rfl (by omega) (by decide) ?_
      refine x_casti (y := nI (dbit bu q).toNat) (by unfold cwd; rw [if_pos (by omega)]) ?_
      refine x_if_eq (tgt := 92) dX7_complete_85 (by decide) (fun h85 => ?_) (fun h85 => ?_)
      · refine x_iconst (y := nI 1) dX7_complete_92 rfl ?_
        refine x_ixor dX7_complete_93 ?_
        refine x_casti (y := nI (cle bu gg le r (q) (r - 1) ^^ !(dbit bu q)).toNat) (by rw [bt0 h85]; exact xorb (b := true)) ?_
        refine x_istore_n (ls' := [some (.ref (138)), some (.int (nI (q))), some (.int (nI (cle bu gg le r (q) (r - 1) ^^ !(dbit bu q)).toNat)), none]) dX7_complete_94 rfl (by decide) rfl rfl ?_
        refine x_aload_n dX7_complete_95 rfl rfl ?_
        refine x_getf (ci := 6) (kf := 4) dX7_complete_96 rfl uX7 (by decide) fl_RX7_110 (gn (gn hO (by decide)) (by decide)) rfl ?_
        refine x_iconst (y := nI 1) dX7_complete_99 rfl ?_
        refine x_isub dX7_complete_100 ?_
        refine x_casti (y := nI (r - 1)) (pk_sub (by omega)) ?_
        refine x_istore_n (ls' := [some (.ref (138)), some (.int (nI (q))), some (.int (nI (cle bu gg le r (q) (r - 1) ^^ !(dbit bu q)).toNat)), some (.int (nI (r - 1)))]) dX7_complete_101 rfl (by decide) rfl rfl ?_
        refine G.hp (congrArg (fun z : Nat → Bool => ((M.set (150) (.inl (2, 2200, .inl (fun j => nI ((cwd bu wd (q + 1)) j).toNat)))).set 151 (.inl (0, 110, .inl (fun j => nI (z j).toNat))))) (lsk_top (le := cle bu gg le r (q)) (gg := gg) (f := (cle bu gg le r (q) (r - 1) ^^ !(dbit bu q))) (r := r)).symm) (lp_cpi (M := (M.set (150) (.inl (2, 2200, .inl (fun j => nI ((cwd bu wd (q + 1)) j).toNat))))) (c := cle bu gg le r (q)) (fb := (cle bu gg le r (q) (r - 1) ^^ !(dbit bu q))) (gn hO (by decide)) (gn hgg (by decide)) (gn hle (by decide)) hr8 ?_ (r - 1) (Nat.le_refl _))
        refine x_aload_n dX7_complete_142 rfl rfl ?_
        refine x_getf (ci := 6) (kf := 23) dX7_complete_143 rfl uX7 (by decide) fl_RX7_48 (gn (gn hO (by decide)) (by decide)) rfl ?_
        refine x_iconst (y := nI 0) dX7_complete_146 rfl ?_
        refine x_iload_n dX7_complete_147 rfl rfl ?_
        refine x_iconst (y := nI 1) dX7_complete_148 rfl ?_
        refine x_icmp_ne (tgt := 161) dX7_complete_149 (by decide) (fun h149 => ?_) (fun h149 => ?_)
        · refine x_iconst (y := nI 0) dX7_complete_161 rfl ?_
          refine x_ist (j := 0) (M1 := ((M.set (150) (.inl (2, 2200, .inl (fun j => nI ((cwd bu wd (q + 1)) j).toNat)))).set (151) (.inl (0, 110, .inl (fun j => nI ((cle bu gg le r (q + 1)) j).toNat))))) dX7_complete_162 (gs (gn hle (by decide))) rfl (by omega) (by decide) (by rw [show upd (fun j => nI ((lsk (cle bu gg le r (q)) gg (cle bu gg le r (q) (r - 1) ^^ !(dbit bu q)) r 0) j).toNat) (0) (nI 0) = (fun j => nI ((cle bu gg le r (q + 1)) j).toNat) from (by show _ = fun j => nI ((bup (lsk (cle bu gg le r (q)) gg (cle bu gg le r (q) (r - 1) ^^ !(dbit bu q)) r 0) 0 ((cle bu gg le r (q) (r - 1) ^^ !(dbit bu q)) && gg 0)) j).toNat; rw [show (cle bu gg le r (q) (r - 1) ^^ !(dbit bu q)) = false from Bool.eq_false_iff.mpr (rb0 h149), Bool.false_and]; exact zupi (x := false))] <;> exact (ss0)) ?_
          refine x_iinc (y := nI (q + 1)) (ls' := [some (.ref (138)), some (.int (nI (q + 1))), some (.int (nI (cle bu gg le r (q) (r - 1) ^^ !(dbit bu q)).toNat)), some (.int (nI 0))]) dX7_complete_163 (by decide) rfl rfl (ii_add _ 1) rfl ?_
          refine x_goto (tgt := 23) dX7_complete_166 (by decide) ?_
          refine cp_fw ?_
          exact hk
        · refine x_aload_n dX7_complete_152 rfl rfl ?_
          refine x_getf (ci := 6) (kf := 9) dX7_complete_153 rfl uX7 (by decide) fl_RX7_16 (gn (gn hO (by decide)) (by decide)) rfl ?_
          refine x_iconst (y := nI 0) dX7_complete_156 rfl ?_
          refine x_ild (j := 0) dX7_complete_157 (gn (gn hgg (by decide)) (by decide)) rfl (by omega) (by decide) ?_
          refine x_goto (tgt := 162) dX7_complete_158 (by decide) ?_
          refine x_ist (j := 0) (M1 := ((M.set (150) (.inl (2, 2200, .inl (fun j => nI ((cwd bu wd (q + 1)) j).toNat)))).set (151) (.inl (0, 110, .inl (fun j => nI ((cle bu gg le r (q + 1)) j).toNat))))) dX7_complete_162 (gs (gn hle (by decide))) rfl (by omega) (by decide) (by rw [show upd (fun j => nI ((lsk (cle bu gg le r (q)) gg (cle bu gg le r (q) (r - 1) ^^ !(dbit bu q)) r 0) j).toNat) (0) (nI (gg (0)).toNat) = (fun j => nI ((cle bu gg le r (q + 1)) j).toNat) from (by show _ = fun j => nI ((bup (lsk (cle bu gg le r (q)) gg (cle bu gg le r (q) (r - 1) ^^ !(dbit bu q)) r 0) 0 ((cle bu gg le r (q) (r - 1) ^^ !(dbit bu q)) && gg 0)) j).toNat; rw [rb1 h149, Bool.true_and]; exact zupi)] <;> exact (ss0)) ?_
          refine x_iinc (y := nI (q + 1)) (ls' := [some (.ref (138)), some (.int (nI (q + 1))), some (.int (nI (cle bu gg le r (q) (r - 1) ^^ !(dbit bu q)).toNat)), some (.int (nI 0))]) dX7_complete_163 (by decide) rfl rfl (ii_add _ 1) rfl ?_
          refine x_goto (tgt := 23) dX7_complete_166 (by decide) ?_
          refine cp_fw ?_
          exact hk
      · refine x_iconst (y := nI 0) dX7_complete_88 rfl ?_
        refine x_goto (tgt := 93) dX7_complete_89 (by decide) ?_
        refine x_ixor dX7_complete_93 ?_
        refine x_casti (y := nI (cle bu gg le r (q) (r - 1) ^^ !(dbit bu q)).toNat) (by rw [bt1 h85]; exact xorb (b := false)) ?_
        refine x_istore_n (ls' := [some (.ref (138)), some (.int (nI (q))), some (.int (nI (cle bu gg le r (q) (r - 1) ^^ !(dbit bu q)).toNat)), none]) dX7_complete_94 rfl (by decide) rfl rfl ?_
        refine x_aload_n dX7_complete_95 rfl rfl ?_
        refine x_getf (ci := 6) (kf := 4) dX7_complete_96 rfl uX7 (by decide) fl_RX7_110 (gn (gn hO (by decide)) (by decide)) rfl ?_
        refine x_iconst (y := nI 1) dX7_complete_99 rfl ?_
        refine x_isub dX7_complete_100 ?_
        refine x_casti (y := nI (r - 1)) (pk_sub (by omega)) ?_
        refine x_istore_n (ls' := [some (.ref (138)), some (.int (nI (q))), some (.int (nI (cle bu gg le r (q) (r - 1) ^^ !(dbit bu q)).toNat)), some (.int (nI (r - 1)))]) dX7_complete_101 rfl (by decide) rfl rfl ?_
        refine G.hp (congrArg (fun z : Nat → Bool => ((M.set (150) (.inl (2, 2200, .inl (fun j => nI ((cwd bu wd (q + 1)) j).toNat)))).set 151 (.inl (0, 110, .inl (fun j => nI (z j).toNat))))) (lsk_top (le := cle bu gg le r (q)) (gg := gg) (f := (cle bu gg le r (q) (r - 1) ^^ !(dbit bu q))) (r := r)).symm) (lp_cpi (M := (M.set (150) (.inl (2, 2200, .inl (fun j => nI ((cwd bu wd (q + 1)) j).toNat))))) (c := cle bu gg le r (q)) (fb := (cle bu gg le r (q) (r - 1) ^^ !(dbit bu q))) (gn hO (by decide)) (gn hgg (by decide)) (gn hle (by decide)) hr8 ?_ (r - 1) (Nat.le_refl _))
        refine x_aload_n dX7_complete_142 rfl rfl ?_
        refine x_getf (ci := 6) (kf := 23) dX7_complete_143 rfl uX7 (by decide) fl_RX7_48 (gn (gn hO (by decide)) (by decide)) rfl ?_
        refine x_iconst (y := nI 0) dX7_complete_146 rfl ?_
        refine x_iload_n dX7_complete_147 rfl rfl ?_
        refine x_iconst (y := nI 1) dX7_complete_148 rfl ?_
        refine x_icmp_ne (tgt := 161) dX7_complete_149 (by decide) (fun h149 => ?_) (fun h149 => ?_)
        · refine x_iconst (y := nI 0) dX7_complete_161 rfl ?_
          refine x_ist (j := 0) (M1 := ((M.set (150) (.inl (2, 2200, .inl (fun j => nI ((cwd bu wd (q + 1)) j).toNat)))).set (151) (.inl (0, 110, .inl (fun j => nI ((cle bu gg le r (q + 1)) j).toNat))))) dX7_complete_162 (gs (gn hle (by decide))) rfl (by omega) (by decide) (by rw [show upd (fun j => nI ((lsk (cle bu gg le r (q)) gg (cle bu gg le r (q) (r - 1) ^^ !(dbit bu q)) r 0) j).toNat) (0) (nI 0) = (fun j => nI ((cle bu gg le r (q + 1)) j).toNat) from (by show _ = fun j => nI ((bup (lsk (cle bu gg le r (q)) gg (cle bu gg le r (q) (r - 1) ^^ !(dbit bu q)) r 0) 0 ((cle bu gg le r (q) (r - 1) ^^ !(dbit bu q)) && gg 0)) j).toNat; rw [show (cle bu gg le r (q) (r - 1) ^^ !(dbit bu q)) = false from Bool.eq_false_iff.mpr (rb0 h149), Bool.false_and]; exact zupi (x := false))] <;> exact (ss0)) ?_
          refine x_iinc (y := nI (q + 1)) (ls' := [some (.ref (138)), some (.int (nI (q + 1))), some (.int (nI (cle bu gg le r (q) (r - 1) ^^ !(dbit bu q)).toNat)), some (.int (nI 0))]) dX7_complete_163 (by decide) rfl rfl (ii_add _ 1) rfl ?_
          refine x_goto (tgt := 23) dX7_complete_166 (by decide) ?_
          refine cp_fw ?_
          exact hk
        · refine x_aload_n dX7_complete_152 rfl rfl ?_
          refine x_getf (ci := 6) (kf := 9) dX7_complete_153 rfl uX7 (by decide) fl_RX7_16 (gn (gn hO (by decide)) (by decide)) rfl ?_
          refine x_iconst (y := nI 0) dX7_complete_156 rfl ?_
          refine x_ild (j := 0) dX7_complete_157 (gn (gn hgg (by decide)) (by decide)) rfl (by omega) (by decide) ?_
          refine x_goto (tgt := 162) dX7_complete_158 (by decide) ?_
          refine x_ist (j := 0) (M1 := ((M.set (150) (.inl (2, 2200, .inl (fun j => nI ((cwd bu wd (q + 1)) j).toNat)))).set (151) (.inl (0, 110, .inl (fun j => nI ((cle bu gg le r (q + 1)) j).toNat))))) dX7_complete_162 (gs (gn hle (by decide))) rfl (by omega) (by decide) (by rw [show upd (fun j => nI ((lsk (cle bu gg le r (q)) gg (cle bu gg le r (q) (r - 1) ^^ !(dbit bu q)) r 0) j).toNat) (0) (nI (gg (0)).toNat) = (fun j => nI ((cle bu gg le r (q + 1)) j).toNat) from (by show _ = fun j => nI ((bup (lsk (cle bu gg le r (q)) gg (cle bu gg le r (q) (r - 1) ^^ !(dbit bu q)) r 0) 0 ((cle bu gg le r (q) (r - 1) ^^ !(dbit bu q)) && gg 0)) j).toNat; rw [rb1 h149, Bool.true_and]; exact zupi)] <;> exact (ss0)) ?_
          refine x_iinc (y := nI (q + 1)) (ls' := [some (.ref (138)), some (.int (nI (q + 1))), some (.int (nI (cle bu gg le r (q) (r - 1) ^^ !(dbit bu q)).toNat)), some (.int (nI 0))]) dX7_complete_163 (by decide) rfl rfl (ii_add _ 1) rfl ?_
          refine x_goto (tgt := 23) dX7_complete_166 (by decide) ?_
          refine cp_fw ?_
          exact hk
    · refine x_iconst (y := nI 1) dX7_complete_62 rfl ?_
      refine x_goto (tgt := 67) dX7_complete_63 (by decide) ?_
      refine x_zst (j := q) (M1 := ((M.set (150) (.inl (2, 2200, .inl (fun j => nI ((cwd bu wd (q + 1)) j).toNat)))).set (151) (.inl (0, 110, .inl (fun j => nI ((cle bu gg le r (q)) j).toNat))))) dX7_complete_67 (gn (gs hwd) (by decide)) rfl (by omega) (by decide) (by rw [show upd (fun j => nI ((cwd bu wd (q)) j).toNat) (q) (vp_nar .boolean (nI 1)) = (fun j => nI ((cwd bu wd (q + 1)) j).toNat) from (by rw [← cwd_up, rb1 h59]; exact zup (x := true))] <;> exact (ss1 (by decide))) ?_
      refine x_aload_n dX7_complete_68 rfl rfl ?_
      refine x_getf (ci := 6) (kf := 23) dX7_complete_69 rfl uX7 (by decide) fl_RX7_48 (gn (gn hO (by decide)) (by decide)) rfl ?_
      refine x_aload_n dX7_complete_72 rfl rfl ?_
      refine x_getf (ci := 6) (kf := 4) dX7_complete_73 rfl uX7 (by decide) fl_RX7_110 (gn (gn hO (by decide)) (by decide)) rfl ?_
      refine x_iconst (y := nI 1) dX7_complete_76 rfl ?_
      refine x_isub dX7_complete_77 ?_
      refine x_casti (y := nI (r - 1)) (pk_sub (by omega)) ?_
      refine x_ild (j := r - 1) dX7_complete_78 (gs (gn hle (by decide))) rfl (by omega) (by decide) ?_
      refine x_aload_n dX7_complete_79 rfl rfl ?_
      refine x_getf (ci := 6) (kf := 22) dX7_complete_80 rfl uX7 (by decide) fl_RX7_45 (gn (gn hO (by decide)) (by decide)) rfl ?_
      refine x_iload_n dX7_complete_83 rfl rfl ?_
      refine x_zld (j := q) dX7_complete_84 (gn (gs hwd) (by decide)) rfl (by omega) (by decide) ?_
      refine x_casti (y := nI (dbit bu q).toNat) (by unfold cwd; rw [if_pos (by omega)]) ?_
      refine x_if_eq (tgt := 92) dX7_complete_85 (by decide) (fun h85 => ?_) (fun h85 => ?_)
      · refine x_iconst (y := nI 1) dX7_complete_92 rfl ?_
        refine x_ixor dX7_complete_93 ?_
        refine x_casti (y := nI (cle bu gg le r (q) (r - 1) ^^ !(dbit bu q)).toNat) (by rw [bt0 h85]; exact xorb (b := true)) ?_
        refine x_istore_n (ls' := [some (.ref (138)), some (.int (nI (q))), some (.int (nI (cle bu gg le r (q) (r - 1) ^^ !(dbit bu q)).toNat)), none]) dX7_complete_94 rfl (by decide) rfl rfl ?_
        refine x_aload_n dX7_complete_95 rfl rfl ?_
        refine x_getf (ci := 6) (kf := 4) dX7_complete_96 rfl uX7 (by decide) fl_RX7_110 (gn (gn hO (by decide)) (by decide)) rfl ?_
        refine x_iconst (y := nI 1) dX7_complete_99 rfl ?_
        refine x_isub dX7_complete_100 ?_
        refine x_casti (y := nI (r - 1)) (pk_sub (by omega)) ?_
        refine x_istore_n (ls' := [some (.ref (138)), some (.int (nI (q))), some (.int (nI (cle bu gg le r (q) (r - 1) ^^ !(dbit bu q)).toNat)), some (.int (nI (r - 1)))]) dX7_complete_101 rfl (by decide) rfl rfl ?_
        refine G.hp (congrArg (fun z : Nat → Bool => ((M.set (150) (.inl (2, 2200, .inl (fun j => nI ((cwd bu wd (q + 1)) j).toNat)))).set 151 (.inl (0, 110, .inl (fun j => nI (z j).toNat))))) (lsk_top (le := cle bu gg le r (q)) (gg := gg) (f := (cle bu gg le r (q) (r - 1) ^^ !(dbit bu q))) (r := r)).symm) (lp_cpi (M := (M.set (150) (.inl (2, 2200, .inl (fun j => nI ((cwd bu wd (q + 1)) j).toNat))))) (c := cle bu gg le r (q)) (fb := (cle bu gg le r (q) (r - 1) ^^ !(dbit bu q))) (gn hO (by decide)) (gn hgg (by decide)) (gn hle (by decide)) hr8 ?_ (r - 1) (Nat.le_refl _))
        refine x_aload_n dX7_complete_142 rfl rfl ?_
        refine x_getf (ci := 6) (kf := 23) dX7_complete_143 rfl uX7 (by decide) fl_RX7_48 (gn (gn hO (by decide)) (by decide)) rfl ?_
        refine x_iconst (y := nI 0) dX7_complete_146 rfl ?_
        refine x_iload_n dX7_complete_147 rfl rfl ?_
        refine x_iconst (y := nI 1) dX7_complete_148 rfl ?_
        refine x_icmp_ne (tgt := 161) dX7_complete_149 (by decide) (fun h149 => ?_) (fun h149 => ?_)
        · refine x_iconst (y := nI 0) dX7_complete_161 rfl ?_
          refine x_ist (j := 0) (M1 := ((M.set (150) (.inl (2, 2200, .inl (fun j => nI ((cwd bu wd (q + 1)) j).toNat)))).set (151) (.inl (0, 110, .inl (fun j => nI ((cle bu gg le r (q + 1)) j).toNat))))) dX7_complete_162 (gs (gn hle (by decide))) rfl (by omega) (by decide) (by rw [show upd (fun j => nI ((lsk (cle bu gg le r (q)) gg (cle bu gg le r (q) (r - 1) ^^ !(dbit bu q)) r 0) j).toNat) (0) (nI 0) = (fun j => nI ((cle bu gg le r (q + 1)) j).toNat) from (by show _ = fun j => nI ((bup (lsk (cle bu gg le r (q)) gg (cle bu gg le r (q) (r - 1) ^^ !(dbit bu q)) r 0) 0 ((cle bu gg le r (q) (r - 1) ^^ !(dbit bu q)) && gg 0)) j).toNat; rw [show (cle bu gg le r (q) (r - 1) ^^ !(dbit bu q)) = false from Bool.eq_false_iff.mpr (rb0 h149), Bool.false_and]; exact zupi (x := false))] <;> exact (ss0)) ?_
          refine x_iinc (y := nI (q + 1)) (ls' := [some (.ref (138)), some (.int (nI (q + 1))), some (.int (nI (cle bu gg le r (q) (r - 1) ^^ !(dbit bu q)).toNat)), some (.int (nI 0))]) dX7_complete_163 (by decide) rfl rfl (ii_add _ 1) rfl ?_
          refine x_goto (tgt := 23) dX7_complete_166 (by decide) ?_
          refine cp_fw ?_
          exact hk
        · refine x_aload_n dX7_complete_152 rfl rfl ?_
          refine x_getf (ci := 6) (kf := 9) dX7_complete_153 rfl uX7 (by decide) fl_RX7_16 (gn (gn hO (by decide)) (by decide)) rfl ?_
          refine x_iconst (y := nI 0) dX7_complete_156 rfl ?_
          refine x_ild (j := 0) dX7_complete_157 (gn (gn hgg (by decide)) (by decide)) rfl (by omega) (by decide) ?_
          refine x_goto (tgt := 162) dX7_complete_158 (by decide) ?_
          refine x_ist (j := 0) (M1 := ((M.set (150) (.inl (2, 2200, .inl (fun j => nI ((cwd bu wd (q + 1)) j).toNat)))).set (151) (.inl (0, 110, .inl (fun j => nI ((cle bu gg le r (q + 1)) j).toNat))))) dX7_complete_162 (gs (gn hle (by decide))) rfl (by omega) (by decide) (by rw [show upd (fun j => nI ((lsk (cle bu gg le r (q)) gg (cle bu gg le r (q) (r - 1) ^^ !(dbit bu q)) r 0) j).toNat) (0) (nI (gg (0)).toNat) = (fun j => nI ((cle bu gg le r (q + 1)) j).toNat) from (by show _ = fun j => nI ((bup (lsk (cle bu gg le r (q)) gg (cle bu gg le r (q) (r - 1) ^^ !(dbit bu q)) r 0) 0 ((cle bu gg le r (q) (r - 1) ^^ !(dbit bu q)) && gg 0)) j).toNat; rw [rb1 h149, Bool.true_and]; exact zupi)] <;> exact (ss0)) ?_
          refine x_iinc (y := nI (q + 1)) (ls' := [some (.ref (138)), some (.int (nI (q + 1))), some (.int (nI (cle bu gg le r (q) (r - 1) ^^ !(dbit bu q)).toNat)), some (.int (nI 0))]) dX7_complete_163 (by decide) rfl rfl (ii_add _ 1) rfl ?_
          refine x_goto (tgt := 23) dX7_complete_166 (by decide) ?_
          refine cp_fw ?_
          exact hk
      · refine x_iconst (y := nI 0) dX7_complete_88 rfl ?_
        refine x_goto (tgt := 93) dX7_complete_89 (by decide) ?_
        refine x_ixor dX7_complete_93 ?_
        refine x_casti (y := nI (cle bu gg le r (q) (r - 1) ^^ !(dbit bu q)).toNat) (by rw [bt1 h85]; exact xorb (b := false)) ?_
        refine x_istore_n (ls' := [some (.ref (138)), some (.int (nI (q))), some (.int (nI (cle bu gg le r (q) (r - 1) ^^ !(dbit bu q)).toNat)), none]) dX7_complete_94 rfl (by decide) rfl rfl ?_
        refine x_aload_n dX7_complete_95 rfl rfl ?_
        refine x_getf (ci := 6) (kf := 4) dX7_complete_96 rfl uX7 (by decide) fl_RX7_110 (gn (gn hO (by decide)) (by decide)) rfl ?_
        refine x_iconst (y := nI 1) dX7_complete_99 rfl ?_
        refine x_isub dX7_complete_100 ?_
        refine x_casti (y := nI (r - 1)) (pk_sub (by omega)) ?_
        refine x_istore_n (ls' := [some (.ref (138)), some (.int (nI (q))), some (.int (nI (cle bu gg le r (q) (r - 1) ^^ !(dbit bu q)).toNat)), some (.int (nI (r - 1)))]) dX7_complete_101 rfl (by decide) rfl rfl ?_
        refine G.hp (congrArg (fun z : Nat → Bool => ((M.set (150) (.inl (2, 2200, .inl (fun j => nI ((cwd bu wd (q + 1)) j).toNat)))).set 151 (.inl (0, 110, .inl (fun j => nI (z j).toNat))))) (lsk_top (le := cle bu gg le r (q)) (gg := gg) (f := (cle bu gg le r (q) (r - 1) ^^ !(dbit bu q))) (r := r)).symm) (lp_cpi (M := (M.set (150) (.inl (2, 2200, .inl (fun j => nI ((cwd bu wd (q + 1)) j).toNat))))) (c := cle bu gg le r (q)) (fb := (cle bu gg le r (q) (r - 1) ^^ !(dbit bu q))) (gn hO (by decide)) (gn hgg (by decide)) (gn hle (by decide)) hr8 ?_ (r - 1) (Nat.le_refl _))
        refine x_aload_n dX7_complete_142 rfl rfl ?_
        refine x_getf (ci := 6) (kf := 23) dX7_complete_143 rfl uX7 (by decide) fl_RX7_48 (gn (gn hO (by decide)) (by decide)) rfl ?_
        refine x_iconst (y := nI 0) dX7_complete_146 rfl ?_
        refine x_iload_n dX7_complete_147 rfl rfl ?_
        refine x_iconst (y := nI 1) dX7_complete_148 rfl ?_
        refine x_icmp_ne (tgt := 161) dX7_complete_149 (by decide) (fun h149 => ?_) (fun h149 => ?_)
        · refine x_iconst (y := nI 0) dX7_complete_161 rfl ?_
          refine x_ist (j := 0) (M1 := ((M.set (150) (.inl (2, 2200, .inl (fun j => nI ((cwd bu wd (q + 1)) j).toNat)))).set (151) (.inl (0, 110, .inl (fun j => nI ((cle bu gg le r (q + 1)) j).toNat))))) dX7_complete_162 (gs (gn hle (by decide))) rfl (by omega) (by decide) (by rw [show upd (fun j => nI ((lsk (cle bu gg le r (q)) gg (cle bu gg le r (q) (r - 1) ^^ !(dbit bu q)) r 0) j).toNat) (0) (nI 0) = (fun j => nI ((cle bu gg le r (q + 1)) j).toNat) from (by show _ = fun j => nI ((bup (lsk (cle bu gg le r (q)) gg (cle bu gg le r (q) (r - 1) ^^ !(dbit bu q)) r 0) 0 ((cle bu gg le r (q) (r - 1) ^^ !(dbit bu q)) && gg 0)) j).toNat; rw [show (cle bu gg le r (q) (r - 1) ^^ !(dbit bu q)) = false from Bool.eq_false_iff.mpr (rb0 h149), Bool.false_and]; exact zupi (x := false))] <;> exact (ss0)) ?_
          refine x_iinc (y := nI (q + 1)) (ls' := [some (.ref (138)), some (.int (nI (q + 1))), some (.int (nI (cle bu gg le r (q) (r - 1) ^^ !(dbit bu q)).toNat)), some (.int (nI 0))]) dX7_complete_163 (by decide) rfl rfl (ii_add _ 1) rfl ?_
          refine x_goto (tgt := 23) dX7_complete_166 (by decide) ?_
          refine cp_fw ?_
          exact hk
        · refine x_aload_n dX7_complete_152 rfl rfl ?_
          refine x_getf (ci := 6) (kf := 9) dX7_complete_153 rfl uX7 (by decide) fl_RX7_16 (gn (gn hO (by decide)) (by decide)) rfl ?_
          refine x_iconst (y := nI 0) dX7_complete_156 rfl ?_
          refine x_ild (j := 0) dX7_complete_157 (gn (gn hgg (by decide)) (by decide)) rfl (by omega) (by decide) ?_
          refine x_goto (tgt := 162) dX7_complete_158 (by decide) ?_
          refine x_ist (j := 0) (M1 := ((M.set (150) (.inl (2, 2200, .inl (fun j => nI ((cwd bu wd (q + 1)) j).toNat)))).set (151) (.inl (0, 110, .inl (fun j => nI ((cle bu gg le r (q + 1)) j).toNat))))) dX7_complete_162 (gs (gn hle (by decide))) rfl (by omega) (by decide) (by rw [show upd (fun j => nI ((lsk (cle bu gg le r (q)) gg (cle bu gg le r (q) (r - 1) ^^ !(dbit bu q)) r 0) j).toNat) (0) (nI (gg (0)).toNat) = (fun j => nI ((cle bu gg le r (q + 1)) j).toNat) from (by show _ = fun j => nI ((bup (lsk (cle bu gg le r (q)) gg (cle bu gg le r (q) (r - 1) ^^ !(dbit bu q)) r 0) 0 ((cle bu gg le r (q) (r - 1) ^^ !(dbit bu q)) && gg 0)) j).toNat; rw [rb1 h149, Bool.true_and]; exact zupi)] <;> exact (ss0)) ?_
          refine x_iinc (y := nI (q + 1)) (ls' := [some (.ref (138)), some (.int (nI (q + 1))), some (.int (nI (cle bu gg le r (q) (r - 1) ^^ !(dbit bu q)).toNat)), some (.int (nI 0))]) dX7_complete_163 (by decide) rfl rfl (ii_add _ 1) rfl ?_
          refine x_goto (tgt := 23) dX7_complete_166 (by decide) ?_
          refine cp_fw ?_
          exact hk
theorem lp_cpt {X : Ev} {M0 M : Hp} {op : Int32} {m t d r n tn : Nat} {me ri lt : Int32} (hO : M[138]? = some (.inr (6, [.int (op), .int (nI m), .int (nI t), .int (nI d), .int (nI r), .int (nI n), .int (nI (2 ^ m - 1)), .ref (139), .ref (140), .ref (141), .ref (142), .ref (143), .ref (144), .ref (145), .ref (146), .ref (147), .int (nI tn), .int (me), .int (ri), .int (lt), .ref (148), .ref (149), .ref (150), .ref (151), .ref (152), .ref (153), .ref (154)]))) {gg : Nat → Bool} (hgg : M[141]? = some (.inl (0, 210, .inl (fun j => nI ((gg) j).toNat)))) {bu : Nat → Nat} (hbu : M[142]? = some (.inl (0, 256, .inl (fun j => nI ((bu) j))))) {wd : Nat → Bool} (hwd : M[150]? = some (.inl (2, 2200, .inl (fun j => nI ((wd) j).toNat)))) {le : Nat → Bool} (hle : M[151]? = some (.inl (0, 110, .inl (fun j => nI ((le) j).toNat)))) (hd8 : d ≤ 256) (hr1 : 1 ≤ r) (hr8 : r ≤ 104) (hbb : ∀ j, j < d → bu j < 256) : ∀ (zz q : Nat), q + zz = r → G X 0 jX7_complete M0 171 [some (.ref (138)), some (.int (nI (q))), none, none] [] ((M.set (150) (.inl (2, 2200, .inl (fun j => nI ((ctl (cwd bu wd (8 * d)) (cle bu gg le r (8 * d)) d r (q)) j).toNat)))).set (151) (.inl (0, 110, .inl (fun j => nI ((cle bu gg le r (8 * d)) j).toNat)))) none ((M.set (150) (.inl (2, 2200, .inl (fun j => nI ((ctl (cwd bu wd (8 * d)) (cle bu gg le r (8 * d)) d r (r)) j).toNat)))).set (151) (.inl (0, 110, .inl (fun j => nI ((cle bu gg le r (8 * d)) j).toNat)))) := by
  intro zz
  induction zz with
  | zero =>
    intro q hqq
    have hqq : q = r := by omega
    subst hqq
    refine x_iload_n dX7_complete_171 rfl rfl ?_
    refine x_aload_n dX7_complete_172 rfl rfl ?_
    refine x_getf (ci := 6) (kf := 4) dX7_complete_173 rfl uX7 (by decide) fl_RX7_110 (gn (gn hO (by decide)) (by decide)) rfl ?_
    refine x_icmp_ge (tgt := 220) dX7_complete_176 (by decide) (fun _ => ?_) (fun h => False.elim (h (nI_le (Nat.le_refl _) (by omega))))
    exact x_ret dX7_complete_220 rfl
  | succ zz ih =>
    intro q hqq
    refine x_iload_n dX7_complete_171 rfl rfl ?_
    refine x_aload_n dX7_complete_172 rfl rfl ?_
    refine x_getf (ci := 6) (kf := 4) dX7_complete_173 rfl uX7 (by decide) fl_RX7_110 (gn (gn hO (by decide)) (by decide)) rfl ?_
    refine x_icmp_ge (tgt := 220) dX7_complete_176 (by decide) (fun h => False.elim (nI_ge (by omega : q < r) (by omega) h)) (fun _ => ?_)
    refine x_aload_n dX7_complete_179 rfl rfl ?_
    refine x_getf (ci := 6) (kf := 22) dX7_complete_180 rfl uX7 (by decide) fl_RX7_45 (gn (gn hO (by decide)) (by decide)) rfl ?_
    refine x_bipush (y := nI 8) dX7_complete_183 rfl ?_
    refine x_aload_n dX7_complete_185 rfl rfl ?_
    refine x_getf (ci := 6) (kf := 3) dX7_complete_186 rfl uX7 (by decide) fl_RX7_107 (gn (gn hO (by decide)) (by decide)) rfl ?_
    refine x_imul dX7_complete_189 ?_
    refine x_casti (y := nI (8 * d)) (pk_mul _ _) ?_
    refine x_iload_n dX7_complete_190 rfl rfl ?_
    refine x_iadd dX7_complete_191 ?_
    refine x_casti (y := nI (8 * d + q)) (nI_add _ _) ?_
    refine x_aload_n dX7_complete_192 rfl rfl ?_
    refine x_getf (ci := 6) (kf := 23) dX7_complete_193 rfl uX7 (by decide) fl_RX7_48 (gn (gn hO (by decide)) (by decide)) rfl ?_
    refine x_aload_n dX7_complete_196 rfl rfl ?_
    refine x_getf (ci := 6) (kf := 4) dX7_complete_197 rfl uX7 (by decide) fl_RX7_110 (gn (gn hO (by decide)) (by decide)) rfl ?_
    refine x_iconst (y := nI 1) dX7_complete_200 rfl ?_
    refine x_isub dX7_complete_201 ?_
    refine x_casti (y := nI (r - 1)) (pk_sub (by omega)) ?_
    refine x_iload_n dX7_complete_202 rfl rfl ?_
    refine x_isub dX7_complete_203 ?_
    refine x_casti (y := nI (r - 1 - q)) (pk_sub (by omega)) ?_
    refine x_ild (j := r - 1 - q) dX7_complete_204 (gs (gn hle (by decide))) rfl (by omega) (by decide) ?_
    refine x_if_ne (tgt := 212) dX7_complete_205 (by decide) (fun h205 => ?_) (fun h205 => ?_)
    · refine x_iconst (y := nI 0) dX7_complete_212 rfl ?_
      refine x_zst (j := 8 * d + q) (M1 := ((M.set (150) (.inl (2, 2200, .inl (fun j => nI ((ctl (cwd bu wd (8 * d)) (cle bu gg le r (8 * d)) d r (q + 1)) j).toNat)))).set (151) (.inl (0, 110, .inl (fun j => nI ((cle bu gg le r (8 * d)) j).toNat))))) dX7_complete_213 (gn (gs hwd) (by decide)) rfl (by omega) (by decide) (by rw [show upd (fun j => nI ((ctl (cwd bu wd (8 * d)) (cle bu gg le r (8 * d)) d r (q)) j).toNat) (8 * d + q) (vp_nar .boolean (nI 0)) = (fun j => nI ((ctl (cwd bu wd (8 * d)) (cle bu gg le r (8 * d)) d r (q + 1)) j).toNat) from (by rw [← ctl_up, bt1 h205]; exact zup (x := false))] <;> exact (ss1 (by decide))) ?_
      refine x_iinc (y := nI ((q) + 1)) (ls' := [some (.ref (138)), some (.int (nI ((q) + 1))), none, none]) dX7_complete_214 (by decide) rfl rfl (ii_add _ 1) rfl ?_
      refine x_goto (tgt := 171) dX7_complete_217 (by decide) ?_
      exact ih (q + 1) (by omega)
    · refine x_iconst (y := nI 1) dX7_complete_208 rfl ?_
      refine x_goto (tgt := 213) dX7_complete_209 (by decide) ?_
      refine x_zst (j := 8 * d + q) (M1 := ((M.set (150) (.inl (2, 2200, .inl (fun j => nI ((ctl (cwd bu wd (8 * d)) (cle bu gg le r (8 * d)) d r (q + 1)) j).toNat)))).set (151) (.inl (0, 110, .inl (fun j => nI ((cle bu gg le r (8 * d)) j).toNat))))) dX7_complete_213 (gn (gs hwd) (by decide)) rfl (by omega) (by decide) (by rw [show upd (fun j => nI ((ctl (cwd bu wd (8 * d)) (cle bu gg le r (8 * d)) d r (q)) j).toNat) (8 * d + q) (vp_nar .boolean (nI 1)) = (fun j => nI ((ctl (cwd bu wd (8 * d)) (cle bu gg le r (8 * d)) d r (q + 1)) j).toNat) from (by rw [← ctl_up, bt0 h205]; exact zup (x := true))] <;> exact (ss1 (by decide))) ?_
      refine x_iinc (y := nI ((q) + 1)) (ls' := [some (.ref (138)), some (.int (nI ((q) + 1))), none, none]) dX7_complete_214 (by decide) rfl rfl (ii_add _ 1) rfl ?_
      refine x_goto (tgt := 171) dX7_complete_217 (by decide) ?_
      exact ih (q + 1) (by omega)
theorem c_mcomplete {X : Ev} {M : Hp} {op : Int32} {m t d r n tn : Nat} {me ri lt : Int32} (hO : M[138]? = some (.inr (6, [.int (op), .int (nI m), .int (nI t), .int (nI d), .int (nI r), .int (nI n), .int (nI (2 ^ m - 1)), .ref (139), .ref (140), .ref (141), .ref (142), .ref (143), .ref (144), .ref (145), .ref (146), .ref (147), .int (nI tn), .int (me), .int (ri), .int (lt), .ref (148), .ref (149), .ref (150), .ref (151), .ref (152), .ref (153), .ref (154)]))) {gg : Nat → Bool} (hgg : M[141]? = some (.inl (0, 210, .inl (fun j => nI ((gg) j).toNat)))) {bu : Nat → Nat} (hbu : M[142]? = some (.inl (0, 256, .inl (fun j => nI ((bu) j))))) {wd : Nat → Bool} (hwd : M[150]? = some (.inl (2, 2200, .inl (fun j => nI ((wd) j).toNat)))) {le : Nat → Bool} (hle : M[151]? = some (.inl (0, 110, .inl (fun j => nI ((le) j).toNat)))) (hd8 : d ≤ 256) (hr1 : 1 ≤ r) (hr8 : r ≤ 104) (hbb : ∀ j, j < d → bu j < 256) : Cl X 0 jX7_complete [.ref (138)] M none ((M.set (150) (.inl (2, 2200, .inl (fun j => nI ((ctl (cwd bu wd (8 * d)) (cle bu gg le r (8 * d)) d r (r)) j).toNat)))).set (151) (.inl (0, 110, .inl (fun j => nI ((cle bu gg le r (8 * d)) j).toNat)))) := by
  refine Cl.of (ls := [some (.ref (138)), none, none, none]) (by decide) rfl (Nat.le_of_ble_eq_true rfl) ?_
  refine x_iconst (y := nI 0) dX7_complete_0 rfl ?_
  refine x_istore_n (ls' := [some (.ref (138)), some (.int (nI 0)), none, none]) dX7_complete_1 rfl (by decide) rfl rfl ?_
  refine G.hp (set_id hle (c' := .inl (0, 110, .inl (fun j => nI ((bst false le 0) j).toNat))) (by rw [bst_0])) (lp_cpz hO hle ?_ 110 0 rfl)
  refine x_iconst (y := nI 0) dX7_complete_21 rfl ?_
  refine x_istore_n (ls' := [some (.ref (138)), some (.int (nI 0)), none, none]) dX7_complete_22 rfl (by decide) rfl rfl ?_
  refine G.hp (show _ = ((M.set (150) (.inl (2, 2200, .inl (fun j => nI ((cwd bu wd (0)) j).toNat)))).set (151) (.inl (0, 110, .inl (fun j => nI ((cle bu gg le r (0)) j).toNat)))) from (set_id (gn hwd (by decide)) (c' := .inl (2, 2200, .inl (fun j => nI ((cwd bu wd (0)) j).toNat))) (by rw [cwd_0])).trans (List.set_comm _ _ (by decide))) ?_
  refine lp_cpd hO hgg hbu hwd hle hd8 hr1 hr8 hbb ?_ (8 * d) 0 (by omega)
  refine x_iconst (y := nI 0) dX7_complete_169 rfl ?_
  refine x_istore_n (ls' := [some (.ref (138)), some (.int (nI 0)), none, none]) dX7_complete_170 rfl (by decide) rfl rfl ?_
  refine G.hp (congrArg (fun z : Nat → Bool => ((M.set 150 (.inl (2, 2200, .inl (fun j => nI (z j).toNat)))).set 151 (.inl (0, 110, .inl (fun j => nI ((cle bu gg le r (8 * d)) j).toNat))))) (ctl_0 (w := cwd bu wd (8 * d)) (le := cle bu gg le r (8 * d)) (d := d) (r := r)).symm) ?_
  exact lp_cpt hO hgg hbu hwd hle hd8 hr1 hr8 hbb r 0 (by omega)
theorem c_mtail {X : Ev} {M : Hp} {m t d r n tn : Nat} {me ri lt : Int32} (hO : M[138]? = some (.inr (6, [.int (1), .int (nI m), .int (nI t), .int (nI d), .int (nI r), .int (nI n), .int (nI (2 ^ m - 1)), .ref (139), .ref (140), .ref (141), .ref (142), .ref (143), .ref (144), .ref (145), .ref (146), .ref (147), .int (nI tn), .int (me), .int (ri), .int (lt), .ref (148), .ref (149), .ref (150), .ref (151), .ref (152), .ref (153), .ref (154)]))) {gg : Nat → Bool} (hgg : M[141]? = some (.inl (0, 210, .inl (fun j => nI ((gg) j).toNat)))) {bu : Nat → Nat} (hbu : M[142]? = some (.inl (0, 256, .inl (fun j => nI ((bu) j))))) {wd : Nat → Bool} (hwd : M[150]? = some (.inl (2, 2200, .inl (fun j => nI ((wd) j).toNat)))) {le : Nat → Bool} (hle : M[151]? = some (.inl (0, 110, .inl (fun j => nI ((le) j).toNat)))) (hd8 : d ≤ 256) (hr1 : 1 ≤ r) (hr8 : r ≤ 104) (hby : ∀ j, j < d → bu j < 256) {i : Nat} (hi : i < r) : Cl X 9 jX7_tail [.ref (138), .int (nI i)] M (some (.int (nI ((ctl (cwd bu wd (8 * d)) (cle bu gg le r (8 * d)) d r r) (8 * d + i)).toNat))) ((M.set (150) (.inl (2, 2200, .inl (fun j => nI ((ctl (cwd bu wd (8 * d)) (cle bu gg le r (8 * d)) d r (r)) j).toNat)))).set (151) (.inl (0, 110, .inl (fun j => nI ((cle bu gg le r (8 * d)) j).toNat)))) := by
  refine Cl.of (ls := [some (.ref (138)), some (.int (nI i))]) (by decide) rfl (Nat.le_of_ble_eq_true rfl) ?_
  refine x_aload_n dX7_tail_0 rfl rfl ?_
  refine x_getf (ci := 6) (kf := 0) dX7_tail_1 rfl uX7 (by decide) fl_RX7_100 hO rfl ?_
  refine x_if_ne (tgt := 10) dX7_tail_4 (by decide) (fun _ => ?_) (fun h => False.elim (absurd h (by decide)))
  refine x_iload_n dX7_tail_10 rfl rfl ?_
  refine x_iconst (y := nI 0) dX7_tail_11 rfl ?_
  refine x_aload_n dX7_tail_12 rfl rfl ?_
  refine x_getf (ci := 6) (kf := 4) dX7_tail_13 rfl uX7 (by decide) fl_RX7_110 hO rfl ?_
  refine x_iconst (y := nI 1) dX7_tail_16 rfl ?_
  refine x_isub dX7_tail_17 ?_
  refine x_callS (as := [.int (nI i), .int (nI 0), .int ((nI r) - (nI 1))]) dX7_tail_18 mk_X7_within st_X7_within ml_RX7_68 (by decide) rfl rfl (Nat.le_of_ble_eq_true rfl) (c_within) ?_
  refine x_casti (y := if inl_ (nI i) r then 1 else 0) (by rw [wi_l (by omega)]) ?_
  refine x_if_ne (tgt := 27) dX7_tail_21 (by decide) (fun _ => ?_) (fun h => False.elim (ite_ne (inl_n hi (by omega)) h))
  refine x_aload_n dX7_tail_27 rfl rfl ?_
  refine x_callV (ci := 6) (as := []) dX7_tail_28 mk_X7_complete in_X7_complete se_X7_complete ml_RX7_139 rfl hO (by decide) rfl rfl (Nat.le_of_ble_eq_true rfl) (c_mcomplete hO hgg hbu hwd hle hd8 hr1 hr8 hby) ?_
  refine x_aload_n dX7_tail_31 rfl rfl ?_
  refine x_getf (ci := 6) (kf := 22) dX7_tail_32 rfl uX7 (by decide) fl_RX7_45 (gn (gn hO (by decide)) (by decide)) rfl ?_
  refine x_bipush (y := nI 8) dX7_tail_35 rfl ?_
  refine x_aload_n dX7_tail_37 rfl rfl ?_
  refine x_getf (ci := 6) (kf := 3) dX7_tail_38 rfl uX7 (by decide) fl_RX7_107 (gn (gn hO (by decide)) (by decide)) rfl ?_
  refine x_imul dX7_tail_41 ?_
  refine x_casti (y := nI (8 * d)) (pk_mul _ _) ?_
  refine x_iload_n dX7_tail_42 rfl rfl ?_
  refine x_iadd dX7_tail_43 ?_
  refine x_casti (y := nI (8 * d + i)) (nI_add _ _) ?_
  refine x_zld (j := 8 * d + i) dX7_tail_44 (gn (gs hwd) (by decide)) rfl (by omega) (by decide) ?_
  refine x_if_eq (tgt := 52) dX7_tail_45 (by decide) (fun h45 => ?_) (fun h45 => ?_)
  · refine x_iconst (y := nI 0) dX7_tail_52 rfl ?_
    exact x_ireturn_eq dX7_tail_53 rfl (by rw [bt0 h45]; rfl)
  · refine x_iconst (y := nI 1) dX7_tail_48 rfl ?_
    refine x_goto (tgt := 53) dX7_tail_49 (by decide) ?_
    exact x_ireturn_eq dX7_tail_53 rfl (by rw [bt1 h45]; rfl)
theorem c_mwrite {X : Ev} {M : Hp} {m t d r n tn : Nat} {me ri lt : Int32} (hO : M[138]? = some (.inr (6, [.int (1), .int (nI m), .int (nI t), .int (nI d), .int (nI r), .int (nI n), .int (nI (2 ^ m - 1)), .ref (139), .ref (140), .ref (141), .ref (142), .ref (143), .ref (144), .ref (145), .ref (146), .ref (147), .int (nI tn), .int (me), .int (ri), .int (lt), .ref (148), .ref (149), .ref (150), .ref (151), .ref (152), .ref (153), .ref (154)]))) {gg : Nat → Bool} (hgg : M[141]? = some (.inl (0, 210, .inl (fun j => nI ((gg) j).toNat)))) {bu : Nat → Nat} (hbu : M[142]? = some (.inl (0, 256, .inl (fun j => nI ((bu) j))))) {wd : Nat → Bool} (hwd : M[150]? = some (.inl (2, 2200, .inl (fun j => nI ((wd) j).toNat)))) {le : Nat → Bool} (hle : M[151]? = some (.inl (0, 110, .inl (fun j => nI ((le) j).toNat)))) {bb : Nat → Bool} (hbb : M[143]? = some (.inl (2, 35200, .inl (fun j => nI ((bb) j).toNat)))) {ss : Nat → Int32} (hss : M[144]? = some (.inl (0, 35200, .inl (ss)))) (hd8 : d ≤ 256) (hr1 : 1 ≤ r) (hr8 : r ≤ 104) (hby : ∀ j, j < d → bu j < 256) (hn22 : n ≤ 2176) {i : Nat} (hi : i < 16) : Cl X 9 jX7_write [.ref (138), .int (nI i)] M (some (.int (nI (cnt (fun q => pgv bb ss (ctl (cwd bu wd (8 * d)) (cle bu gg le r (8 * d)) d r r) i q ^^ (ctl (cwd bu wd (8 * d)) (cle bu gg le r (8 * d)) d r r) q) n)))) (((M.set (150) (.inl (2, 2200, .inl (fun j => nI ((ctl (cwd bu wd (8 * d)) (cle bu gg le r (8 * d)) d r (r)) j).toNat)))).set (151) (.inl (0, 110, .inl (fun j => nI ((cle bu gg le r (8 * d)) j).toNat)))).set (143) (.inl (2, 35200, .inl (fun j => nI ((pgb bb ss (ctl (cwd bu wd (8 * d)) (cle bu gg le r (8 * d)) d r r) i (n)) j).toNat)))) := by
  refine Cl.of (ls := [some (.ref (138)), some (.int (nI i))]) (by decide) rfl (Nat.le_of_ble_eq_true rfl) ?_
  refine x_aload_n dX7_write_0 rfl rfl ?_
  refine x_getf (ci := 6) (kf := 0) dX7_write_1 rfl uX7 (by decide) fl_RX7_100 hO rfl ?_
  refine x_if_ne (tgt := 10) dX7_write_4 (by decide) (fun _ => ?_) (fun h => False.elim (absurd h (by decide)))
  refine x_iload_n dX7_write_10 rfl rfl ?_
  refine x_callS (as := [.int (nI i)]) dX7_write_11 mk_X7_isPage st_X7_isPage ml_RX7_142 (by decide) rfl rfl (Nat.le_of_ble_eq_true rfl) (c_isPage) ?_
  refine x_if_ne (tgt := 20) dX7_write_14 (by decide) (fun _ => ?_) (fun h => False.elim (ite_ne (inl_n hi (by decide)) h))
  refine x_aload_n dX7_write_20 rfl rfl ?_
  refine x_callV (ci := 6) (as := []) dX7_write_21 mk_X7_complete in_X7_complete se_X7_complete ml_RX7_139 rfl hO (by decide) rfl rfl (Nat.le_of_ble_eq_true rfl) (c_mcomplete hO hgg hbu hwd hle hd8 hr1 hr8 hby) ?_
  refine x_aload_n dX7_write_24 rfl rfl ?_
  refine x_iload_n dX7_write_25 rfl rfl ?_
  refine x_callV (ci := 6) (as := [.int (nI i)]) dX7_write_26 mk_X7_program in_X7_program se_X7_program ml_RX7_149 rfl (gn (gn hO (by decide)) (by decide)) (by decide) rfl rfl (Nat.le_of_ble_eq_true rfl) (c_mprogram (gn (gn hO (by decide)) (by decide)) (gn (gn hbb (by decide)) (by decide)) (gn (gn hss (by decide)) (by decide)) (gn (gs hwd) (by decide)) hn22 hi) ?_
  exact x_ireturn_eq dX7_write_29 rfl rfl
/-- the value of a word's turned bits at A^i, after k bits -/
def wsm (m : Nat) (wd : Nat → Bool) (n i : Nat) : Nat → Nat
  | 0 => 0
  | k + 1 => wsm m wd n i k ^^^ (if wd k then 0 else pwr m ((n - 1 - k) * i))
theorem wsm_lt {m : Nat} (h3 : 3 ≤ m) (h13 : m ≤ 13) {wd : Nat → Bool} {n i : Nat} : ∀ k, wsm m wd n i k < 2 ^ m
  | 0 => Nat.two_pow_pos m
  | k + 1 => xor_lt (wsm_lt h3 h13 k) (by split; exact Nat.two_pow_pos m; exact pwr_lt h3 h13 _)
def wsy (m : Nat) (wd : Nat → Bool) (n : Nat) (sy : Nat → Nat) (q : Nat) : Nat → Nat := fun j => if 1 ≤ j ∧ j ≤ q then wsm m wd n j n else sy j
theorem wsy_up {m : Nat} {wd : Nat → Bool} {n : Nat} {sy : Nat → Nat} {q : Nat} : nup (wsy m wd n sy q) (q + 1) (wsm m wd n (q + 1) n) = wsy m wd n sy (q + 1) := by
  funext j
  unfold nup wsy
  by_cases h : j = q + 1
  · subst h; rw [if_pos rfl, if_pos ⟨by omega, by omega⟩]
  · rw [if_neg h]
    by_cases h2 : 1 ≤ j ∧ j ≤ q
    · rw [if_pos h2, if_pos (by omega)]
    · rw [if_neg h2, if_neg (by omega)]
theorem wsy_0 {m : Nat} {wd : Nat → Bool} {n : Nat} {sy : Nat → Nat} : wsy m wd n sy 0 = sy := by funext j; unfold wsy; rw [if_neg (by omega)]
def wrt (m : Nat) (wd : Nat → Bool) (n : Nat) : Nat → Bool
  | 0 => true
  | q + 1 => wrt m wd n q && decide (wsm m wd n (q + 1) n = 0)
theorem lp_irj {X : Ev} {M0 M M' : Hp} {v : Option Value} {op : Int32} {m t d r n tn : Nat} {me ri lt : Int32} (hO : M[138]? = some (.inr (6, [.int (op), .int (nI m), .int (nI t), .int (nI d), .int (nI r), .int (nI n), .int (nI (2 ^ m - 1)), .ref (139), .ref (140), .ref (141), .ref (142), .ref (143), .ref (144), .ref (145), .ref (146), .ref (147), .int (nI tn), .int (me), .int (ri), .int (lt), .ref (148), .ref (149), .ref (150), .ref (151), .ref (152), .ref (153), .ref (154)]))) {pw : Nat → Int32} (hp : M[139]? = some (.inl (0, 8192, .inl (pw)))) {wd : Nat → Bool} (hwd : M[150]? = some (.inl (2, 2200, .inl (fun j => nI ((wd) j).toNat)))) {sy : Nat → Nat} (hsy : M[152]? = some (.inl (0, 17, .inl (fun j => nI ((sy) j))))) {lg : Nat → Int32} (hF : FT pw lg m) (ht8 : t ≤ 8) (hn1 : 1 ≤ n) (hn22 : n ≤ 2176) {a1 : Int32} {ii : Nat} (hii : ii ≤ 16) (k : G X 0 jX7_isRight M0 72 [some (.ref (138)), some (.int (a1)), some (.int (nI ii)), some (.int (nI (wsm m wd n ii (n)))), some (.int (nI (n)))] [] M v M') : ∀ (zz q : Nat), q + zz = n → G X 0 jX7_isRight M0 19 [some (.ref (138)), some (.int (a1)), some (.int (nI ii)), some (.int (nI (wsm m wd n ii (q)))), some (.int (nI (q)))] [] M v M' := by
  have ht := two_le hF.1.1 hF.1.2
  have hm3 := hF.1.1
  have hm13 := hF.1.2
  intro zz
  induction zz with
  | zero =>
    intro q hqq
    have hqq : q = n := by omega
    subst hqq
    refine x_iload dX7_isRight_19 rfl ?_
    refine x_aload_n dX7_isRight_21 rfl rfl ?_
    refine x_getf (ci := 6) (kf := 5) dX7_isRight_22 rfl uX7 (by decide) fl_RX7_113 hO rfl ?_
    refine x_icmp_ge (tgt := 72) dX7_isRight_25 (by decide) (fun _ => ?_) (fun h => False.elim (h (nI_le (Nat.le_refl _) (by omega))))
    exact k
  | succ zz ih =>
    intro q hqq
    have e1 : wsm m wd n ii (q + 1) = wsm m wd n ii q ^^^ (if wd q then 0 else pwr m ((n - 1 - q) * ii)) := rfl
    have hmu : (n - 1 - q) * ii ≤ 2176 * 16 := Nat.mul_le_mul (by omega) hii
    refine x_iload dX7_isRight_19 rfl ?_
    refine x_aload_n dX7_isRight_21 rfl rfl ?_
    refine x_getf (ci := 6) (kf := 5) dX7_isRight_22 rfl uX7 (by decide) fl_RX7_113 hO rfl ?_
    refine x_icmp_ge (tgt := 72) dX7_isRight_25 (by decide) (fun h => False.elim (nI_ge (by omega : q < n) (by omega) h)) (fun _ => ?_)
    refine x_iload_n dX7_isRight_28 rfl rfl ?_
    refine x_aload_n dX7_isRight_29 rfl rfl ?_
    refine x_getf (ci := 6) (kf := 22) dX7_isRight_30 rfl uX7 (by decide) fl_RX7_45 hO rfl ?_
    refine x_iload dX7_isRight_33 rfl ?_
    refine x_zld (j := q) dX7_isRight_35 hwd rfl (by omega) (by decide) ?_
    refine x_if_eq (tgt := 43) dX7_isRight_36 (by decide) (fun h36 => ?_) (fun h36 => ?_)
    · refine x_aload_n dX7_isRight_43 rfl rfl ?_
      refine x_getf (ci := 6) (kf := 7) dX7_isRight_44 rfl uX7 (by decide) fl_RX7_7 hO rfl ?_
      refine x_aload_n dX7_isRight_47 rfl rfl ?_
      refine x_getf (ci := 6) (kf := 5) dX7_isRight_48 rfl uX7 (by decide) fl_RX7_113 hO rfl ?_
      refine x_iconst (y := nI 1) dX7_isRight_51 rfl ?_
      refine x_isub dX7_isRight_52 ?_
      refine x_casti (y := nI (n - 1)) (pk_sub (by omega)) ?_
      refine x_iload dX7_isRight_53 rfl ?_
      refine x_isub dX7_isRight_55 ?_
      refine x_casti (y := nI (n - 1 - q)) (pk_sub (by omega)) ?_
      refine x_iload_n dX7_isRight_56 rfl rfl ?_
      refine x_imul dX7_isRight_57 ?_
      refine x_casti (y := nI ((n - 1 - q) * ii)) (pk_mul _ _) ?_
      refine x_aload_n dX7_isRight_58 rfl rfl ?_
      refine x_getf (ci := 6) (kf := 6) dX7_isRight_59 rfl uX7 (by decide) fl_RX7_64 hO rfl ?_
      refine x_irem dX7_isRight_62 (nI_nz (by omega) (by omega)) ?_
      refine x_casti (y := nI ((n - 1 - q) * ii % (2 ^ m - 1))) (rem_n (by omega) (by omega) (by omega)) ?_
      refine x_ild (j := (n - 1 - q) * ii % (2 ^ m - 1)) dX7_isRight_63 hp rfl (by have := Nat.mod_lt ((n - 1 - q) * ii) (show 0 < 2 ^ m - 1 by omega); omega) (by decide) ?_
      refine x_casti (y := nI (pwr m ((n - 1 - q) * ii))) (by rw [(hF.2 _ (Nat.mod_lt _ (by omega))).1, pwr_mod hm3 hm13]) ?_
      refine x_ixor dX7_isRight_64 ?_
      refine x_casti (y := nI (wsm m wd n ii (q + 1))) (by rw [nI_xor, e1, bt0 h36]; rfl) ?_
      refine x_istore_n (ls' := [some (.ref (138)), some (.int (a1)), some (.int (nI ii)), some (.int (nI (wsm m wd n ii (q + 1)))), some (.int (nI (q)))]) dX7_isRight_65 rfl (by decide) rfl rfl ?_
      refine x_iinc (y := nI ((q) + 1)) (ls' := [some (.ref (138)), some (.int (a1)), some (.int (nI ii)), some (.int (nI (wsm m wd n ii (q + 1)))), some (.int (nI ((q) + 1)))]) dX7_isRight_66 (by decide) rfl rfl (ii_add _ 1) rfl ?_
      refine x_goto (tgt := 19) dX7_isRight_69 (by decide) ?_
      exact ih (q + 1) (by omega)
    · refine x_iconst (y := nI 0) dX7_isRight_39 rfl ?_
      refine x_goto (tgt := 64) dX7_isRight_40 (by decide) ?_
      refine x_ixor dX7_isRight_64 ?_
      refine x_casti (y := nI (wsm m wd n ii (q + 1))) (by rw [nI_xor, e1, bt1 h36]; rfl) ?_
      refine x_istore_n (ls' := [some (.ref (138)), some (.int (a1)), some (.int (nI ii)), some (.int (nI (wsm m wd n ii (q + 1)))), some (.int (nI (q)))]) dX7_isRight_65 rfl (by decide) rfl rfl ?_
      refine x_iinc (y := nI ((q) + 1)) (ls' := [some (.ref (138)), some (.int (a1)), some (.int (nI ii)), some (.int (nI (wsm m wd n ii (q + 1)))), some (.int (nI ((q) + 1)))]) dX7_isRight_66 (by decide) rfl rfl (ii_add _ 1) rfl ?_
      refine x_goto (tgt := 19) dX7_isRight_69 (by decide) ?_
      exact ih (q + 1) (by omega)
theorem ir_fw {X : Ev} {d' : Nat} {M0 M M' : Hp} {v : Option Value} {pc : Nat} {a b c : Value} {e f : Option Value} (kc : G X d' jX7_isRight M0 pc [some a, some b, some c, none, none] [] M v M') : G X d' jX7_isRight M0 pc [some a, some b, some c, e, f] [] M v M' := x_fewer (fun q w h => by match q, h with | 0, h => exact h | 1, h => exact h | 2, h => exact h | 3, h => cases h | 4, h => cases h | q + 5, h => cases h) kc
theorem lp_iro {X : Ev} {M0 M : Hp} {op : Int32} {m t d r n tn : Nat} {me ri lt : Int32} (hO : M[138]? = some (.inr (6, [.int (op), .int (nI m), .int (nI t), .int (nI d), .int (nI r), .int (nI n), .int (nI (2 ^ m - 1)), .ref (139), .ref (140), .ref (141), .ref (142), .ref (143), .ref (144), .ref (145), .ref (146), .ref (147), .int (nI tn), .int (me), .int (ri), .int (lt), .ref (148), .ref (149), .ref (150), .ref (151), .ref (152), .ref (153), .ref (154)]))) {pw : Nat → Int32} (hp : M[139]? = some (.inl (0, 8192, .inl (pw)))) {wd : Nat → Bool} (hwd : M[150]? = some (.inl (2, 2200, .inl (fun j => nI ((wd) j).toNat)))) {sy : Nat → Nat} (hsy : M[152]? = some (.inl (0, 17, .inl (fun j => nI ((sy) j))))) {lg : Nat → Int32} (hF : FT pw lg m) (ht8 : t ≤ 8) (hn1 : 1 ≤ n) (hn22 : n ≤ 2176) : ∀ (zz q : Nat), q + zz = 2 * t → G X 0 jX7_isRight M0 4 [some (.ref (138)), some (.int (nI (wrt m wd n (q)).toNat)), some (.int (nI (q + 1))), none, none] [] (M.set (152) (.inl (0, 17, .inl (fun j => nI ((wsy m wd n sy (q)) j))))) (some (.int (if wrt m wd n (2 * t) then 1 else 0))) (M.set (152) (.inl (0, 17, .inl (fun j => nI ((wsy m wd n sy (2 * t)) j))))) := by
  have ht := two_le hF.1.1 hF.1.2
  have hm3 := hF.1.1
  have hm13 := hF.1.2
  intro zz
  induction zz with
  | zero =>
    intro q hqq
    have hqq : q = 2 * t := by omega
    subst hqq
    refine x_iload_n dX7_isRight_4 rfl rfl ?_
    refine x_iconst (y := nI 2) dX7_isRight_5 rfl ?_
    refine x_aload_n dX7_isRight_6 rfl rfl ?_
    refine x_getf (ci := 6) (kf := 2) dX7_isRight_7 rfl uX7 (by decide) fl_RX7_104 (gn hO (by decide)) rfl ?_
    refine x_imul dX7_isRight_10 ?_
    refine x_casti (y := nI (2 * t)) (pk_mul _ _) ?_
    refine x_icmp_gt (tgt := 99) dX7_isRight_11 (by decide) (fun _ => ?_) (fun h => False.elim (h ((nI_ltI (by omega) (by omega)).mpr (by omega))))
    refine x_iload_n dX7_isRight_99 rfl rfl ?_
    exact x_zreturn_eq dX7_isRight_100 rfl (by cases wrt m wd n (2 * t) <;> rfl)
  | succ zz ih =>
    intro q hqq
    have hk := ih (q + 1) (by omega)
    have hwl := wsm_lt hm3 hm13 (wd := wd) (n := n) (i := q + 1) n
    have e1 : wrt m wd n (q + 1) = (wrt m wd n q && decide (wsm m wd n (q + 1) n = 0)) := rfl
    refine x_iload_n dX7_isRight_4 rfl rfl ?_
    refine x_iconst (y := nI 2) dX7_isRight_5 rfl ?_
    refine x_aload_n dX7_isRight_6 rfl rfl ?_
    refine x_getf (ci := 6) (kf := 2) dX7_isRight_7 rfl uX7 (by decide) fl_RX7_104 (gn hO (by decide)) rfl ?_
    refine x_imul dX7_isRight_10 ?_
    refine x_casti (y := nI (2 * t)) (pk_mul _ _) ?_
    refine x_icmp_gt (tgt := 99) dX7_isRight_11 (by decide) (fun h => False.elim (absurd ((nI_ltI (by omega) (by omega)).mp h) (by omega))) (fun _ => ?_)
    refine x_iconst (y := nI 0) dX7_isRight_14 rfl ?_
    refine x_istore_n (ls' := [some (.ref (138)), some (.int (nI (wrt m wd n (q)).toNat)), some (.int (nI (q + 1))), some (.int (nI 0)), none]) dX7_isRight_15 rfl (by decide) rfl rfl ?_
    refine x_iconst (y := nI 0) dX7_isRight_16 rfl ?_
    refine x_istore (ls' := [some (.ref (138)), some (.int (nI (wrt m wd n (q)).toNat)), some (.int (nI (q + 1))), some (.int (nI 0)), some (.int (nI 0))]) dX7_isRight_17 (by decide) rfl rfl ?_
    refine lp_irj (M := (M.set (152) (.inl (0, 17, .inl (fun j => nI ((wsy m wd n sy (q)) j)))))) (gn hO (by decide)) (gn hp (by decide)) (gn hwd (by decide)) (gs hsy) hF ht8 hn1 hn22 (ii := q + 1) (by omega) ?_ n 0 (by omega)
    refine x_aload_n dX7_isRight_72 rfl rfl ?_
    refine x_getf (ci := 6) (kf := 24) dX7_isRight_73 rfl uX7 (by decide) fl_RX7_51 (gn hO (by decide)) rfl ?_
    refine x_iload_n dX7_isRight_76 rfl rfl ?_
    refine x_iload_n dX7_isRight_77 rfl rfl ?_
    refine x_ist (j := q + 1) (M1 := (M.set (152) (.inl (0, 17, .inl (fun j => nI ((wsy m wd n sy (q + 1)) j)))))) dX7_isRight_78 (gs hsy) rfl (by omega) (by decide) (by rw [show upd (fun j => nI ((wsy m wd n sy (q)) j)) (q + 1) (nI (wsm m wd n (q + 1) n)) = (fun j => nI ((wsy m wd n sy (q + 1)) j)) from (nup_eq.trans (congrArg (fun z : Nat → Nat => fun j => nI (z j)) wsy_up))] <;> exact (ss0)) ?_
    refine x_iload_n dX7_isRight_79 rfl rfl ?_
    refine x_if_eq (tgt := 91) dX7_isRight_80 (by decide) (fun h80 => ?_) (fun h80 => ?_)
    · refine x_iconst (y := nI 0) dX7_isRight_91 rfl ?_
      refine x_istore_n (ls' := [some (.ref (138)), some (.int (nI 0)), some (.int (nI (q + 1))), some (.int (nI (wsm m wd n (q + 1) n))), some (.int (nI n))]) dX7_isRight_92 rfl (by decide) rfl rfl ?_
      refine x_iinc (y := nI ((q + 1) + 1)) (ls' := [some (.ref (138)), some (.int (nI 0)), some (.int (nI ((q + 1) + 1))), some (.int (nI (wsm m wd n (q + 1) n))), some (.int (nI n))]) dX7_isRight_93 (by decide) rfl rfl (ii_add _ 1) rfl ?_
      refine x_goto (tgt := 4) dX7_isRight_96 (by decide) ?_
      have e2 : (wrt m wd n q && decide (wsm m wd n (q + 1) n = 0)) = false := by first | (rw [bt0 h80]; rfl) | (rw [show decide (wsm m wd n (q + 1) n = 0) = false from decide_eq_false (fun z => h84 (by rw [z]; rfl)), Bool.and_false])
      rw [e1, e2] at hk
      refine ir_fw ?_
      exact hk
    · refine x_iload_n dX7_isRight_83 rfl rfl ?_
      refine x_if_ne (tgt := 91) dX7_isRight_84 (by decide) (fun h84 => ?_) (fun h84 => ?_)
      · refine x_iconst (y := nI 0) dX7_isRight_91 rfl ?_
        refine x_istore_n (ls' := [some (.ref (138)), some (.int (nI 0)), some (.int (nI (q + 1))), some (.int (nI (wsm m wd n (q + 1) n))), some (.int (nI n))]) dX7_isRight_92 rfl (by decide) rfl rfl ?_
        refine x_iinc (y := nI ((q + 1) + 1)) (ls' := [some (.ref (138)), some (.int (nI 0)), some (.int (nI ((q + 1) + 1))), some (.int (nI (wsm m wd n (q + 1) n))), some (.int (nI n))]) dX7_isRight_93 (by decide) rfl rfl (ii_add _ 1) rfl ?_
        refine x_goto (tgt := 4) dX7_isRight_96 (by decide) ?_
        have e2 : (wrt m wd n q && decide (wsm m wd n (q + 1) n = 0)) = false := by first | (rw [bt0 h80]; rfl) | (rw [show decide (wsm m wd n (q + 1) n = 0) = false from decide_eq_false (fun z => h84 (by rw [z]; rfl)), Bool.and_false])
        rw [e1, e2] at hk
        refine ir_fw ?_
        exact hk
      · refine x_iconst (y := nI 1) dX7_isRight_87 rfl ?_
        refine x_goto (tgt := 92) dX7_isRight_88 (by decide) ?_
        refine x_istore_n (ls' := [some (.ref (138)), some (.int (nI 1)), some (.int (nI (q + 1))), some (.int (nI (wsm m wd n (q + 1) n))), some (.int (nI n))]) dX7_isRight_92 rfl (by decide) rfl rfl ?_
        refine x_iinc (y := nI ((q + 1) + 1)) (ls' := [some (.ref (138)), some (.int (nI 1)), some (.int (nI ((q + 1) + 1))), some (.int (nI (wsm m wd n (q + 1) n))), some (.int (nI n))]) dX7_isRight_93 (by decide) rfl rfl (ii_add _ 1) rfl ?_
        refine x_goto (tgt := 4) dX7_isRight_96 (by decide) ?_
        rw [e1, bt1 h80, show decide (wsm m wd n (q + 1) n = 0) = true from decide_eq_true ((nI_eq (by omega) (by decide)).mp h84)] at hk
        refine ir_fw ?_
        exact hk
theorem c_isRight {X : Ev} {M : Hp} {op : Int32} {m t d r n tn : Nat} {me ri lt : Int32} (hO : M[138]? = some (.inr (6, [.int (op), .int (nI m), .int (nI t), .int (nI d), .int (nI r), .int (nI n), .int (nI (2 ^ m - 1)), .ref (139), .ref (140), .ref (141), .ref (142), .ref (143), .ref (144), .ref (145), .ref (146), .ref (147), .int (nI tn), .int (me), .int (ri), .int (lt), .ref (148), .ref (149), .ref (150), .ref (151), .ref (152), .ref (153), .ref (154)]))) {pw : Nat → Int32} (hp : M[139]? = some (.inl (0, 8192, .inl (pw)))) {wd : Nat → Bool} (hwd : M[150]? = some (.inl (2, 2200, .inl (fun j => nI ((wd) j).toNat)))) {sy : Nat → Nat} (hsy : M[152]? = some (.inl (0, 17, .inl (fun j => nI ((sy) j))))) {lg : Nat → Int32} (hF : FT pw lg m) (ht8 : t ≤ 8) (hn1 : 1 ≤ n) (hn22 : n ≤ 2176) : Cl X 0 jX7_isRight [.ref (138)] M (some (.int (if wrt m wd n (2 * t) then 1 else 0))) (M.set (152) (.inl (0, 17, .inl (fun j => nI ((wsy m wd n sy (2 * t)) j))))) := by
  refine Cl.of (ls := [some (.ref (138)), none, none, none, none]) (by decide) rfl (Nat.le_of_ble_eq_true rfl) ?_
  refine x_iconst (y := nI 1) dX7_isRight_0 rfl ?_
  refine x_istore_n (ls' := [some (.ref (138)), some (.int (nI 1)), none, none, none]) dX7_isRight_1 rfl (by decide) rfl rfl ?_
  refine x_iconst (y := nI 1) dX7_isRight_2 rfl ?_
  refine x_istore_n (ls' := [some (.ref (138)), some (.int (nI 1)), some (.int (nI 1)), none, none]) dX7_isRight_3 rfl (by decide) rfl rfl ?_
  refine G.hp (set_id hsy (c' := .inl (0, 17, .inl (fun j => nI ((wsy m wd n sy (0)) j)))) (by rw [wsy_0])) ?_
  exact lp_iro hO hp hwd hsy hF ht8 hn1 hn22 (2 * t) 0 (by omega)
def wcp (bb wd : Nat → Bool) (i q : Nat) : Nat → Bool := fun j => if j < q then bb (2200 * i + j) else wd j
theorem wcp_up {bb wd : Nat → Bool} {i q : Nat} : bup (wcp bb wd i q) q (bb (2200 * i + q)) = wcp bb wd i (q + 1) := by
  funext j
  unfold bup wcp
  by_cases h : j = q
  · subst h; rw [if_pos rfl, if_pos (by omega)]
  · rw [if_neg h]
    by_cases h2 : j < q
    · rw [if_pos h2, if_pos (by omega)]
    · rw [if_neg h2, if_neg (by omega)]
theorem wcp_0 {bb wd : Nat → Bool} {i : Nat} : wcp bb wd i 0 = wd := by funext j; unfold wcp; rw [if_neg (by omega)]
theorem lp_msyn {X : Ev} {M0 M M' : Hp} {v : Option Value} {m t d r n tn : Nat} {me ri lt : Int32} (hO : M[138]? = some (.inr (6, [.int (1), .int (nI m), .int (nI t), .int (nI d), .int (nI r), .int (nI n), .int (nI (2 ^ m - 1)), .ref (139), .ref (140), .ref (141), .ref (142), .ref (143), .ref (144), .ref (145), .ref (146), .ref (147), .int (nI tn), .int (me), .int (ri), .int (lt), .ref (148), .ref (149), .ref (150), .ref (151), .ref (152), .ref (153), .ref (154)]))) {bb : Nat → Bool} (hbb : M[143]? = some (.inl (2, 35200, .inl (fun j => nI ((bb) j).toNat)))) {wd : Nat → Bool} (hwd : M[150]? = some (.inl (2, 2200, .inl (fun j => nI ((wd) j).toNat)))) (hn22 : n ≤ 2176) {i : Nat} (hi : i < 16) {a2 : Int32} (k : G X 9 jX7_syndrome M0 68 [some (.ref (138)), some (.int (nI i)), some (.int (a2)), some (.int (nI (n)))] [] (M.set (150) (.inl (2, 2200, .inl (fun j => nI ((wcp bb wd i (n)) j).toNat)))) v M') : ∀ (zz q : Nat), q + zz = n → G X 9 jX7_syndrome M0 36 [some (.ref (138)), some (.int (nI i)), some (.int (a2)), some (.int (nI (q)))] [] (M.set (150) (.inl (2, 2200, .inl (fun j => nI ((wcp bb wd i (q)) j).toNat)))) v M' := by
  intro zz
  induction zz with
  | zero =>
    intro q hqq
    have hqq : q = n := by omega
    subst hqq
    refine x_iload_n dX7_syndrome_36 rfl rfl ?_
    refine x_aload_n dX7_syndrome_37 rfl rfl ?_
    refine x_getf (ci := 6) (kf := 5) dX7_syndrome_38 rfl uX7 (by decide) fl_RX7_113 (gn hO (by decide)) rfl ?_
    refine x_icmp_ge (tgt := 68) dX7_syndrome_41 (by decide) (fun _ => ?_) (fun h => False.elim (h (nI_le (Nat.le_refl _) (by omega))))
    exact k
  | succ zz ih =>
    intro q hqq
    refine x_iload_n dX7_syndrome_36 rfl rfl ?_
    refine x_aload_n dX7_syndrome_37 rfl rfl ?_
    refine x_getf (ci := 6) (kf := 5) dX7_syndrome_38 rfl uX7 (by decide) fl_RX7_113 (gn hO (by decide)) rfl ?_
    refine x_icmp_ge (tgt := 68) dX7_syndrome_41 (by decide) (fun h => False.elim (nI_ge (by omega : q < n) (by omega) h)) (fun _ => ?_)
    refine x_aload_n dX7_syndrome_44 rfl rfl ?_
    refine x_getf (ci := 6) (kf := 22) dX7_syndrome_45 rfl uX7 (by decide) fl_RX7_45 (gn hO (by decide)) rfl ?_
    refine x_iload_n dX7_syndrome_48 rfl rfl ?_
    refine x_aload_n dX7_syndrome_49 rfl rfl ?_
    refine x_getf (ci := 6) (kf := 11) dX7_syndrome_50 rfl uX7 (by decide) fl_RX7_23 (gn hO (by decide)) rfl ?_
    refine x_sipush (y := nI 2200) dX7_syndrome_53 rfl ?_
    refine x_iload_n dX7_syndrome_56 rfl rfl ?_
    refine x_imul dX7_syndrome_57 ?_
    refine x_casti (y := nI (2200 * i)) (pk_mul _ _) ?_
    refine x_iload_n dX7_syndrome_58 rfl rfl ?_
    refine x_iadd dX7_syndrome_59 ?_
    refine x_casti (y := nI (2200 * i + q)) (nI_add _ _) ?_
    refine x_zld (j := 2200 * i + q) dX7_syndrome_60 (gn hbb (by decide)) rfl (by omega) (by decide) ?_
    refine x_zst (j := q) (M1 := (M.set (150) (.inl (2, 2200, .inl (fun j => nI ((wcp bb wd i (q + 1)) j).toNat))))) dX7_syndrome_61 (gs hwd) rfl (by omega) (by decide) (by rw [show upd (fun j => nI ((wcp bb wd i (q)) j).toNat) (q) (vp_nar .boolean (nI (bb (2200 * i + q)).toNat)) = (fun j => nI ((wcp bb wd i (q + 1)) j).toNat) from (zup.trans (congrArg (fun z : Nat → Bool => fun j => nI (z j).toNat) wcp_up))] <;> exact (ss0)) ?_
    refine x_iinc (y := nI ((q) + 1)) (ls' := [some (.ref (138)), some (.int (nI i)), some (.int (a2)), some (.int (nI ((q) + 1)))]) dX7_syndrome_62 (by decide) rfl rfl (ii_add _ 1) rfl ?_
    refine x_goto (tgt := 36) dX7_syndrome_65 (by decide) ?_
    exact ih (q + 1) (by omega)
theorem c_msyndrome {X : Ev} {M : Hp} {m t d r n tn : Nat} {me ri lt : Int32} (hO : M[138]? = some (.inr (6, [.int (1), .int (nI m), .int (nI t), .int (nI d), .int (nI r), .int (nI n), .int (nI (2 ^ m - 1)), .ref (139), .ref (140), .ref (141), .ref (142), .ref (143), .ref (144), .ref (145), .ref (146), .ref (147), .int (nI tn), .int (me), .int (ri), .int (lt), .ref (148), .ref (149), .ref (150), .ref (151), .ref (152), .ref (153), .ref (154)]))) {pw : Nat → Int32} (hp : M[139]? = some (.inl (0, 8192, .inl (pw)))) {bb : Nat → Bool} (hbb : M[143]? = some (.inl (2, 35200, .inl (fun j => nI ((bb) j).toNat)))) {wd : Nat → Bool} (hwd : M[150]? = some (.inl (2, 2200, .inl (fun j => nI ((wd) j).toNat)))) {sy : Nat → Nat} (hsy : M[152]? = some (.inl (0, 17, .inl (fun j => nI ((sy) j))))) {lg : Nat → Int32} (hF : FT pw lg m) (ht8 : t ≤ 8) (hn1 : 1 ≤ n) (hn22 : n ≤ 2176) {i : Nat} (hi : i < 16) {a : Nat} (ha1 : 1 ≤ a) (ha : a ≤ 2 * t) : Cl X 9 jX7_syndrome [.ref (138), .int (nI i), .int (nI a)] M (some (.int (nI (wsm m (wcp bb wd i n) n a n)))) ((M.set (150) (.inl (2, 2200, .inl (fun j => nI ((wcp bb wd i (n)) j).toNat)))).set (152) (.inl (0, 17, .inl (fun j => nI ((wsy m (wcp bb wd i n) n sy (2 * t)) j))))) := by
  refine Cl.of (ls := [some (.ref (138)), some (.int (nI i)), some (.int (nI a)), none]) (by decide) rfl (Nat.le_of_ble_eq_true rfl) ?_
  refine x_aload_n dX7_syndrome_0 rfl rfl ?_
  refine x_getf (ci := 6) (kf := 0) dX7_syndrome_1 rfl uX7 (by decide) fl_RX7_100 hO rfl ?_
  refine x_if_ne (tgt := 10) dX7_syndrome_4 (by decide) (fun _ => ?_) (fun h => False.elim (absurd h (by decide)))
  refine x_iload_n dX7_syndrome_10 rfl rfl ?_
  refine x_callS (as := [.int (nI i)]) dX7_syndrome_11 mk_X7_isPage st_X7_isPage ml_RX7_142 (by decide) rfl rfl (Nat.le_of_ble_eq_true rfl) (c_isPage) ?_
  refine x_if_eq (tgt := 31) dX7_syndrome_14 (by decide) (fun h => False.elim (ite_ne (inl_n hi (by decide)) h)) (fun _ => ?_)
  refine x_iload_n dX7_syndrome_17 rfl rfl ?_
  refine x_iconst (y := nI 1) dX7_syndrome_18 rfl ?_
  refine x_iconst (y := nI 2) dX7_syndrome_19 rfl ?_
  refine x_aload_n dX7_syndrome_20 rfl rfl ?_
  refine x_getf (ci := 6) (kf := 2) dX7_syndrome_21 rfl uX7 (by decide) fl_RX7_104 hO rfl ?_
  refine x_imul dX7_syndrome_24 ?_
  refine x_casti (y := nI (2 * t)) (pk_mul _ _) ?_
  refine x_callS (as := [.int (nI a), .int (nI 1), .int (nI (2 * t))]) dX7_syndrome_25 mk_X7_within st_X7_within ml_RX7_68 (by decide) rfl rfl (Nat.le_of_ble_eq_true rfl) (c_within) ?_
  refine x_if_ne (tgt := 34) dX7_syndrome_28 (by decide) (fun _ => ?_) (fun h => False.elim (ite_ne (decide_eq_true (by rw [nI_toInt (n := a) (by omega), nI_toInt (n := 1) (by decide), nI_toInt (n := 2 * t) (by omega)]; omega)) h))
  refine x_iconst (y := nI 0) dX7_syndrome_34 rfl ?_
  refine x_istore_n (ls' := [some (.ref (138)), some (.int (nI i)), some (.int (nI a)), some (.int (nI 0))]) dX7_syndrome_35 rfl (by decide) rfl rfl ?_
  refine G.hp (set_id hwd (c' := .inl (2, 2200, .inl (fun j => nI ((wcp bb wd i (0)) j).toNat))) (by rw [wcp_0])) (lp_msyn hO hbb hwd hn22 hi ?_ n 0 (by omega))
  refine x_aload_n dX7_syndrome_68 rfl rfl ?_
  refine x_callV (ci := 6) (as := []) dX7_syndrome_69 mk_X7_isRight in_X7_isRight se_X7_isRight ml_RX7_165 rfl (gn hO (by decide)) (by decide) rfl rfl (Nat.le_of_ble_eq_true rfl) (c_isRight (gn hO (by decide)) (gn hp (by decide)) (gs hwd) (gn hsy (by decide)) hF ht8 hn1 hn22) ?_
  refine x_istore_n (ls' := [some (.ref (138)), some (.int (nI i)), some (.int (nI a)), some (.int (if wrt m (wcp bb wd i n) n (2 * t) then 1 else 0))]) dX7_syndrome_72 rfl (by decide) rfl rfl ?_
  refine x_aload_n dX7_syndrome_73 rfl rfl ?_
  refine x_getf (ci := 6) (kf := 24) dX7_syndrome_74 rfl uX7 (by decide) fl_RX7_51 (gn (gn hO (by decide)) (by decide)) rfl ?_
  refine x_iload_n dX7_syndrome_77 rfl rfl ?_
  refine x_ild (j := a) dX7_syndrome_78 (gs (gn hsy (by decide))) rfl (by omega) (by decide) ?_
  exact x_ireturn_eq dX7_syndrome_79 rfl (by unfold wsy; rw [if_pos ⟨ha1, ha⟩])
