/-! THE MODEL: read -/
def brd (b0 : Nat → Nat) (w : Nat → Bool) (d : Nat) : Nat → (Nat → Nat)
  | 0 => b0
  | k + 1 => if k < 8 * d ∧ w k = true then nup (brd b0 w d k) (k / 8) (brd b0 w d k (k / 8) ||| 128 / 2 ^ (k % 8)) else brd b0 w d k
def trd (tu : Nat → Nat) (w b : Nat → Bool) : Nat → (Nat → Nat) × Nat
  | 0 => (tu, 0)
  | k + 1 => if (w k ^^ b k) = true then (nup (trd tu w b k).1 (trd tu w b k).2 k, (trd tu w b k).2 + 1) else trd tu w b k
theorem trd_le {tu : Nat → Nat} {w b : Nat → Bool} : ∀ k, (trd tu w b k).2 ≤ k
  | 0 => Nat.le_refl _
  | k + 1 => by
    have := trd_le (tu := tu) (w := w) (b := b) k
    unfold trd
    split
    · show (trd tu w b k).2 + 1 ≤ _; omega
    · omega
theorem sh128 : ∀ k, k < 8 → nI 128 >>> (nI k &&& 31) = nI (128 / 2 ^ k) := by decide +kernel
theorem nst_u {f : Nat → Nat} {k : Nat} : nup (nst 0 f k) k 0 = nst 0 f (k + 1) := by
  funext j
  unfold nup nst
  by_cases h : j = k
  · subst h; rw [if_pos rfl, if_pos (by omega)]
  · rw [if_neg h]
    by_cases h2 : j < k
    · rw [if_pos h2, if_pos (by omega)]
    · rw [if_neg h2, if_neg (by omega)]
theorem nst_z {x : Nat} {f : Nat → Nat} : nst x f 0 = f := by funext j; unfold nst; rw [if_neg (by omega)]
theorem lost_ne {o : Nat} (h : o < 2 ^ 20) : ¬ nI o = -4 := fun z => by
  have := congrArg Int32.toInt z
  rw [nI_toInt (by omega)] at this
  exact absurd this (by show ¬ (o : Int) = -4; omega)
theorem i32_add0 (x : Int32) : x + nI 0 = x := by rw [show nI 0 = (0 : Int32) from rfl, Int32.add_zero]
theorem lp_rdC {X : Ev} {M0 M M' : Hp} {v : Option Value} {m t d r n tn : Nat} {me ri lt : Int32} (hO : M[138]? = some (.inr (6, [.int (1), .int (nI m), .int (nI t), .int (nI d), .int (nI r), .int (nI n), .int (nI (2 ^ m - 1)), .ref (139), .ref (140), .ref (141), .ref (142), .ref (143), .ref (144), .ref (145), .ref (146), .ref (147), .int (nI tn), .int (me), .int (ri), .int (lt), .ref (148), .ref (149), .ref (150), .ref (151), .ref (152), .ref (153), .ref (154)]))) {bu : Nat → Nat} (hbu : M[142]? = some (.inl (0, 256, .inl (fun j => nI ((bu) j))))) {bb : Nat → Bool} (hbb : M[143]? = some (.inl (2, 35200, .inl (fun j => nI ((bb) j).toNat)))) {tu : Nat → Nat} (htu : M[147]? = some (.inl (0, 2200, .inl (fun j => nI ((tu) j))))) {wd : Nat → Bool} (hwd : M[150]? = some (.inl (2, 2200, .inl (fun j => nI ((wd) j).toNat)))) (hd8 : d ≤ 256) (hn8 : 8 * d ≤ n) (hn22 : n ≤ 2176) {u : Nat} (hu : u < 16) {o : Nat} (k : G X 9 jX7_read M0 109 [some (.ref (138)), some (.int (nI u)), some (.int (nI o)), some (.int (nI d))] [] ((M.set (138) (.inr (6, [.int (1), .int (nI m), .int (nI t), .int (nI d), .int (nI r), .int (nI n), .int (nI (2 ^ m - 1)), .ref (139), .ref (140), .ref (141), .ref (142), .ref (143), .ref (144), .ref (145), .ref (146), .ref (147), .int (nI 0), .int (me), .int (ri), .int (lt), .ref (148), .ref (149), .ref (150), .ref (151), .ref (152), .ref (153), .ref (154)]))).set (142) (.inl (0, 256, .inl (fun j => nI ((nst 0 bu (d)) j))))) v M') : ∀ (zz q : Nat), q + zz = d → G X 9 jX7_read M0 88 [some (.ref (138)), some (.int (nI u)), some (.int (nI o)), some (.int (nI q))] [] ((M.set (138) (.inr (6, [.int (1), .int (nI m), .int (nI t), .int (nI d), .int (nI r), .int (nI n), .int (nI (2 ^ m - 1)), .ref (139), .ref (140), .ref (141), .ref (142), .ref (143), .ref (144), .ref (145), .ref (146), .ref (147), .int (nI 0), .int (me), .int (ri), .int (lt), .ref (148), .ref (149), .ref (150), .ref (151), .ref (152), .ref (153), .ref (154)]))).set (142) (.inl (0, 256, .inl (fun j => nI ((nst 0 bu (q)) j))))) v M' := by
  intro zz
  induction zz with
  | zero =>
    intro q hqq
    have hqq : q = d := by omega
    subst hqq
    refine x_iload_n dX7_read_88 rfl rfl ?_
    refine x_aload_n dX7_read_89 rfl rfl ?_
    refine x_getf (ci := 6) (kf := 3) dX7_read_90 rfl uX7 (by decide) fl_RX7_107 (gn (gs hO) (by decide)) rfl ?_
    refine x_icmp_ge (tgt := 109) dX7_read_93 (by decide) (fun _ => ?_) (fun h => False.elim (h (nI_le (Nat.le_refl _) (by omega))))
    exact k
  | succ zz ih =>
    intro q hqq
    refine x_iload_n dX7_read_88 rfl rfl ?_
    refine x_aload_n dX7_read_89 rfl rfl ?_
    refine x_getf (ci := 6) (kf := 3) dX7_read_90 rfl uX7 (by decide) fl_RX7_107 (gn (gs hO) (by decide)) rfl ?_
    refine x_icmp_ge (tgt := 109) dX7_read_93 (by decide) (fun h => False.elim (nI_ge (by omega : q < d) (by omega) h)) (fun _ => ?_)
    refine x_aload_n dX7_read_96 rfl rfl ?_
    refine x_getf (ci := 6) (kf := 10) dX7_read_97 rfl uX7 (by decide) fl_RX7_19 (gn (gs hO) (by decide)) rfl ?_
    refine x_iload_n dX7_read_100 rfl rfl ?_
    refine x_iconst (y := nI 0) dX7_read_101 rfl ?_
    refine x_ist (j := q) (M1 := ((M.set (138) (.inr (6, [.int (1), .int (nI m), .int (nI t), .int (nI d), .int (nI r), .int (nI n), .int (nI (2 ^ m - 1)), .ref (139), .ref (140), .ref (141), .ref (142), .ref (143), .ref (144), .ref (145), .ref (146), .ref (147), .int (nI 0), .int (me), .int (ri), .int (lt), .ref (148), .ref (149), .ref (150), .ref (151), .ref (152), .ref (153), .ref (154)]))).set (142) (.inl (0, 256, .inl (fun j => nI ((nst 0 bu (q + 1)) j)))))) dX7_read_102 (gs (gn hbu (by decide))) rfl (by omega) (by decide) (by rw [show upd (fun j => nI ((nst 0 bu (q)) j)) (q) (nI 0) = (fun j => nI ((nst 0 bu (q + 1)) j)) from (by rw [← nst_u]; exact nup_eq)] <;> exact (ss0)) ?_
    refine x_iinc (y := nI (q + 1)) (ls' := [some (.ref (138)), some (.int (nI u)), some (.int (nI o)), some (.int (nI (q + 1)))]) dX7_read_103 (by decide) rfl rfl (ii_add _ 1) rfl ?_
    refine x_goto (tgt := 88) dX7_read_106 (by decide) ?_
    exact ih (q + 1) (by omega)
theorem lp_rdD {X : Ev} {M0 M M' : Hp} {v : Option Value} {m t d r n tn : Nat} {me ri lt : Int32} (hO : M[138]? = some (.inr (6, [.int (1), .int (nI m), .int (nI t), .int (nI d), .int (nI r), .int (nI n), .int (nI (2 ^ m - 1)), .ref (139), .ref (140), .ref (141), .ref (142), .ref (143), .ref (144), .ref (145), .ref (146), .ref (147), .int (nI tn), .int (me), .int (ri), .int (lt), .ref (148), .ref (149), .ref (150), .ref (151), .ref (152), .ref (153), .ref (154)]))) {bu : Nat → Nat} (hbu : M[142]? = some (.inl (0, 256, .inl (fun j => nI ((bu) j))))) {bb : Nat → Bool} (hbb : M[143]? = some (.inl (2, 35200, .inl (fun j => nI ((bb) j).toNat)))) {tu : Nat → Nat} (htu : M[147]? = some (.inl (0, 2200, .inl (fun j => nI ((tu) j))))) {wd : Nat → Bool} (hwd : M[150]? = some (.inl (2, 2200, .inl (fun j => nI ((wd) j).toNat)))) (hd8 : d ≤ 256) (hn8 : 8 * d ≤ n) (hn22 : n ≤ 2176) {u : Nat} (hu : u < 16) {o : Nat} (k : G X 9 jX7_read M0 206 [some (.ref (138)), some (.int (nI u)), some (.int (nI o)), some (.int (nI n))] [] (((M.set (138) (.inr (6, [.int (1), .int (nI m), .int (nI t), .int (nI d), .int (nI r), .int (nI n), .int (nI (2 ^ m - 1)), .ref (139), .ref (140), .ref (141), .ref (142), .ref (143), .ref (144), .ref (145), .ref (146), .ref (147), .int (nI ((trd tu wd (fun k => bb (2200 * u + k)) (n)).2)), .int (me), .int (ri), .int (lt), .ref (148), .ref (149), .ref (150), .ref (151), .ref (152), .ref (153), .ref (154)]))).set (142) (.inl (0, 256, .inl (fun j => nI ((brd (nst 0 bu d) wd d (n)) j))))).set (147) (.inl (0, 2200, .inl (fun j => nI (((trd tu wd (fun k => bb (2200 * u + k)) (n)).1) j))))) v M') : ∀ (zz q : Nat), q + zz = n → G X 9 jX7_read M0 111 [some (.ref (138)), some (.int (nI u)), some (.int (nI o)), some (.int (nI q))] [] (((M.set (138) (.inr (6, [.int (1), .int (nI m), .int (nI t), .int (nI d), .int (nI r), .int (nI n), .int (nI (2 ^ m - 1)), .ref (139), .ref (140), .ref (141), .ref (142), .ref (143), .ref (144), .ref (145), .ref (146), .ref (147), .int (nI ((trd tu wd (fun k => bb (2200 * u + k)) (q)).2)), .int (me), .int (ri), .int (lt), .ref (148), .ref (149), .ref (150), .ref (151), .ref (152), .ref (153), .ref (154)]))).set (142) (.inl (0, 256, .inl (fun j => nI ((brd (nst 0 bu d) wd d (q)) j))))).set (147) (.inl (0, 2200, .inl (fun j => nI (((trd tu wd (fun k => bb (2200 * u + k)) (q)).1) j))))) v M' := by
  intro zz
  induction zz with
  | zero =>
    intro q hqq
    have hqq : q = n := by omega
    subst hqq
    refine x_iload_n dX7_read_111 rfl rfl ?_
    refine x_aload_n dX7_read_112 rfl rfl ?_
    refine x_getf (ci := 6) (kf := 5) dX7_read_113 rfl uX7 (by decide) fl_RX7_113 (gn (gn (gs hO) (by decide)) (by decide)) rfl ?_
    refine x_icmp_ge (tgt := 206) dX7_read_116 (by decide) (fun _ => ?_) (fun h => False.elim (h (nI_le (Nat.le_refl _) (by omega))))
    exact k
  | succ zz ih =>
    intro q hqq
    have hk := ih (q + 1) (by omega)
    have hdv : nI q / nI 8 = nI (q / 8) := pk_div (a := q) (by omega) (by decide) (by decide)
    have htl := trd_le (tu := tu) (w := wd) (b := fun k => bb (2200 * u + k)) q
    have e1 : brd (nst 0 bu d) wd d (q + 1) = if q < 8 * d ∧ wd q = true then nup (brd (nst 0 bu d) wd d q) (q / 8) ((brd (nst 0 bu d) wd d q) (q / 8) ||| 128 / 2 ^ (q % 8)) else (brd (nst 0 bu d) wd d q) := rfl
    have e2 : trd tu wd (fun k => bb (2200 * u + k)) (q + 1) = if (wd q ^^ bb (2200 * u + q)) = true then (nup (trd tu wd (fun k => bb (2200 * u + k)) q).1 (trd tu wd (fun k => bb (2200 * u + k)) q).2 q, (trd tu wd (fun k => bb (2200 * u + k)) q).2 + 1) else (trd tu wd (fun k => bb (2200 * u + k)) q) := rfl
    refine x_iload_n dX7_read_111 rfl rfl ?_
    refine x_aload_n dX7_read_112 rfl rfl ?_
    refine x_getf (ci := 6) (kf := 5) dX7_read_113 rfl uX7 (by decide) fl_RX7_113 (gn (gn (gs hO) (by decide)) (by decide)) rfl ?_
    refine x_icmp_ge (tgt := 206) dX7_read_116 (by decide) (fun h => False.elim (nI_ge (by omega : q < n) (by omega) h)) (fun _ => ?_)
    refine x_iload_n dX7_read_119 rfl rfl ?_
    refine x_bipush (y := nI 8) dX7_read_120 rfl ?_
    refine x_aload_n dX7_read_122 rfl rfl ?_
    refine x_getf (ci := 6) (kf := 3) dX7_read_123 rfl uX7 (by decide) fl_RX7_107 (gn (gn (gs hO) (by decide)) (by decide)) rfl ?_
    refine x_imul dX7_read_126 ?_
    refine x_casti (y := nI (8 * d)) (pk_mul _ _) ?_
    refine x_icmp_ge (tgt := 159) dX7_read_127 (by decide) (fun h127 => ?_) (fun h127 => ?_)
    · refine x_aload_n dX7_read_159 rfl rfl ?_
      refine x_getf (ci := 6) (kf := 22) dX7_read_160 rfl uX7 (by decide) fl_RX7_45 (gn (gn (gs hO) (by decide)) (by decide)) rfl ?_
      refine x_iload_n dX7_read_163 rfl rfl ?_
      refine x_zld (j := q) dX7_read_164 (gn (gn (gn hwd (by decide)) (by decide)) (by decide)) rfl (by omega) (by decide) ?_
      refine x_aload_n dX7_read_165 rfl rfl ?_
      refine x_getf (ci := 6) (kf := 11) dX7_read_166 rfl uX7 (by decide) fl_RX7_23 (gn (gn (gs hO) (by decide)) (by decide)) rfl ?_
      refine x_sipush (y := nI 2200) dX7_read_169 rfl ?_
      refine x_iload_n dX7_read_172 rfl rfl ?_
      refine x_imul dX7_read_173 ?_
      refine x_casti (y := nI (2200 * u)) (pk_mul _ _) ?_
      refine x_iload_n dX7_read_174 rfl rfl ?_
      refine x_iadd dX7_read_175 ?_
      refine x_casti (y := nI (2200 * u + q)) (nI_add _ _) ?_
      refine x_zld (j := 2200 * u + q) dX7_read_176 (gn (gn (gn hbb (by decide)) (by decide)) (by decide)) rfl (by omega) (by decide) ?_
      refine x_icmp_eq (tgt := 200) dX7_read_177 (by decide) (fun h177 => ?_) (fun h177 => ?_)
      · refine x_iinc (y := nI (q + 1)) (ls' := [some (.ref (138)), some (.int (nI u)), some (.int (nI o)), some (.int (nI (q + 1)))]) dX7_read_200 (by decide) rfl rfl (ii_add _ 1) rfl ?_
        refine x_goto (tgt := 111) dX7_read_203 (by decide) ?_
        rw [e1, if_neg (fun z => absurd ((nI_leI (by omega) (by omega)).mp h127) (by omega)), e2, if_neg (by rw [bxe h177]; decide)] at hk
        exact hk
      · refine x_aload_n dX7_read_180 rfl rfl ?_
        refine x_getf (ci := 6) (kf := 15) dX7_read_181 rfl uX7 (by decide) fl_RX7_36 (gn (gn (gs hO) (by decide)) (by decide)) rfl ?_
        refine x_aload_n dX7_read_184 rfl rfl ?_
        refine x_getf (ci := 6) (kf := 16) dX7_read_185 rfl uX7 (by decide) fl_RX7_116 (gn (gn (gs hO) (by decide)) (by decide)) rfl ?_
        refine x_iload_n dX7_read_188 rfl rfl ?_
        refine x_ist (j := (trd tu wd (fun k => bb (2200 * u + k)) q).2) (M1 := (((M.set (138) (.inr (6, [.int (1), .int (nI m), .int (nI t), .int (nI d), .int (nI r), .int (nI n), .int (nI (2 ^ m - 1)), .ref (139), .ref (140), .ref (141), .ref (142), .ref (143), .ref (144), .ref (145), .ref (146), .ref (147), .int (nI ((trd tu wd (fun k => bb (2200 * u + k)) q).2)), .int (me), .int (ri), .int (lt), .ref (148), .ref (149), .ref (150), .ref (151), .ref (152), .ref (153), .ref (154)]))).set (142) (.inl (0, 256, .inl (fun j => nI ((brd (nst 0 bu d) wd d q) j))))).set (147) (.inl (0, 2200, .inl (fun j => nI ((nup (trd tu wd (fun k => bb (2200 * u + k)) q).1 (trd tu wd (fun k => bb (2200 * u + k)) q).2 q) j)))))) dX7_read_189 (gs (gn (gn htu (by decide)) (by decide))) rfl (by omega) (by decide) (by rw [show upd (fun j => nI (((trd tu wd (fun k => bb (2200 * u + k)) q).1) j)) ((trd tu wd (fun k => bb (2200 * u + k)) q).2) (nI q) = (fun j => nI ((nup (trd tu wd (fun k => bb (2200 * u + k)) q).1 (trd tu wd (fun k => bb (2200 * u + k)) q).2 q) j)) from nup_eq] <;> exact (ss0)) ?_
        refine x_aload_n dX7_read_190 rfl rfl ?_
        refine x_dup dX7_read_191 rfl ?_
        refine x_getf (ci := 6) (kf := 16) dX7_read_192 rfl uX7 (by decide) fl_RX7_116 (gn (gn (gs hO) (by decide)) (by decide)) rfl ?_
        refine x_iconst (y := nI 1) dX7_read_195 rfl ?_
        refine x_iadd dX7_read_196 ?_
        refine x_casti (y := nI ((trd tu wd (fun k => bb (2200 * u + k)) q).2 + 1)) (nI_add _ _) ?_
        refine x_putf (ci := 6) (kf := 16) (ty0 := tyX7) (M1 := (((M.set (138) (.inr (6, [.int (1), .int (nI m), .int (nI t), .int (nI d), .int (nI r), .int (nI n), .int (nI (2 ^ m - 1)), .ref (139), .ref (140), .ref (141), .ref (142), .ref (143), .ref (144), .ref (145), .ref (146), .ref (147), .int (nI ((trd tu wd (fun k => bb (2200 * u + k)) q).2 + 1)), .int (me), .int (ri), .int (lt), .ref (148), .ref (149), .ref (150), .ref (151), .ref (152), .ref (153), .ref (154)]))).set (142) (.inl (0, 256, .inl (fun j => nI ((brd (nst 0 bu d) wd d q) j))))).set (147) (.inl (0, 2200, .inl (fun j => nI ((nup (trd tu wd (fun k => bb (2200 * u + k)) q).1 (trd tu wd (fun k => bb (2200 * u + k)) q).2 q) j)))))) dX7_read_197 rfl uX7 tyX7_ok nmX7 (by decide) fl_RX7_116 rfl rfl rfl rfl (gn (gn (gs hO) (by decide)) (by decide)) (Nat.le_of_ble_eq_true rfl) (ss2 (by decide) (by decide)) ?_
        refine x_iinc (y := nI (q + 1)) (ls' := [some (.ref (138)), some (.int (nI u)), some (.int (nI o)), some (.int (nI (q + 1)))]) dX7_read_200 (by decide) rfl rfl (ii_add _ 1) rfl ?_
        refine x_goto (tgt := 111) dX7_read_203 (by decide) ?_
        rw [e1, if_neg (fun z => absurd ((nI_leI (by omega) (by omega)).mp h127) (by omega)), e2, if_pos (bxn h177)] at hk
        exact hk
    · have hq8 : q < 8 * d := Nat.lt_of_not_le (fun z => h127 (nI_le z (by omega)))
      refine x_aload_n dX7_read_130 rfl rfl ?_
      refine x_getf (ci := 6) (kf := 22) dX7_read_131 rfl uX7 (by decide) fl_RX7_45 (gn (gn (gs hO) (by decide)) (by decide)) rfl ?_
      refine x_iload_n dX7_read_134 rfl rfl ?_
      refine x_zld (j := q) dX7_read_135 (gn (gn (gn hwd (by decide)) (by decide)) (by decide)) rfl (by omega) (by decide) ?_
      refine x_if_eq (tgt := 159) dX7_read_136 (by decide) (fun h136 => ?_) (fun h136 => ?_)
      · refine x_aload_n dX7_read_159 rfl rfl ?_
        refine x_getf (ci := 6) (kf := 22) dX7_read_160 rfl uX7 (by decide) fl_RX7_45 (gn (gn (gs hO) (by decide)) (by decide)) rfl ?_
        refine x_iload_n dX7_read_163 rfl rfl ?_
        refine x_zld (j := q) dX7_read_164 (gn (gn (gn hwd (by decide)) (by decide)) (by decide)) rfl (by omega) (by decide) ?_
        refine x_aload_n dX7_read_165 rfl rfl ?_
        refine x_getf (ci := 6) (kf := 11) dX7_read_166 rfl uX7 (by decide) fl_RX7_23 (gn (gn (gs hO) (by decide)) (by decide)) rfl ?_
        refine x_sipush (y := nI 2200) dX7_read_169 rfl ?_
        refine x_iload_n dX7_read_172 rfl rfl ?_
        refine x_imul dX7_read_173 ?_
        refine x_casti (y := nI (2200 * u)) (pk_mul _ _) ?_
        refine x_iload_n dX7_read_174 rfl rfl ?_
        refine x_iadd dX7_read_175 ?_
        refine x_casti (y := nI (2200 * u + q)) (nI_add _ _) ?_
        refine x_zld (j := 2200 * u + q) dX7_read_176 (gn (gn (gn hbb (by decide)) (by decide)) (by decide)) rfl (by omega) (by decide) ?_
        refine x_icmp_eq (tgt := 200) dX7_read_177 (by decide) (fun h177 => ?_) (fun h177 => ?_)
        · refine x_iinc (y := nI (q + 1)) (ls' := [some (.ref (138)), some (.int (nI u)), some (.int (nI o)), some (.int (nI (q + 1)))]) dX7_read_200 (by decide) rfl rfl (ii_add _ 1) rfl ?_
          refine x_goto (tgt := 111) dX7_read_203 (by decide) ?_
          rw [e1, if_neg (fun z => by rw [bt0 h136] at z; exact absurd z.2 (by decide)), e2, if_neg (by rw [bxe h177]; decide)] at hk
          exact hk
        · refine x_aload_n dX7_read_180 rfl rfl ?_
          refine x_getf (ci := 6) (kf := 15) dX7_read_181 rfl uX7 (by decide) fl_RX7_36 (gn (gn (gs hO) (by decide)) (by decide)) rfl ?_
          refine x_aload_n dX7_read_184 rfl rfl ?_
          refine x_getf (ci := 6) (kf := 16) dX7_read_185 rfl uX7 (by decide) fl_RX7_116 (gn (gn (gs hO) (by decide)) (by decide)) rfl ?_
          refine x_iload_n dX7_read_188 rfl rfl ?_
          refine x_ist (j := (trd tu wd (fun k => bb (2200 * u + k)) q).2) (M1 := (((M.set (138) (.inr (6, [.int (1), .int (nI m), .int (nI t), .int (nI d), .int (nI r), .int (nI n), .int (nI (2 ^ m - 1)), .ref (139), .ref (140), .ref (141), .ref (142), .ref (143), .ref (144), .ref (145), .ref (146), .ref (147), .int (nI ((trd tu wd (fun k => bb (2200 * u + k)) q).2)), .int (me), .int (ri), .int (lt), .ref (148), .ref (149), .ref (150), .ref (151), .ref (152), .ref (153), .ref (154)]))).set (142) (.inl (0, 256, .inl (fun j => nI ((brd (nst 0 bu d) wd d q) j))))).set (147) (.inl (0, 2200, .inl (fun j => nI ((nup (trd tu wd (fun k => bb (2200 * u + k)) q).1 (trd tu wd (fun k => bb (2200 * u + k)) q).2 q) j)))))) dX7_read_189 (gs (gn (gn htu (by decide)) (by decide))) rfl (by omega) (by decide) (by rw [show upd (fun j => nI (((trd tu wd (fun k => bb (2200 * u + k)) q).1) j)) ((trd tu wd (fun k => bb (2200 * u + k)) q).2) (nI q) = (fun j => nI ((nup (trd tu wd (fun k => bb (2200 * u + k)) q).1 (trd tu wd (fun k => bb (2200 * u + k)) q).2 q) j)) from nup_eq] <;> exact (ss0)) ?_
          refine x_aload_n dX7_read_190 rfl rfl ?_
          refine x_dup dX7_read_191 rfl ?_
          refine x_getf (ci := 6) (kf := 16) dX7_read_192 rfl uX7 (by decide) fl_RX7_116 (gn (gn (gs hO) (by decide)) (by decide)) rfl ?_
          refine x_iconst (y := nI 1) dX7_read_195 rfl ?_
          refine x_iadd dX7_read_196 ?_
          refine x_casti (y := nI ((trd tu wd (fun k => bb (2200 * u + k)) q).2 + 1)) (nI_add _ _) ?_
          refine x_putf (ci := 6) (kf := 16) (ty0 := tyX7) (M1 := (((M.set (138) (.inr (6, [.int (1), .int (nI m), .int (nI t), .int (nI d), .int (nI r), .int (nI n), .int (nI (2 ^ m - 1)), .ref (139), .ref (140), .ref (141), .ref (142), .ref (143), .ref (144), .ref (145), .ref (146), .ref (147), .int (nI ((trd tu wd (fun k => bb (2200 * u + k)) q).2 + 1)), .int (me), .int (ri), .int (lt), .ref (148), .ref (149), .ref (150), .ref (151), .ref (152), .ref (153), .ref (154)]))).set (142) (.inl (0, 256, .inl (fun j => nI ((brd (nst 0 bu d) wd d q) j))))).set (147) (.inl (0, 2200, .inl (fun j => nI ((nup (trd tu wd (fun k => bb (2200 * u + k)) q).1 (trd tu wd (fun k => bb (2200 * u + k)) q).2 q) j)))))) dX7_read_197 rfl uX7 tyX7_ok nmX7 (by decide) fl_RX7_116 rfl rfl rfl rfl (gn (gn (gs hO) (by decide)) (by decide)) (Nat.le_of_ble_eq_true rfl) (ss2 (by decide) (by decide)) ?_
          refine x_iinc (y := nI (q + 1)) (ls' := [some (.ref (138)), some (.int (nI u)), some (.int (nI o)), some (.int (nI (q + 1)))]) dX7_read_200 (by decide) rfl rfl (ii_add _ 1) rfl ?_
          refine x_goto (tgt := 111) dX7_read_203 (by decide) ?_
          rw [e1, if_neg (fun z => by rw [bt0 h136] at z; exact absurd z.2 (by decide)), e2, if_pos (bxn h177)] at hk
          exact hk
      · refine x_aload_n dX7_read_139 rfl rfl ?_
        refine x_getf (ci := 6) (kf := 10) dX7_read_140 rfl uX7 (by decide) fl_RX7_19 (gn (gn (gs hO) (by decide)) (by decide)) rfl ?_
        refine x_iload_n dX7_read_143 rfl rfl ?_
        refine x_bipush (y := nI 8) dX7_read_144 rfl ?_
        refine x_idiv dX7_read_146 (by decide) ?_
        refine x_casti (y := nI (q / 8)) hdv ?_
        refine x_dup2 dX7_read_147 rfl rfl ?_
        refine x_ild (j := q / 8) dX7_read_148 (gn (gs (gn hbu (by decide))) (by decide)) rfl (by omega) (by decide) ?_
        refine x_sipush (y := nI 128) dX7_read_149 rfl ?_
        refine x_iload_n dX7_read_152 rfl rfl ?_
        refine x_bipush (y := nI 8) dX7_read_153 rfl ?_
        refine x_irem dX7_read_155 (by decide) ?_
        refine x_casti (y := nI (q % 8)) (rem_n (by omega) (by decide) (by decide)) ?_
        refine x_ishr dX7_read_156 ?_
        refine x_casti (y := nI (128 / 2 ^ (q % 8))) (sh128 _ (Nat.mod_lt _ (by decide))) ?_
        refine x_ior dX7_read_157 ?_
        refine x_casti (y := nI ((brd (nst 0 bu d) wd d q) (q / 8) ||| 128 / 2 ^ (q % 8))) (nI_or _ _) ?_
        refine x_ist (j := q / 8) (M1 := (((M.set (138) (.inr (6, [.int (1), .int (nI m), .int (nI t), .int (nI d), .int (nI r), .int (nI n), .int (nI (2 ^ m - 1)), .ref (139), .ref (140), .ref (141), .ref (142), .ref (143), .ref (144), .ref (145), .ref (146), .ref (147), .int (nI ((trd tu wd (fun k => bb (2200 * u + k)) q).2)), .int (me), .int (ri), .int (lt), .ref (148), .ref (149), .ref (150), .ref (151), .ref (152), .ref (153), .ref (154)]))).set (142) (.inl (0, 256, .inl (fun j => nI ((nup (brd (nst 0 bu d) wd d q) (q / 8) ((brd (nst 0 bu d) wd d q) (q / 8) ||| 128 / 2 ^ (q % 8))) j))))).set (147) (.inl (0, 2200, .inl (fun j => nI (((trd tu wd (fun k => bb (2200 * u + k)) q).1) j)))))) dX7_read_158 (gn (gs (gn hbu (by decide))) (by decide)) rfl (by omega) (by decide) (by rw [show upd (fun j => nI ((brd (nst 0 bu d) wd d q) j)) (q / 8) (nI ((brd (nst 0 bu d) wd d q) (q / 8) ||| 128 / 2 ^ (q % 8))) = (fun j => nI ((nup (brd (nst 0 bu d) wd d q) (q / 8) ((brd (nst 0 bu d) wd d q) (q / 8) ||| 128 / 2 ^ (q % 8))) j)) from nup_eq] <;> exact (ss1 (by decide))) ?_
        refine x_aload_n dX7_read_159 rfl rfl ?_
        refine x_getf (ci := 6) (kf := 22) dX7_read_160 rfl uX7 (by decide) fl_RX7_45 (gn (gn (gs hO) (by decide)) (by decide)) rfl ?_
        refine x_iload_n dX7_read_163 rfl rfl ?_
        refine x_zld (j := q) dX7_read_164 (gn (gn (gn hwd (by decide)) (by decide)) (by decide)) rfl (by omega) (by decide) ?_
        refine x_aload_n dX7_read_165 rfl rfl ?_
        refine x_getf (ci := 6) (kf := 11) dX7_read_166 rfl uX7 (by decide) fl_RX7_23 (gn (gn (gs hO) (by decide)) (by decide)) rfl ?_
        refine x_sipush (y := nI 2200) dX7_read_169 rfl ?_
        refine x_iload_n dX7_read_172 rfl rfl ?_
        refine x_imul dX7_read_173 ?_
        refine x_casti (y := nI (2200 * u)) (pk_mul _ _) ?_
        refine x_iload_n dX7_read_174 rfl rfl ?_
        refine x_iadd dX7_read_175 ?_
        refine x_casti (y := nI (2200 * u + q)) (nI_add _ _) ?_
        refine x_zld (j := 2200 * u + q) dX7_read_176 (gn (gn (gn hbb (by decide)) (by decide)) (by decide)) rfl (by omega) (by decide) ?_
        refine x_icmp_eq (tgt := 200) dX7_read_177 (by decide) (fun h177 => ?_) (fun h177 => ?_)
        · refine x_iinc (y := nI (q + 1)) (ls' := [some (.ref (138)), some (.int (nI u)), some (.int (nI o)), some (.int (nI (q + 1)))]) dX7_read_200 (by decide) rfl rfl (ii_add _ 1) rfl ?_
          refine x_goto (tgt := 111) dX7_read_203 (by decide) ?_
          rw [e1, if_pos ⟨hq8, bt1 h136⟩, e2, if_neg (by rw [bxe h177]; decide)] at hk
          exact hk
        · refine x_aload_n dX7_read_180 rfl rfl ?_
          refine x_getf (ci := 6) (kf := 15) dX7_read_181 rfl uX7 (by decide) fl_RX7_36 (gn (gn (gs hO) (by decide)) (by decide)) rfl ?_
          refine x_aload_n dX7_read_184 rfl rfl ?_
          refine x_getf (ci := 6) (kf := 16) dX7_read_185 rfl uX7 (by decide) fl_RX7_116 (gn (gn (gs hO) (by decide)) (by decide)) rfl ?_
          refine x_iload_n dX7_read_188 rfl rfl ?_
          refine x_ist (j := (trd tu wd (fun k => bb (2200 * u + k)) q).2) (M1 := (((M.set (138) (.inr (6, [.int (1), .int (nI m), .int (nI t), .int (nI d), .int (nI r), .int (nI n), .int (nI (2 ^ m - 1)), .ref (139), .ref (140), .ref (141), .ref (142), .ref (143), .ref (144), .ref (145), .ref (146), .ref (147), .int (nI ((trd tu wd (fun k => bb (2200 * u + k)) q).2)), .int (me), .int (ri), .int (lt), .ref (148), .ref (149), .ref (150), .ref (151), .ref (152), .ref (153), .ref (154)]))).set (142) (.inl (0, 256, .inl (fun j => nI ((nup (brd (nst 0 bu d) wd d q) (q / 8) ((brd (nst 0 bu d) wd d q) (q / 8) ||| 128 / 2 ^ (q % 8))) j))))).set (147) (.inl (0, 2200, .inl (fun j => nI ((nup (trd tu wd (fun k => bb (2200 * u + k)) q).1 (trd tu wd (fun k => bb (2200 * u + k)) q).2 q) j)))))) dX7_read_189 (gs (gn (gn htu (by decide)) (by decide))) rfl (by omega) (by decide) (by rw [show upd (fun j => nI (((trd tu wd (fun k => bb (2200 * u + k)) q).1) j)) ((trd tu wd (fun k => bb (2200 * u + k)) q).2) (nI q) = (fun j => nI ((nup (trd tu wd (fun k => bb (2200 * u + k)) q).1 (trd tu wd (fun k => bb (2200 * u + k)) q).2 q) j)) from nup_eq] <;> exact (ss0)) ?_
          refine x_aload_n dX7_read_190 rfl rfl ?_
          refine x_dup dX7_read_191 rfl ?_
          refine x_getf (ci := 6) (kf := 16) dX7_read_192 rfl uX7 (by decide) fl_RX7_116 (gn (gn (gs hO) (by decide)) (by decide)) rfl ?_
          refine x_iconst (y := nI 1) dX7_read_195 rfl ?_
          refine x_iadd dX7_read_196 ?_
          refine x_casti (y := nI ((trd tu wd (fun k => bb (2200 * u + k)) q).2 + 1)) (nI_add _ _) ?_
          refine x_putf (ci := 6) (kf := 16) (ty0 := tyX7) (M1 := (((M.set (138) (.inr (6, [.int (1), .int (nI m), .int (nI t), .int (nI d), .int (nI r), .int (nI n), .int (nI (2 ^ m - 1)), .ref (139), .ref (140), .ref (141), .ref (142), .ref (143), .ref (144), .ref (145), .ref (146), .ref (147), .int (nI ((trd tu wd (fun k => bb (2200 * u + k)) q).2 + 1)), .int (me), .int (ri), .int (lt), .ref (148), .ref (149), .ref (150), .ref (151), .ref (152), .ref (153), .ref (154)]))).set (142) (.inl (0, 256, .inl (fun j => nI ((nup (brd (nst 0 bu d) wd d q) (q / 8) ((brd (nst 0 bu d) wd d q) (q / 8) ||| 128 / 2 ^ (q % 8))) j))))).set (147) (.inl (0, 2200, .inl (fun j => nI ((nup (trd tu wd (fun k => bb (2200 * u + k)) q).1 (trd tu wd (fun k => bb (2200 * u + k)) q).2 q) j)))))) dX7_read_197 rfl uX7 tyX7_ok nmX7 (by decide) fl_RX7_116 rfl rfl rfl rfl (gn (gn (gs hO) (by decide)) (by decide)) (Nat.le_of_ble_eq_true rfl) (ss2 (by decide) (by decide)) ?_
          refine x_iinc (y := nI (q + 1)) (ls' := [some (.ref (138)), some (.int (nI u)), some (.int (nI o)), some (.int (nI (q + 1)))]) dX7_read_200 (by decide) rfl rfl (ii_add _ 1) rfl ?_
          refine x_goto (tgt := 111) dX7_read_203 (by decide) ?_
          rw [e1, if_pos ⟨hq8, bt1 h136⟩, e2, if_pos (bxn h177)] at hk
          exact hk
