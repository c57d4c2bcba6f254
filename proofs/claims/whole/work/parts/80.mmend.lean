/-! THE MODEL: mend -/
/-- the word of page u, its marked bits all z, up to bit q -/
def wfl (z : Bool) (bb kk : Nat → Bool) (u : Nat) (wd : Nat → Bool) (q : Nat) : Nat → Bool := fun j => if j < q then (if kk (2200 * u + j) then z else bb (2200 * u + j)) else wd j
theorem wfl_up {z : Bool} {bb kk : Nat → Bool} {u : Nat} {wd : Nat → Bool} {q : Nat} {x : Bool} (hx : x = if kk (2200 * u + q) then z else bb (2200 * u + q)) : bup (wfl z bb kk u wd q) q x = wfl z bb kk u wd (q + 1) := by
  funext j
  unfold bup wfl
  by_cases h : j = q
  · subst h; rw [if_pos rfl, if_pos (by omega), hx]
  · rw [if_neg h]
    by_cases h2 : j < q
    · rw [if_pos h2, if_pos (show j < q + 1 by omega)]
    · rw [if_neg h2, if_neg (show ¬ j < q + 1 by omega)]
theorem wfl_0 {z : Bool} {bb kk : Nat → Bool} {u : Nat} {wd : Nat → Bool} : wfl z bb kk u wd 0 = wd := by funext j; unfold wfl; rw [if_neg (by omega)]
def mm2 (m t n : Nat) (s : Mi) (z : Bool) (bb kk : Nat → Bool) (u kc : Nat) : Mi × Bool :=
  ((imd m t n (wfl z bb kk u s.1 n, s.2)).1, (imd m t n (wfl z bb kk u s.1 n, s.2)).2 && decide (2 * cnt (fun k => ((imd m t n (wfl z bb kk u s.1 n, s.2)).1.1 k ^^ bb (2200 * u + k)) && !(kk (2200 * u + k))) n + kc ≤ 2 * t))
def mmr (m t n : Nat) (s : Mi) (bb kk : Nat → Bool) (u kc : Nat) : Mi × Option Nat :=
  if 2 * t < kc then (s, none)
  else if (mm2 m t n s false bb kk u kc).2 then ((mm2 m t n s false bb kk u kc).1, some (cnt (fun k => (mm2 m t n s false bb kk u kc).1.1 k ^^ bb (2200 * u + k)) n))
  else if kc = 0 then ((mm2 m t n s false bb kk u kc).1, none)
  else if (mm2 m t n (mm2 m t n s false bb kk u kc).1 true bb kk u kc).2 then ((mm2 m t n (mm2 m t n s false bb kk u kc).1 true bb kk u kc).1, some (cnt (fun k => (mm2 m t n (mm2 m t n s false bb kk u kc).1 true bb kk u kc).1.1 k ^^ bb (2200 * u + k)) n))
  else ((mm2 m t n (mm2 m t n s false bb kk u kc).1 true bb kk u kc).1, none)
theorem md_f5 {X : Ev} {d' : Nat} {M0 M M' : Hp} {v : Option Value} {pc : Nat} {a0 a1 a2 a3 a4 : Value} {b5 b6 b7 b8 : Option Value} (kc : G X d' jX7_mend M0 pc [some a0, some a1, some a2, some a3, some a4, none, none, none, none] [] M v M') : G X d' jX7_mend M0 pc [some a0, some a1, some a2, some a3, some a4, b5, b6, b7, b8] [] M v M' := x_fewer (fun q w h => by match q, h with | 0, h => exact h | 1, h => exact h | 2, h => exact h | 3, h => exact h | 4, h => exact h | 5, h => cases h | 6, h => cases h | 7, h => cases h | 8, h => cases h | q + 9, h => cases h) kc
theorem md_f8 {X : Ev} {d' : Nat} {M0 M M' : Hp} {v : Option Value} {pc : Nat} {a0 a1 a2 a3 a4 a5 a6 a7 : Value} {b8 : Option Value} (kc : G X d' jX7_mend M0 pc [some a0, some a1, some a2, some a3, some a4, some a5, some a6, some a7, none] [] M v M') : G X d' jX7_mend M0 pc [some a0, some a1, some a2, some a3, some a4, some a5, some a6, some a7, b8] [] M v M' := x_fewer (fun q w h => by match q, h with | 0, h => exact h | 1, h => exact h | 2, h => exact h | 3, h => exact h | 4, h => exact h | 5, h => exact h | 6, h => exact h | 7, h => exact h | 8, h => cases h | q + 9, h => cases h) kc
theorem lp_mdA {X : Ev} {M0 M M' : Hp} {v : Option Value} {s : Mi} {s0 : Mi} {op : Int32} {m t d r n tn : Nat} {me ri lt : Int32} (hO : M[138]? = some (.inr (6, [.int (op), .int (nI m), .int (nI t), .int (nI d), .int (nI r), .int (nI n), .int (nI (2 ^ m - 1)), .ref (139), .ref (140), .ref (141), .ref (142), .ref (143), .ref (144), .ref (145), .ref (146), .ref (147), .int (nI tn), .int (me), .int (ri), .int (lt), .ref (148), .ref (149), .ref (150), .ref (151), .ref (152), .ref (153), .ref (154)]))) {pw : Nat → Int32} (hp : M[139]? = some (.inl (0, 8192, .inl (pw)))) {lg : Nat → Int32} (hq : M[140]? = some (.inl (0, 8192, .inl (lg)))) {bb : Nat → Bool} (hbb : M[143]? = some (.inl (2, 35200, .inl (fun j => nI ((bb) j).toNat)))) {kk : Nat → Bool} (hkk : M[145]? = some (.inl (2, 35200, .inl (fun j => nI ((kk) j).toNat)))) (hwd : M[150]? = some (.inl (2, 2200, .inl (fun j => nI ((s0.1) j).toNat)))) (hsy : M[152]? = some (.inl (0, 17, .inl (fun j => nI ((s0.2.1) j))))) (hli : M[153]? = some (.inl (0, 72, .inl (fun j => nI ((s0.2.2.1) j))))) (hlo : M[154]? = some (.inl (0, 9, .inl (fun j => nI ((s0.2.2.2) j))))) (hn22 : n ≤ 2176) {u : Nat} (hu : u < 16) {z : Bool} {kc : Nat} (k : G X 3 jX7_mend M0 99 [some (.ref (138)), some (.int (nI u)), some (.int (nI kc)), some (.int (nI (2200 * u))), some (.int (nI z.toNat)), some (.int (nI n)), none, none, none] [] ((((M.set (150) (.inl (2, 2200, .inl (fun j => nI ((wfl z bb kk u s.1 (n)) j).toNat)))).set (152) (.inl (0, 17, .inl (fun j => nI ((s.2.1) j))))).set (153) (.inl (0, 72, .inl (fun j => nI ((s.2.2.1) j))))).set (154) (.inl (0, 9, .inl (fun j => nI ((s.2.2.2) j))))) v M') : ∀ (zz q : Nat), q + zz = n → G X 3 jX7_mend M0 42 [some (.ref (138)), some (.int (nI u)), some (.int (nI kc)), some (.int (nI (2200 * u))), some (.int (nI z.toNat)), some (.int (nI q)), none, none, none] [] ((((M.set (150) (.inl (2, 2200, .inl (fun j => nI ((wfl z bb kk u s.1 (q)) j).toNat)))).set (152) (.inl (0, 17, .inl (fun j => nI ((s.2.1) j))))).set (153) (.inl (0, 72, .inl (fun j => nI ((s.2.2.1) j))))).set (154) (.inl (0, 9, .inl (fun j => nI ((s.2.2.2) j))))) v M' := by
  intro zz
  induction zz with
  | zero =>
    intro q hqq
    have hqq : q = n := by omega
    subst hqq
    refine x_iload dX7_mend_42 rfl ?_
    refine x_aload_n dX7_mend_44 rfl rfl ?_
    refine x_getf (ci := 6) (kf := 5) dX7_mend_45 rfl uX7 (by decide) fl_RX7_113 (gn (gn (gn (gn hO (by decide)) (by decide)) (by decide)) (by decide)) rfl ?_
    refine x_icmp_ge (tgt := 99) dX7_mend_48 (by decide) (fun _ => ?_) (fun h => False.elim (h (nI_le (Nat.le_refl _) (by omega))))
    exact k
  | succ zz ih =>
    intro q hqq
    refine x_iload dX7_mend_42 rfl ?_
    refine x_aload_n dX7_mend_44 rfl rfl ?_
    refine x_getf (ci := 6) (kf := 5) dX7_mend_45 rfl uX7 (by decide) fl_RX7_113 (gn (gn (gn (gn hO (by decide)) (by decide)) (by decide)) (by decide)) rfl ?_
    refine x_icmp_ge (tgt := 99) dX7_mend_48 (by decide) (fun h => False.elim (nI_ge (by omega : q < n) (by omega) h)) (fun _ => ?_)
    refine x_aload_n dX7_mend_51 rfl rfl ?_
    refine x_getf (ci := 6) (kf := 22) dX7_mend_52 rfl uX7 (by decide) fl_RX7_45 (gn (gn (gn (gn hO (by decide)) (by decide)) (by decide)) (by decide)) rfl ?_
    refine x_iload dX7_mend_55 rfl ?_
    refine x_aload_n dX7_mend_57 rfl rfl ?_
    refine x_getf (ci := 6) (kf := 13) dX7_mend_58 rfl uX7 (by decide) fl_RX7_30 (gn (gn (gn (gn hO (by decide)) (by decide)) (by decide)) (by decide)) rfl ?_
    refine x_iload_n dX7_mend_61 rfl rfl ?_
    refine x_iload dX7_mend_62 rfl ?_
    refine x_iadd dX7_mend_64 ?_
    refine x_casti (y := nI (2200 * u + q)) (nI_add _ _) ?_
    refine x_zld (j := 2200 * u + q) dX7_mend_65 (gn (gn (gn (gn hkk (by decide)) (by decide)) (by decide)) (by decide)) rfl (by omega) (by decide) ?_
    refine x_if_eq (tgt := 83) dX7_mend_66 (by decide) (fun h66 => ?_) (fun h66 => ?_)
    · refine x_aload_n dX7_mend_83 rfl rfl ?_
      refine x_getf (ci := 6) (kf := 11) dX7_mend_84 rfl uX7 (by decide) fl_RX7_23 (gn (gn (gn (gn hO (by decide)) (by decide)) (by decide)) (by decide)) rfl ?_
      refine x_iload_n dX7_mend_87 rfl rfl ?_
      refine x_iload dX7_mend_88 rfl ?_
      refine x_iadd dX7_mend_90 ?_
      refine x_casti (y := nI (2200 * u + q)) (nI_add _ _) ?_
      refine x_zld (j := 2200 * u + q) dX7_mend_91 (gn (gn (gn (gn hbb (by decide)) (by decide)) (by decide)) (by decide)) rfl (by omega) (by decide) ?_
      refine x_zst (j := q) (M1 := ((((M.set (150) (.inl (2, 2200, .inl (fun j => nI ((wfl z bb kk u s.1 (q + 1)) j).toNat)))).set (152) (.inl (0, 17, .inl (fun j => nI ((s.2.1) j))))).set (153) (.inl (0, 72, .inl (fun j => nI ((s.2.2.1) j))))).set (154) (.inl (0, 9, .inl (fun j => nI ((s.2.2.2) j)))))) dX7_mend_92 (gn (gn (gn (gs hwd) (by decide)) (by decide)) (by decide)) rfl (by omega) (by decide) (by rw [show upd (fun j => nI ((wfl z bb kk u s.1 (q)) j).toNat) (q) (vp_nar .boolean (nI (bb (2200 * u + q)).toNat)) = (fun j => nI ((wfl z bb kk u s.1 (q + 1)) j).toNat) from (by rw [← wfl_up (x := bb (2200 * u + q)) (by rw [if_neg (by rw [bt0 h66]; decide)])]; exact zup (x := bb (2200 * u + q)))] <;> exact (ss3 (by decide) (by decide) (by decide))) ?_
      refine x_iinc (y := nI (q + 1)) (ls' := [some (.ref (138)), some (.int (nI u)), some (.int (nI kc)), some (.int (nI (2200 * u))), some (.int (nI z.toNat)), some (.int (nI (q + 1))), none, none, none]) dX7_mend_93 (by decide) rfl rfl (ii_add _ 1) rfl ?_
      refine x_goto (tgt := 42) dX7_mend_96 (by decide) ?_
      exact ih (q + 1) (by omega)
    · refine x_iload dX7_mend_69 rfl ?_
      refine x_iconst (y := nI 1) dX7_mend_71 rfl ?_
      refine x_icmp_ne (tgt := 79) dX7_mend_72 (by decide) (fun h72 => ?_) (fun h72 => ?_)
      · refine x_iconst (y := nI 0) dX7_mend_79 rfl ?_
        refine x_goto (tgt := 92) dX7_mend_80 (by decide) ?_
        refine x_zst (j := q) (M1 := ((((M.set (150) (.inl (2, 2200, .inl (fun j => nI ((wfl z bb kk u s.1 (q + 1)) j).toNat)))).set (152) (.inl (0, 17, .inl (fun j => nI ((s.2.1) j))))).set (153) (.inl (0, 72, .inl (fun j => nI ((s.2.2.1) j))))).set (154) (.inl (0, 9, .inl (fun j => nI ((s.2.2.2) j)))))) dX7_mend_92 (gn (gn (gn (gs hwd) (by decide)) (by decide)) (by decide)) rfl (by omega) (by decide) (by rw [show upd (fun j => nI ((wfl z bb kk u s.1 (q)) j).toNat) (q) (vp_nar .boolean (nI 0)) = (fun j => nI ((wfl z bb kk u s.1 (q + 1)) j).toNat) from (by rw [← wfl_up (x := false) (by rw [if_pos (bt1 h66), rq_0 h72])]; exact zup (x := false))] <;> exact (ss3 (by decide) (by decide) (by decide))) ?_
        refine x_iinc (y := nI (q + 1)) (ls' := [some (.ref (138)), some (.int (nI u)), some (.int (nI kc)), some (.int (nI (2200 * u))), some (.int (nI z.toNat)), some (.int (nI (q + 1))), none, none, none]) dX7_mend_93 (by decide) rfl rfl (ii_add _ 1) rfl ?_
        refine x_goto (tgt := 42) dX7_mend_96 (by decide) ?_
        exact ih (q + 1) (by omega)
      · refine x_iconst (y := nI 1) dX7_mend_75 rfl ?_
        refine x_goto (tgt := 92) dX7_mend_76 (by decide) ?_
        refine x_zst (j := q) (M1 := ((((M.set (150) (.inl (2, 2200, .inl (fun j => nI ((wfl z bb kk u s.1 (q + 1)) j).toNat)))).set (152) (.inl (0, 17, .inl (fun j => nI ((s.2.1) j))))).set (153) (.inl (0, 72, .inl (fun j => nI ((s.2.2.1) j))))).set (154) (.inl (0, 9, .inl (fun j => nI ((s.2.2.2) j)))))) dX7_mend_92 (gn (gn (gn (gs hwd) (by decide)) (by decide)) (by decide)) rfl (by omega) (by decide) (by rw [show upd (fun j => nI ((wfl z bb kk u s.1 (q)) j).toNat) (q) (vp_nar .boolean (nI 1)) = (fun j => nI ((wfl z bb kk u s.1 (q + 1)) j).toNat) from (by rw [← wfl_up (x := true) (by rw [if_pos (bt1 h66), rq_1 h72])]; exact zup (x := true))] <;> exact (ss3 (by decide) (by decide) (by decide))) ?_
        refine x_iinc (y := nI (q + 1)) (ls' := [some (.ref (138)), some (.int (nI u)), some (.int (nI kc)), some (.int (nI (2200 * u))), some (.int (nI z.toNat)), some (.int (nI (q + 1))), none, none, none]) dX7_mend_93 (by decide) rfl rfl (ii_add _ 1) rfl ?_
        refine x_goto (tgt := 42) dX7_mend_96 (by decide) ?_
        exact ih (q + 1) (by omega)
theorem lp_mdB {X : Ev} {M0 M M' : Hp} {v : Option Value} {s : Mi} {s0 : Mi} {op : Int32} {m t d r n tn : Nat} {me ri lt : Int32} (hO : M[138]? = some (.inr (6, [.int (op), .int (nI m), .int (nI t), .int (nI d), .int (nI r), .int (nI n), .int (nI (2 ^ m - 1)), .ref (139), .ref (140), .ref (141), .ref (142), .ref (143), .ref (144), .ref (145), .ref (146), .ref (147), .int (nI tn), .int (me), .int (ri), .int (lt), .ref (148), .ref (149), .ref (150), .ref (151), .ref (152), .ref (153), .ref (154)]))) {pw : Nat → Int32} (hp : M[139]? = some (.inl (0, 8192, .inl (pw)))) {lg : Nat → Int32} (hq : M[140]? = some (.inl (0, 8192, .inl (lg)))) {bb : Nat → Bool} (hbb : M[143]? = some (.inl (2, 35200, .inl (fun j => nI ((bb) j).toNat)))) {kk : Nat → Bool} (hkk : M[145]? = some (.inl (2, 35200, .inl (fun j => nI ((kk) j).toNat)))) (hwd : M[150]? = some (.inl (2, 2200, .inl (fun j => nI ((s0.1) j).toNat)))) (hsy : M[152]? = some (.inl (0, 17, .inl (fun j => nI ((s0.2.1) j))))) (hli : M[153]? = some (.inl (0, 72, .inl (fun j => nI ((s0.2.2.1) j))))) (hlo : M[154]? = some (.inl (0, 9, .inl (fun j => nI ((s0.2.2.2) j))))) (hn22 : n ≤ 2176) {u : Nat} (hu : u < 16) {z : Bool} {kc : Nat} (k : G X 3 jX7_mend M0 201 [some (.ref (138)), some (.int (nI u)), some (.int (nI kc)), some (.int (nI (2200 * u))), some (.int (nI z.toNat)), some (.int (nI (cnt (fun k => (s.1 k ^^ bb (2200 * u + k)) && !(kk (2200 * u + k))) (n)))), some (.int (nI (cnt (fun k => s.1 k ^^ bb (2200 * u + k)) (n)))), some (.int (nI n)), none] [] ((((M.set (150) (.inl (2, 2200, .inl (fun j => nI ((s.1) j).toNat)))).set (152) (.inl (0, 17, .inl (fun j => nI ((s.2.1) j))))).set (153) (.inl (0, 72, .inl (fun j => nI ((s.2.2.1) j))))).set (154) (.inl (0, 9, .inl (fun j => nI ((s.2.2.2) j))))) v M') : ∀ (zz q : Nat), q + zz = n → G X 3 jX7_mend M0 118 [some (.ref (138)), some (.int (nI u)), some (.int (nI kc)), some (.int (nI (2200 * u))), some (.int (nI z.toNat)), some (.int (nI (cnt (fun k => (s.1 k ^^ bb (2200 * u + k)) && !(kk (2200 * u + k))) (q)))), some (.int (nI (cnt (fun k => s.1 k ^^ bb (2200 * u + k)) (q)))), some (.int (nI q)), none] [] ((((M.set (150) (.inl (2, 2200, .inl (fun j => nI ((s.1) j).toNat)))).set (152) (.inl (0, 17, .inl (fun j => nI ((s.2.1) j))))).set (153) (.inl (0, 72, .inl (fun j => nI ((s.2.2.1) j))))).set (154) (.inl (0, 9, .inl (fun j => nI ((s.2.2.2) j))))) v M' := by
  intro zz
  induction zz with
  | zero =>
    intro q hqq
    have hqq : q = n := by omega
    subst hqq
    refine x_iload dX7_mend_118 rfl ?_
    refine x_aload_n dX7_mend_120 rfl rfl ?_
    refine x_getf (ci := 6) (kf := 5) dX7_mend_121 rfl uX7 (by decide) fl_RX7_113 (gn (gn (gn (gn hO (by decide)) (by decide)) (by decide)) (by decide)) rfl ?_
    refine x_icmp_ge (tgt := 201) dX7_mend_124 (by decide) (fun _ => ?_) (fun h => False.elim (h (nI_le (Nat.le_refl _) (by omega))))
    exact k
  | succ zz ih =>
    intro q hqq
    refine x_iload dX7_mend_118 rfl ?_
    refine x_aload_n dX7_mend_120 rfl rfl ?_
    refine x_getf (ci := 6) (kf := 5) dX7_mend_121 rfl uX7 (by decide) fl_RX7_113 (gn (gn (gn (gn hO (by decide)) (by decide)) (by decide)) (by decide)) rfl ?_
    refine x_icmp_ge (tgt := 201) dX7_mend_124 (by decide) (fun h => False.elim (nI_ge (by omega : q < n) (by omega) h)) (fun _ => ?_)
    refine x_aload_n dX7_mend_127 rfl rfl ?_
    refine x_getf (ci := 6) (kf := 22) dX7_mend_128 rfl uX7 (by decide) fl_RX7_45 (gn (gn (gn (gn hO (by decide)) (by decide)) (by decide)) (by decide)) rfl ?_
    refine x_iload dX7_mend_131 rfl ?_
    refine x_zld (j := q) dX7_mend_133 (gn (gn (gn (gs hwd) (by decide)) (by decide)) (by decide)) rfl (by omega) (by decide) ?_
    refine x_aload_n dX7_mend_134 rfl rfl ?_
    refine x_getf (ci := 6) (kf := 11) dX7_mend_135 rfl uX7 (by decide) fl_RX7_23 (gn (gn (gn (gn hO (by decide)) (by decide)) (by decide)) (by decide)) rfl ?_
    refine x_iload_n dX7_mend_138 rfl rfl ?_
    refine x_iload dX7_mend_139 rfl ?_
    refine x_iadd dX7_mend_141 ?_
    refine x_casti (y := nI (2200 * u + q)) (nI_add _ _) ?_
    refine x_zld (j := 2200 * u + q) dX7_mend_142 (gn (gn (gn (gn hbb (by decide)) (by decide)) (by decide)) (by decide)) rfl (by omega) (by decide) ?_
    refine x_icmp_eq (tgt := 150) dX7_mend_143 (by decide) (fun h143 => ?_) (fun h143 => ?_)
    · refine x_iconst (y := nI 0) dX7_mend_150 rfl ?_
      refine x_istore (ls' := [some (.ref (138)), some (.int (nI u)), some (.int (nI kc)), some (.int (nI (2200 * u))), some (.int (nI z.toNat)), some (.int (nI (cnt (fun k => (s.1 k ^^ bb (2200 * u + k)) && !(kk (2200 * u + k))) (q)))), some (.int (nI (cnt (fun k => s.1 k ^^ bb (2200 * u + k)) (q)))), some (.int (nI q)), some (.int (nI 0))]) dX7_mend_151 (by decide) rfl rfl ?_
      refine x_iload dX7_mend_153 rfl ?_
      refine x_iload dX7_mend_155 rfl ?_
      refine x_if_eq (tgt := 164) dX7_mend_157 (by decide) (fun _ => ?_) (fun h => False.elim (h rfl))
      refine x_iconst (y := nI 0) dX7_mend_164 rfl ?_
      refine x_iadd dX7_mend_165 ?_
      refine x_casti (y := nI (cnt (fun k => s.1 k ^^ bb (2200 * u + k)) (q + 1))) (by rw [nI_add, Nat.add_zero, cnt_f (E := (fun k => s.1 k ^^ bb (2200 * u + k))) (n := q) (bxe h143)]) ?_
      refine x_istore (ls' := [some (.ref (138)), some (.int (nI u)), some (.int (nI kc)), some (.int (nI (2200 * u))), some (.int (nI z.toNat)), some (.int (nI (cnt (fun k => (s.1 k ^^ bb (2200 * u + k)) && !(kk (2200 * u + k))) (q)))), some (.int (nI (cnt (fun k => s.1 k ^^ bb (2200 * u + k)) (q + 1)))), some (.int (nI q)), some (.int (nI 0))]) dX7_mend_166 (by decide) rfl rfl ?_
      refine x_iload dX7_mend_168 rfl ?_
      refine x_iload dX7_mend_170 rfl ?_
      refine x_if_eq (tgt := 191) dX7_mend_172 (by decide) (fun _ => ?_) (fun h => False.elim (h rfl))
      refine x_iconst (y := nI 0) dX7_mend_191 rfl ?_
      refine x_iadd dX7_mend_192 ?_
      refine x_casti (y := nI (cnt (fun k => (s.1 k ^^ bb (2200 * u + k)) && !(kk (2200 * u + k))) (q + 1))) (by rw [nI_add, Nat.add_zero, cnt_f (E := (fun k => (s.1 k ^^ bb (2200 * u + k)) && !(kk (2200 * u + k)))) (n := q) (show ((s.1 q ^^ bb (2200 * u + q)) && !(kk (2200 * u + q))) = false by rw [bxe h143]; rfl)]) ?_
      refine x_istore (ls' := [some (.ref (138)), some (.int (nI u)), some (.int (nI kc)), some (.int (nI (2200 * u))), some (.int (nI z.toNat)), some (.int (nI (cnt (fun k => (s.1 k ^^ bb (2200 * u + k)) && !(kk (2200 * u + k))) (q + 1)))), some (.int (nI (cnt (fun k => s.1 k ^^ bb (2200 * u + k)) (q + 1)))), some (.int (nI q)), some (.int (nI 0))]) dX7_mend_193 (by decide) rfl rfl ?_
      refine x_iinc (y := nI (q + 1)) (ls' := [some (.ref (138)), some (.int (nI u)), some (.int (nI kc)), some (.int (nI (2200 * u))), some (.int (nI z.toNat)), some (.int (nI (cnt (fun k => (s.1 k ^^ bb (2200 * u + k)) && !(kk (2200 * u + k))) (q + 1)))), some (.int (nI (cnt (fun k => s.1 k ^^ bb (2200 * u + k)) (q + 1)))), some (.int (nI (q + 1))), some (.int (nI 0))]) dX7_mend_195 (by decide) rfl rfl (ii_add _ 1) rfl ?_
      refine x_goto (tgt := 118) dX7_mend_198 (by decide) ?_
      refine md_f8 ?_
      exact ih (q + 1) (by omega)
    · refine x_iconst (y := nI 1) dX7_mend_146 rfl ?_
      refine x_goto (tgt := 151) dX7_mend_147 (by decide) ?_
      refine x_istore (ls' := [some (.ref (138)), some (.int (nI u)), some (.int (nI kc)), some (.int (nI (2200 * u))), some (.int (nI z.toNat)), some (.int (nI (cnt (fun k => (s.1 k ^^ bb (2200 * u + k)) && !(kk (2200 * u + k))) (q)))), some (.int (nI (cnt (fun k => s.1 k ^^ bb (2200 * u + k)) (q)))), some (.int (nI q)), some (.int (nI 1))]) dX7_mend_151 (by decide) rfl rfl ?_
      refine x_iload dX7_mend_153 rfl ?_
      refine x_iload dX7_mend_155 rfl ?_
      refine x_if_eq (tgt := 164) dX7_mend_157 (by decide) (fun h => False.elim (absurd h (by decide))) (fun _ => ?_)
      refine x_iconst (y := nI 1) dX7_mend_160 rfl ?_
      refine x_goto (tgt := 165) dX7_mend_161 (by decide) ?_
      refine x_iadd dX7_mend_165 ?_
      refine x_casti (y := nI (cnt (fun k => s.1 k ^^ bb (2200 * u + k)) (q + 1))) (by rw [nI_add, cnt_t (E := (fun k => s.1 k ^^ bb (2200 * u + k))) (n := q) (bxn h143)]) ?_
      refine x_istore (ls' := [some (.ref (138)), some (.int (nI u)), some (.int (nI kc)), some (.int (nI (2200 * u))), some (.int (nI z.toNat)), some (.int (nI (cnt (fun k => (s.1 k ^^ bb (2200 * u + k)) && !(kk (2200 * u + k))) (q)))), some (.int (nI (cnt (fun k => s.1 k ^^ bb (2200 * u + k)) (q + 1)))), some (.int (nI q)), some (.int (nI 1))]) dX7_mend_166 (by decide) rfl rfl ?_
      refine x_iload dX7_mend_168 rfl ?_
      refine x_iload dX7_mend_170 rfl ?_
      refine x_if_eq (tgt := 191) dX7_mend_172 (by decide) (fun h => False.elim (absurd h (by decide))) (fun _ => ?_)
      refine x_aload_n dX7_mend_175 rfl rfl ?_
      refine x_getf (ci := 6) (kf := 13) dX7_mend_176 rfl uX7 (by decide) fl_RX7_30 (gn (gn (gn (gn hO (by decide)) (by decide)) (by decide)) (by decide)) rfl ?_
      refine x_iload_n dX7_mend_179 rfl rfl ?_
      refine x_iload dX7_mend_180 rfl ?_
      refine x_iadd dX7_mend_182 ?_
      refine x_casti (y := nI (2200 * u + q)) (nI_add _ _) ?_
      refine x_zld (j := 2200 * u + q) dX7_mend_183 (gn (gn (gn (gn hkk (by decide)) (by decide)) (by decide)) (by decide)) rfl (by omega) (by decide) ?_
      refine x_if_ne (tgt := 191) dX7_mend_184 (by decide) (fun h184 => ?_) (fun h184 => ?_)
      · refine x_iconst (y := nI 0) dX7_mend_191 rfl ?_
        refine x_iadd dX7_mend_192 ?_
        refine x_casti (y := nI (cnt (fun k => (s.1 k ^^ bb (2200 * u + k)) && !(kk (2200 * u + k))) (q + 1))) (by rw [nI_add, Nat.add_zero, cnt_f (E := (fun k => (s.1 k ^^ bb (2200 * u + k)) && !(kk (2200 * u + k)))) (n := q) (show ((s.1 q ^^ bb (2200 * u + q)) && !(kk (2200 * u + q))) = false by rw [bxn h143, bt1 h184]; rfl)]) ?_
        refine x_istore (ls' := [some (.ref (138)), some (.int (nI u)), some (.int (nI kc)), some (.int (nI (2200 * u))), some (.int (nI z.toNat)), some (.int (nI (cnt (fun k => (s.1 k ^^ bb (2200 * u + k)) && !(kk (2200 * u + k))) (q + 1)))), some (.int (nI (cnt (fun k => s.1 k ^^ bb (2200 * u + k)) (q + 1)))), some (.int (nI q)), some (.int (nI 1))]) dX7_mend_193 (by decide) rfl rfl ?_
        refine x_iinc (y := nI (q + 1)) (ls' := [some (.ref (138)), some (.int (nI u)), some (.int (nI kc)), some (.int (nI (2200 * u))), some (.int (nI z.toNat)), some (.int (nI (cnt (fun k => (s.1 k ^^ bb (2200 * u + k)) && !(kk (2200 * u + k))) (q + 1)))), some (.int (nI (cnt (fun k => s.1 k ^^ bb (2200 * u + k)) (q + 1)))), some (.int (nI (q + 1))), some (.int (nI 1))]) dX7_mend_195 (by decide) rfl rfl (ii_add _ 1) rfl ?_
        refine x_goto (tgt := 118) dX7_mend_198 (by decide) ?_
        refine md_f8 ?_
        exact ih (q + 1) (by omega)
      · refine x_iconst (y := nI 1) dX7_mend_187 rfl ?_
        refine x_goto (tgt := 192) dX7_mend_188 (by decide) ?_
        refine x_iadd dX7_mend_192 ?_
        refine x_casti (y := nI (cnt (fun k => (s.1 k ^^ bb (2200 * u + k)) && !(kk (2200 * u + k))) (q + 1))) (by rw [nI_add, cnt_t (E := (fun k => (s.1 k ^^ bb (2200 * u + k)) && !(kk (2200 * u + k)))) (n := q) (show ((s.1 q ^^ bb (2200 * u + q)) && !(kk (2200 * u + q))) = true by rw [bxn h143, bt0 h184]; rfl)]) ?_
        refine x_istore (ls' := [some (.ref (138)), some (.int (nI u)), some (.int (nI kc)), some (.int (nI (2200 * u))), some (.int (nI z.toNat)), some (.int (nI (cnt (fun k => (s.1 k ^^ bb (2200 * u + k)) && !(kk (2200 * u + k))) (q + 1)))), some (.int (nI (cnt (fun k => s.1 k ^^ bb (2200 * u + k)) (q + 1)))), some (.int (nI q)), some (.int (nI 1))]) dX7_mend_193 (by decide) rfl rfl ?_
        refine x_iinc (y := nI (q + 1)) (ls' := [some (.ref (138)), some (.int (nI u)), some (.int (nI kc)), some (.int (nI (2200 * u))), some (.int (nI z.toNat)), some (.int (nI (cnt (fun k => (s.1 k ^^ bb (2200 * u + k)) && !(kk (2200 * u + k))) (q + 1)))), some (.int (nI (cnt (fun k => s.1 k ^^ bb (2200 * u + k)) (q + 1)))), some (.int (nI (q + 1))), some (.int (nI 1))]) dX7_mend_195 (by decide) rfl rfl (ii_add _ 1) rfl ?_
        refine x_goto (tgt := 118) dX7_mend_198 (by decide) ?_
        refine md_f8 ?_
        exact ih (q + 1) (by omega)
theorem md_pass {X : Ev} {M0 M M' : Hp} {v : Option Value} {s : Mi} {s0 : Mi} {op : Int32} {m t d r n tn : Nat} {me ri lt : Int32} (hO : M[138]? = some (.inr (6, [.int (op), .int (nI m), .int (nI t), .int (nI d), .int (nI r), .int (nI n), .int (nI (2 ^ m - 1)), .ref (139), .ref (140), .ref (141), .ref (142), .ref (143), .ref (144), .ref (145), .ref (146), .ref (147), .int (nI tn), .int (me), .int (ri), .int (lt), .ref (148), .ref (149), .ref (150), .ref (151), .ref (152), .ref (153), .ref (154)]))) {pw : Nat → Int32} (hp : M[139]? = some (.inl (0, 8192, .inl (pw)))) {lg : Nat → Int32} (hq : M[140]? = some (.inl (0, 8192, .inl (lg)))) {bb : Nat → Bool} (hbb : M[143]? = some (.inl (2, 35200, .inl (fun j => nI ((bb) j).toNat)))) {kk : Nat → Bool} (hkk : M[145]? = some (.inl (2, 35200, .inl (fun j => nI ((kk) j).toNat)))) (hwd : M[150]? = some (.inl (2, 2200, .inl (fun j => nI ((s0.1) j).toNat)))) (hsy : M[152]? = some (.inl (0, 17, .inl (fun j => nI ((s0.2.1) j))))) (hli : M[153]? = some (.inl (0, 72, .inl (fun j => nI ((s0.2.2.1) j))))) (hlo : M[154]? = some (.inl (0, 9, .inl (fun j => nI ((s0.2.2.2) j))))) (hF : FT pw lg m) (ht1 : 1 ≤ t) (ht8 : t ≤ 8) (hn1 : 1 ≤ n) (hn22 : n ≤ 2176) {u : Nat} (hu : u < 16) {z : Bool} {kc : Nat} (hkc : kc ≤ 2176) (k2 : (mm2 m t n s z bb kk u kc).2 = false → G X 3 jX7_mend M0 219 [some (.ref (138)), some (.int (nI u)), some (.int (nI kc)), some (.int (nI (2200 * u))), some (.int (nI z.toNat)), none, none, none, none] [] ((((M.set (150) (.inl (2, 2200, .inl (fun j => nI (((mm2 m t n s z bb kk u kc).1.1) j).toNat)))).set (152) (.inl (0, 17, .inl (fun j => nI (((mm2 m t n s z bb kk u kc).1.2.1) j))))).set (153) (.inl (0, 72, .inl (fun j => nI (((mm2 m t n s z bb kk u kc).1.2.2.1) j))))).set (154) (.inl (0, 9, .inl (fun j => nI (((mm2 m t n s z bb kk u kc).1.2.2.2) j))))) v M') (k1 : (mm2 m t n s z bb kk u kc).2 = true → v = some (.int (nI (cnt (fun k => (imd m t n (wfl z bb kk u s.1 n, s.2)).1.1 k ^^ bb (2200 * u + k)) n))) ∧ M' = ((((M.set (150) (.inl (2, 2200, .inl (fun j => nI (((mm2 m t n s z bb kk u kc).1.1) j).toNat)))).set (152) (.inl (0, 17, .inl (fun j => nI (((mm2 m t n s z bb kk u kc).1.2.1) j))))).set (153) (.inl (0, 72, .inl (fun j => nI (((mm2 m t n s z bb kk u kc).1.2.2.1) j))))).set (154) (.inl (0, 9, .inl (fun j => nI (((mm2 m t n s z bb kk u kc).1.2.2.2) j)))))) : G X 3 jX7_mend M0 39 [some (.ref (138)), some (.int (nI u)), some (.int (nI kc)), some (.int (nI (2200 * u))), some (.int (nI z.toNat)), none, none, none, none] [] ((((M.set (150) (.inl (2, 2200, .inl (fun j => nI ((s.1) j).toNat)))).set (152) (.inl (0, 17, .inl (fun j => nI ((s.2.1) j))))).set (153) (.inl (0, 72, .inl (fun j => nI ((s.2.2.1) j))))).set (154) (.inl (0, 9, .inl (fun j => nI ((s.2.2.2) j))))) v M' := by
  have hb2 : (mm2 m t n s z bb kk u kc).2 = ((imd m t n (wfl z bb kk u s.1 n, s.2)).2 && decide (2 * cnt (fun k => ((imd m t n (wfl z bb kk u s.1 n, s.2)).1.1 k ^^ bb (2200 * u + k)) && !(kk (2200 * u + k))) n + kc ≤ 2 * t)) := rfl
  have hot := cnt_le (fun k => ((imd m t n (wfl z bb kk u s.1 n, s.2)).1.1 k ^^ bb (2200 * u + k)) && !(kk (2200 * u + k))) n
  refine x_iconst (y := nI 0) dX7_mend_39 rfl ?_
  refine x_istore (ls' := [some (.ref (138)), some (.int (nI u)), some (.int (nI kc)), some (.int (nI (2200 * u))), some (.int (nI z.toNat)), some (.int (nI 0)), none, none, none]) dX7_mend_40 (by decide) rfl rfl ?_
  refine G.hp (show _ = ((((M.set (150) (.inl (2, 2200, .inl (fun j => nI ((wfl z bb kk u s.1 (0)) j).toNat)))).set (152) (.inl (0, 17, .inl (fun j => nI ((s.2.1) j))))).set (153) (.inl (0, 72, .inl (fun j => nI ((s.2.2.1) j))))).set (154) (.inl (0, 9, .inl (fun j => nI ((s.2.2.2) j))))) from by rw [wfl_0]) ?_
  refine lp_mdA hO hp hq hbb hkk hwd hsy hli hlo hn22 hu ?_ n 0 (by omega)
  refine x_aload_n dX7_mend_99 rfl rfl ?_
  refine x_callV (ci := 6) (as := []) dX7_mend_100 mk_X7_isMended in_X7_isMended se_X7_isMended ml_RX7_172 rfl (gn (gn (gn (gn hO (by decide)) (by decide)) (by decide)) (by decide)) (by decide) rfl rfl (Nat.le_of_ble_eq_true rfl) (c_misMended (s := (wfl z bb kk u s.1 n, s.2)) (gn (gn (gn (gn hO (by decide)) (by decide)) (by decide)) (by decide)) (gn (gn (gn (gn hp (by decide)) (by decide)) (by decide)) (by decide)) (gn (gn (gn (gn hq (by decide)) (by decide)) (by decide)) (by decide)) (gn (gn (gn (gs hwd) (by decide)) (by decide)) (by decide)) (gn (gn (gs (gn hsy (by decide))) (by decide)) (by decide)) (gn (gs (gn (gn hli (by decide)) (by decide))) (by decide)) (gs (gn (gn (gn hlo (by decide)) (by decide)) (by decide))) hF ht1 ht8 hn1 hn22) ?_
  refine G.hp ((congrArg (fun Z : Hp => Z.set (154) (.inl (0, 9, .inl (fun j => nI (((imd m t n (wfl z bb kk u s.1 n, s.2)).1.2.2.2) j))))) ((congrArg (fun Z : Hp => Z.set (153) (.inl (0, 72, .inl (fun j => nI (((imd m t n (wfl z bb kk u s.1 n, s.2)).1.2.2.1) j))))) ((congrArg (fun Z : Hp => Z.set (152) (.inl (0, 17, .inl (fun j => nI (((imd m t n (wfl z bb kk u s.1 n, s.2)).1.2.1) j))))) (show (((((M.set (150) (.inl (2, 2200, .inl (fun j => nI ((wfl z bb kk u s.1 (n)) j).toNat)))).set (152) (.inl (0, 17, .inl (fun j => nI ((s.2.1) j))))).set (153) (.inl (0, 72, .inl (fun j => nI ((s.2.2.1) j))))).set (154) (.inl (0, 9, .inl (fun j => nI ((s.2.2.2) j))))).set (150) (.inl (2, 2200, .inl (fun j => nI (((imd m t n (wfl z bb kk u s.1 n, s.2)).1.1) j).toNat))) : Hp) = ((((M.set (150) (.inl (2, 2200, .inl (fun j => nI (((imd m t n (wfl z bb kk u s.1 n, s.2)).1.1) j).toNat)))).set (152) (.inl (0, 17, .inl (fun j => nI ((s.2.1) j))))).set (153) (.inl (0, 72, .inl (fun j => nI ((s.2.2.1) j))))).set (154) (.inl (0, 9, .inl (fun j => nI ((s.2.2.2) j))))) from (ss3 (by decide) (by decide) (by decide)))).trans (show (((((M.set (150) (.inl (2, 2200, .inl (fun j => nI (((imd m t n (wfl z bb kk u s.1 n, s.2)).1.1) j).toNat)))).set (152) (.inl (0, 17, .inl (fun j => nI ((s.2.1) j))))).set (153) (.inl (0, 72, .inl (fun j => nI ((s.2.2.1) j))))).set (154) (.inl (0, 9, .inl (fun j => nI ((s.2.2.2) j))))).set (152) (.inl (0, 17, .inl (fun j => nI (((imd m t n (wfl z bb kk u s.1 n, s.2)).1.2.1) j)))) : Hp) = ((((M.set (150) (.inl (2, 2200, .inl (fun j => nI (((imd m t n (wfl z bb kk u s.1 n, s.2)).1.1) j).toNat)))).set (152) (.inl (0, 17, .inl (fun j => nI (((imd m t n (wfl z bb kk u s.1 n, s.2)).1.2.1) j))))).set (153) (.inl (0, 72, .inl (fun j => nI ((s.2.2.1) j))))).set (154) (.inl (0, 9, .inl (fun j => nI ((s.2.2.2) j))))) from (ss2 (by decide) (by decide))))).trans (show (((((M.set (150) (.inl (2, 2200, .inl (fun j => nI (((imd m t n (wfl z bb kk u s.1 n, s.2)).1.1) j).toNat)))).set (152) (.inl (0, 17, .inl (fun j => nI (((imd m t n (wfl z bb kk u s.1 n, s.2)).1.2.1) j))))).set (153) (.inl (0, 72, .inl (fun j => nI ((s.2.2.1) j))))).set (154) (.inl (0, 9, .inl (fun j => nI ((s.2.2.2) j))))).set (153) (.inl (0, 72, .inl (fun j => nI (((imd m t n (wfl z bb kk u s.1 n, s.2)).1.2.2.1) j)))) : Hp) = ((((M.set (150) (.inl (2, 2200, .inl (fun j => nI (((imd m t n (wfl z bb kk u s.1 n, s.2)).1.1) j).toNat)))).set (152) (.inl (0, 17, .inl (fun j => nI (((imd m t n (wfl z bb kk u s.1 n, s.2)).1.2.1) j))))).set (153) (.inl (0, 72, .inl (fun j => nI (((imd m t n (wfl z bb kk u s.1 n, s.2)).1.2.2.1) j))))).set (154) (.inl (0, 9, .inl (fun j => nI ((s.2.2.2) j))))) from (ss1 (by decide))))).trans (show (((((M.set (150) (.inl (2, 2200, .inl (fun j => nI (((imd m t n (wfl z bb kk u s.1 n, s.2)).1.1) j).toNat)))).set (152) (.inl (0, 17, .inl (fun j => nI (((imd m t n (wfl z bb kk u s.1 n, s.2)).1.2.1) j))))).set (153) (.inl (0, 72, .inl (fun j => nI (((imd m t n (wfl z bb kk u s.1 n, s.2)).1.2.2.1) j))))).set (154) (.inl (0, 9, .inl (fun j => nI ((s.2.2.2) j))))).set (154) (.inl (0, 9, .inl (fun j => nI (((imd m t n (wfl z bb kk u s.1 n, s.2)).1.2.2.2) j)))) : Hp) = ((((M.set (150) (.inl (2, 2200, .inl (fun j => nI (((imd m t n (wfl z bb kk u s.1 n, s.2)).1.1) j).toNat)))).set (152) (.inl (0, 17, .inl (fun j => nI (((imd m t n (wfl z bb kk u s.1 n, s.2)).1.2.1) j))))).set (153) (.inl (0, 72, .inl (fun j => nI (((imd m t n (wfl z bb kk u s.1 n, s.2)).1.2.2.1) j))))).set (154) (.inl (0, 9, .inl (fun j => nI (((imd m t n (wfl z bb kk u s.1 n, s.2)).1.2.2.2) j))))) from (ss0))) ?_
  refine x_if_ne (tgt := 109) dX7_mend_103 (by decide) (fun h103 => ?_) (fun h103 => ?_)
  · refine x_iconst (y := nI 0) dX7_mend_109 rfl ?_
    refine x_istore (ls' := [some (.ref (138)), some (.int (nI u)), some (.int (nI kc)), some (.int (nI (2200 * u))), some (.int (nI z.toNat)), some (.int (nI 0)), none, none, none]) dX7_mend_110 (by decide) rfl rfl ?_
    refine x_iconst (y := nI 0) dX7_mend_112 rfl ?_
    refine x_istore (ls' := [some (.ref (138)), some (.int (nI u)), some (.int (nI kc)), some (.int (nI (2200 * u))), some (.int (nI z.toNat)), some (.int (nI 0)), some (.int (nI 0)), none, none]) dX7_mend_113 (by decide) rfl rfl ?_
    refine x_iconst (y := nI 0) dX7_mend_115 rfl ?_
    refine x_istore (ls' := [some (.ref (138)), some (.int (nI u)), some (.int (nI kc)), some (.int (nI (2200 * u))), some (.int (nI z.toNat)), some (.int (nI 0)), some (.int (nI 0)), some (.int (nI 0)), none]) dX7_mend_116 (by decide) rfl rfl ?_
    refine lp_mdB (s := (imd m t n (wfl z bb kk u s.1 n, s.2)).1) hO hp hq hbb hkk hwd hsy hli hlo hn22 hu ?_ n 0 (by omega)
    refine x_iconst (y := nI 2) dX7_mend_201 rfl ?_
    refine x_iload dX7_mend_202 rfl ?_
    refine x_imul dX7_mend_204 ?_
    refine x_casti (y := nI (2 * (cnt (fun k => ((imd m t n (wfl z bb kk u s.1 n, s.2)).1.1 k ^^ bb (2200 * u + k)) && !(kk (2200 * u + k))) n))) (pk_mul _ _) ?_
    refine x_iload_n dX7_mend_205 rfl rfl ?_
    refine x_iadd dX7_mend_206 ?_
    refine x_casti (y := nI (2 * (cnt (fun k => ((imd m t n (wfl z bb kk u s.1 n, s.2)).1.1 k ^^ bb (2200 * u + k)) && !(kk (2200 * u + k))) n) + kc)) (nI_add _ _) ?_
    refine x_iconst (y := nI 2) dX7_mend_207 rfl ?_
    refine x_aload_n dX7_mend_208 rfl rfl ?_
    refine x_getf (ci := 6) (kf := 2) dX7_mend_209 rfl uX7 (by decide) fl_RX7_104 (gn (gn (gn (gn hO (by decide)) (by decide)) (by decide)) (by decide)) rfl ?_
    refine x_imul dX7_mend_212 ?_
    refine x_casti (y := nI (2 * t)) (pk_mul _ _) ?_
    refine x_icmp_gt (tgt := 219) dX7_mend_213 (by decide) (fun h213 => ?_) (fun h213 => ?_)
    · refine md_f5 ?_
      exact k2 (by rw [hb2, decide_eq_false (show ¬ (2 * cnt (fun k => ((imd m t n (wfl z bb kk u s.1 n, s.2)).1.1 k ^^ bb (2200 * u + k)) && !(kk (2200 * u + k))) n + kc ≤ 2 * t) from fun z => absurd ((nI_ltI (by omega) (by omega)).mp h213) (by omega)), Bool.and_false])
    · obtain ⟨hv_, hM_⟩ := k1 (by rw [hb2, ite1 h103, decide_eq_true (show 2 * cnt (fun k => ((imd m t n (wfl z bb kk u s.1 n, s.2)).1.1 k ^^ bb (2200 * u + k)) && !(kk (2200 * u + k))) n + kc ≤ 2 * t from Nat.le_of_not_lt (fun z => h213 ((nI_ltI (by omega) (by omega)).mpr z)))]; rfl)
      subst hv_
      subst hM_
      refine x_iload dX7_mend_216 rfl ?_
      exact x_ireturn_eq dX7_mend_218 rfl rfl
  · refine x_goto (tgt := 219) dX7_mend_106 (by decide) ?_
    refine md_f5 ?_
    exact k2 (by rw [hb2, ite0 h103]; rfl)
theorem c_mmend {X : Ev} {M : Hp} {s0 : Mi} {op : Int32} {m t d r n tn : Nat} {me ri lt : Int32} (hO : M[138]? = some (.inr (6, [.int (op), .int (nI m), .int (nI t), .int (nI d), .int (nI r), .int (nI n), .int (nI (2 ^ m - 1)), .ref (139), .ref (140), .ref (141), .ref (142), .ref (143), .ref (144), .ref (145), .ref (146), .ref (147), .int (nI tn), .int (me), .int (ri), .int (lt), .ref (148), .ref (149), .ref (150), .ref (151), .ref (152), .ref (153), .ref (154)]))) {pw : Nat → Int32} (hp : M[139]? = some (.inl (0, 8192, .inl (pw)))) {lg : Nat → Int32} (hq : M[140]? = some (.inl (0, 8192, .inl (lg)))) {bb : Nat → Bool} (hbb : M[143]? = some (.inl (2, 35200, .inl (fun j => nI ((bb) j).toNat)))) {kk : Nat → Bool} (hkk : M[145]? = some (.inl (2, 35200, .inl (fun j => nI ((kk) j).toNat)))) (hwd : M[150]? = some (.inl (2, 2200, .inl (fun j => nI ((s0.1) j).toNat)))) (hsy : M[152]? = some (.inl (0, 17, .inl (fun j => nI ((s0.2.1) j))))) (hli : M[153]? = some (.inl (0, 72, .inl (fun j => nI ((s0.2.2.1) j))))) (hlo : M[154]? = some (.inl (0, 9, .inl (fun j => nI ((s0.2.2.2) j))))) (hF : FT pw lg m) (ht1 : 1 ≤ t) (ht8 : t ≤ 8) (hn1 : 1 ≤ n) (hn22 : n ≤ 2176) {u : Nat} (hu : u < 16) : Cl X 3 jX7_mend [.ref (138), .int (nI u)] M (some (.int (losti (mmr m t n s0 bb kk u (cnt (fun q => kk (2200 * u + q)) n)).2))) ((((M.set (150) (.inl (2, 2200, .inl (fun j => nI (((mmr m t n s0 bb kk u (cnt (fun q => kk (2200 * u + q)) n)).1.1) j).toNat)))).set (152) (.inl (0, 17, .inl (fun j => nI (((mmr m t n s0 bb kk u (cnt (fun q => kk (2200 * u + q)) n)).1.2.1) j))))).set (153) (.inl (0, 72, .inl (fun j => nI (((mmr m t n s0 bb kk u (cnt (fun q => kk (2200 * u + q)) n)).1.2.2.1) j))))).set (154) (.inl (0, 9, .inl (fun j => nI (((mmr m t n s0 bb kk u (cnt (fun q => kk (2200 * u + q)) n)).1.2.2.2) j))))) := by
  obtain ⟨kc, hkc⟩ : ∃ kc, kc = (cnt (fun q => kk (2200 * u + q)) n) := ⟨_, rfl⟩
  have hkl : kc ≤ 2176 := by rw [hkc]; exact Nat.le_trans (cnt_le _ n) hn22
  rw [← hkc]
  refine Cl.of (ls := [some (.ref (138)), some (.int (nI u)), none, none, none, none, none, none, none]) (by decide) rfl (Nat.le_of_ble_eq_true rfl) ?_
  refine G.hp ((((set_id (M := M) hwd rfl).trans (set_id (M := (M.set (150) (.inl (2, 2200, .inl (fun j => nI ((s0.1) j).toNat))))) (gn hsy (by decide)) rfl)).trans (set_id (M := ((M.set (150) (.inl (2, 2200, .inl (fun j => nI ((s0.1) j).toNat)))).set (152) (.inl (0, 17, .inl (fun j => nI ((s0.2.1) j)))))) (gn (gn hli (by decide)) (by decide)) rfl)).trans (set_id (M := (((M.set (150) (.inl (2, 2200, .inl (fun j => nI ((s0.1) j).toNat)))).set (152) (.inl (0, 17, .inl (fun j => nI ((s0.2.1) j))))).set (153) (.inl (0, 72, .inl (fun j => nI ((s0.2.2.1) j)))))) (gn (gn (gn hlo (by decide)) (by decide)) (by decide)) rfl)) ?_
  refine x_aload_n dX7_mend_0 rfl rfl ?_
  refine x_iload_n dX7_mend_1 rfl rfl ?_
  refine x_callV (ci := 6) (as := [.int (nI u)]) dX7_mend_2 mk_X7_countMarks in_X7_countMarks se_X7_countMarks ml_RX7_162 rfl (gn (gn (gn (gn hO (by decide)) (by decide)) (by decide)) (by decide)) (by decide) rfl rfl (Nat.le_of_ble_eq_true rfl) (c_countMarks (gn (gn (gn (gn hO (by decide)) (by decide)) (by decide)) (by decide)) (gn (gn (gn (gn hkk (by decide)) (by decide)) (by decide)) (by decide)) hn22 hu) ?_
  refine x_casti (y := nI kc) (by rw [hkc]) ?_
  refine x_istore_n (ls' := [some (.ref (138)), some (.int (nI u)), some (.int (nI kc)), none, none, none, none, none, none]) dX7_mend_5 rfl (by decide) rfl rfl ?_
  refine x_sipush (y := nI 2200) dX7_mend_6 rfl ?_
  refine x_iload_n dX7_mend_9 rfl rfl ?_
  refine x_imul dX7_mend_10 ?_
  refine x_casti (y := nI (2200 * u)) (pk_mul _ _) ?_
  refine x_istore_n (ls' := [some (.ref (138)), some (.int (nI u)), some (.int (nI kc)), some (.int (nI (2200 * u))), none, none, none, none, none]) dX7_mend_11 rfl (by decide) rfl rfl ?_
  refine x_iconst (y := nI 0) dX7_mend_12 rfl ?_
  refine x_istore (ls' := [some (.ref (138)), some (.int (nI u)), some (.int (nI kc)), some (.int (nI (2200 * u))), some (.int (nI 0)), none, none, none, none]) dX7_mend_13 (by decide) rfl rfl ?_
  by_cases hlt : 2 * t < kc
  · have hz : (mmr m t n s0 bb kk u kc) = (s0, none) := if_pos hlt
    rw [hz]
    refine x_iload dX7_mend_15 rfl ?_
    refine x_iload_n dX7_mend_17 rfl rfl ?_
    refine x_if_ne (tgt := 25) dX7_mend_18 (by decide) (fun _ => ?_) (fun h => False.elim (nI_nz (by omega) (by omega) h))
    refine x_iconst (y := nI 2) dX7_mend_25 rfl ?_
    refine x_icmp_ge (tgt := 225) dX7_mend_26 (by decide) (fun h => False.elim (absurd h (by decide))) (fun _ => ?_)
    refine x_iload_n dX7_mend_29 rfl rfl ?_
    refine x_iconst (y := nI 2) dX7_mend_30 rfl ?_
    refine x_aload_n dX7_mend_31 rfl rfl ?_
    refine x_getf (ci := 6) (kf := 2) dX7_mend_32 rfl uX7 (by decide) fl_RX7_104 (gn (gn (gn (gn hO (by decide)) (by decide)) (by decide)) (by decide)) rfl ?_
    refine x_imul dX7_mend_35 ?_
    refine x_casti (y := nI (2 * t)) (pk_mul _ _) ?_
    refine x_icmp_gt (tgt := 225) dX7_mend_36 (by decide) (fun _ => ?_) (fun h => False.elim (h ((nI_ltI (by omega) (by omega)).mpr hlt)))
    refine x_bipush (y := -4) dX7_mend_225 rfl ?_
    exact x_ireturn_eq dX7_mend_227 rfl rfl
  · by_cases hk0 : kc = 0
    · refine x_iload dX7_mend_15 rfl ?_
      refine x_iload_n dX7_mend_17 rfl rfl ?_
      refine x_if_ne (tgt := 25) dX7_mend_18 (by decide) (fun h => False.elim (h (by rw [hk0]; rfl))) (fun _ => ?_)
      refine x_iconst (y := nI 1) dX7_mend_21 rfl ?_
      refine x_goto (tgt := 26) dX7_mend_22 (by decide) ?_
      refine x_icmp_ge (tgt := 225) dX7_mend_26 (by decide) (fun h => False.elim (absurd h (by decide))) (fun _ => ?_)
      refine x_iload_n dX7_mend_29 rfl rfl ?_
      refine x_iconst (y := nI 2) dX7_mend_30 rfl ?_
      refine x_aload_n dX7_mend_31 rfl rfl ?_
      refine x_getf (ci := 6) (kf := 2) dX7_mend_32 rfl uX7 (by decide) fl_RX7_104 (gn (gn (gn (gn hO (by decide)) (by decide)) (by decide)) (by decide)) rfl ?_
      refine x_imul dX7_mend_35 ?_
      refine x_casti (y := nI (2 * t)) (pk_mul _ _) ?_
      refine x_icmp_gt (tgt := 225) dX7_mend_36 (by decide) (fun h => False.elim (absurd ((nI_ltI (by omega) (by omega)).mp h) (by omega))) (fun _ => ?_)
      refine md_pass (s := s0) (z := false) hO hp hq hbb hkk hwd hsy hli hlo hF ht1 ht8 hn1 hn22 hu hkl (fun hA => ?_) (fun hA => ?_)
      · have hz : (mmr m t n s0 bb kk u kc) = ((mm2 m t n s0 false bb kk u kc).1, none) := by show (if _ then _ else if _ then _ else if _ then _ else if _ then _ else _) = _; rw [if_neg hlt, if_neg (by rw [hA]; decide), if_pos hk0]
        rw [hz]
        refine x_iinc (y := nI 1) (ls' := [some (.ref (138)), some (.int (nI u)), some (.int (nI kc)), some (.int (nI (2200 * u))), some (.int (nI 1)), none, none, none, none]) dX7_mend_219 (by decide) rfl rfl (ii_add 0 1) rfl ?_
        refine x_goto (tgt := 15) dX7_mend_222 (by decide) ?_
        refine x_iload dX7_mend_15 rfl ?_
        refine x_iload_n dX7_mend_17 rfl rfl ?_
        refine x_if_ne (tgt := 25) dX7_mend_18 (by decide) (fun h => False.elim (h (by rw [hk0]; rfl))) (fun _ => ?_)
        refine x_iconst (y := nI 1) dX7_mend_21 rfl ?_
        refine x_goto (tgt := 26) dX7_mend_22 (by decide) ?_
        refine x_icmp_ge (tgt := 225) dX7_mend_26 (by decide) (fun _ => ?_) (fun h => False.elim (h (by decide)))
        refine x_bipush (y := -4) dX7_mend_225 rfl ?_
        exact x_ireturn_eq dX7_mend_227 rfl rfl
      · have hz : (mmr m t n s0 bb kk u kc) = ((mm2 m t n s0 false bb kk u kc).1, some (cnt (fun k => (mm2 m t n s0 false bb kk u kc).1.1 k ^^ bb (2200 * u + k)) n)) := by show (if _ then _ else if _ then _ else if _ then _ else if _ then _ else _) = _; rw [if_neg hlt, if_pos hA]
        rw [hz]
        exact ⟨rfl, rfl⟩
    · refine x_iload dX7_mend_15 rfl ?_
      refine x_iload_n dX7_mend_17 rfl rfl ?_
      refine x_if_ne (tgt := 25) dX7_mend_18 (by decide) (fun _ => ?_) (fun h => False.elim (nI_nz (by omega) (by omega) h))
      refine x_iconst (y := nI 2) dX7_mend_25 rfl ?_
      refine x_icmp_ge (tgt := 225) dX7_mend_26 (by decide) (fun h => False.elim (absurd h (by decide))) (fun _ => ?_)
      refine x_iload_n dX7_mend_29 rfl rfl ?_
      refine x_iconst (y := nI 2) dX7_mend_30 rfl ?_
      refine x_aload_n dX7_mend_31 rfl rfl ?_
      refine x_getf (ci := 6) (kf := 2) dX7_mend_32 rfl uX7 (by decide) fl_RX7_104 (gn (gn (gn (gn hO (by decide)) (by decide)) (by decide)) (by decide)) rfl ?_
      refine x_imul dX7_mend_35 ?_
      refine x_casti (y := nI (2 * t)) (pk_mul _ _) ?_
      refine x_icmp_gt (tgt := 225) dX7_mend_36 (by decide) (fun h => False.elim (absurd ((nI_ltI (by omega) (by omega)).mp h) (by omega))) (fun _ => ?_)
      refine md_pass (s := s0) (z := false) hO hp hq hbb hkk hwd hsy hli hlo hF ht1 ht8 hn1 hn22 hu hkl (fun hA => ?_) (fun hA => ?_)
      · refine x_iinc (y := nI 1) (ls' := [some (.ref (138)), some (.int (nI u)), some (.int (nI kc)), some (.int (nI (2200 * u))), some (.int (nI 1)), none, none, none, none]) dX7_mend_219 (by decide) rfl rfl (ii_add 0 1) rfl ?_
        refine x_goto (tgt := 15) dX7_mend_222 (by decide) ?_
        refine x_iload dX7_mend_15 rfl ?_
        refine x_iload_n dX7_mend_17 rfl rfl ?_
        refine x_if_ne (tgt := 25) dX7_mend_18 (by decide) (fun _ => ?_) (fun h => False.elim (nI_nz (by omega) (by omega) h))
        refine x_iconst (y := nI 2) dX7_mend_25 rfl ?_
        refine x_icmp_ge (tgt := 225) dX7_mend_26 (by decide) (fun h => False.elim (absurd h (by decide))) (fun _ => ?_)
        refine x_iload_n dX7_mend_29 rfl rfl ?_
        refine x_iconst (y := nI 2) dX7_mend_30 rfl ?_
        refine x_aload_n dX7_mend_31 rfl rfl ?_
        refine x_getf (ci := 6) (kf := 2) dX7_mend_32 rfl uX7 (by decide) fl_RX7_104 (gn (gn (gn (gn hO (by decide)) (by decide)) (by decide)) (by decide)) rfl ?_
        refine x_imul dX7_mend_35 ?_
        refine x_casti (y := nI (2 * t)) (pk_mul _ _) ?_
        refine x_icmp_gt (tgt := 225) dX7_mend_36 (by decide) (fun h => False.elim (absurd ((nI_ltI (by omega) (by omega)).mp h) (by omega))) (fun _ => ?_)
        refine md_pass (s := (mm2 m t n s0 false bb kk u kc).1) (z := true) hO hp hq hbb hkk hwd hsy hli hlo hF ht1 ht8 hn1 hn22 hu hkl (fun hB => ?_) (fun hB => ?_)
        · have hz : (mmr m t n s0 bb kk u kc) = ((mm2 m t n (mm2 m t n s0 false bb kk u kc).1 true bb kk u kc).1, none) := by show (if _ then _ else if _ then _ else if _ then _ else if _ then _ else _) = _; rw [if_neg hlt, if_neg (by rw [hA]; decide), if_neg hk0, if_neg (by rw [hB]; decide)]
          rw [hz]
          refine x_iinc (y := nI 2) (ls' := [some (.ref (138)), some (.int (nI u)), some (.int (nI kc)), some (.int (nI (2200 * u))), some (.int (nI 2)), none, none, none, none]) dX7_mend_219 (by decide) rfl rfl (ii_add 1 1) rfl ?_
          refine x_goto (tgt := 15) dX7_mend_222 (by decide) ?_
          refine x_iload dX7_mend_15 rfl ?_
          refine x_iload_n dX7_mend_17 rfl rfl ?_
          refine x_if_ne (tgt := 25) dX7_mend_18 (by decide) (fun _ => ?_) (fun h => False.elim (nI_nz (by omega) (by omega) h))
          refine x_iconst (y := nI 2) dX7_mend_25 rfl ?_
          refine x_icmp_ge (tgt := 225) dX7_mend_26 (by decide) (fun _ => ?_) (fun h => False.elim (h (by decide)))
          refine x_bipush (y := -4) dX7_mend_225 rfl ?_
          exact x_ireturn_eq dX7_mend_227 rfl rfl
        · have hz : (mmr m t n s0 bb kk u kc) = ((mm2 m t n (mm2 m t n s0 false bb kk u kc).1 true bb kk u kc).1, some (cnt (fun k => (mm2 m t n (mm2 m t n s0 false bb kk u kc).1 true bb kk u kc).1.1 k ^^ bb (2200 * u + k)) n)) := by show (if _ then _ else if _ then _ else if _ then _ else if _ then _ else _) = _; rw [if_neg hlt, if_neg (by rw [hA]; decide), if_neg hk0, if_pos hB]
          rw [hz]
          exact ⟨rfl, rfl⟩
      · have hz : (mmr m t n s0 bb kk u kc) = ((mm2 m t n s0 false bb kk u kc).1, some (cnt (fun k => (mm2 m t n s0 false bb kk u kc).1.1 k ^^ bb (2200 * u + k)) n)) := by show (if _ then _ else if _ then _ else if _ then _ else if _ then _ else _) = _; rw [if_neg hlt, if_pos hA]
        rw [hz]
        exact ⟨rfl, rfl⟩
