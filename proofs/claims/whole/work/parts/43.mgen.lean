/-! THE MODEL: its generator -/
theorem xorb {a b : Bool} : nI a.toNat ^^^ nI b.toNat = nI (a ^^ b).toNat := by cases a <;> cases b <;> decide
def scp (sp g : Nat → Bool) (n : Nat) : Nat → Bool := fun j => if j < n then g j else sp j
def gz (g : Nat → Bool) (n : Nat) : Nat → Bool := fun j => if j < n then false else g j
theorem scp_step {sp g : Nat → Bool} {k : Nat} : bup (scp sp g k) k (gz g k k) = scp sp g (k + 1) := by
  funext j
  unfold bup scp gz
  by_cases h : j = k
  · subst h; rw [if_pos rfl, if_neg (Nat.lt_irrefl _), if_pos (by omega)]
  · rw [if_neg h]
    by_cases h2 : j < k
    · rw [if_pos h2, if_pos (by omega)]
    · rw [if_neg h2, if_neg (by omega)]
theorem gz_step {g : Nat → Bool} {k : Nat} : bup (gz g k) k false = gz g (k + 1) := by
  funext j
  unfold bup gz
  by_cases h : j = k
  · subst h; rw [if_pos rfl, if_pos (by omega)]
  · rw [if_neg h]
    by_cases h2 : j < k
    · rw [if_pos h2, if_pos (by omega)]
    · rw [if_neg h2, if_neg (by omega)]
theorem g0_gz {gg : Nat → Bool} {j : Nat} (hj : j < 210) : nI (bup (gz gg 210) 0 true j).toNat = nI (g0 j).toNat := by
  unfold bup gz g0
  by_cases h0 : j = 0
  · subst h0; rfl
  · rw [if_neg h0, if_pos hj, beq_false_of_ne h0]
theorem gz_0 {g : Nat → Bool} : gz g 0 = g := by funext j; simp [gz]
theorem scp_0 {sp g : Nat → Bool} : scp sp g 0 = sp := by funext j; simp [scp]
def gad (g sp : Nat → Bool) (j : Nat) : Nat → (Nat → Bool)
  | 0 => g
  | k + 1 => bup (gad g sp j k) (k + j) (gad g sp j k (k + j) ^^ sp k)
def gml (g sp : Nat → Bool) (deg v : Nat) : Nat → (Nat → Bool) × Nat
  | 0 => (g, 0)
  | j + 1 => if v.testBit j then (gad (gml g sp deg v j).1 sp j (deg + 1), j) else gml g sp deg v j
theorem gml_le {g sp : Nat → Bool} {deg v : Nat} : ∀ n, (gml g sp deg v n).2 ≤ n - 1
  | 0 => Nat.le_refl _
  | j + 1 => by
    unfold gml
    split
    · exact Nat.le_refl _
    · have := gml_le (g := g) (sp := sp) (deg := deg) (v := v) j; omega
/-- generator, degree, made, spare -/
abbrev Gm : Type := (Nat → Bool) × Nat × (Nat → Nat) × (Nat → Bool)
def mgx (m i : Nat) (s : Gm) : Gm :=
  if rsum m s.1 (i % (2 ^ m - 1)) (s.2.1 + 1) = 0 then s
  else ((gml (gz s.1 (s.2.1 + 1)) (scp s.2.2.2 s.1 (s.2.1 + 1)) s.2.1 (mpoly m (i % (2 ^ m - 1))) 14).1, s.2.1 + (gml (gz s.1 (s.2.1 + 1)) (scp s.2.2.2 s.1 (s.2.1 + 1)) s.2.1 (mpoly m (i % (2 ^ m - 1))) 14).2, mdc m (i % (2 ^ m - 1)) s.2.2.1 (csize (i % (2 ^ m - 1)) m), scp s.2.2.2 s.1 (s.2.1 + 1))
def mgo (m : Nat) : Nat → Nat → Gm → Gm
  | 0, _, s => s
  | z + 1, i, s => mgo m z (i + 1) (mgx m i s)
theorem lp_mgz {X : Ev} {M0 M M' : Hp} {v : Option Value} {op : Int32} {m t d r n tn : Nat} {me ri lt : Int32} (hO : M[138]? = some (.inr (6, [.int (op), .int (nI m), .int (nI t), .int (nI d), .int (nI r), .int (nI n), .int (nI (2 ^ m - 1)), .ref (139), .ref (140), .ref (141), .ref (142), .ref (143), .ref (144), .ref (145), .ref (146), .ref (147), .int (nI tn), .int (me), .int (ri), .int (lt), .ref (148), .ref (149), .ref (150), .ref (151), .ref (152), .ref (153), .ref (154)]))) {gg : Nat → Bool} (hgg : M[141]? = some (.inl (0, 210, .inl (fun j => nI ((gg) j).toNat)))) {ro : Nat} (k : G X 3 jX7_makeGenerator M0 22 [some (.ref (138)), some (.int (nI ro)), some (.int (nI 210)), none, none, none, none, none] [] (M.set (141) (.inl (0, 210, .inl (fun j => nI ((gz gg (210)) j).toNat)))) v M') : ∀ (zz i : Nat), i + zz = 210 → G X 3 jX7_makeGenerator M0 2 [some (.ref (138)), some (.int (nI ro)), some (.int (nI (i))), none, none, none, none, none] [] (M.set (141) (.inl (0, 210, .inl (fun j => nI ((gz gg (i)) j).toNat)))) v M' := by
  intro zz
  induction zz with
  | zero =>
    intro i hi
    have hi : i = 210 := by omega
    subst hi
    refine x_iload_n dX7_makeGenerator_2 rfl rfl ?_
    refine x_sipush (y := nI 210) dX7_makeGenerator_3 rfl ?_
    refine x_icmp_ge (tgt := 22) dX7_makeGenerator_6 (by decide) (fun _ => ?_) (fun h => False.elim (h (nI_le (Nat.le_refl _) (by decide))))
    exact k
  | succ zz ih =>
    intro i hi
    refine x_iload_n dX7_makeGenerator_2 rfl rfl ?_
    refine x_sipush (y := nI 210) dX7_makeGenerator_3 rfl ?_
    refine x_icmp_ge (tgt := 22) dX7_makeGenerator_6 (by decide) (fun h => False.elim (nI_ge (by omega : i < 210) (by decide) h)) (fun _ => ?_)
    refine x_aload_n dX7_makeGenerator_9 rfl rfl ?_
    refine x_getf (ci := 6) (kf := 9) dX7_makeGenerator_10 rfl uX7 (by decide) fl_RX7_16 (gn hO (by decide)) rfl ?_
    refine x_iload_n dX7_makeGenerator_13 rfl rfl ?_
    refine x_iconst (y := nI 0) dX7_makeGenerator_14 rfl ?_
    refine x_ist (j := i) (M1 := (M.set (141) (.inl (0, 210, .inl (fun j => nI ((gz gg (i + 1)) j).toNat))))) dX7_makeGenerator_15 (gs hgg) rfl (by omega) (by decide) (by rw [show upd (fun j => nI ((gz gg (i)) j).toNat) (i) (nI 0) = (fun j => nI ((gz gg (i + 1)) j).toNat) from ((zupi (x := false)).trans (congrArg (fun z : Nat → Bool => fun j => nI (z j).toNat) gz_step))] <;> exact (ss0)) ?_
    refine x_iinc (y := nI ((i) + 1)) (ls' := [some (.ref (138)), some (.int (nI ro)), some (.int (nI ((i) + 1))), none, none, none, none, none]) dX7_makeGenerator_16 (by decide) rfl rfl (ii_add _ 1) rfl ?_
    refine x_goto (tgt := 2) dX7_makeGenerator_19 (by decide) ?_
    exact ih (i + 1) (by omega)
theorem lp_mgc {X : Ev} {M0 M M' : Hp} {v : Option Value} {op : Int32} {m t d r n tn : Nat} {me ri lt : Int32} (hO : M[138]? = some (.inr (6, [.int (op), .int (nI m), .int (nI t), .int (nI d), .int (nI r), .int (nI n), .int (nI (2 ^ m - 1)), .ref (139), .ref (140), .ref (141), .ref (142), .ref (143), .ref (144), .ref (145), .ref (146), .ref (147), .int (nI tn), .int (me), .int (ri), .int (lt), .ref (148), .ref (149), .ref (150), .ref (151), .ref (152), .ref (153), .ref (154)]))) {gg : Nat → Bool} (hgg : M[141]? = some (.inl (0, 210, .inl (fun j => nI ((gg) j).toNat)))) {sp : Nat → Bool} (hsp : M[149]? = some (.inl (0, 210, .inl (fun j => nI ((sp) j).toNat)))) {ro deg : Nat} (hdg : deg < 200) {a3 a4 : Int32} {g sq : Nat → Bool} (k : G X 3 jX7_makeGenerator M0 104 [some (.ref (138)), some (.int (nI ro)), some (.int (nI deg)), some (.int (a3)), some (.int (a4)), some (.int (nI ((deg + 1)))), none, none] [] ((M.set (141) (.inl (0, 210, .inl (fun j => nI ((gz g ((deg + 1))) j).toNat)))).set (149) (.inl (0, 210, .inl (fun j => nI ((scp sq g ((deg + 1))) j).toNat)))) v M') : ∀ (zz i : Nat), i + zz = (deg + 1) → G X 3 jX7_makeGenerator M0 70 [some (.ref (138)), some (.int (nI ro)), some (.int (nI deg)), some (.int (a3)), some (.int (a4)), some (.int (nI (i))), none, none] [] ((M.set (141) (.inl (0, 210, .inl (fun j => nI ((gz g (i)) j).toNat)))).set (149) (.inl (0, 210, .inl (fun j => nI ((scp sq g (i)) j).toNat)))) v M' := by
  intro zz
  induction zz with
  | zero =>
    intro i hi
    have hi : i = (deg + 1) := by omega
    subst hi
    refine x_iload dX7_makeGenerator_70 rfl ?_
    refine x_iload_n dX7_makeGenerator_72 rfl rfl ?_
    refine x_icmp_gt (tgt := 104) dX7_makeGenerator_73 (by decide) (fun _ => ?_) (fun h => False.elim (h ((nI_ltI (by omega) (by omega)).mpr (by omega))))
    exact k
  | succ zz ih =>
    intro i hi
    refine x_iload dX7_makeGenerator_70 rfl ?_
    refine x_iload_n dX7_makeGenerator_72 rfl rfl ?_
    refine x_icmp_gt (tgt := 104) dX7_makeGenerator_73 (by decide) (fun h => False.elim (absurd ((nI_ltI (by omega) (by omega)).mp h) (by omega))) (fun _ => ?_)
    refine x_aload_n dX7_makeGenerator_76 rfl rfl ?_
    refine x_getf (ci := 6) (kf := 21) dX7_makeGenerator_77 rfl uX7 (by decide) fl_RX7_42 (gn (gn hO (by decide)) (by decide)) rfl ?_
    refine x_iload dX7_makeGenerator_80 rfl ?_
    refine x_aload_n dX7_makeGenerator_82 rfl rfl ?_
    refine x_getf (ci := 6) (kf := 9) dX7_makeGenerator_83 rfl uX7 (by decide) fl_RX7_16 (gn (gn hO (by decide)) (by decide)) rfl ?_
    refine x_iload dX7_makeGenerator_86 rfl ?_
    refine x_ild (j := i) dX7_makeGenerator_88 (gn (gs hgg) (by decide)) rfl (by omega) (by decide) ?_
    refine x_ist (j := i) (M1 := ((M.set (141) (.inl (0, 210, .inl (fun j => nI ((gz g (i)) j).toNat)))).set (149) (.inl (0, 210, .inl (fun j => nI ((scp sq g (i + 1)) j).toNat))))) dX7_makeGenerator_89 (gs (gn hsp (by decide))) rfl (by omega) (by decide) (by rw [show upd (fun j => nI ((scp sq g (i)) j).toNat) (i) (nI ((gz g (i)) (i)).toNat) = (fun j => nI ((scp sq g (i + 1)) j).toNat) from (zupi.trans (congrArg (fun z : Nat → Bool => fun j => nI (z j).toNat) scp_step))] <;> exact (ss0)) ?_
    refine x_aload_n dX7_makeGenerator_90 rfl rfl ?_
    refine x_getf (ci := 6) (kf := 9) dX7_makeGenerator_91 rfl uX7 (by decide) fl_RX7_16 (gn (gn hO (by decide)) (by decide)) rfl ?_
    refine x_iload dX7_makeGenerator_94 rfl ?_
    refine x_iconst (y := nI 0) dX7_makeGenerator_96 rfl ?_
    refine x_ist (j := i) (M1 := ((M.set (141) (.inl (0, 210, .inl (fun j => nI ((gz g (i + 1)) j).toNat)))).set (149) (.inl (0, 210, .inl (fun j => nI ((scp sq g (i + 1)) j).toNat))))) dX7_makeGenerator_97 (gn (gs hgg) (by decide)) rfl (by omega) (by decide) (by rw [show upd (fun j => nI ((gz g (i)) j).toNat) (i) (nI 0) = (fun j => nI ((gz g (i + 1)) j).toNat) from ((zupi (x := false)).trans (congrArg (fun z : Nat → Bool => fun j => nI (z j).toNat) gz_step))] <;> exact (ss1 (by decide))) ?_
    refine x_iinc (y := nI ((i) + 1)) (ls' := [some (.ref (138)), some (.int (nI ro)), some (.int (nI deg)), some (.int (a3)), some (.int (a4)), some (.int (nI ((i) + 1))), none, none]) dX7_makeGenerator_98 (by decide) rfl rfl (ii_add _ 1) rfl ?_
    refine x_goto (tgt := 70) dX7_makeGenerator_101 (by decide) ?_
    exact ih (i + 1) (by omega)
theorem lp_mgi {X : Ev} {M0 M M' : Hp} {v : Option Value} {op : Int32} {m t d r n tn : Nat} {me ri lt : Int32} (hO : M[138]? = some (.inr (6, [.int (op), .int (nI m), .int (nI t), .int (nI d), .int (nI r), .int (nI n), .int (nI (2 ^ m - 1)), .ref (139), .ref (140), .ref (141), .ref (142), .ref (143), .ref (144), .ref (145), .ref (146), .ref (147), .int (nI tn), .int (me), .int (ri), .int (lt), .ref (148), .ref (149), .ref (150), .ref (151), .ref (152), .ref (153), .ref (154)]))) {gg : Nat → Bool} (hgg : M[141]? = some (.inl (0, 210, .inl (fun j => nI ((gg) j).toNat)))) {sq : Nat → Bool} (hsp : M[149]? = some (.inl (0, 210, .inl (fun j => nI ((sq) j).toNat)))) {ro deg jj : Nat} (hdg : deg + jj < 210) (hjj : jj < 14) {a3 a4 a5 : Int32} {g : Nat → Bool} (k : G X 3 jX7_makeGenerator M0 167 [some (.ref (138)), some (.int (nI ro)), some (.int (nI deg)), some (.int (a3)), some (.int (a4)), some (.int (a5)), some (.int (nI jj)), some (.int (nI ((deg + 1))))] [] (M.set (141) (.inl (0, 210, .inl (fun j => nI ((gad g sq jj ((deg + 1))) j).toNat)))) v M') : ∀ (zz i : Nat), i + zz = (deg + 1) → G X 3 jX7_makeGenerator M0 135 [some (.ref (138)), some (.int (nI ro)), some (.int (nI deg)), some (.int (a3)), some (.int (a4)), some (.int (a5)), some (.int (nI jj)), some (.int (nI (i)))] [] (M.set (141) (.inl (0, 210, .inl (fun j => nI ((gad g sq jj (i)) j).toNat)))) v M' := by
  intro zz
  induction zz with
  | zero =>
    intro i hi
    have hi : i = (deg + 1) := by omega
    subst hi
    refine x_iload dX7_makeGenerator_135 rfl ?_
    refine x_iload_n dX7_makeGenerator_137 rfl rfl ?_
    refine x_icmp_gt (tgt := 167) dX7_makeGenerator_138 (by decide) (fun _ => ?_) (fun h => False.elim (h ((nI_ltI (by omega) (by omega)).mpr (by omega))))
    exact k
  | succ zz ih =>
    intro i hi
    refine x_iload dX7_makeGenerator_135 rfl ?_
    refine x_iload_n dX7_makeGenerator_137 rfl rfl ?_
    refine x_icmp_gt (tgt := 167) dX7_makeGenerator_138 (by decide) (fun h => False.elim (absurd ((nI_ltI (by omega) (by omega)).mp h) (by omega))) (fun _ => ?_)
    refine x_aload_n dX7_makeGenerator_141 rfl rfl ?_
    refine x_getf (ci := 6) (kf := 9) dX7_makeGenerator_142 rfl uX7 (by decide) fl_RX7_16 (gn hO (by decide)) rfl ?_
    refine x_iload dX7_makeGenerator_145 rfl ?_
    refine x_iload dX7_makeGenerator_147 rfl ?_
    refine x_iadd dX7_makeGenerator_149 ?_
    refine x_casti (y := nI (i + jj)) (nI_add _ _) ?_
    refine x_dup2 dX7_makeGenerator_150 rfl rfl ?_
    refine x_ild (j := i + jj) dX7_makeGenerator_151 (gs hgg) rfl (by omega) (by decide) ?_
    refine x_aload_n dX7_makeGenerator_152 rfl rfl ?_
    refine x_getf (ci := 6) (kf := 21) dX7_makeGenerator_153 rfl uX7 (by decide) fl_RX7_42 (gn hO (by decide)) rfl ?_
    refine x_iload dX7_makeGenerator_156 rfl ?_
    refine x_ild (j := i) dX7_makeGenerator_158 (gn hsp (by decide)) rfl (by omega) (by decide) ?_
    refine x_ixor dX7_makeGenerator_159 ?_
    refine x_casti (y := nI (gad g sq jj i (i + jj) ^^ sq i).toNat) (xorb) ?_
    refine x_ist (j := i + jj) (M1 := (M.set (141) (.inl (0, 210, .inl (fun j => nI ((gad g sq jj (i + 1)) j).toNat))))) dX7_makeGenerator_160 (gs hgg) rfl (by omega) (by decide) (by rw [show upd (fun j => nI ((gad g sq jj (i)) j).toNat) (i + jj) (nI (gad g sq jj i (i + jj) ^^ sq i).toNat) = (fun j => nI ((gad g sq jj (i + 1)) j).toNat) from zupi] <;> exact (ss0)) ?_
    refine x_iinc (y := nI ((i) + 1)) (ls' := [some (.ref (138)), some (.int (nI ro)), some (.int (nI deg)), some (.int (a3)), some (.int (a4)), some (.int (a5)), some (.int (nI jj)), some (.int (nI ((i) + 1)))]) dX7_makeGenerator_161 (by decide) rfl rfl (ii_add _ 1) rfl ?_
    refine x_goto (tgt := 135) dX7_makeGenerator_164 (by decide) ?_
    exact ih (i + 1) (by omega)
theorem gm_fw {X : Ev} {d' : Nat} {M0 M M' : Hp} {v : Option Value} {pc : Nat} {a b c e f g h i : Value} (kc : G X d' jX7_makeGenerator M0 pc [some a, some b, some c, some e, some f, some g, some h, none] [] M v M') : G X d' jX7_makeGenerator M0 pc [some a, some b, some c, some e, some f, some g, some h, some i] [] M v M' := x_fewer (fun q w h => by match q, h with | 0, h => exact h | 1, h => exact h | 2, h => exact h | 3, h => exact h | 4, h => exact h | 5, h => exact h | 6, h => exact h | 7, h => cases h | q + 8, h => cases h) kc
theorem lp_mgp {X : Ev} {M0 M M' : Hp} {v : Option Value} {op : Int32} {m t d r n tn : Nat} {me ri lt : Int32} (hO : M[138]? = some (.inr (6, [.int (op), .int (nI m), .int (nI t), .int (nI d), .int (nI r), .int (nI n), .int (nI (2 ^ m - 1)), .ref (139), .ref (140), .ref (141), .ref (142), .ref (143), .ref (144), .ref (145), .ref (146), .ref (147), .int (nI tn), .int (me), .int (ri), .int (lt), .ref (148), .ref (149), .ref (150), .ref (151), .ref (152), .ref (153), .ref (154)]))) {gg : Nat → Bool} (hgg : M[141]? = some (.inl (0, 210, .inl (fun j => nI ((gg) j).toNat)))) {sq : Nat → Bool} (hsp : M[149]? = some (.inl (0, 210, .inl (fun j => nI ((sq) j).toNat)))) {ro deg vv : Nat} (hdg : deg < 197) (hvv : vv < 2 ^ 31) {a3 : Int32} {g : Nat → Bool} (k : G X 3 jX7_makeGenerator M0 173 [some (.ref (138)), some (.int (nI ro)), some (.int (nI deg)), some (.int (a3)), some (.int (nI vv)), some (.int (nI (gml g sq deg vv (14)).2)), some (.int (nI 14)), none] [] (M.set (141) (.inl (0, 210, .inl (fun j => nI (((gml g sq deg vv (14)).1) j).toNat)))) v M') : ∀ (zz q : Nat), q + zz = 14 → G X 3 jX7_makeGenerator M0 110 [some (.ref (138)), some (.int (nI ro)), some (.int (nI deg)), some (.int (a3)), some (.int (nI vv)), some (.int (nI (gml g sq deg vv (q)).2)), some (.int (nI (q))), none] [] (M.set (141) (.inl (0, 210, .inl (fun j => nI (((gml g sq deg vv (q)).1) j).toNat)))) v M' := by
  intro zz
  induction zz with
  | zero =>
    intro q hqq
    have hqq : q = 14 := by omega
    subst hqq
    refine x_iload dX7_makeGenerator_110 rfl ?_
    refine x_bipush (y := nI 14) dX7_makeGenerator_112 rfl ?_
    refine x_icmp_ge (tgt := 173) dX7_makeGenerator_114 (by decide) (fun _ => ?_) (fun h => False.elim (h (nI_le (Nat.le_refl _) (by decide))))
    exact k
  | succ zz ih =>
    intro q hqq
    have hk := ih (q + 1) (by omega)
    have e1 : gml g sq deg vv (q + 1) = if vv.testBit q then (gad (gml g sq deg vv (q)).1 sq q (deg + 1), q) else (gml g sq deg vv (q)) := rfl
    refine x_iload dX7_makeGenerator_110 rfl ?_
    refine x_bipush (y := nI 14) dX7_makeGenerator_112 rfl ?_
    refine x_icmp_ge (tgt := 173) dX7_makeGenerator_114 (by decide) (fun h => False.elim (nI_ge (by omega : q < 14) (by decide) h)) (fun _ => ?_)
    refine x_iload dX7_makeGenerator_117 rfl ?_
    refine x_iload dX7_makeGenerator_119 rfl ?_
    refine x_ishr dX7_makeGenerator_121 ?_
    refine x_iconst (y := nI 1) dX7_makeGenerator_122 rfl ?_
    refine x_iand dX7_makeGenerator_123 ?_
    refine x_casti (y := nI (vv.testBit q).toNat) (bit_k hvv (by omega)) ?_
    refine x_iconst (y := nI 1) dX7_makeGenerator_124 rfl ?_
    refine x_icmp_ne (tgt := 167) dX7_makeGenerator_125 (by decide) (fun h125 => ?_) (fun h125 => ?_)
    · refine x_iinc (y := nI ((q) + 1)) (ls' := [some (.ref (138)), some (.int (nI ro)), some (.int (nI deg)), some (.int (a3)), some (.int (nI vv)), some (.int (nI (gml g sq deg vv (q)).2)), some (.int (nI ((q) + 1))), none]) dX7_makeGenerator_167 (by decide) rfl rfl (ii_add _ 1) rfl ?_
      refine x_goto (tgt := 110) dX7_makeGenerator_170 (by decide) ?_
      rw [e1, if_neg (rb0 h125)] at hk
      exact hk
    · refine x_iload dX7_makeGenerator_128 rfl ?_
      refine x_istore (ls' := [some (.ref (138)), some (.int (nI ro)), some (.int (nI deg)), some (.int (a3)), some (.int (nI vv)), some (.int (nI (q))), some (.int (nI (q))), none]) dX7_makeGenerator_130 (by decide) rfl rfl ?_
      refine x_iconst (y := nI 0) dX7_makeGenerator_132 rfl ?_
      refine x_istore (ls' := [some (.ref (138)), some (.int (nI ro)), some (.int (nI deg)), some (.int (a3)), some (.int (nI vv)), some (.int (nI (q))), some (.int (nI (q))), some (.int (nI 0))]) dX7_makeGenerator_133 (by decide) rfl rfl ?_
      refine lp_mgi (jj := q) (g := (gml g sq deg vv (q)).1) hO hgg hsp (by omega) (by omega) ?_ (deg + 1) 0 (by omega)
      refine x_iinc (y := nI (q + 1)) (ls' := [some (.ref (138)), some (.int (nI ro)), some (.int (nI deg)), some (.int (a3)), some (.int (nI vv)), some (.int (nI q)), some (.int (nI (q + 1))), some (.int (nI (deg + 1)))]) dX7_makeGenerator_167 (by decide) rfl rfl (ii_add _ 1) rfl ?_
      refine x_goto (tgt := 110) dX7_makeGenerator_170 (by decide) ?_
      rw [e1, if_pos (rb1 h125)] at hk
      refine gm_fw ?_
      exact hk
theorem gn_fw {X : Ev} {d' : Nat} {M0 M M' : Hp} {v : Option Value} {pc : Nat} {a b c e : Value} {f g h i : Option Value} (kc : G X d' jX7_makeGenerator M0 pc [some a, some b, some c, some e, none, none, none, none] [] M v M') : G X d' jX7_makeGenerator M0 pc [some a, some b, some c, some e, f, g, h, i] [] M v M' := x_fewer (fun q w h => by match q, h with | 0, h => exact h | 1, h => exact h | 2, h => exact h | 3, h => exact h | 4, h => cases h | 5, h => cases h | 6, h => cases h | 7, h => cases h | q + 8, h => cases h) kc
theorem lp_mgm {X : Ev} {M0 M : Hp} {op : Int32} {m t d r n tn : Nat} {me ri lt : Int32} (hO : M[138]? = some (.inr (6, [.int (op), .int (nI m), .int (nI t), .int (nI d), .int (nI r), .int (nI n), .int (nI (2 ^ m - 1)), .ref (139), .ref (140), .ref (141), .ref (142), .ref (143), .ref (144), .ref (145), .ref (146), .ref (147), .int (nI tn), .int (me), .int (ri), .int (lt), .ref (148), .ref (149), .ref (150), .ref (151), .ref (152), .ref (153), .ref (154)]))) {pw : Nat → Int32} (hp : M[139]? = some (.inl (0, 8192, .inl (pw)))) {lg : Nat → Int32} (hq : M[140]? = some (.inl (0, 8192, .inl (lg)))) {gg : Nat → Bool} (hgg : M[141]? = some (.inl (0, 210, .inl (fun j => nI ((gg) j).toNat)))) {md : Nat → Nat} (hmd : M[148]? = some (.inl (0, 16, .inl (fun j => nI ((md) j))))) {sp : Nat → Bool} (hsp : M[149]? = some (.inl (0, 210, .inl (fun j => nI ((sp) j).toNat)))) (hF : FT pw lg m) {ro : Nat} (hro : ro ≤ 16) : ∀ (zz i : Nat) (s : Gm), i + zz = ro + 1 → 1 ≤ i → s.2.1 ≤ 13 * (i - 1) → G X 3 jX7_makeGenerator M0 33 [some (.ref (138)), some (.int (nI ro)), some (.int (nI s.2.1)), some (.int (nI (i))), none, none, none, none] [] (((M.set (141) (.inl (0, 210, .inl (fun j => nI ((s.1) j).toNat)))).set (148) (.inl (0, 16, .inl (fun j => nI ((s.2.2.1) j))))).set (149) (.inl (0, 210, .inl (fun j => nI ((s.2.2.2) j).toNat)))) (some (.int (nI (mgo m zz i s).2.1))) (((M.set (141) (.inl (0, 210, .inl (fun j => nI (((mgo m zz i s).1) j).toNat)))).set (148) (.inl (0, 16, .inl (fun j => nI (((mgo m zz i s).2.2.1) j))))).set (149) (.inl (0, 210, .inl (fun j => nI (((mgo m zz i s).2.2.2) j).toNat)))) := by
  have ht := two_le hF.1.1 hF.1.2
  have hm3 := hF.1.1
  have hm13 := hF.1.2
  intro zz
  induction zz with
  | zero =>
    intro i s hii hi1 hsd
    have hii : i = ro + 1 := by omega
    subst hii
    show G X 3 jX7_makeGenerator M0 33 _ [] _ (some (.int (nI s.2.1))) (((M.set (141) (.inl (0, 210, .inl (fun j => nI ((s.1) j).toNat)))).set (148) (.inl (0, 16, .inl (fun j => nI ((s.2.2.1) j))))).set (149) (.inl (0, 210, .inl (fun j => nI ((s.2.2.2) j).toNat))))
    refine x_iload_n dX7_makeGenerator_33 rfl rfl ?_
    refine x_iload_n dX7_makeGenerator_34 rfl rfl ?_
    refine x_icmp_gt (tgt := 184) dX7_makeGenerator_35 (by decide) (fun _ => ?_) (fun h => False.elim (h ((nI_ltI (by omega) (by omega)).mpr (by omega))))
    refine x_iload_n dX7_makeGenerator_184 rfl rfl ?_
    exact x_ireturn_eq dX7_makeGenerator_185 rfl rfl
  | succ zz ih =>
    intro i s hii hi1 hsd
    have hei : (i % (2 ^ m - 1)) < (2 ^ m - 1) := Nat.mod_lt _ (by omega)
    have hrl := rsum_lt hm3 hm13 (rq := s.1) (s := (i % (2 ^ m - 1))) (s.2.1 + 1)
    have hvl := mpoly_lt (i := (i % (2 ^ m - 1))) hm3 hm13
    have hgl := gml_le (g := gz s.1 (s.2.1 + 1)) (sp := scp s.2.2.2 s.1 (s.2.1 + 1)) (deg := s.2.1) (v := mpoly m (i % (2 ^ m - 1))) 14
    show G X 3 jX7_makeGenerator M0 33 _ [] _ (some (.int (nI (mgo m zz (i + 1) (mgx m i s)).2.1))) (((M.set (141) (.inl (0, 210, .inl (fun j => nI (((mgo m zz (i + 1) (mgx m i s)).1) j).toNat)))).set (148) (.inl (0, 16, .inl (fun j => nI (((mgo m zz (i + 1) (mgx m i s)).2.2.1) j))))).set (149) (.inl (0, 210, .inl (fun j => nI (((mgo m zz (i + 1) (mgx m i s)).2.2.2) j).toNat))))
    refine x_iload_n dX7_makeGenerator_33 rfl rfl ?_
    refine x_iload_n dX7_makeGenerator_34 rfl rfl ?_
    refine x_icmp_gt (tgt := 184) dX7_makeGenerator_35 (by decide) (fun h => False.elim (absurd ((nI_ltI (by omega) (by omega)).mp h) (by omega))) (fun _ => ?_)
    refine x_aload_n dX7_makeGenerator_38 rfl rfl ?_
    refine x_iload_n dX7_makeGenerator_39 rfl rfl ?_
    refine x_iload_n dX7_makeGenerator_40 rfl rfl ?_
    refine x_aload_n dX7_makeGenerator_41 rfl rfl ?_
    refine x_getf (ci := 6) (kf := 6) dX7_makeGenerator_42 rfl uX7 (by decide) fl_RX7_64 (gn (gn (gn hO (by decide)) (by decide)) (by decide)) rfl ?_
    refine x_irem dX7_makeGenerator_45 (nI_nz (by omega) (by omega)) ?_
    refine x_casti (y := nI (i % (2 ^ m - 1))) (rem_n (by omega) (by omega) (by omega)) ?_
    refine x_callV (ci := 6) (as := [.int (nI s.2.1), .int (nI (i % (2 ^ m - 1)))]) dX7_makeGenerator_46 mk_X7_generatorAt in_X7_generatorAt se_X7_generatorAt ml_RX7_80 rfl (gn (gn (gn hO (by decide)) (by decide)) (by decide)) (by decide) rfl rfl (Nat.le_of_ble_eq_true rfl) (c_generatorAt (gn (gn (gn hO (by decide)) (by decide)) (by decide)) (gn (gn (gn hp (by decide)) (by decide)) (by decide)) (gn (gn (gs hgg) (by decide)) (by decide)) hF (by omega) (by omega)) ?_
    refine x_if_ne (tgt := 55) dX7_makeGenerator_49 (by decide) (fun h49 => ?_) (fun h49 => ?_)
    · refine x_aload_n dX7_makeGenerator_55 rfl rfl ?_
      refine x_iload_n dX7_makeGenerator_56 rfl rfl ?_
      refine x_aload_n dX7_makeGenerator_57 rfl rfl ?_
      refine x_getf (ci := 6) (kf := 6) dX7_makeGenerator_58 rfl uX7 (by decide) fl_RX7_64 (gn (gn (gn hO (by decide)) (by decide)) (by decide)) rfl ?_
      refine x_irem dX7_makeGenerator_61 (nI_nz (by omega) (by omega)) ?_
      refine x_casti (y := nI (i % (2 ^ m - 1))) (rem_n (by omega) (by omega) (by omega)) ?_
      refine x_callV (ci := 6) (as := [.int (nI (i % (2 ^ m - 1)))]) dX7_makeGenerator_62 mk_X7_minimalOf in_X7_minimalOf se_X7_minimalOf ml_RX7_83 rfl (gn (gn (gn hO (by decide)) (by decide)) (by decide)) (by decide) rfl rfl (Nat.le_of_ble_eq_true rfl) (c_minimalOf (gn (gn (gn hO (by decide)) (by decide)) (by decide)) (gn (gn (gn hp (by decide)) (by decide)) (by decide)) (gn (gn (gn hq (by decide)) (by decide)) (by decide)) (gn (gs (gn hmd (by decide))) (by decide)) hF hei) ?_
      refine G.hp (show ((((M.set (141) (.inl (0, 210, .inl (fun j => nI ((s.1) j).toNat)))).set (148) (.inl (0, 16, .inl (fun j => nI ((s.2.2.1) j))))).set (149) (.inl (0, 210, .inl (fun j => nI ((s.2.2.2) j).toNat)))).set (148) (.inl (0, 16, .inl (fun j => nI ((mdc m (i % (2 ^ m - 1)) s.2.2.1 (csize (i % (2 ^ m - 1)) m)) j)))) : Hp) = (((M.set (141) (.inl (0, 210, .inl (fun j => nI ((s.1) j).toNat)))).set (148) (.inl (0, 16, .inl (fun j => nI ((mdc m (i % (2 ^ m - 1)) s.2.2.1 (csize (i % (2 ^ m - 1)) m)) j))))).set (149) (.inl (0, 210, .inl (fun j => nI ((s.2.2.2) j).toNat)))) from (ss1 (by decide))) ?_
      refine x_istore (ls' := [some (.ref (138)), some (.int (nI ro)), some (.int (nI s.2.1)), some (.int (nI (i))), some (.int (nI (mpoly m (i % (2 ^ m - 1))))), none, none, none]) dX7_makeGenerator_65 (by decide) rfl rfl ?_
      refine x_iconst (y := nI 0) dX7_makeGenerator_67 rfl ?_
      refine x_istore (ls' := [some (.ref (138)), some (.int (nI ro)), some (.int (nI s.2.1)), some (.int (nI (i))), some (.int (nI (mpoly m (i % (2 ^ m - 1))))), some (.int (nI 0)), none, none]) dX7_makeGenerator_68 (by decide) rfl rfl ?_
      have hx : mgx m i s = ((gml (gz s.1 (s.2.1 + 1)) (scp s.2.2.2 s.1 (s.2.1 + 1)) s.2.1 (mpoly m (i % (2 ^ m - 1))) 14).1, s.2.1 + (gml (gz s.1 (s.2.1 + 1)) (scp s.2.2.2 s.1 (s.2.1 + 1)) s.2.1 (mpoly m (i % (2 ^ m - 1))) 14).2, mdc m (i % (2 ^ m - 1)) s.2.2.1 (csize (i % (2 ^ m - 1)) m), scp s.2.2.2 s.1 (s.2.1 + 1)) := if_neg (fun z => h49 (by rw [z]; rfl))
      refine G.hp (show _ = (((M.set (148) (.inl (0, 16, .inl (fun j => nI ((mdc m (i % (2 ^ m - 1)) s.2.2.1 (csize (i % (2 ^ m - 1)) m)) j))))).set (141) (.inl (0, 210, .inl (fun j => nI ((gz s.1 0) j).toNat)))).set (149) (.inl (0, 210, .inl (fun j => nI ((scp s.2.2.2 s.1 0) j).toNat)))) from by rw [gz_0, scp_0]; rw [List.set_comm _ _ (by decide : (141 : Nat) ≠ 148)]) (lp_mgc (M := (M.set (148) (.inl (0, 16, .inl (fun j => nI ((mdc m (i % (2 ^ m - 1)) s.2.2.1 (csize (i % (2 ^ m - 1)) m)) j)))))) (g := s.1) (sq := s.2.2.2) (gn hO (by decide)) (gn hgg (by decide)) (gn hsp (by decide)) (by omega) ?_ (s.2.1 + 1) 0 (by omega))
      refine x_iconst (y := nI 0) dX7_makeGenerator_104 rfl ?_
      refine x_istore (ls' := [some (.ref (138)), some (.int (nI ro)), some (.int (nI s.2.1)), some (.int (nI i)), some (.int (nI (mpoly m (i % (2 ^ m - 1))))), some (.int (nI 0)), none, none]) dX7_makeGenerator_105 (by decide) rfl rfl ?_
      refine x_iconst (y := nI 0) dX7_makeGenerator_107 rfl ?_
      refine x_istore (ls' := [some (.ref (138)), some (.int (nI ro)), some (.int (nI s.2.1)), some (.int (nI i)), some (.int (nI (mpoly m (i % (2 ^ m - 1))))), some (.int (nI 0)), some (.int (nI 0)), none]) dX7_makeGenerator_108 (by decide) rfl rfl ?_
      refine G.hp (show _ = (((M.set (148) (.inl (0, 16, .inl (fun j => nI ((mdc m (i % (2 ^ m - 1)) s.2.2.1 (csize (i % (2 ^ m - 1)) m)) j))))).set (149) (.inl (0, 210, .inl (fun j => nI ((scp s.2.2.2 s.1 (s.2.1 + 1)) j).toNat)))).set (141) (.inl (0, 210, .inl (fun j => nI ((gz s.1 (s.2.1 + 1)) j).toNat)))) from List.set_comm _ _ (by decide)) (lp_mgp (M := ((M.set (148) (.inl (0, 16, .inl (fun j => nI ((mdc m (i % (2 ^ m - 1)) s.2.2.1 (csize (i % (2 ^ m - 1)) m)) j))))).set (149) (.inl (0, 210, .inl (fun j => nI ((scp s.2.2.2 s.1 (s.2.1 + 1)) j).toNat))))) (g := gz s.1 (s.2.1 + 1)) (sq := scp s.2.2.2 s.1 (s.2.1 + 1)) (vv := mpoly m (i % (2 ^ m - 1))) (gn (gn hO (by decide)) (by decide)) (gn (gn hgg (by decide)) (by decide)) (gs (gn hsp (by decide))) (by omega) (by omega) ?_ 14 0 (by omega))
      refine x_iload_n dX7_makeGenerator_173 rfl rfl ?_
      refine x_iload dX7_makeGenerator_174 rfl ?_
      refine x_iadd dX7_makeGenerator_176 ?_
      refine x_casti (y := nI (s.2.1 + (gml (gz s.1 (s.2.1 + 1)) (scp s.2.2.2 s.1 (s.2.1 + 1)) s.2.1 (mpoly m (i % (2 ^ m - 1))) 14).2)) (nI_add _ _) ?_
      refine x_istore_n (ls' := [some (.ref (138)), some (.int (nI ro)), some (.int (nI (s.2.1 + (gml (gz s.1 (s.2.1 + 1)) (scp s.2.2.2 s.1 (s.2.1 + 1)) s.2.1 (mpoly m (i % (2 ^ m - 1))) 14).2))), some (.int (nI i)), some (.int (nI (mpoly m (i % (2 ^ m - 1))))), some (.int (nI (gml (gz s.1 (s.2.1 + 1)) (scp s.2.2.2 s.1 (s.2.1 + 1)) s.2.1 (mpoly m (i % (2 ^ m - 1))) 14).2)), some (.int (nI 14)), none]) dX7_makeGenerator_177 rfl (by decide) rfl rfl ?_
      refine x_iinc (y := nI (i + 1)) (ls' := [some (.ref (138)), some (.int (nI ro)), some (.int (nI (s.2.1 + (gml (gz s.1 (s.2.1 + 1)) (scp s.2.2.2 s.1 (s.2.1 + 1)) s.2.1 (mpoly m (i % (2 ^ m - 1))) 14).2))), some (.int (nI (i + 1))), some (.int (nI (mpoly m (i % (2 ^ m - 1))))), some (.int (nI (gml (gz s.1 (s.2.1 + 1)) (scp s.2.2.2 s.1 (s.2.1 + 1)) s.2.1 (mpoly m (i % (2 ^ m - 1))) 14).2)), some (.int (nI 14)), none]) dX7_makeGenerator_178 (by decide) rfl rfl (ii_add _ 1) rfl ?_
      refine x_goto (tgt := 33) dX7_makeGenerator_181 (by decide) ?_
      have hk := ih (i + 1) (mgx m i s) (by omega) (by omega) (by rw [hx]; show s.2.1 + (gml (gz s.1 (s.2.1 + 1)) (scp s.2.2.2 s.1 (s.2.1 + 1)) s.2.1 (mpoly m (i % (2 ^ m - 1))) 14).2 ≤ _; omega)
      refine G.hp (show _ = (((M.set (141) (.inl (0, 210, .inl (fun j => nI (((gml (gz s.1 (s.2.1 + 1)) (scp s.2.2.2 s.1 (s.2.1 + 1)) s.2.1 (mpoly m (i % (2 ^ m - 1))) 14).1) j).toNat)))).set (148) (.inl (0, 16, .inl (fun j => nI ((mdc m (i % (2 ^ m - 1)) s.2.2.1 (csize (i % (2 ^ m - 1)) m)) j))))).set (149) (.inl (0, 210, .inl (fun j => nI ((scp s.2.2.2 s.1 (s.2.1 + 1)) j).toNat)))) from by rw [List.set_comm _ _ (by decide : (149 : Nat) ≠ 141), List.set_comm _ _ (by decide : (148 : Nat) ≠ 141)]) ?_
      refine gn_fw ?_
      rw [hx] at hk ⊢
      exact hk
    · refine x_goto (tgt := 178) dX7_makeGenerator_52 (by decide) ?_
      refine x_iinc (y := nI ((i) + 1)) (ls' := [some (.ref (138)), some (.int (nI ro)), some (.int (nI s.2.1)), some (.int (nI ((i) + 1))), none, none, none, none]) dX7_makeGenerator_178 (by decide) rfl rfl (ii_add _ 1) rfl ?_
      refine x_goto (tgt := 33) dX7_makeGenerator_181 (by decide) ?_
      have hx : mgx m i s = s := if_pos ((nI_eq (by omega) (by decide)).mp h49)
      have hk := ih (i + 1) (mgx m i s) (by omega) (by omega) (by rw [hx]; omega)
      rw [hx] at hk ⊢
      exact hk
theorem c_makeGenerator {X : Ev} {M : Hp} {op : Int32} {m t d r n tn : Nat} {me ri lt : Int32} (hO : M[138]? = some (.inr (6, [.int (op), .int (nI m), .int (nI t), .int (nI d), .int (nI r), .int (nI n), .int (nI (2 ^ m - 1)), .ref (139), .ref (140), .ref (141), .ref (142), .ref (143), .ref (144), .ref (145), .ref (146), .ref (147), .int (nI tn), .int (me), .int (ri), .int (lt), .ref (148), .ref (149), .ref (150), .ref (151), .ref (152), .ref (153), .ref (154)]))) {pw : Nat → Int32} (hp : M[139]? = some (.inl (0, 8192, .inl (pw)))) {lg : Nat → Int32} (hq : M[140]? = some (.inl (0, 8192, .inl (lg)))) {gg : Nat → Bool} (hgg : M[141]? = some (.inl (0, 210, .inl (fun j => nI ((gg) j).toNat)))) {md : Nat → Nat} (hmd : M[148]? = some (.inl (0, 16, .inl (fun j => nI ((md) j))))) {sp : Nat → Bool} (hsp : M[149]? = some (.inl (0, 210, .inl (fun j => nI ((sp) j).toNat)))) (hF : FT pw lg m) {ro : Nat} (hro : ro ≤ 16) : Cl X 3 jX7_makeGenerator [.ref (138), .int (nI ro)] M (some (.int (nI (mgo m ro 1 (g0, 0, md, sp)).2.1))) (((M.set (141) (.inl (0, 210, .inl (fun j => nI (((mgo m ro 1 (g0, 0, md, sp)).1) j).toNat)))).set (148) (.inl (0, 16, .inl (fun j => nI (((mgo m ro 1 (g0, 0, md, sp)).2.2.1) j))))).set (149) (.inl (0, 210, .inl (fun j => nI (((mgo m ro 1 (g0, 0, md, sp)).2.2.2) j).toNat)))) := by
  refine Cl.of (ls := [some (.ref (138)), some (.int (nI ro)), none, none, none, none, none, none]) (by decide) rfl (Nat.le_of_ble_eq_true rfl) ?_
  refine x_iconst (y := nI 0) dX7_makeGenerator_0 rfl ?_
  refine x_istore_n (ls' := [some (.ref (138)), some (.int (nI ro)), some (.int (nI 0)), none, none, none, none, none]) dX7_makeGenerator_1 rfl (by decide) rfl rfl ?_
  refine G.hp (set_id hgg (c' := .inl (0, 210, .inl (fun j => nI ((gz gg 0) j).toNat))) (by rw [gz_0])) (lp_mgz hO hgg ?_ 210 0 rfl)
  refine x_aload_n dX7_makeGenerator_22 rfl rfl ?_
  refine x_getf (ci := 6) (kf := 9) dX7_makeGenerator_23 rfl uX7 (by decide) fl_RX7_16 (gn hO (by decide)) rfl ?_
  refine x_iconst (y := nI 0) dX7_makeGenerator_26 rfl ?_
  refine x_iconst (y := nI 1) dX7_makeGenerator_27 rfl ?_
  refine x_ist (j := 0) (M1 := (M.set (141) (.inl (0, 210, .inl (fun j => nI ((bup (gz gg 210) 0 true) j).toNat))))) dX7_makeGenerator_28 (gs hgg) rfl (by omega) (by decide) (by rw [show upd (fun j => nI ((gz gg 210) j).toNat) (0) (nI 1) = (fun j => nI ((bup (gz gg 210) 0 true) j).toNat) from (zupi (x := true))] <;> exact (ss0)) ?_
  refine x_iconst (y := nI 0) dX7_makeGenerator_29 rfl ?_
  refine x_istore_n (ls' := [some (.ref (138)), some (.int (nI ro)), some (.int (nI 0)), none, none, none, none, none]) dX7_makeGenerator_30 rfl (by decide) rfl rfl ?_
  refine x_iconst (y := nI 1) dX7_makeGenerator_31 rfl ?_
  refine x_istore_n (ls' := [some (.ref (138)), some (.int (nI ro)), some (.int (nI 0)), some (.int (nI 1)), none, none, none, none]) dX7_makeGenerator_32 rfl (by decide) rfl rfl ?_
  refine G.same (Sm.set1 (Sc.i (g := fun j => nI ((g0) j).toNat) (fun j hj => g0_gz hj))) ?_
  refine G.hp (show _ = (((M.set (141) (.inl (0, 210, .inl (fun j => nI ((((g0, 0, md, sp) : Gm).1) j).toNat)))).set (148) (.inl (0, 16, .inl (fun j => nI ((((g0, 0, md, sp) : Gm).2.2.1) j))))).set (149) (.inl (0, 210, .inl (fun j => nI ((((g0, 0, md, sp) : Gm).2.2.2) j).toNat)))) from (set_id (gn hmd (by decide)) (c' := .inl (0, 16, .inl (fun j => nI ((md) j)))) rfl).trans (set_id (gn (gn hsp (by decide)) (by decide)) (c' := .inl (0, 210, .inl (fun j => nI ((sp) j).toNat))) rfl)) ?_
  refine gn_fw ?_
  exact lp_mgm hO hp hq hgg hmd hsp hF hro ro 1 (g0, 0, md, sp) (by omega) (Nat.le_refl _) (Nat.zero_le _)
