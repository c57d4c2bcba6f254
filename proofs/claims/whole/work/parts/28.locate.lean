/-! MENDER: the shortest recurrence of the syndromes -/
def d0 : Nat → Nat := fun j => if j = 0 then 1 else 0
theorem d0_eq : upd (fun _ => nI 0) 0 (nI 1) = fun j => nI ((d0) j) := by
  funext j
  show (if j = 0 then nI 1 else nI 0) = nI (if j = 0 then 1 else 0)
  split <;> rfl
def cp17 (f g : Nat → Nat) : Nat → Nat := fun j => if j < 17 then f j else g j
theorem cp17_eq {f g : Nat → Nat} : va_cpy (fun j => nI (f j)) (fun j => nI (g j)) 0 0 17 = fun j => nI ((cp17 f g) j) := by
  funext j
  unfold cp17
  by_cases h : j < 17
  · rw [pk_cpy_in (Nat.zero_le _) (by omega), if_pos h, Nat.zero_add, Nat.sub_zero]
  · rw [pk_cpy_out (Or.inr (by omega)), if_neg h]
/-- locator, earlier, spare, length, lag, earlier miss -/
abbrev Bs : Type := (Nat → Nat) × (Nat → Nat) × (Nat → Nat) × Nat × Nat × Nat
def bmiss (m : Nat) (sy : Nat → Nat) (i : Nat) (s : Bs) : Nat := msl m sy s.1 (i + 1) (min s.2.2.2.1 (i + 1 - 1))
def bsc (m : Nat) (sy : Nat → Nat) (i : Nat) (s : Bs) : Nat := fmul m (bmiss m sy i s) (finv m s.2.2.2.2.2)
def bms (m : Nat) (sy : Nat → Nat) (i : Nat) (s : Bs) : Bs :=
  if bmiss m sy i s = 0 then (s.1, s.2.1, s.2.2.1, s.2.2.2.1, s.2.2.2.2.1 + 1, s.2.2.2.2.2)
  else if i < 2 * s.2.2.2.1 then (adE m s.1 s.2.1 (bsc m sy i s) s.2.2.2.2.1 17, s.2.1, cp17 s.1 s.2.2.1, s.2.2.2.1, s.2.2.2.2.1 + 1, s.2.2.2.2.2)
  else (adE m s.1 s.2.1 (bsc m sy i s) s.2.2.2.2.1 17, cp17 (cp17 s.1 s.2.2.1) s.2.1, cp17 s.1 s.2.2.1, i + 1 - s.2.2.2.1, 1, bmiss m sy i s)
def bml (m : Nat) (sy : Nat → Nat) : Nat → Nat → Bs → Bs
  | 0, _, s => s
  | f + 1, i, s => bml m sy f (i + 1) (bms m sy i s)
def BI (m i : Nat) (s : Bs) : Prop := s.2.2.2.1 ≤ i ∧ s.2.2.2.2.1 ≤ i + 1 ∧ s.2.2.2.2.2 ≠ 0 ∧ s.2.2.2.2.2 < 2 ^ m ∧ (∀ j, j < 17 → s.1 j < 2 ^ m) ∧ (∀ j, j < 17 → s.2.1 j < 2 ^ m)
theorem msl_lt {m : Nat} (h3 : 3 ≤ m) (h13 : m ≤ 13) {sy lc : Nat → Nat} {i : Nat} (h : sy i < 2 ^ m) : ∀ n, msl m sy lc i n < 2 ^ m
  | 0 => h
  | n + 1 => xor_lt (msl_lt h3 h13 h n) (fmul_lt h3 h13)
theorem BI.next {m i : Nat} {s : Bs} {sy : Nat → Nat} (h3 : 3 ≤ m) (h13 : m ≤ 13) (hs : sy (i + 1) < 2 ^ m) (h : BI m i s) : BI m (i + 1) (bms m sy i s) := by
  obtain ⟨h1, h2, h4, h5, h6, h7⟩ := h
  have hml : bmiss m sy i s < 2 ^ m := msl_lt h3 h13 hs _
  have had : ∀ j, j < 17 → adE m s.1 s.2.1 (bsc m sy i s) s.2.2.2.2.1 17 j < 2 ^ m := fun j hj => by
    unfold adE
    split
    · exact xor_lt (h6 j hj) (fmul_lt h3 h13)
    · exact h6 j hj
  unfold bms
  split
  · exact ⟨by show s.2.2.2.1 ≤ _; omega, by show s.2.2.2.2.1 + 1 ≤ _; omega, h4, h5, h6, h7⟩
  · rename_i hne
    split
    · exact ⟨by show s.2.2.2.1 ≤ _; omega, by show s.2.2.2.2.1 + 1 ≤ _; omega, h4, h5, had, h7⟩
    · refine ⟨by show i + 1 - s.2.2.2.1 ≤ _; omega, by show 1 ≤ _; omega, hne, hml, had, fun j hj => ?_⟩
      show cp17 (cp17 s.1 s.2.2.1) s.2.1 j < _
      unfold cp17
      rw [if_pos hj, if_pos hj]
      exact h6 j hj
theorem lc_fw {X : Ev} {d' : Nat} {M0 M M' : Hp} {v : Option Value} {pc : Nat} {a b c e f : Value} {j k : Option Value} (kc : G X d' jX3_locate M0 pc [some a, some b, some c, some e, some f, none, none] [] M v M') : G X d' jX3_locate M0 pc [some a, some b, some c, some e, some f, j, k] [] M v M' := x_fewer (fun q w h => by match q, h with | 0, h => exact h | 1, h => exact h | 2, h => exact h | 3, h => exact h | 4, h => exact h | 5, h => cases h | 6, h => cases h | q + 7, h => cases h) kc
theorem lp_locate {X : Ev} {M0 M M' : Hp} {v : Option Value} {m : Nat} (hm : M[12]? = some (.inr (2, [.ref (1), .ref (5), .ref (13), .ref (15), .ref (16), .ref (17), .ref (18), .ref (19), .ref (20)]))) {pw lg : Nat → Int32} (hf : M[1]? = some (.inr (1, [.ref (2), .ref (3), .ref (4), .int (nI m), .int (nI (2 ^ m - 1))]))) (hp : M[2]? = some (.inl (0, 8192, .inl (pw)))) (hq : M[3]? = some (.inl (0, 8192, .inl (lg)))) (hF : FT pw lg m) {t d r n : Nat} {hi lo : Int64} (ho : M[5]? = some (.inr (0, [.ref (1), .ref (6), .ref (7), .ref (8), .ref (9), .ref (10), .int (nI t), .int (nI d), .int (nI r), .int (nI n), .long (hi), .long (lo)]))) (ht8 : t ≤ 8) {sy : Nat → Nat} (hsy : M[15]? = some (.inl (0, 17, .inl (fun j => nI ((sy) j))))) {l0 e0 : Nat → Int32} {sp : Nat → Nat} (hlc : M[16]? = some (.inl (0, 17, .inl (l0)))) (hea : M[17]? = some (.inl (0, 17, .inl (e0)))) (hsp : M[18]? = some (.inl (0, 17, .inl (fun j => nI ((sp) j))))) (hsb : ∀ j, 1 ≤ j → j ≤ 2 * t → sy j < 2 ^ m) : ∀ (zz i : Nat) (s : Bs), i + zz = 2 * t → BI m i s → G X 2 jX3_locate M0 169 [some (.ref (12)), some (.int (nI (bml m sy zz i s).2.2.2.1)), some (.int (nI (bml m sy zz i s).2.2.2.2.1)), some (.int (nI (bml m sy zz i s).2.2.2.2.2)), some (.int (nI (2 * t))), none, none] [] (((M.set (16) (.inl (0, 17, .inl (fun j => nI (((bml m sy zz i s).1) j))))).set (17) (.inl (0, 17, .inl (fun j => nI (((bml m sy zz i s).2.1) j))))).set (18) (.inl (0, 17, .inl (fun j => nI (((bml m sy zz i s).2.2.1) j))))) v M' → G X 2 jX3_locate M0 39 [some (.ref (12)), some (.int (nI s.2.2.2.1)), some (.int (nI s.2.2.2.2.1)), some (.int (nI s.2.2.2.2.2)), some (.int (nI (i))), none, none] [] (((M.set (16) (.inl (0, 17, .inl (fun j => nI ((s.1) j))))).set (17) (.inl (0, 17, .inl (fun j => nI ((s.2.1) j))))).set (18) (.inl (0, 17, .inl (fun j => nI ((s.2.2.1) j))))) v M' := by
  intro zz
  induction zz with
  | zero =>
    intro i s hii hB kc
    have hii : i = 2 * t := by omega
    subst hii
    refine x_iload dX3_locate_39 rfl ?_
    refine x_iconst (y := nI 2) dX3_locate_41 rfl ?_
    refine x_aload_n dX3_locate_42 rfl rfl ?_
    refine x_getf (ci := 2) (kf := 1) dX3_locate_43 rfl uX3 (by decide) fl_RX3_41 (gn (gn (gn hm (by decide)) (by decide)) (by decide)) rfl ?_
    refine x_getf (ci := 0) (kf := 6) dX3_locate_46 rfl uX0 (by decide) fl_RX3_54 (gn (gn (gn ho (by decide)) (by decide)) (by decide)) rfl ?_
    refine x_imul dX3_locate_49 ?_
    refine x_casti (y := nI (2 * t)) (pk_mul _ _) ?_
    refine x_icmp_ge (tgt := 169) dX3_locate_50 (by decide) (fun _ => ?_) (fun h => False.elim (h (nI_le (Nat.le_refl _) (by omega))))
    exact kc
  | succ zz ih =>
    intro i s hii hB kc
    have hsi : sy (i + 1) < 2 ^ m := hsb _ (by omega) (by omega)
    have hB2 := hB.next hF.1.1 hF.1.2 hsi
    have hml : bmiss m sy i s < 2 ^ m := msl_lt hF.1.1 hF.1.2 hsi _
    obtain ⟨h1, h2, h4, h5, h6, h7⟩ := hB
    have ht := two_le hF.1.1 hF.1.2
    refine x_iload dX3_locate_39 rfl ?_
    refine x_iconst (y := nI 2) dX3_locate_41 rfl ?_
    refine x_aload_n dX3_locate_42 rfl rfl ?_
    refine x_getf (ci := 2) (kf := 1) dX3_locate_43 rfl uX3 (by decide) fl_RX3_41 (gn (gn (gn hm (by decide)) (by decide)) (by decide)) rfl ?_
    refine x_getf (ci := 0) (kf := 6) dX3_locate_46 rfl uX0 (by decide) fl_RX3_54 (gn (gn (gn ho (by decide)) (by decide)) (by decide)) rfl ?_
    refine x_imul dX3_locate_49 ?_
    refine x_casti (y := nI (2 * t)) (pk_mul _ _) ?_
    refine x_icmp_ge (tgt := 169) dX3_locate_50 (by decide) (fun h => False.elim (nI_ge (by omega : i < 2 * t) (by omega) h)) (fun _ => ?_)
    refine x_aload_n dX3_locate_53 rfl rfl ?_
    refine x_iload dX3_locate_54 rfl ?_
    refine x_iconst (y := nI 1) dX3_locate_56 rfl ?_
    refine x_iadd dX3_locate_57 ?_
    refine x_casti (y := nI (i + 1)) (nI_add _ _) ?_
    refine x_iload_n dX3_locate_58 rfl rfl ?_
    refine x_callV (ci := 2) (as := [.int (nI (i + 1)), .int (nI s.2.2.2.1)]) dX3_locate_59 mk_X3_missAt in_X3_missAt se_X3_missAt ml_RX3_128 rfl (gn (gn (gn hm (by decide)) (by decide)) (by decide)) (by decide) rfl rfl (Nat.le_of_ble_eq_true rfl) (c_missAt (gn (gn (gn hm (by decide)) (by decide)) (by decide)) (gn (gn (gn hf (by decide)) (by decide)) (by decide)) (gn (gn (gn hp (by decide)) (by decide)) (by decide)) (gn (gn (gn hq (by decide)) (by decide)) (by decide)) hF (gn (gn (gn hsy (by decide)) (by decide)) (by decide)) (gn (gn (gs hlc) (by decide)) (by decide)) (i := i + 1) (len := s.2.2.2.1) (by omega) (by omega) (by omega) (fun j a b => hsb j a (by omega)) h6) ?_
    refine x_istore (ls' := [some (.ref (12)), some (.int (nI s.2.2.2.1)), some (.int (nI s.2.2.2.2.1)), some (.int (nI s.2.2.2.2.2)), some (.int (nI (i))), some (.int (nI (bmiss m sy i s))), none]) dX3_locate_62 (by decide) rfl rfl ?_
    refine x_iload dX3_locate_64 rfl ?_
    refine x_if_ne (tgt := 75) dX3_locate_66 (by decide) (fun h66 => ?_) (fun h66 => ?_)
    · have hm0 : bmiss m sy i s ≠ 0 := fun z => h66 (by rw [z]; rfl)
      refine x_aload_n dX3_locate_75 rfl rfl ?_
      refine x_getf (ci := 2) (kf := 0) dX3_locate_76 rfl uX3 (by decide) fl_RX3_37 (gn (gn (gn hm (by decide)) (by decide)) (by decide)) rfl ?_
      refine x_iload dX3_locate_79 rfl ?_
      refine x_aload_n dX3_locate_81 rfl rfl ?_
      refine x_getf (ci := 2) (kf := 0) dX3_locate_82 rfl uX3 (by decide) fl_RX3_37 (gn (gn (gn hm (by decide)) (by decide)) (by decide)) rfl ?_
      refine x_iload_n dX3_locate_85 rfl rfl ?_
      refine x_callV (ci := 1) (as := [.int (nI s.2.2.2.2.2)]) dX3_locate_86 mk_X2_reciprocal in_X2_reciprocal se_X2_reciprocal ml_RX3_131 rfl (gn (gn (gn hf (by decide)) (by decide)) (by decide)) (by decide) rfl rfl (Nat.le_of_ble_eq_true rfl) (c_reciprocal (gn (gn (gn hf (by decide)) (by decide)) (by decide)) (gn (gn (gn hp (by decide)) (by decide)) (by decide)) (gn (gn (gn hq (by decide)) (by decide)) (by decide)) hF h4 h5) ?_
      refine x_callV (ci := 1) (as := [.int (nI (bmiss m sy i s)), .int (nI (finv m s.2.2.2.2.2))]) dX3_locate_89 mk_X2_product in_X2_product se_X2_product ml_RX3_116 rfl (gn (gn (gn hf (by decide)) (by decide)) (by decide)) (by decide) rfl rfl (Nat.le_of_ble_eq_true rfl) (c_product (gn (gn (gn hf (by decide)) (by decide)) (by decide)) (gn (gn (gn hp (by decide)) (by decide)) (by decide)) (gn (gn (gn hq (by decide)) (by decide)) (by decide)) hF hml (pwr_lt hF.1.1 hF.1.2 _)) ?_
      refine x_istore (ls' := [some (.ref (12)), some (.int (nI s.2.2.2.1)), some (.int (nI s.2.2.2.2.1)), some (.int (nI s.2.2.2.2.2)), some (.int (nI (i))), some (.int (nI (bmiss m sy i s))), some (.int (nI (bsc m sy i s)))]) dX3_locate_92 (by decide) rfl rfl ?_
      refine x_aload_n dX3_locate_94 rfl rfl ?_
      refine x_getf (ci := 2) (kf := 4) dX3_locate_95 rfl uX3 (by decide) fl_RX3_22 (gn (gn (gn hm (by decide)) (by decide)) (by decide)) rfl ?_
      refine x_iconst (y := nI 0) dX3_locate_98 rfl ?_
      refine x_aload_n dX3_locate_99 rfl rfl ?_
      refine x_getf (ci := 2) (kf := 6) dX3_locate_100 rfl uX3 (by decide) fl_RX3_28 (gn (gn (gn hm (by decide)) (by decide)) (by decide)) rfl ?_
      refine x_iconst (y := nI 0) dX3_locate_103 rfl ?_
      refine x_aload_n dX3_locate_104 rfl rfl ?_
      refine x_getf (ci := 2) (kf := 6) dX3_locate_105 rfl uX3 (by decide) fl_RX3_28 (gn (gn (gn hm (by decide)) (by decide)) (by decide)) rfl ?_
      refine x_alen dX3_locate_108 (by decide) (gs (gn (gn hsp (by decide)) (by decide))) rfl ?_
      refine x_copyi (np := 17) (M1 := (((M.set (16) (.inl (0, 17, .inl (fun j => nI ((s.1) j))))).set (17) (.inl (0, 17, .inl (fun j => nI ((s.2.1) j))))).set (18) (.inl (0, 17, .inl (fun j => nI ((cp17 s.1 s.2.2.1) j)))))) dX3_locate_109 ml_RX3_134 ac_nat ac_sta ac_ini (gn (gn (gs hlc) (by decide)) (by decide)) (gs (gn (gn hsp (by decide)) (by decide))) (by decide) (by decide) (by decide) (by decide) (Nat.le_of_ble_eq_true rfl) (by rw [show va_cpy (fun j => nI ((s.1) j)) (fun j => nI ((s.2.2.1) j)) 0 0 17 = (fun j => nI ((cp17 s.1 s.2.2.1) j)) from cp17_eq] <;> exact (ss0)) ?_
      refine x_aload_n dX3_locate_112 rfl rfl ?_
      refine x_iload dX3_locate_113 rfl ?_
      refine x_iload_n dX3_locate_115 rfl rfl ?_
      refine x_callV (ci := 2) (as := [.int (nI (bsc m sy i s)), .int (nI s.2.2.2.2.1)]) dX3_locate_116 mk_X3_addEarlier in_X3_addEarlier se_X3_addEarlier ml_RX3_140 rfl (gn (gn (gn hm (by decide)) (by decide)) (by decide)) (by decide) rfl rfl (Nat.le_of_ble_eq_true rfl) (c_addEarlier (gn (gn (gn hm (by decide)) (by decide)) (by decide)) (gn (gn (gn hf (by decide)) (by decide)) (by decide)) (gn (gn (gn hp (by decide)) (by decide)) (by decide)) (gn (gn (gn hq (by decide)) (by decide)) (by decide)) hF (gn (gn (gs hlc) (by decide)) (by decide)) (gn (gs (gn hea (by decide))) (by decide)) (sc := bsc m sy i s) (lag := s.2.2.2.2.1) (by omega) (fmul_lt hF.1.1 hF.1.2) h7) ?_
      refine G.hp (show ((((M.set (16) (.inl (0, 17, .inl (fun j => nI ((s.1) j))))).set (17) (.inl (0, 17, .inl (fun j => nI ((s.2.1) j))))).set (18) (.inl (0, 17, .inl (fun j => nI ((cp17 s.1 s.2.2.1) j))))).set (16) (.inl (0, 17, .inl (fun j => nI ((adE m s.1 s.2.1 (bsc m sy i s) s.2.2.2.2.1 17) j)))) : Hp) = (((M.set (16) (.inl (0, 17, .inl (fun j => nI ((adE m s.1 s.2.1 (bsc m sy i s) s.2.2.2.2.1 17) j))))).set (17) (.inl (0, 17, .inl (fun j => nI ((s.2.1) j))))).set (18) (.inl (0, 17, .inl (fun j => nI ((cp17 s.1 s.2.2.1) j))))) from (ss2 (by decide) (by decide))) ?_
      refine x_iconst (y := nI 2) dX3_locate_119 rfl ?_
      refine x_iload_n dX3_locate_120 rfl rfl ?_
      refine x_imul dX3_locate_121 ?_
      refine x_casti (y := nI (2 * s.2.2.2.1)) (pk_mul _ _) ?_
      refine x_iload dX3_locate_122 rfl ?_
      refine x_icmp_gt (tgt := 160) dX3_locate_124 (by decide) (fun h124 => ?_) (fun h124 => ?_)
      · refine x_iinc (y := nI (s.2.2.2.2.1 + 1)) (ls' := [some (.ref (12)), some (.int (nI s.2.2.2.1)), some (.int (nI (s.2.2.2.2.1 + 1))), some (.int (nI s.2.2.2.2.2)), some (.int (nI (i))), some (.int (nI (bmiss m sy i s))), some (.int (nI (bsc m sy i s)))]) dX3_locate_160 (by decide) rfl rfl (ii_add _ 1) rfl ?_
        refine x_iinc (y := nI ((i) + 1)) (ls' := [some (.ref (12)), some (.int (nI s.2.2.2.1)), some (.int (nI (s.2.2.2.2.1 + 1))), some (.int (nI s.2.2.2.2.2)), some (.int (nI ((i) + 1))), some (.int (nI (bmiss m sy i s))), some (.int (nI (bsc m sy i s)))]) dX3_locate_163 (by decide) rfl rfl (ii_add _ 1) rfl ?_
        refine x_goto (tgt := 39) dX3_locate_166 (by decide) ?_
        have hz : bms m sy i s = (adE m s.1 s.2.1 (bsc m sy i s) s.2.2.2.2.1 17, s.2.1, cp17 s.1 s.2.2.1, s.2.2.2.1, s.2.2.2.2.1 + 1, s.2.2.2.2.2) := by unfold bms; rw [if_neg hm0, if_pos ((nI_ltI (by omega) (by omega)).mp h124)]
        have kc2 : G X 2 jX3_locate M0 169 [some (.ref (12)), some (.int (nI (bml m sy zz (i + 1) (bms m sy i s)).2.2.2.1)), some (.int (nI (bml m sy zz (i + 1) (bms m sy i s)).2.2.2.2.1)), some (.int (nI (bml m sy zz (i + 1) (bms m sy i s)).2.2.2.2.2)), some (.int (nI (2 * t))), none, none] [] (((M.set (16) (.inl (0, 17, .inl (fun j => nI (((bml m sy zz (i + 1) (bms m sy i s)).1) j))))).set (17) (.inl (0, 17, .inl (fun j => nI (((bml m sy zz (i + 1) (bms m sy i s)).2.1) j))))).set (18) (.inl (0, 17, .inl (fun j => nI (((bml m sy zz (i + 1) (bms m sy i s)).2.2.1) j))))) v M' := kc
        rw [hz] at kc2 hB2
        refine lc_fw ?_
        exact ih (i + 1) (adE m s.1 s.2.1 (bsc m sy i s) s.2.2.2.2.1 17, s.2.1, cp17 s.1 s.2.2.1, s.2.2.2.1, s.2.2.2.2.1 + 1, s.2.2.2.2.2) (by omega) hB2 kc2
      · refine x_iload dX3_locate_127 rfl ?_
        refine x_iconst (y := nI 1) dX3_locate_129 rfl ?_
        refine x_iadd dX3_locate_130 ?_
        refine x_casti (y := nI (i + 1)) (nI_add _ _) ?_
        refine x_iload_n dX3_locate_131 rfl rfl ?_
        refine x_isub dX3_locate_132 ?_
        refine x_casti (y := nI (i + 1 - s.2.2.2.1)) (pk_sub (by omega)) ?_
        refine x_istore_n (ls' := [some (.ref (12)), some (.int (nI (i + 1 - s.2.2.2.1))), some (.int (nI s.2.2.2.2.1)), some (.int (nI s.2.2.2.2.2)), some (.int (nI (i))), some (.int (nI (bmiss m sy i s))), some (.int (nI (bsc m sy i s)))]) dX3_locate_133 rfl (by decide) rfl rfl ?_
        refine x_aload_n dX3_locate_134 rfl rfl ?_
        refine x_getf (ci := 2) (kf := 6) dX3_locate_135 rfl uX3 (by decide) fl_RX3_28 (gn (gn (gn hm (by decide)) (by decide)) (by decide)) rfl ?_
        refine x_iconst (y := nI 0) dX3_locate_138 rfl ?_
        refine x_aload_n dX3_locate_139 rfl rfl ?_
        refine x_getf (ci := 2) (kf := 5) dX3_locate_140 rfl uX3 (by decide) fl_RX3_25 (gn (gn (gn hm (by decide)) (by decide)) (by decide)) rfl ?_
        refine x_iconst (y := nI 0) dX3_locate_143 rfl ?_
        refine x_aload_n dX3_locate_144 rfl rfl ?_
        refine x_getf (ci := 2) (kf := 6) dX3_locate_145 rfl uX3 (by decide) fl_RX3_28 (gn (gn (gn hm (by decide)) (by decide)) (by decide)) rfl ?_
        refine x_alen dX3_locate_148 (by decide) (gs (gn (gn hsp (by decide)) (by decide))) rfl ?_
        refine x_copyi (np := 17) (M1 := (((M.set (16) (.inl (0, 17, .inl (fun j => nI ((adE m s.1 s.2.1 (bsc m sy i s) s.2.2.2.2.1 17) j))))).set (17) (.inl (0, 17, .inl (fun j => nI ((cp17 (cp17 s.1 s.2.2.1) s.2.1) j))))).set (18) (.inl (0, 17, .inl (fun j => nI ((cp17 s.1 s.2.2.1) j)))))) dX3_locate_149 ml_RX3_134 ac_nat ac_sta ac_ini (gs (gn (gn hsp (by decide)) (by decide))) (gn (gs (gn hea (by decide))) (by decide)) (by decide) (by decide) (by decide) (by decide) (Nat.le_of_ble_eq_true rfl) (by rw [show va_cpy (fun j => nI ((cp17 s.1 s.2.2.1) j)) (fun j => nI ((s.2.1) j)) 0 0 17 = (fun j => nI ((cp17 (cp17 s.1 s.2.2.1) s.2.1) j)) from cp17_eq] <;> exact (ss1 (by decide))) ?_
        refine x_iload dX3_locate_152 rfl ?_
        refine x_istore_n (ls' := [some (.ref (12)), some (.int (nI (i + 1 - s.2.2.2.1))), some (.int (nI s.2.2.2.2.1)), some (.int (nI (bmiss m sy i s))), some (.int (nI (i))), some (.int (nI (bmiss m sy i s))), some (.int (nI (bsc m sy i s)))]) dX3_locate_154 rfl (by decide) rfl rfl ?_
        refine x_iconst (y := nI 1) dX3_locate_155 rfl ?_
        refine x_istore_n (ls' := [some (.ref (12)), some (.int (nI (i + 1 - s.2.2.2.1))), some (.int (nI 1)), some (.int (nI (bmiss m sy i s))), some (.int (nI (i))), some (.int (nI (bmiss m sy i s))), some (.int (nI (bsc m sy i s)))]) dX3_locate_156 rfl (by decide) rfl rfl ?_
        refine x_goto (tgt := 163) dX3_locate_157 (by decide) ?_
        refine x_iinc (y := nI ((i) + 1)) (ls' := [some (.ref (12)), some (.int (nI (i + 1 - s.2.2.2.1))), some (.int (nI 1)), some (.int (nI (bmiss m sy i s))), some (.int (nI ((i) + 1))), some (.int (nI (bmiss m sy i s))), some (.int (nI (bsc m sy i s)))]) dX3_locate_163 (by decide) rfl rfl (ii_add _ 1) rfl ?_
        refine x_goto (tgt := 39) dX3_locate_166 (by decide) ?_
        have hz : bms m sy i s = (adE m s.1 s.2.1 (bsc m sy i s) s.2.2.2.2.1 17, cp17 (cp17 s.1 s.2.2.1) s.2.1, cp17 s.1 s.2.2.1, i + 1 - s.2.2.2.1, 1, bmiss m sy i s) := by unfold bms; rw [if_neg hm0, if_neg (fun z => h124 (nI_lt z (by omega)))]
        have kc2 : G X 2 jX3_locate M0 169 [some (.ref (12)), some (.int (nI (bml m sy zz (i + 1) (bms m sy i s)).2.2.2.1)), some (.int (nI (bml m sy zz (i + 1) (bms m sy i s)).2.2.2.2.1)), some (.int (nI (bml m sy zz (i + 1) (bms m sy i s)).2.2.2.2.2)), some (.int (nI (2 * t))), none, none] [] (((M.set (16) (.inl (0, 17, .inl (fun j => nI (((bml m sy zz (i + 1) (bms m sy i s)).1) j))))).set (17) (.inl (0, 17, .inl (fun j => nI (((bml m sy zz (i + 1) (bms m sy i s)).2.1) j))))).set (18) (.inl (0, 17, .inl (fun j => nI (((bml m sy zz (i + 1) (bms m sy i s)).2.2.1) j))))) v M' := kc
        rw [hz] at kc2 hB2
        refine lc_fw ?_
        exact ih (i + 1) (adE m s.1 s.2.1 (bsc m sy i s) s.2.2.2.2.1 17, cp17 (cp17 s.1 s.2.2.1) s.2.1, cp17 s.1 s.2.2.1, i + 1 - s.2.2.2.1, 1, bmiss m sy i s) (by omega) hB2 kc2
    · refine x_iinc (y := nI (s.2.2.2.2.1 + 1)) (ls' := [some (.ref (12)), some (.int (nI s.2.2.2.1)), some (.int (nI (s.2.2.2.2.1 + 1))), some (.int (nI s.2.2.2.2.2)), some (.int (nI (i))), some (.int (nI (bmiss m sy i s))), none]) dX3_locate_69 (by decide) rfl rfl (ii_add _ 1) rfl ?_
      refine x_goto (tgt := 163) dX3_locate_72 (by decide) ?_
      refine x_iinc (y := nI ((i) + 1)) (ls' := [some (.ref (12)), some (.int (nI s.2.2.2.1)), some (.int (nI (s.2.2.2.2.1 + 1))), some (.int (nI s.2.2.2.2.2)), some (.int (nI ((i) + 1))), some (.int (nI (bmiss m sy i s))), none]) dX3_locate_163 (by decide) rfl rfl (ii_add _ 1) rfl ?_
      refine x_goto (tgt := 39) dX3_locate_166 (by decide) ?_
      have hz : bms m sy i s = (s.1, s.2.1, s.2.2.1, s.2.2.2.1, s.2.2.2.2.1 + 1, s.2.2.2.2.2) := if_pos ((nI_eq (by omega) (by decide)).mp h66)
      have kc2 : G X 2 jX3_locate M0 169 [some (.ref (12)), some (.int (nI (bml m sy zz (i + 1) (bms m sy i s)).2.2.2.1)), some (.int (nI (bml m sy zz (i + 1) (bms m sy i s)).2.2.2.2.1)), some (.int (nI (bml m sy zz (i + 1) (bms m sy i s)).2.2.2.2.2)), some (.int (nI (2 * t))), none, none] [] (((M.set (16) (.inl (0, 17, .inl (fun j => nI (((bml m sy zz (i + 1) (bms m sy i s)).1) j))))).set (17) (.inl (0, 17, .inl (fun j => nI (((bml m sy zz (i + 1) (bms m sy i s)).2.1) j))))).set (18) (.inl (0, 17, .inl (fun j => nI (((bml m sy zz (i + 1) (bms m sy i s)).2.2.1) j))))) v M' := kc
      rw [hz] at kc2 hB2
      refine lc_fw ?_
      exact ih (i + 1) (s.1, s.2.1, s.2.2.1, s.2.2.2.1, s.2.2.2.2.1 + 1, s.2.2.2.2.2) (by omega) hB2 kc2
theorem c_locate {X : Ev} {M : Hp} {m : Nat} (hm : M[12]? = some (.inr (2, [.ref (1), .ref (5), .ref (13), .ref (15), .ref (16), .ref (17), .ref (18), .ref (19), .ref (20)]))) {pw lg : Nat → Int32} (hf : M[1]? = some (.inr (1, [.ref (2), .ref (3), .ref (4), .int (nI m), .int (nI (2 ^ m - 1))]))) (hp : M[2]? = some (.inl (0, 8192, .inl (pw)))) (hq : M[3]? = some (.inl (0, 8192, .inl (lg)))) (hF : FT pw lg m) {t d r n : Nat} {hi lo : Int64} (ho : M[5]? = some (.inr (0, [.ref (1), .ref (6), .ref (7), .ref (8), .ref (9), .ref (10), .int (nI t), .int (nI d), .int (nI r), .int (nI n), .long (hi), .long (lo)]))) (ht8 : t ≤ 8) {sy : Nat → Nat} (hsy : M[15]? = some (.inl (0, 17, .inl (fun j => nI ((sy) j))))) {l0 e0 : Nat → Int32} {sp : Nat → Nat} (hlc : M[16]? = some (.inl (0, 17, .inl (l0)))) (hea : M[17]? = some (.inl (0, 17, .inl (e0)))) (hsp : M[18]? = some (.inl (0, 17, .inl (fun j => nI ((sp) j))))) (hsb : ∀ j, 1 ≤ j → j ≤ 2 * t → sy j < 2 ^ m) : Cl X 2 jX3_locate [.ref (12)] M (some (.int (nI (bml m sy (2 * t) 0 ((d0, d0, sp, 0, 1, 1) : Bs)).2.2.2.1))) (((M.set (16) (.inl (0, 17, .inl (fun j => nI (((bml m sy (2 * t) 0 ((d0, d0, sp, 0, 1, 1) : Bs)).1) j))))).set (17) (.inl (0, 17, .inl (fun j => nI (((bml m sy (2 * t) 0 ((d0, d0, sp, 0, 1, 1) : Bs)).2.1) j))))).set (18) (.inl (0, 17, .inl (fun j => nI (((bml m sy (2 * t) 0 ((d0, d0, sp, 0, 1, 1) : Bs)).2.2.1) j))))) := by
  have ht := two_le hF.1.1 hF.1.2
  refine Cl.of (ls := [some (.ref (12)), none, none, none, none, none, none]) (by decide) rfl (Nat.le_of_ble_eq_true rfl) ?_
  refine x_aload_n dX3_locate_0 rfl rfl ?_
  refine x_getf (ci := 2) (kf := 4) dX3_locate_1 rfl uX3 (by decide) fl_RX3_22 hm rfl ?_
  refine x_iconst (y := nI 0) dX3_locate_4 rfl ?_
  refine x_callS (as := [.ref (16), .int (nI 0)]) dX3_locate_5 mk_J7_fill_53178 st_J7_fill_53178 ml_RX3_122 (by decide) rfl rfl (Nat.le_of_ble_eq_true rfl) (c_filli hlc (by decide)) ?_
  refine x_aload_n dX3_locate_8 rfl rfl ?_
  refine x_getf (ci := 2) (kf := 5) dX3_locate_9 rfl uX3 (by decide) fl_RX3_25 (gn hm (by decide)) rfl ?_
  refine x_iconst (y := nI 0) dX3_locate_12 rfl ?_
  refine x_callS (as := [.ref (17), .int (nI 0)]) dX3_locate_13 mk_J7_fill_53178 st_J7_fill_53178 ml_RX3_122 (by decide) rfl rfl (Nat.le_of_ble_eq_true rfl) (c_filli (gn hea (by decide)) (by decide)) ?_
  refine x_aload_n dX3_locate_16 rfl rfl ?_
  refine x_getf (ci := 2) (kf := 4) dX3_locate_17 rfl uX3 (by decide) fl_RX3_22 (gn (gn hm (by decide)) (by decide)) rfl ?_
  refine x_iconst (y := nI 0) dX3_locate_20 rfl ?_
  refine x_iconst (y := nI 1) dX3_locate_21 rfl ?_
  refine x_ist (j := 0) (M1 := ((M.set (16) (.inl (0, 17, .inl (fun j => nI ((d0) j))))).set (17) (.inl (0, 17, .inl (fun _ => nI 0))))) dX3_locate_22 (gn (gs hlc) (by decide)) rfl (by omega) (by decide) (by rw [show upd (fun _ => nI 0) (0) (nI 1) = (fun j => nI ((d0) j)) from d0_eq] <;> exact (ss1 (by decide))) ?_
  refine x_aload_n dX3_locate_23 rfl rfl ?_
  refine x_getf (ci := 2) (kf := 5) dX3_locate_24 rfl uX3 (by decide) fl_RX3_25 (gn (gn hm (by decide)) (by decide)) rfl ?_
  refine x_iconst (y := nI 0) dX3_locate_27 rfl ?_
  refine x_iconst (y := nI 1) dX3_locate_28 rfl ?_
  refine x_ist (j := 0) (M1 := ((M.set (16) (.inl (0, 17, .inl (fun j => nI ((d0) j))))).set (17) (.inl (0, 17, .inl (fun j => nI ((d0) j)))))) dX3_locate_29 (gs (gn hea (by decide))) rfl (by omega) (by decide) (by rw [show upd (fun _ => nI 0) (0) (nI 1) = (fun j => nI ((d0) j)) from d0_eq] <;> exact (ss0)) ?_
  refine x_iconst (y := nI 0) dX3_locate_30 rfl ?_
  refine x_istore_n (ls' := [some (.ref (12)), some (.int (nI 0)), none, none, none, none, none]) dX3_locate_31 rfl (by decide) rfl rfl ?_
  refine x_iconst (y := nI 1) dX3_locate_32 rfl ?_
  refine x_istore_n (ls' := [some (.ref (12)), some (.int (nI 0)), some (.int (nI 1)), none, none, none, none]) dX3_locate_33 rfl (by decide) rfl rfl ?_
  refine x_iconst (y := nI 1) dX3_locate_34 rfl ?_
  refine x_istore_n (ls' := [some (.ref (12)), some (.int (nI 0)), some (.int (nI 1)), some (.int (nI 1)), none, none, none]) dX3_locate_35 rfl (by decide) rfl rfl ?_
  refine x_iconst (y := nI 0) dX3_locate_36 rfl ?_
  refine x_istore (ls' := [some (.ref (12)), some (.int (nI 0)), some (.int (nI 1)), some (.int (nI 1)), some (.int (nI 0)), none, none]) dX3_locate_37 (by decide) rfl rfl ?_
  refine G.hp (set_id (gn (gn hsp (by decide)) (by decide)) rfl) (lp_locate hm hf hp hq hF ho ht8 hsy hlc hea hsp hsb (2 * t) 0 ((d0, d0, sp, 0, 1, 1) : Bs) (by omega) ⟨Nat.le_refl _, Nat.le_refl _, Nat.one_ne_zero, by show 1 < 2 ^ m; omega, fun j _ => by show d0 j < 2 ^ m; unfold d0; split <;> omega, fun j _ => by show d0 j < 2 ^ m; unfold d0; split <;> omega⟩ ?_)
  refine x_iload_n dX3_locate_169 rfl rfl ?_
  exact x_ireturn_eq dX3_locate_170 rfl rfl
