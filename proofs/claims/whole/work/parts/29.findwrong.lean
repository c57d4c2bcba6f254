/-! MENDER: every bit is tried -/
def fwl (m : Nat) (lc : Nat → Nat) (n k : Nat) : Option Nat := if lc k = 0 then none else some (red (nI (lgn m (lc k)) - nI (k * (n - 1))) (2 ^ m - 1))
def fwt (m : Nat) (lc : Nat → Nat) (n : Nat) (l0 : Nat → Option Nat) (i : Nat) : Nat → Option Nat := fun j => if 1 ≤ j ∧ j ≤ i then fwl m lc n j else l0 j
theorem fwt_step {m : Nat} {lc : Nat → Nat} {n : Nat} {l0 : Nat → Option Nat} {i : Nat} {x : Int32} (hx : x = lgv (fwl m lc n (i + 1))) : upd (fun j => lgv (fwt m lc n l0 i j)) (i + 1) x = fun j => lgv ((fwt m lc n l0 (i + 1)) j) := by
  funext j
  by_cases hj : j = i + 1
  · subst hj; rw [pk_us, hx]; unfold fwt; rw [if_pos (by omega)]
  · rw [pk_un hj]; unfold fwt
    by_cases h2 : 1 ≤ j ∧ j ≤ i
    · rw [if_pos h2, if_pos (by omega)]
    · rw [if_neg h2, if_neg (by omega)]
abbrev Fs : Type := (Nat → Option Nat) × Nat × (Nat → Nat)
def fwx (m many b : Nat) (s : Fs) : Fs := (lzl (2 ^ m - 1) s.1 many, if lzs m s.1 many == 0 then s.2.1 + 1 else s.2.1, if lzs m s.1 many == 0 then (fun j => if j = s.2.1 then b else s.2.2 j) else s.2.2)
def fwr (m many : Nat) : Nat → Nat → Fs → Fs
  | 0, _, s => s
  | f + 1, b, s => if many ≤ s.2.1 then s else fwr m many f (b + 1) (fwx m many b s)
theorem wr_step {f : Nat → Nat} {k b : Nat} : upd (fun j => nI (f j)) k (nI b) = fun j => nI ((fun j => if j = k then b else f j) j) := by
  funext j
  show (if j = k then nI b else nI (f j)) = nI (if j = k then b else f j)
  split <;> rfl
theorem fwl_lt {m n k l : Nat} {lc : Nat → Nat} (h : 0 < 2 ^ m - 1) (he : fwl m lc n k = some l) : l < 2 ^ m - 1 := by
  unfold fwl at he
  split at he
  · cases he
  · cases he; exact red_lt _ h
theorem lzl_lt {N : Nat} {lo : Nat → Option Nat} {many : Nat} (hN : 8 < N) (hmn : many ≤ 8) (h : ∀ j l, 1 ≤ j → j ≤ many → lo j = some l → l < N) : ∀ j l, 1 ≤ j → j ≤ many → lzl N lo many j = some l → l < N := fun j l h1 h2 he => by
  unfold lzl at he
  rw [if_pos ⟨h1, h2⟩] at he
  unfold lnx at he
  cases hc : lo j with
  | none => rw [hc] at he; cases he
  | some x =>
    rw [hc] at he
    have hx := h j x h1 h2 hc
    simp only [Option.map_some, Option.some.injEq] at he
    split at he <;> omega
theorem lp_fw1 {X : Ev} {M0 M M' : Hp} {v : Option Value} {m : Nat} (hm : M[12]? = some (.inr (2, [.ref (1), .ref (5), .ref (13), .ref (15), .ref (16), .ref (17), .ref (18), .ref (19), .ref (20)]))) {pw lg : Nat → Int32} (hf : M[1]? = some (.inr (1, [.ref (2), .ref (3), .ref (4), .int (nI m), .int (nI (2 ^ m - 1))]))) (hp : M[2]? = some (.inl (0, 8192, .inl (pw)))) (hq : M[3]? = some (.inl (0, 8192, .inl (lg)))) (hF : FT pw lg m) (hm4 : 4 ≤ m) {t d r n : Nat} {hi lo : Int64} (ho : M[5]? = some (.inr (0, [.ref (1), .ref (6), .ref (7), .ref (8), .ref (9), .ref (10), .int (nI t), .int (nI d), .int (nI r), .int (nI n), .long (hi), .long (lo)]))) (hn1 : 1 ≤ n) (hnN : n ≤ 2152) {lc wr : Nat → Nat} {l0 : Nat → Option Nat} (hlc : M[16]? = some (.inl (0, 17, .inl (fun j => nI ((lc) j))))) (hlg : M[19]? = some (.inl (0, 9, .inl (fun j => lgv ((l0) j))))) (hwr : M[20]? = some (.inl (0, 8, .inl (fun j => nI ((wr) j))))) (hlb : ∀ j, j < 17 → lc j < 2 ^ m) {many : Nat} (hmn : many ≤ 8) (kc : G X 2 jX3_findWrong M0 68 [some (.ref (12)), some (.int (nI many)), some (.int (nI (many + 1))), none] [] (M.set 19 (.inl (0, 9, .inl (fun j => lgv ((fwt m lc n l0 (many)) j))))) v M') : ∀ (zz i : Nat), i + zz = many → G X 2 jX3_findWrong M0 2 [some (.ref (12)), some (.int (nI many)), some (.int (nI (i + 1))), none] [] (M.set 19 (.inl (0, 9, .inl (fun j => lgv ((fwt m lc n l0 (i)) j))))) v M' := by
  have ht := two_le hF.1.1 hF.1.2
  have h16 : 16 ≤ 2 ^ m := Nat.pow_le_pow_right (n := 2) (i := 4) (by decide) hm4
  intro zz
  induction zz with
  | zero =>
    intro i hii
    have hii : i = many := by omega
    subst hii
    refine x_iload_n dX3_findWrong_2 rfl rfl ?_
    refine x_iload_n dX3_findWrong_3 rfl rfl ?_
    refine x_icmp_gt (tgt := 68) dX3_findWrong_4 (by decide) (fun _ => ?_) (fun h => False.elim (h (nI_lt (by omega) (by omega))))
    exact kc
  | succ zz ih =>
    intro i hii
    have hli := hlb (i + 1) (by omega)
    refine x_iload_n dX3_findWrong_2 rfl rfl ?_
    refine x_iload_n dX3_findWrong_3 rfl rfl ?_
    refine x_icmp_gt (tgt := 68) dX3_findWrong_4 (by decide) (fun h => False.elim (nI_nlt (by omega : i + 1 ≤ many) (by omega) h)) (fun _ => ?_)
    refine x_aload_n dX3_findWrong_7 rfl rfl ?_
    refine x_getf (ci := 2) (kf := 7) dX3_findWrong_8 rfl uX3 (by decide) fl_RX3_31 (gn hm (by decide)) rfl ?_
    refine x_iload_n dX3_findWrong_11 rfl rfl ?_
    refine x_aload_n dX3_findWrong_12 rfl rfl ?_
    refine x_getf (ci := 2) (kf := 4) dX3_findWrong_13 rfl uX3 (by decide) fl_RX3_22 (gn hm (by decide)) rfl ?_
    refine x_iload_n dX3_findWrong_16 rfl rfl ?_
    refine x_ild (j := i + 1) dX3_findWrong_17 (gn hlc (by decide)) rfl (by omega) (by decide) ?_
    refine x_if_ne (tgt := 25) dX3_findWrong_18 (by decide) (fun h18 => ?_) (fun h18 => ?_)
    · have hz0 : lc (i + 1) ≠ 0 := fun z => h18 (by rw [z]; rfl)
      have hfw : fwl m lc n (i + 1) = some (red (nI (lgn m (lc (i + 1))) - nI ((i + 1) * (n - 1))) (2 ^ m - 1)) := if_neg hz0
      have hla := lgn_spec hF.1.1 hF.1.2 hz0 hli
      refine x_aload_n dX3_findWrong_25 rfl rfl ?_
      refine x_getf (ci := 2) (kf := 0) dX3_findWrong_26 rfl uX3 (by decide) fl_RX3_37 (gn hm (by decide)) rfl ?_
      refine x_getf (ci := 1) (kf := 1) dX3_findWrong_29 rfl uX2 (by decide) fl_RX3_143 (gn hf (by decide)) rfl ?_
      refine x_aload_n dX3_findWrong_32 rfl rfl ?_
      refine x_getf (ci := 2) (kf := 4) dX3_findWrong_33 rfl uX3 (by decide) fl_RX3_22 (gn hm (by decide)) rfl ?_
      refine x_iload_n dX3_findWrong_36 rfl rfl ?_
      refine x_ild (j := i + 1) dX3_findWrong_37 (gn hlc (by decide)) rfl (by omega) (by decide) ?_
      refine x_ild (j := lc (i + 1)) dX3_findWrong_38 (gn hq (by decide)) rfl (by omega) (by decide) ?_
      refine x_casti (y := nI (lgn m (lc (i + 1)))) (hF.lg hz0 hli) ?_
      refine x_iload_n dX3_findWrong_39 rfl rfl ?_
      refine x_aload_n dX3_findWrong_40 rfl rfl ?_
      refine x_getf (ci := 2) (kf := 1) dX3_findWrong_41 rfl uX3 (by decide) fl_RX3_41 (gn hm (by decide)) rfl ?_
      refine x_getf (ci := 0) (kf := 9) dX3_findWrong_44 rfl uX0 (by decide) fl_RX3_144 (gn ho (by decide)) rfl ?_
      refine x_iconst (y := nI 1) dX3_findWrong_47 rfl ?_
      refine x_isub dX3_findWrong_48 ?_
      refine x_casti (y := nI (n - 1)) (pk_sub hn1) ?_
      refine x_imul dX3_findWrong_49 ?_
      refine x_casti (y := nI ((i + 1) * (n - 1))) (pk_mul _ _) ?_
      refine x_isub dX3_findWrong_50 ?_
      refine x_aload_n dX3_findWrong_51 rfl rfl ?_
      refine x_getf (ci := 2) (kf := 0) dX3_findWrong_52 rfl uX3 (by decide) fl_RX3_37 (gn hm (by decide)) rfl ?_
      refine x_getf (ci := 1) (kf := 4) dX3_findWrong_55 rfl uX2 (by decide) fl_RX3_147 (gn hf (by decide)) rfl ?_
      refine x_callS (as := [.int ((nI (lgn m (lc (i + 1)))) - (nI ((i + 1) * (n - 1)))), .int (nI (2 ^ m - 1))]) dX3_findWrong_58 mk_X1_reduced st_X1_reduced ml_RX3_150 (by decide) rfl rfl (Nat.le_of_ble_eq_true rfl) (c_reduced (by omega) (by omega)) ?_
      refine x_ist (j := i + 1) (M1 := (M.set (19) (.inl (0, 9, .inl (fun j => lgv ((fwt m lc n l0 (i + 1)) j)))))) dX3_findWrong_61 (gs hlg) rfl (by omega) (by decide) (by rw [show upd (fun j => lgv ((fwt m lc n l0 (i)) j)) (i + 1) (nI (red (nI (lgn m (lc (i + 1))) - nI ((i + 1) * (n - 1))) (2 ^ m - 1))) = (fun j => lgv ((fwt m lc n l0 (i + 1)) j)) from (fwt_step (by rw [hfw]; rfl))] <;> exact (ss0)) ?_
      refine x_iinc (y := nI ((i + 1) + 1)) (ls' := [some (.ref (12)), some (.int (nI many)), some (.int (nI ((i + 1) + 1))), none]) dX3_findWrong_62 (by decide) rfl rfl (ii_add _ 1) rfl ?_
      refine x_goto (tgt := 2) dX3_findWrong_65 (by decide) ?_
      exact ih (i + 1) (by omega)
    · have hz0 : lc (i + 1) = 0 := (nI_eq (by omega) (by decide)).mp h18
      have hfw : fwl m lc n (i + 1) = none := if_pos hz0
      refine x_iconst (y := -1) dX3_findWrong_21 rfl ?_
      refine x_goto (tgt := 61) dX3_findWrong_22 (by decide) ?_
      refine x_ist (j := i + 1) (M1 := (M.set (19) (.inl (0, 9, .inl (fun j => lgv ((fwt m lc n l0 (i + 1)) j)))))) dX3_findWrong_61 (gs hlg) rfl (by omega) (by decide) (by rw [show upd (fun j => lgv ((fwt m lc n l0 (i)) j)) (i + 1) (-1) = (fun j => lgv ((fwt m lc n l0 (i + 1)) j)) from (fwt_step (by rw [hfw]; rfl))] <;> exact (ss0)) ?_
      refine x_iinc (y := nI ((i + 1) + 1)) (ls' := [some (.ref (12)), some (.int (nI many)), some (.int (nI ((i + 1) + 1))), none]) dX3_findWrong_62 (by decide) rfl rfl (ii_add _ 1) rfl ?_
      refine x_goto (tgt := 2) dX3_findWrong_65 (by decide) ?_
      exact ih (i + 1) (by omega)
theorem lp_fw2 {X : Ev} {M0 M : Hp} {m : Nat} (hm : M[12]? = some (.inr (2, [.ref (1), .ref (5), .ref (13), .ref (15), .ref (16), .ref (17), .ref (18), .ref (19), .ref (20)]))) {pw lg : Nat → Int32} (hf : M[1]? = some (.inr (1, [.ref (2), .ref (3), .ref (4), .int (nI m), .int (nI (2 ^ m - 1))]))) (hp : M[2]? = some (.inl (0, 8192, .inl (pw)))) (hq : M[3]? = some (.inl (0, 8192, .inl (lg)))) (hF : FT pw lg m) (hm4 : 4 ≤ m) {t d r n : Nat} {hi lo : Int64} (ho : M[5]? = some (.inr (0, [.ref (1), .ref (6), .ref (7), .ref (8), .ref (9), .ref (10), .int (nI t), .int (nI d), .int (nI r), .int (nI n), .long (hi), .long (lo)]))) (hn1 : 1 ≤ n) (hnN : n ≤ 2152) {lc wr : Nat → Nat} {l0 : Nat → Option Nat} (hlc : M[16]? = some (.inl (0, 17, .inl (fun j => nI ((lc) j))))) (hlg : M[19]? = some (.inl (0, 9, .inl (fun j => lgv ((l0) j))))) (hwr : M[20]? = some (.inl (0, 8, .inl (fun j => nI ((wr) j))))) (hlb : ∀ j, j < 17 → lc j < 2 ^ m) {many : Nat} (hmn : many ≤ 8) : ∀ (f b : Nat) (s : Fs), b + f = n → s.2.1 ≤ many → (∀ j l, 1 ≤ j → j ≤ many → s.1 j = some l → l < 2 ^ m - 1) → G X 2 jX3_findWrong M0 72 [some (.ref (12)), some (.int (nI many)), some (.int (nI s.2.1)), some (.int (nI (b)))] [] ((M.set (19) (.inl (0, 9, .inl (fun j => lgv ((s.1) j))))).set (20) (.inl (0, 8, .inl (fun j => nI ((s.2.2) j))))) (some (.int (if (fwr m many f b s).2.1 == many then 1 else 0))) ((M.set (19) (.inl (0, 9, .inl (fun j => lgv (((fwr m many f b s).1) j))))).set (20) (.inl (0, 8, .inl (fun j => nI (((fwr m many f b s).2.2) j))))) := by
  have ht := two_le hF.1.1 hF.1.2
  have h16 : 16 ≤ 2 ^ m := Nat.pow_le_pow_right (n := 2) (i := 4) (by decide) hm4
  intro f
  induction f with
  | zero =>
    intro b s hb hs hl
    have hb : b = n := by omega
    subst hb
    refine x_iload_n dX3_findWrong_72 rfl rfl ?_
    refine x_aload_n dX3_findWrong_73 rfl rfl ?_
    refine x_getf (ci := 2) (kf := 1) dX3_findWrong_74 rfl uX3 (by decide) fl_RX3_41 (gn (gn hm (by decide)) (by decide)) rfl ?_
    refine x_getf (ci := 0) (kf := 9) dX3_findWrong_77 rfl uX0 (by decide) fl_RX3_144 (gn (gn ho (by decide)) (by decide)) rfl ?_
    refine x_icmp_ge (tgt := 112) dX3_findWrong_80 (by decide) (fun _ => ?_) (fun h => False.elim (h (nI_le (Nat.le_refl _) (by omega))))
    show G _ _ _ _ _ _ _ _ (some (.int (if s.2.1 == many then 1 else 0))) _
    refine x_iload_n dX3_findWrong_112 rfl rfl ?_
    refine x_iload_n dX3_findWrong_113 rfl rfl ?_
    refine x_icmp_ne (tgt := 121) dX3_findWrong_114 (by decide) (fun h114 => ?_) (fun h114 => ?_)
    · refine x_iconst (y := nI 0) dX3_findWrong_121 rfl ?_
      exact x_zreturn_eq dX3_findWrong_122 rfl (by rw [show (s.2.1 == many) = false from beq_false_of_ne (fun z => h114 (by rw [z]))]; rfl)
    · refine x_iconst (y := nI 1) dX3_findWrong_117 rfl ?_
      refine x_goto (tgt := 122) dX3_findWrong_118 (by decide) ?_
      exact x_zreturn_eq dX3_findWrong_122 rfl (by rw [show (s.2.1 == many) = true from beq_iff_eq.mpr ((nI_eq (by omega) (by omega)).mp h114)]; rfl)
  | succ f ih =>
    intro b s hb hs hl
    refine x_iload_n dX3_findWrong_72 rfl rfl ?_
    refine x_aload_n dX3_findWrong_73 rfl rfl ?_
    refine x_getf (ci := 2) (kf := 1) dX3_findWrong_74 rfl uX3 (by decide) fl_RX3_41 (gn (gn hm (by decide)) (by decide)) rfl ?_
    refine x_getf (ci := 0) (kf := 9) dX3_findWrong_77 rfl uX0 (by decide) fl_RX3_144 (gn (gn ho (by decide)) (by decide)) rfl ?_
    refine x_icmp_ge (tgt := 112) dX3_findWrong_80 (by decide) (fun h => False.elim (nI_ge (by omega : b < n) (by omega) h)) (fun _ => ?_)
    refine x_iload_n dX3_findWrong_83 rfl rfl ?_
    refine x_iload_n dX3_findWrong_84 rfl rfl ?_
    refine x_icmp_ge (tgt := 112) dX3_findWrong_85 (by decide) (fun h85 => ?_) (fun h85 => ?_)
    · have hz : fwr m many (f + 1) b s = s := if_pos ((nI_leI (by omega) (by omega)).mp h85)
      rw [hz]
      refine x_iload_n dX3_findWrong_112 rfl rfl ?_
      refine x_iload_n dX3_findWrong_113 rfl rfl ?_
      refine x_icmp_ne (tgt := 121) dX3_findWrong_114 (by decide) (fun h114 => ?_) (fun h114 => ?_)
      · refine x_iconst (y := nI 0) dX3_findWrong_121 rfl ?_
        exact x_zreturn_eq dX3_findWrong_122 rfl (by rw [show (s.2.1 == many) = false from beq_false_of_ne (fun z => h114 (by rw [z]))]; rfl)
      · refine x_iconst (y := nI 1) dX3_findWrong_117 rfl ?_
        refine x_goto (tgt := 122) dX3_findWrong_118 (by decide) ?_
        exact x_zreturn_eq dX3_findWrong_122 rfl (by rw [show (s.2.1 == many) = true from beq_iff_eq.mpr ((nI_eq (by omega) (by omega)).mp h114)]; rfl)
    · have hlt : ¬ many ≤ s.2.1 := fun z => h85 (nI_le z (by omega))
      have hz : fwr m many (f + 1) b s = fwr m many f (b + 1) (fwx m many b s) := if_neg hlt
      rw [hz]
      have hl2 := lzl_lt (N := 2 ^ m - 1) (by omega) hmn hl
      refine x_aload_n dX3_findWrong_88 rfl rfl ?_
      refine x_iload_n dX3_findWrong_89 rfl rfl ?_
      refine x_callV (ci := 2) (as := [.int (nI many)]) dX3_findWrong_90 mk_X3_locatorIsZero in_X3_locatorIsZero se_X3_locatorIsZero ml_RX3_155 rfl (gn (gn hm (by decide)) (by decide)) (by decide) rfl rfl (Nat.le_of_ble_eq_true rfl) (c_locatorIsZero (gn (gn hm (by decide)) (by decide)) (gn (gn hf (by decide)) (by decide)) (gn (gn hp (by decide)) (by decide)) (gn (gn hq (by decide)) (by decide)) hF (gn (gs hlg) (by decide)) hmn hm4 hl) ?_
      refine G.hp (show (((M.set (19) (.inl (0, 9, .inl (fun j => lgv ((s.1) j))))).set (20) (.inl (0, 8, .inl (fun j => nI ((s.2.2) j))))).set (19) (.inl (0, 9, .inl (fun j => lgv ((lzl (2 ^ m - 1) s.1 many) j)))) : Hp) = ((M.set (19) (.inl (0, 9, .inl (fun j => lgv ((lzl (2 ^ m - 1) s.1 many) j))))).set (20) (.inl (0, 8, .inl (fun j => nI ((s.2.2) j))))) from (ss1 (by decide))) ?_
      refine x_if_eq (tgt := 106) dX3_findWrong_93 (by decide) (fun h93 => ?_) (fun h93 => ?_)
      · refine x_iinc (y := nI ((b) + 1)) (ls' := [some (.ref (12)), some (.int (nI many)), some (.int (nI s.2.1)), some (.int (nI ((b) + 1)))]) dX3_findWrong_106 (by decide) rfl rfl (ii_add _ 1) rfl ?_
        refine x_goto (tgt := 72) dX3_findWrong_109 (by decide) ?_
        have hq2 : (lzs m s.1 many == 0) = false := by
          cases hq3 : (lzs m s.1 many == 0)
          · first | rfl | exact absurd (by rw [hq3]; rfl) h93
          · first | rfl | (rw [hq3] at h93; exact absurd h93 (by decide))
        have hx : fwx m many b s = (lzl (2 ^ m - 1) s.1 many, s.2.1, s.2.2) := by unfold fwx; rw [hq2]; rfl
        rw [hx]
        exact ih (b + 1) (lzl (2 ^ m - 1) s.1 many, s.2.1, s.2.2) (by omega) (by show s.2.1 ≤ many; omega) hl2
      · refine x_aload_n dX3_findWrong_96 rfl rfl ?_
        refine x_getf (ci := 2) (kf := 8) dX3_findWrong_97 rfl uX3 (by decide) fl_RX3_34 (gn (gn hm (by decide)) (by decide)) rfl ?_
        refine x_iload_n dX3_findWrong_100 rfl rfl ?_
        refine x_iload_n dX3_findWrong_101 rfl rfl ?_
        refine x_ist (j := s.2.1) (M1 := ((M.set (19) (.inl (0, 9, .inl (fun j => lgv ((lzl (2 ^ m - 1) s.1 many) j))))).set (20) (.inl (0, 8, .inl (fun j => nI ((fun j => if j = s.2.1 then b else s.2.2 j) j)))))) dX3_findWrong_102 (gs (gn hwr (by decide))) rfl (by omega) (by decide) (by rw [show upd (fun j => nI ((s.2.2) j)) (s.2.1) (nI (b)) = (fun j => nI ((fun j => if j = s.2.1 then b else s.2.2 j) j)) from wr_step] <;> exact (ss0)) ?_
        refine x_iinc (y := nI (s.2.1 + 1)) (ls' := [some (.ref (12)), some (.int (nI many)), some (.int (nI (s.2.1 + 1))), some (.int (nI (b)))]) dX3_findWrong_103 (by decide) rfl rfl (ii_add _ 1) rfl ?_
        refine x_iinc (y := nI ((b) + 1)) (ls' := [some (.ref (12)), some (.int (nI many)), some (.int (nI (s.2.1 + 1))), some (.int (nI ((b) + 1)))]) dX3_findWrong_106 (by decide) rfl rfl (ii_add _ 1) rfl ?_
        refine x_goto (tgt := 72) dX3_findWrong_109 (by decide) ?_
        have hq2 : (lzs m s.1 many == 0) = true := by
          cases hq3 : (lzs m s.1 many == 0)
          · first | rfl | exact absurd (by rw [hq3]; rfl) h93
          · first | rfl | (rw [hq3] at h93; exact absurd h93 (by decide))
        have hx : fwx m many b s = (lzl (2 ^ m - 1) s.1 many, s.2.1 + 1, (fun j => if j = s.2.1 then b else s.2.2 j)) := by unfold fwx; rw [hq2]; rfl
        rw [hx]
        exact ih (b + 1) (lzl (2 ^ m - 1) s.1 many, s.2.1 + 1, (fun j => if j = s.2.1 then b else s.2.2 j)) (by omega) (by show s.2.1 + 1 ≤ many; omega) hl2
theorem c_findWrong {X : Ev} {M : Hp} {m : Nat} (hm : M[12]? = some (.inr (2, [.ref (1), .ref (5), .ref (13), .ref (15), .ref (16), .ref (17), .ref (18), .ref (19), .ref (20)]))) {pw lg : Nat → Int32} (hf : M[1]? = some (.inr (1, [.ref (2), .ref (3), .ref (4), .int (nI m), .int (nI (2 ^ m - 1))]))) (hp : M[2]? = some (.inl (0, 8192, .inl (pw)))) (hq : M[3]? = some (.inl (0, 8192, .inl (lg)))) (hF : FT pw lg m) (hm4 : 4 ≤ m) {t d r n : Nat} {hi lo : Int64} (ho : M[5]? = some (.inr (0, [.ref (1), .ref (6), .ref (7), .ref (8), .ref (9), .ref (10), .int (nI t), .int (nI d), .int (nI r), .int (nI n), .long (hi), .long (lo)]))) (hn1 : 1 ≤ n) (hnN : n ≤ 2152) {lc wr : Nat → Nat} {l0 : Nat → Option Nat} (hlc : M[16]? = some (.inl (0, 17, .inl (fun j => nI ((lc) j))))) (hlg : M[19]? = some (.inl (0, 9, .inl (fun j => lgv ((l0) j))))) (hwr : M[20]? = some (.inl (0, 8, .inl (fun j => nI ((wr) j))))) (hlb : ∀ j, j < 17 → lc j < 2 ^ m) {many : Nat} (hmn : many ≤ 8) : Cl X 2 jX3_findWrong [.ref (12), .int (nI many)] M (some (.int (if (fwr m many n 0 ((fwt m lc n l0 many, 0, wr) : Fs)).2.1 == many then 1 else 0))) ((M.set (19) (.inl (0, 9, .inl (fun j => lgv (((fwr m many n 0 ((fwt m lc n l0 many, 0, wr) : Fs)).1) j))))).set (20) (.inl (0, 8, .inl (fun j => nI (((fwr m many n 0 ((fwt m lc n l0 many, 0, wr) : Fs)).2.2) j))))) := by
  have ht := two_le hF.1.1 hF.1.2
  refine Cl.of (ls := [some (.ref (12)), some (.int (nI many)), none, none]) (by decide) rfl (Nat.le_of_ble_eq_true rfl) ?_
  refine x_iconst (y := nI 1) dX3_findWrong_0 rfl ?_
  refine x_istore_n (ls' := [some (.ref (12)), some (.int (nI many)), some (.int (nI 1)), none]) dX3_findWrong_1 rfl (by decide) rfl rfl ?_
  refine G.hp ((set_id hlg rfl).trans (by rw [show fwt m lc n l0 0 = l0 by funext j; unfold fwt; rw [if_neg (by omega)]])) (lp_fw1 hm hf hp hq hF hm4 ho hn1 hnN hlc hlg hwr hlb hmn ?_ many 0 (by omega))
  refine x_iconst (y := nI 0) dX3_findWrong_68 rfl ?_
  refine x_istore_n (ls' := [some (.ref (12)), some (.int (nI many)), some (.int (nI 0)), none]) dX3_findWrong_69 rfl (by decide) rfl rfl ?_
  refine x_iconst (y := nI 0) dX3_findWrong_70 rfl ?_
  refine x_istore_n (ls' := [some (.ref (12)), some (.int (nI many)), some (.int (nI 0)), some (.int (nI 0))]) dX3_findWrong_71 rfl (by decide) rfl rfl ?_
  refine G.hp (set_id (gn hwr (by decide)) rfl) (lp_fw2 hm hf hp hq hF hm4 ho hn1 hnN hlc hlg hwr hlb hmn n 0 ((fwt m lc n l0 many, 0, wr) : Fs) (by omega) (Nat.zero_le _) (fun j l h1 h2 he => ?_))
  have he2 : fwt m lc n l0 many j = some l := he
  unfold fwt at he2
  rw [if_pos ⟨h1, h2⟩] at he2
  exact fwl_lt (by omega) he2
