/-! THE MODEL: isMended -/
theorem neg_em {x n : Nat} (h : 0 < n) : ((-(x : Int)) % (n : Int)).toNat = (n - x % n) % n := by
  have hx := Nat.div_add_mod x n
  have hl := Nat.mod_lt x h
  by_cases h0 : x % n = 0
  · rw [h0, Nat.sub_zero, Nat.mod_self]
    have : (-(x : Int)) % (n : Int) = 0 := by
      rw [Int.neg_emod_eq_sub_emod, ← hx, h0]; simp
    rw [this]; rfl
  · rw [Nat.mod_eq_of_lt (show n - x % n < n by omega)]
    have e : -(x : Int) = ((n - x % n : Nat) : Int) + (n : Int) * (-((x / n : Nat) : Int) - 1) := by
      have h1 : (x : Int) = (n : Int) * ((x / n : Nat) : Int) + ((x % n : Nat) : Int) := by rw [← Int.natCast_mul, ← Int.natCast_add, hx]
      rw [Int.mul_sub, Int.mul_neg, Int.mul_one]
      omega
    rw [e, Int.add_mul_emod_self_left, ← Int.natCast_emod, Int.toNat_natCast, Nat.mod_eq_of_lt (by omega)]
theorem redl_neg {k e n : Nat} (hk : k < 2 ^ 20) (he : e < 2 ^ 20) (h0 : 0 < n) : redl (-(nI k).toInt64 * (nI e).toInt64) n = (n - k * e % n) % n := by
  unfold redl
  have hb : k * e < 2 ^ 40 := Nat.lt_of_lt_of_le (Nat.mul_lt_mul'' hk he) (by decide)
  have h : (-(nI k).toInt64 * (nI e).toInt64).toInt = -((k * e : Nat) : Int) := by
    have h1 : (-(nI k).toInt64).toInt = -(k : Int) := by rw [Int64.toInt_neg, nI_L (by omega), Int.bmod_eq_of_le] <;> omega
    rw [Int64.toInt_mul, h1, nI_L (by omega), Int.neg_mul, ← Int.natCast_mul, Int.bmod_eq_of_le] <;> omega
  rw [h, neg_em h0]
def svs (m : Nat) (sy : Nat → Nat) (many : Nat) (s : (Nat → Nat) × (Nat → Nat)) : ((Nat → Nat) × (Nat → Nat)) × Bool :=
  ((fl9 (gjl m many many 0 (fA (fun a b => s.1 (9 * a + b)) sy many many 0)).1, glo s.2 (gjl m many many 0 (fA (fun a b => s.1 (9 * a + b)) sy many many 0)) many), (gjl m many many 0 (fA (fun a b => s.1 (9 * a + b)) sy many many 0)).2)
def msr (m : Nat) (sy : Nat → Nat) : Nat → (Nat → Nat) × (Nat → Nat) → Nat × (Nat → Nat) × (Nat → Nat)
  | 0, s => (0, s)
  | k + 1, s => if (svs m sy (k + 1) s).2 then (k + 1, (svs m sy (k + 1) s).1) else msr m sy k (svs m sy (k + 1) s).1
/-- the locator's value at A^-e, after k terms -/
def lev (m : Nat) (lo : Nat → Nat) (e : Nat) : Nat → Nat
  | 0 => 0
  | k + 1 => lev m lo e k ^^^ fmul m (lo k) (pwr m ((2 ^ m - 1 - k * e % (2 ^ m - 1)) % (2 ^ m - 1)))
theorem lev_lt {m : Nat} (h3 : 3 ≤ m) (h13 : m ≤ 13) {lo : Nat → Nat} {e : Nat} : ∀ k, lev m lo e k < 2 ^ m
  | 0 => Nat.two_pow_pos m
  | k + 1 => xor_lt (lev_lt h3 h13 k) (fmul_lt h3 h13)
def msc (m : Nat) (lo : Nat → Nat) (n many : Nat) (wd : Nat → Bool) : Nat → Nat × (Nat → Bool)
  | 0 => (0, wd)
  | q + 1 => if lev m lo q (many + 1) = 0 then ((msc m lo n many wd q).1 + 1, bup (msc m lo n many wd q).2 (n - 1 - q) (!((msc m lo n many wd q).2 (n - 1 - q)))) else msc m lo n many wd q
theorem msc_le {m : Nat} {lo : Nat → Nat} {n many : Nat} {wd : Nat → Bool} : ∀ q, (msc m lo n many wd q).1 ≤ q
  | 0 => Nat.le_refl _
  | q + 1 => by
    have := msc_le (m := m) (lo := lo) (n := n) (many := many) (wd := wd) q
    unfold msc
    split
    · show (msc m lo n many wd q).1 + 1 ≤ _; omega
    · omega
/-- word, syndromes, lines, locator -/
abbrev Mi : Type := (Nat → Bool) × (Nat → Nat) × (Nat → Nat) × (Nat → Nat)
def imr (m t n : Nat) (s : Mi) : Nat × (Nat → Nat) × (Nat → Nat) := msr m (wsy m s.1 n s.2.1 (2 * t)) t s.2.2
def imc (m t n : Nat) (s : Mi) : Nat × (Nat → Bool) := msc m (imr m t n s).2.2 n (imr m t n s).1 s.1 n
def imd (m t n : Nat) (s : Mi) : Mi × Bool :=
  if wrt m s.1 n (2 * t) then ((s.1, wsy m s.1 n s.2.1 (2 * t), s.2.2), true)
  else if (imr m t n s).1 = 0 then ((s.1, wsy m s.1 n s.2.1 (2 * t), (imr m t n s).2), false)
  else if (imc m t n s).1 = (imr m t n s).1 then (((imc m t n s).2, wsy m (imc m t n s).2 n (wsy m s.1 n s.2.1 (2 * t)) (2 * t), (imr m t n s).2), wrt m (imc m t n s).2 n (2 * t))
  else (((imc m t n s).2, wsy m s.1 n s.2.1 (2 * t), (imr m t n s).2), false)
theorem gjl_Mb {m many : Nat} (h3 : 3 ≤ m) (h13 : m ≤ 13) : ∀ (z c : Nat) (A : Nat → Nat → Nat), c + z = many → Mb m many A → Mb m many (gjl m many z c A).1
  | 0, c, A, _, h => h
  | z + 1, c, A, hc, h => by
    unfold gjl
    split
    · exact h
    · exact gjl_Mb h3 h13 z (c + 1) _ (by omega) ((h.sw_ h3 h13 (by omega)).eA_ h3 h13)
theorem svs_lo {m : Nat} (h3 : 3 ≤ m) (h13 : m ≤ 13) {sy : Nat → Nat} {many : Nat} (h1 : 1 ≤ many) {s : (Nat → Nat) × (Nat → Nat)} (hs : ∀ j, 1 ≤ j → j ≤ 2 * many → sy j < 2 ^ m) (h : (svs m sy many s).2 = true) : ∀ j, j ≤ many → (svs m sy many s).1.2 j < 2 ^ m := fun j hj => by
  have ht := two_le h3 h13
  show glo s.2 _ many j < _
  unfold glo
  rw [if_pos (show (gjl m many many 0 (fA (fun a b => s.1 (9 * a + b)) sy many many 0)).2 = true from h)]
  unfold gjo
  split
  · omega
  · rw [if_pos (by omega)]
    exact gjl_Mb h3 h13 many 0 _ (by omega) (fun a b ha hb => by unfold fA; rw [if_pos (by omega)]; exact hs _ (by omega) (by omega)) (many - j) many (by omega) (Nat.le_refl _)
theorem msr_lo {m : Nat} (h3 : 3 ≤ m) (h13 : m ≤ 13) {sy : Nat → Nat} : ∀ (k : Nat) (s : (Nat → Nat) × (Nat → Nat)), (∀ j, 1 ≤ j → j ≤ 2 * k → sy j < 2 ^ m) → (msr m sy k s).1 ≤ k ∧ ((msr m sy k s).1 ≠ 0 → ∀ j, j ≤ (msr m sy k s).1 → (msr m sy k s).2.2 j < 2 ^ m)
  | 0, s, _ => ⟨Nat.le_refl _, fun h => absurd rfl h⟩
  | k + 1, s, hs => by
    unfold msr
    split
    · rename_i h
      exact ⟨Nat.le_refl _, fun _ j hj => svs_lo h3 h13 (by omega) hs h j hj⟩
    · have := msr_lo h3 h13 k (svs m sy (k + 1) s).1 (fun j h1 h2 => hs j h1 (by omega))
      exact ⟨by omega, this.2⟩
theorem im_f4 {X : Ev} {d' : Nat} {M0 M M' : Hp} {v : Option Value} {pc : Nat} {a0 a1 a2 a3 : Value} {b4 b5 : Option Value} (kc : G X d' jX7_isMended M0 pc [some a0, some a1, some a2, some a3, none, none] [] M v M') : G X d' jX7_isMended M0 pc [some a0, some a1, some a2, some a3, b4, b5] [] M v M' := x_fewer (fun q w h => by match q, h with | 0, h => exact h | 1, h => exact h | 2, h => exact h | 3, h => exact h | 4, h => cases h | 5, h => cases h | q + 6, h => cases h) kc
theorem lp_im1 {X : Ev} {M0 M M' : Hp} {v : Option Value} {op : Int32} {m t d r n tn : Nat} {me ri lt : Int32} (hO : M[138]? = some (.inr (6, [.int (op), .int (nI m), .int (nI t), .int (nI d), .int (nI r), .int (nI n), .int (nI (2 ^ m - 1)), .ref (139), .ref (140), .ref (141), .ref (142), .ref (143), .ref (144), .ref (145), .ref (146), .ref (147), .int (nI tn), .int (me), .int (ri), .int (lt), .ref (148), .ref (149), .ref (150), .ref (151), .ref (152), .ref (153), .ref (154)]))) {pw : Nat → Int32} (hp : M[139]? = some (.inl (0, 8192, .inl (pw)))) {lg : Nat → Int32} (hq : M[140]? = some (.inl (0, 8192, .inl (lg)))) {sy : Nat → Nat} (hsy : M[152]? = some (.inl (0, 17, .inl (fun j => nI ((sy) j))))) {li : Nat → Nat} (hli : M[153]? = some (.inl (0, 72, .inl (fun j => nI ((li) j))))) {lo : Nat → Nat} (hlo : M[154]? = some (.inl (0, 9, .inl (fun j => nI ((lo) j))))) (hF : FT pw lg m) : ∀ (k : Nat) (s : (Nat → Nat) × (Nat → Nat)), k ≤ 8 → (∀ j, 1 ≤ j → j ≤ 2 * k → sy j < 2 ^ m) → (kc : G X 2 jX7_isMended M0 32 [some (.ref (138)), some (.int (nI (msr m sy k s).1)), none, none, none, none] [] ((M.set (153) (.inl (0, 72, .inl (fun j => nI (((msr m sy k s).2.1) j))))).set (154) (.inl (0, 9, .inl (fun j => nI (((msr m sy k s).2.2) j))))) v M') → G X 2 jX7_isMended M0 14 [some (.ref (138)), some (.int (nI k)), none, none, none, none] [] ((M.set (153) (.inl (0, 72, .inl (fun j => nI ((s.1) j))))).set (154) (.inl (0, 9, .inl (fun j => nI ((s.2) j))))) v M' := by
  have ht := two_le hF.1.1 hF.1.2
  have hm3 := hF.1.1
  have hm13 := hF.1.2
  intro k
  induction k with
  | zero =>
    intro s hk8 hsb kc
    refine x_iload_n dX7_isMended_14 rfl rfl ?_
    refine x_if_le (tgt := 32) dX7_isMended_15 (by decide) (fun _ => ?_) (fun h => False.elim (absurd (Int32.le_refl _) h))
    exact kc
  | succ k ih =>
    intro s hk8 hsb kc
    have e1 : msr m sy (k + 1) s = if (svs m sy (k + 1) s).2 then (k + 1, (svs m sy (k + 1) s).1) else msr m sy k (svs m sy (k + 1) s).1 := rfl
    refine x_iload_n dX7_isMended_14 rfl rfl ?_
    refine x_if_le (tgt := 32) dX7_isMended_15 (by decide) (fun h => False.elim (absurd (Int32.le_iff_toInt_le.mp h) (by rw [nI_toInt (by omega)]; show ¬ ((k + 1 : Nat) : Int) ≤ 0; omega))) (fun _ => ?_)
    refine x_aload_n dX7_isMended_18 rfl rfl ?_
    refine x_iload_n dX7_isMended_19 rfl rfl ?_
    refine x_callV (ci := 6) (as := [.int (nI (k + 1))]) dX7_isMended_20 mk_X7_solves in_X7_solves se_X7_solves ml_RX7_169 rfl (gn (gn hO (by decide)) (by decide)) (by decide) rfl rfl (Nat.le_of_ble_eq_true rfl) (c_solves (gn (gn hO (by decide)) (by decide)) (gn (gn hp (by decide)) (by decide)) (gn (gn hq (by decide)) (by decide)) (gn (gn hsy (by decide)) (by decide)) (gn (gs hli) (by decide)) (gs (gn hlo (by decide))) hF (by omega) hk8 hsb) ?_
    refine G.hp ((congrArg (fun Z : Hp => Z.set (154) (.inl (0, 9, .inl (fun j => nI (((svs m sy (k + 1) s).1.2) j))))) (show (((M.set (153) (.inl (0, 72, .inl (fun j => nI ((s.1) j))))).set (154) (.inl (0, 9, .inl (fun j => nI ((s.2) j))))).set (153) (.inl (0, 72, .inl (fun j => nI (((svs m sy (k + 1) s).1.1) j)))) : Hp) = ((M.set (153) (.inl (0, 72, .inl (fun j => nI (((svs m sy (k + 1) s).1.1) j))))).set (154) (.inl (0, 9, .inl (fun j => nI ((s.2) j))))) from (ss1 (by decide)))).trans (show (((M.set (153) (.inl (0, 72, .inl (fun j => nI (((svs m sy (k + 1) s).1.1) j))))).set (154) (.inl (0, 9, .inl (fun j => nI ((s.2) j))))).set (154) (.inl (0, 9, .inl (fun j => nI (((svs m sy (k + 1) s).1.2) j)))) : Hp) = ((M.set (153) (.inl (0, 72, .inl (fun j => nI (((svs m sy (k + 1) s).1.1) j))))).set (154) (.inl (0, 9, .inl (fun j => nI (((svs m sy (k + 1) s).1.2) j))))) from (ss0))) ?_
    refine x_if_ne (tgt := 32) dX7_isMended_23 (by decide) (fun h23 => ?_) (fun h23 => ?_)
    · rw [e1, if_pos (show (svs m sy (k + 1) s).2 = true from ite1 h23)] at kc
      exact kc
    · refine x_iinc (y := nI k) (ls' := [some (.ref (138)), some (.int (nI k)), none, none, none, none]) dX7_isMended_26 (by decide) rfl rfl (nI_m) rfl ?_
      refine x_goto (tgt := 14) dX7_isMended_29 (by decide) ?_
      rw [e1, if_neg (Bool.eq_false_iff.mp (show (svs m sy (k + 1) s).2 = false from ite0 h23))] at kc
      exact ih (svs m sy (k + 1) s).1 (by omega) (fun j h1 h2 => hsb j h1 (by omega)) kc
theorem lp_im2 {X : Ev} {M0 M M' : Hp} {v : Option Value} {op : Int32} {m t d r n tn : Nat} {me ri lt : Int32} (hO : M[138]? = some (.inr (6, [.int (op), .int (nI m), .int (nI t), .int (nI d), .int (nI r), .int (nI n), .int (nI (2 ^ m - 1)), .ref (139), .ref (140), .ref (141), .ref (142), .ref (143), .ref (144), .ref (145), .ref (146), .ref (147), .int (nI tn), .int (me), .int (ri), .int (lt), .ref (148), .ref (149), .ref (150), .ref (151), .ref (152), .ref (153), .ref (154)]))) {pw : Nat → Int32} (hp : M[139]? = some (.inl (0, 8192, .inl (pw)))) {lg : Nat → Int32} (hq : M[140]? = some (.inl (0, 8192, .inl (lg)))) {wd : Nat → Bool} (hwd : M[150]? = some (.inl (2, 2200, .inl (fun j => nI ((wd) j).toNat)))) {lo : Nat → Nat} (hlo : M[154]? = some (.inl (0, 9, .inl (fun j => nI ((lo) j))))) (hF : FT pw lg m) (hn1 : 1 ≤ n) (hn22 : n ≤ 2176) {many : Nat} (hm1 : 1 ≤ many) (hm8 : many ≤ 8) (hlb : ∀ j, j ≤ many → lo j < 2 ^ m) {ee : Nat} (hee : ee < n) {a2 : Int32} (k : G X 2 jX7_isMended M0 98 [some (.ref (138)), some (.int (nI many)), some (.int (a2)), some (.int (nI ee)), some (.int (nI (lev m lo ee ((many + 1))))), some (.int (nI ((many + 1))))] [] M v M') : ∀ (zz i : Nat), i + zz = (many + 1) → G X 2 jX7_isMended M0 54 [some (.ref (138)), some (.int (nI many)), some (.int (a2)), some (.int (nI ee)), some (.int (nI (lev m lo ee (i)))), some (.int (nI i))] [] M v M' := by
  have ht := two_le hF.1.1 hF.1.2
  have hm3 := hF.1.1
  have hm13 := hF.1.2
  have hpl : ∀ j, pwr m j < 2 ^ m := pwr_lt hm3 hm13
  intro zz
  induction zz with
  | zero =>
    intro i hjj
    have hjj : i = (many + 1) := by omega
    subst hjj
    refine x_iload dX7_isMended_54 rfl ?_
    refine x_iload_n dX7_isMended_56 rfl rfl ?_
    refine x_icmp_gt (tgt := 98) dX7_isMended_57 (by decide) (fun _ => ?_) (fun h => False.elim (h ((nI_ltI (by omega) (by omega)).mpr (by omega))))
    exact k
  | succ zz ih =>
    intro i hjj
    refine x_iload dX7_isMended_54 rfl ?_
    refine x_iload_n dX7_isMended_56 rfl rfl ?_
    refine x_icmp_gt (tgt := 98) dX7_isMended_57 (by decide) (fun h => False.elim (absurd ((nI_ltI (by omega) (by omega)).mp h) (by omega))) (fun _ => ?_)
    refine x_iload dX7_isMended_60 rfl ?_
    refine x_aload_n dX7_isMended_62 rfl rfl ?_
    refine x_aload_n dX7_isMended_63 rfl rfl ?_
    refine x_getf (ci := 6) (kf := 26) dX7_isMended_64 rfl uX7 (by decide) fl_RX7_57 hO rfl ?_
    refine x_iload dX7_isMended_67 rfl ?_
    refine x_ild (j := i) dX7_isMended_69 hlo rfl (by omega) (by decide) ?_
    refine x_aload_n dX7_isMended_70 rfl rfl ?_
    refine x_getf (ci := 6) (kf := 7) dX7_isMended_71 rfl uX7 (by decide) fl_RX7_7 hO rfl ?_
    refine x_aload_n dX7_isMended_74 rfl rfl ?_
    refine x_iload dX7_isMended_75 rfl ?_
    refine x_i2l dX7_isMended_77 ?_
    refine x_lneg dX7_isMended_78 ?_
    refine x_iload_n dX7_isMended_79 rfl rfl ?_
    refine x_i2l dX7_isMended_80 ?_
    refine x_lmul dX7_isMended_81 ?_
    refine x_callV (ci := 6) (as := [.long ((-((nI i).toInt64)) * ((nI ee).toInt64))]) dX7_isMended_82 mk_X7_exponent in_X7_exponent se_X7_exponent ml_RX7_76 rfl hO (by decide) rfl rfl (Nat.le_of_ble_eq_true rfl) (c_exponent hO (by omega) hm13) ?_
    refine x_casti (y := nI ((2 ^ m - 1 - i * ee % (2 ^ m - 1)) % (2 ^ m - 1))) (by rw [redl_neg (by omega) (by omega) (by omega)]) ?_
    refine x_ild (j := (2 ^ m - 1 - i * ee % (2 ^ m - 1)) % (2 ^ m - 1)) dX7_isMended_85 hp rfl (by have := Nat.mod_lt (2 ^ m - 1 - i * ee % (2 ^ m - 1)) (show 0 < 2 ^ m - 1 by omega); omega) (by decide) ?_
    refine x_casti (y := nI (pwr m ((2 ^ m - 1 - i * ee % (2 ^ m - 1)) % (2 ^ m - 1)))) ((hF.2 _ (Nat.mod_lt _ (by omega))).1) ?_
    refine x_callV (ci := 6) (as := [.int (nI (lo (i))), .int (nI (pwr m ((2 ^ m - 1 - i * ee % (2 ^ m - 1)) % (2 ^ m - 1))))]) dX7_isMended_86 mk_X7_by in_X7_by se_X7_by ml_RX7_72 rfl hO (by decide) rfl rfl (Nat.le_of_ble_eq_true rfl) (c_by hO hp hq hF (hlb i (by omega)) (hpl _)) ?_
    refine x_ixor dX7_isMended_89 ?_
    refine x_casti (y := nI (lev m lo ee (i + 1))) (nI_xor _ _) ?_
    refine x_istore (ls' := [some (.ref (138)), some (.int (nI many)), some (.int (a2)), some (.int (nI ee)), some (.int (nI (lev m lo ee (i + 1)))), some (.int (nI i))]) dX7_isMended_90 (by decide) rfl rfl ?_
    refine x_iinc (y := nI (i + 1)) (ls' := [some (.ref (138)), some (.int (nI many)), some (.int (a2)), some (.int (nI ee)), some (.int (nI (lev m lo ee (i + 1)))), some (.int (nI (i + 1)))]) dX7_isMended_92 (by decide) rfl rfl (ii_add _ 1) rfl ?_
    refine x_goto (tgt := 54) dX7_isMended_95 (by decide) ?_
    exact ih (i + 1) (by omega)
theorem lp_im3 {X : Ev} {M0 M M' : Hp} {v : Option Value} {op : Int32} {m t d r n tn : Nat} {me ri lt : Int32} (hO : M[138]? = some (.inr (6, [.int (op), .int (nI m), .int (nI t), .int (nI d), .int (nI r), .int (nI n), .int (nI (2 ^ m - 1)), .ref (139), .ref (140), .ref (141), .ref (142), .ref (143), .ref (144), .ref (145), .ref (146), .ref (147), .int (nI tn), .int (me), .int (ri), .int (lt), .ref (148), .ref (149), .ref (150), .ref (151), .ref (152), .ref (153), .ref (154)]))) {pw : Nat → Int32} (hp : M[139]? = some (.inl (0, 8192, .inl (pw)))) {lg : Nat → Int32} (hq : M[140]? = some (.inl (0, 8192, .inl (lg)))) {wd : Nat → Bool} (hwd : M[150]? = some (.inl (2, 2200, .inl (fun j => nI ((wd) j).toNat)))) {lo : Nat → Nat} (hlo : M[154]? = some (.inl (0, 9, .inl (fun j => nI ((lo) j))))) (hF : FT pw lg m) (hn1 : 1 ≤ n) (hn22 : n ≤ 2176) {many : Nat} (hm1 : 1 ≤ many) (hm8 : many ≤ 8) (hlb : ∀ j, j ≤ many → lo j < 2 ^ m) (kc : G X 2 jX7_isMended M0 146 [some (.ref (138)), some (.int (nI many)), some (.int (nI (msc m lo n many wd (n)).1)), some (.int (nI n)), none, none] [] (M.set (150) (.inl (2, 2200, .inl (fun j => nI (((msc m lo n many wd (n)).2) j).toNat)))) v M') : ∀ (zz q : Nat), q + zz = n → G X 2 jX7_isMended M0 36 [some (.ref (138)), some (.int (nI many)), some (.int (nI (msc m lo n many wd (q)).1)), some (.int (nI q)), none, none] [] (M.set (150) (.inl (2, 2200, .inl (fun j => nI (((msc m lo n many wd (q)).2) j).toNat)))) v M' := by
  have ht := two_le hF.1.1 hF.1.2
  have hm3 := hF.1.1
  have hm13 := hF.1.2
  intro zz
  induction zz with
  | zero =>
    intro q hqq
    have hqq : q = n := by omega
    subst hqq
    refine x_iload_n dX7_isMended_36 rfl rfl ?_
    refine x_aload_n dX7_isMended_37 rfl rfl ?_
    refine x_getf (ci := 6) (kf := 5) dX7_isMended_38 rfl uX7 (by decide) fl_RX7_113 (gn hO (by decide)) rfl ?_
    refine x_icmp_ge (tgt := 146) dX7_isMended_41 (by decide) (fun _ => ?_) (fun h => False.elim (h (nI_le (Nat.le_refl _) (by omega))))
    exact kc
  | succ zz ih =>
    intro q hqq
    have hk := ih (q + 1) (by omega)
    have hll := lev_lt hm3 hm13 (lo := lo) (e := q) (many + 1)
    have e1 : msc m lo n many wd (q + 1) = if lev m lo q (many + 1) = 0 then ((msc m lo n many wd (q)).1 + 1, bup (msc m lo n many wd (q)).2 (n - 1 - q) (!((msc m lo n many wd (q)).2 (n - 1 - q)))) else (msc m lo n many wd (q)) := rfl
    refine x_iload_n dX7_isMended_36 rfl rfl ?_
    refine x_aload_n dX7_isMended_37 rfl rfl ?_
    refine x_getf (ci := 6) (kf := 5) dX7_isMended_38 rfl uX7 (by decide) fl_RX7_113 (gn hO (by decide)) rfl ?_
    refine x_icmp_ge (tgt := 146) dX7_isMended_41 (by decide) (fun h => False.elim (nI_ge (by omega : q < n) (by omega) h)) (fun _ => ?_)
    refine x_iload_n dX7_isMended_44 rfl rfl ?_
    refine x_if_le (tgt := 146) dX7_isMended_45 (by decide) (fun h => False.elim (absurd (Int32.le_iff_toInt_le.mp h) (by rw [nI_toInt (by omega)]; show ¬ ((many : Nat) : Int) ≤ 0; omega))) (fun _ => ?_)
    refine x_iconst (y := nI 0) dX7_isMended_48 rfl ?_
    refine x_istore (ls' := [some (.ref (138)), some (.int (nI many)), some (.int (nI (msc m lo n many wd (q)).1)), some (.int (nI q)), some (.int (nI 0)), none]) dX7_isMended_49 (by decide) rfl rfl ?_
    refine x_iconst (y := nI 0) dX7_isMended_51 rfl ?_
    refine x_istore (ls' := [some (.ref (138)), some (.int (nI many)), some (.int (nI (msc m lo n many wd (q)).1)), some (.int (nI q)), some (.int (nI 0)), some (.int (nI 0))]) dX7_isMended_52 (by decide) rfl rfl ?_
    refine lp_im2 (M := (M.set (150) (.inl (2, 2200, .inl (fun j => nI (((msc m lo n many wd (q)).2) j).toNat))))) (gn hO (by decide)) (gn hp (by decide)) (gn hq (by decide)) (gs hwd) (gn hlo (by decide)) hF hn1 hn22 hm1 hm8 hlb (ee := q) (by omega) ?_ (many + 1) 0 (by omega)
    refine x_iload dX7_isMended_98 rfl ?_
    refine x_if_ne (tgt := 140) dX7_isMended_100 (by decide) (fun h100 => ?_) (fun h100 => ?_)
    · refine x_iinc (y := nI (q + 1)) (ls' := [some (.ref (138)), some (.int (nI many)), some (.int (nI (msc m lo n many wd (q)).1)), some (.int (nI (q + 1))), some (.int (nI (lev m lo q (many + 1)))), some (.int (nI (many + 1)))]) dX7_isMended_140 (by decide) rfl rfl (ii_add _ 1) rfl ?_
      refine x_goto (tgt := 36) dX7_isMended_143 (by decide) ?_
      rw [e1, if_neg (fun z => h100 (by rw [z]; rfl))] at hk
      refine im_f4 ?_
      exact hk
    · refine x_iinc (y := nI ((msc m lo n many wd (q)).1 + 1)) (ls' := [some (.ref (138)), some (.int (nI many)), some (.int (nI ((msc m lo n many wd (q)).1 + 1))), some (.int (nI q)), some (.int (nI (lev m lo q (many + 1)))), some (.int (nI (many + 1)))]) dX7_isMended_103 (by decide) rfl rfl (ii_add _ 1) rfl ?_
      refine x_aload_n dX7_isMended_106 rfl rfl ?_
      refine x_getf (ci := 6) (kf := 22) dX7_isMended_107 rfl uX7 (by decide) fl_RX7_45 (gn hO (by decide)) rfl ?_
      refine x_aload_n dX7_isMended_110 rfl rfl ?_
      refine x_getf (ci := 6) (kf := 5) dX7_isMended_111 rfl uX7 (by decide) fl_RX7_113 (gn hO (by decide)) rfl ?_
      refine x_iconst (y := nI 1) dX7_isMended_114 rfl ?_
      refine x_isub dX7_isMended_115 ?_
      refine x_casti (y := nI (n - 1)) (pk_sub (by omega)) ?_
      refine x_iload_n dX7_isMended_116 rfl rfl ?_
      refine x_isub dX7_isMended_117 ?_
      refine x_casti (y := nI (n - 1 - q)) (pk_sub (by omega)) ?_
      refine x_aload_n dX7_isMended_118 rfl rfl ?_
      refine x_getf (ci := 6) (kf := 22) dX7_isMended_119 rfl uX7 (by decide) fl_RX7_45 (gn hO (by decide)) rfl ?_
      refine x_aload_n dX7_isMended_122 rfl rfl ?_
      refine x_getf (ci := 6) (kf := 5) dX7_isMended_123 rfl uX7 (by decide) fl_RX7_113 (gn hO (by decide)) rfl ?_
      refine x_iconst (y := nI 1) dX7_isMended_126 rfl ?_
      refine x_isub dX7_isMended_127 ?_
      refine x_casti (y := nI (n - 1)) (pk_sub (by omega)) ?_
      refine x_iload_n dX7_isMended_128 rfl rfl ?_
      refine x_isub dX7_isMended_129 ?_
      refine x_casti (y := nI (n - 1 - q)) (pk_sub (by omega)) ?_
      refine x_zld (j := n - 1 - q) dX7_isMended_130 (gs hwd) rfl (by omega) (by decide) ?_
      refine x_if_ne (tgt := 138) dX7_isMended_131 (by decide) (fun h131 => ?_) (fun h131 => ?_)
      · refine x_iconst (y := nI 0) dX7_isMended_138 rfl ?_
        refine x_zst (j := n - 1 - q) (M1 := (M.set (150) (.inl (2, 2200, .inl (fun j => nI ((bup (msc m lo n many wd (q)).2 (n - 1 - q) (!((msc m lo n many wd (q)).2 (n - 1 - q)))) j).toNat))))) dX7_isMended_139 (gs hwd) rfl (by omega) (by decide) (by rw [show upd (fun j => nI (((msc m lo n many wd (q)).2) j).toNat) (n - 1 - q) (vp_nar .boolean (nI 0)) = (fun j => nI ((bup (msc m lo n many wd (q)).2 (n - 1 - q) (!((msc m lo n many wd (q)).2 (n - 1 - q)))) j).toNat) from (by rw [bt1 h131]; exact zup (x := false))] <;> exact (ss0)) ?_
        refine x_iinc (y := nI (q + 1)) (ls' := [some (.ref (138)), some (.int (nI many)), some (.int (nI ((msc m lo n many wd (q)).1 + 1))), some (.int (nI (q + 1))), some (.int (nI (lev m lo q (many + 1)))), some (.int (nI (many + 1)))]) dX7_isMended_140 (by decide) rfl rfl (ii_add _ 1) rfl ?_
        refine x_goto (tgt := 36) dX7_isMended_143 (by decide) ?_
        rw [e1, if_pos ((nI_eq (by omega) (by decide)).mp h100)] at hk
        refine im_f4 ?_
        exact hk
      · refine x_iconst (y := nI 1) dX7_isMended_134 rfl ?_
        refine x_goto (tgt := 139) dX7_isMended_135 (by decide) ?_
        refine x_zst (j := n - 1 - q) (M1 := (M.set (150) (.inl (2, 2200, .inl (fun j => nI ((bup (msc m lo n many wd (q)).2 (n - 1 - q) (!((msc m lo n many wd (q)).2 (n - 1 - q)))) j).toNat))))) dX7_isMended_139 (gs hwd) rfl (by omega) (by decide) (by rw [show upd (fun j => nI (((msc m lo n many wd (q)).2) j).toNat) (n - 1 - q) (vp_nar .boolean (nI 1)) = (fun j => nI ((bup (msc m lo n many wd (q)).2 (n - 1 - q) (!((msc m lo n many wd (q)).2 (n - 1 - q)))) j).toNat) from (by rw [bt0 h131]; exact zup (x := true))] <;> exact (ss0)) ?_
        refine x_iinc (y := nI (q + 1)) (ls' := [some (.ref (138)), some (.int (nI many)), some (.int (nI ((msc m lo n many wd (q)).1 + 1))), some (.int (nI (q + 1))), some (.int (nI (lev m lo q (many + 1)))), some (.int (nI (many + 1)))]) dX7_isMended_140 (by decide) rfl rfl (ii_add _ 1) rfl ?_
        refine x_goto (tgt := 36) dX7_isMended_143 (by decide) ?_
        rw [e1, if_pos ((nI_eq (by omega) (by decide)).mp h100)] at hk
        refine im_f4 ?_
        exact hk
theorem c_misMended {X : Ev} {M : Hp} {s : Mi} {op : Int32} {m t d r n tn : Nat} {me ri lt : Int32} (hO : M[138]? = some (.inr (6, [.int (op), .int (nI m), .int (nI t), .int (nI d), .int (nI r), .int (nI n), .int (nI (2 ^ m - 1)), .ref (139), .ref (140), .ref (141), .ref (142), .ref (143), .ref (144), .ref (145), .ref (146), .ref (147), .int (nI tn), .int (me), .int (ri), .int (lt), .ref (148), .ref (149), .ref (150), .ref (151), .ref (152), .ref (153), .ref (154)]))) {pw : Nat → Int32} (hp : M[139]? = some (.inl (0, 8192, .inl (pw)))) {lg : Nat → Int32} (hq : M[140]? = some (.inl (0, 8192, .inl (lg)))) (hwd : M[150]? = some (.inl (2, 2200, .inl (fun j => nI ((s.1) j).toNat)))) (hsy : M[152]? = some (.inl (0, 17, .inl (fun j => nI ((s.2.1) j))))) (hli : M[153]? = some (.inl (0, 72, .inl (fun j => nI ((s.2.2.1) j))))) (hlo : M[154]? = some (.inl (0, 9, .inl (fun j => nI ((s.2.2.2) j))))) (hF : FT pw lg m) (ht1 : 1 ≤ t) (ht8 : t ≤ 8) (hn1 : 1 ≤ n) (hn22 : n ≤ 2176) : Cl X 2 jX7_isMended [.ref (138)] M (some (.int (if (imd m t n s).2 then 1 else 0))) ((((M.set (150) (.inl (2, 2200, .inl (fun j => nI (((imd m t n s).1.1) j).toNat)))).set (152) (.inl (0, 17, .inl (fun j => nI (((imd m t n s).1.2.1) j))))).set (153) (.inl (0, 72, .inl (fun j => nI (((imd m t n s).1.2.2.1) j))))).set (154) (.inl (0, 9, .inl (fun j => nI (((imd m t n s).1.2.2.2) j))))) := by
  have ht := two_le hF.1.1 hF.1.2
  have hm3 := hF.1.1
  have hm13 := hF.1.2
  have hwb : ∀ j, 1 ≤ j → j ≤ 2 * t → wsy m s.1 n s.2.1 (2 * t) j < 2 ^ m := fun j h1 h2 => by unfold wsy; rw [if_pos ⟨h1, h2⟩]; exact wsm_lt hm3 hm13 n
  have hml := msr_lo hm3 hm13 t s.2.2 hwb
  refine Cl.of (ls := [some (.ref (138)), none, none, none, none, none]) (by decide) rfl (Nat.le_of_ble_eq_true rfl) ?_
  refine G.hp ((((set_id (M := M) hwd rfl).trans (set_id (M := (M.set (150) (.inl (2, 2200, .inl (fun j => nI ((s.1) j).toNat))))) (gn hsy (by decide)) rfl)).trans (set_id (M := ((M.set (150) (.inl (2, 2200, .inl (fun j => nI ((s.1) j).toNat)))).set (152) (.inl (0, 17, .inl (fun j => nI ((s.2.1) j)))))) (gn (gn hli (by decide)) (by decide)) rfl)).trans (set_id (M := (((M.set (150) (.inl (2, 2200, .inl (fun j => nI ((s.1) j).toNat)))).set (152) (.inl (0, 17, .inl (fun j => nI ((s.2.1) j))))).set (153) (.inl (0, 72, .inl (fun j => nI ((s.2.2.1) j)))))) (gn (gn (gn hlo (by decide)) (by decide)) (by decide)) rfl)) ?_
  refine x_aload_n dX7_isMended_0 rfl rfl ?_
  refine x_callV (ci := 6) (as := []) dX7_isMended_1 mk_X7_isRight in_X7_isRight se_X7_isRight ml_RX7_165 rfl (gn (gn (gn (gn hO (by decide)) (by decide)) (by decide)) (by decide)) (by decide) rfl rfl (Nat.le_of_ble_eq_true rfl) (c_isRight (gn (gn (gn (gn hO (by decide)) (by decide)) (by decide)) (by decide)) (gn (gn (gn (gn hp (by decide)) (by decide)) (by decide)) (by decide)) (gn (gn (gn (gs hwd) (by decide)) (by decide)) (by decide)) (gn (gn (gs (gn hsy (by decide))) (by decide)) (by decide)) hF ht8 hn1 hn22) ?_
  refine G.hp (show (((((M.set (150) (.inl (2, 2200, .inl (fun j => nI ((s.1) j).toNat)))).set (152) (.inl (0, 17, .inl (fun j => nI ((s.2.1) j))))).set (153) (.inl (0, 72, .inl (fun j => nI ((s.2.2.1) j))))).set (154) (.inl (0, 9, .inl (fun j => nI ((s.2.2.2) j))))).set (152) (.inl (0, 17, .inl (fun j => nI ((wsy m s.1 n s.2.1 (2 * t)) j)))) : Hp) = ((((M.set (150) (.inl (2, 2200, .inl (fun j => nI ((s.1) j).toNat)))).set (152) (.inl (0, 17, .inl (fun j => nI ((wsy m s.1 n s.2.1 (2 * t)) j))))).set (153) (.inl (0, 72, .inl (fun j => nI ((s.2.2.1) j))))).set (154) (.inl (0, 9, .inl (fun j => nI ((s.2.2.2) j))))) from (ss2 (by decide) (by decide))) ?_
  refine x_if_eq (tgt := 9) dX7_isMended_4 (by decide) (fun h4 => ?_) (fun h4 => ?_)
  · refine x_aload_n dX7_isMended_9 rfl rfl ?_
    refine x_getf (ci := 6) (kf := 2) dX7_isMended_10 rfl uX7 (by decide) fl_RX7_104 (gn (gn (gn (gn hO (by decide)) (by decide)) (by decide)) (by decide)) rfl ?_
    refine x_istore_n (ls' := [some (.ref (138)), some (.int (nI t)), none, none, none, none]) dX7_isMended_13 rfl (by decide) rfl rfl ?_
    have hnr : ¬ wrt m s.1 n (2 * t) = true := by rw [ite0 h4]; decide
    refine lp_im1 (M := ((M.set (150) (.inl (2, 2200, .inl (fun j => nI ((s.1) j).toNat)))).set (152) (.inl (0, 17, .inl (fun j => nI ((wsy m s.1 n s.2.1 (2 * t)) j)))))) (gn (gn hO (by decide)) (by decide)) (gn (gn hp (by decide)) (by decide)) (gn (gn hq (by decide)) (by decide)) (gs (gn hsy (by decide))) (gn (gn hli (by decide)) (by decide)) (gn (gn hlo (by decide)) (by decide)) hF t s.2.2 ht8 hwb ?_
    refine x_iconst (y := nI 0) dX7_isMended_32 rfl ?_
    refine x_istore_n (ls' := [some (.ref (138)), some (.int (nI (imr m t n s).1)), some (.int (nI 0)), none, none, none]) dX7_isMended_33 rfl (by decide) rfl rfl ?_
    refine x_iconst (y := nI 0) dX7_isMended_34 rfl ?_
    refine x_istore_n (ls' := [some (.ref (138)), some (.int (nI (imr m t n s).1)), some (.int (nI 0)), some (.int (nI 0)), none, none]) dX7_isMended_35 rfl (by decide) rfl rfl ?_
    have hirl : (imr m t n s).1 ≤ t := hml.1
    by_cases hm0 : (imr m t n s).1 = 0
    · have hz : (imd m t n s) = ((s.1, (wsy m s.1 n s.2.1 (2 * t)), (imr m t n s).2), false) := by show (if _ then _ else if _ then _ else _) = _; rw [if_neg hnr, if_pos hm0]
      rw [hz]
      refine x_iload_n dX7_isMended_36 rfl rfl ?_
      refine x_aload_n dX7_isMended_37 rfl rfl ?_
      refine x_getf (ci := 6) (kf := 5) dX7_isMended_38 rfl uX7 (by decide) fl_RX7_113 (gn (gn (gn (gn hO (by decide)) (by decide)) (by decide)) (by decide)) rfl ?_
      refine x_icmp_ge (tgt := 146) dX7_isMended_41 (by decide) (fun h => False.elim (nI_ge (by omega : 0 < n) (by omega) h)) (fun _ => ?_)
      refine x_iload_n dX7_isMended_44 rfl rfl ?_
      refine x_if_le (tgt := 146) dX7_isMended_45 (by decide) (fun _ => ?_) (fun h => False.elim (h (by rw [hm0]; exact Int32.le_refl _)))
      refine x_iload_n dX7_isMended_146 rfl rfl ?_
      refine x_if_le (tgt := 166) dX7_isMended_147 (by decide) (fun _ => ?_) (fun h => False.elim (h (by rw [hm0]; exact Int32.le_refl _)))
      refine x_iconst (y := nI 0) dX7_isMended_166 rfl ?_
      exact x_zreturn_eq dX7_isMended_167 rfl rfl
    · refine G.hp (show _ = ((((M.set (152) (.inl (0, 17, .inl (fun j => nI ((wsy m s.1 n s.2.1 (2 * t)) j))))).set (153) (.inl (0, 72, .inl (fun j => nI (((imr m t n s).2.1) j))))).set (154) (.inl (0, 9, .inl (fun j => nI (((imr m t n s).2.2) j))))).set (150) (.inl (2, 2200, .inl (fun j => nI (((msc m (imr m t n s).2.2 n (imr m t n s).1 s.1 0).2) j).toNat)))) from by rw [List.set_comm _ _ (by decide : (154 : Nat) ≠ 150), List.set_comm _ _ (by decide : (153 : Nat) ≠ 150), List.set_comm _ _ (by decide : (152 : Nat) ≠ 150)]; rfl) ?_
      refine lp_im3 (M := (((M.set (152) (.inl (0, 17, .inl (fun j => nI ((wsy m s.1 n s.2.1 (2 * t)) j))))).set (153) (.inl (0, 72, .inl (fun j => nI (((imr m t n s).2.1) j))))).set (154) (.inl (0, 9, .inl (fun j => nI (((imr m t n s).2.2) j)))))) (gn (gn (gn hO (by decide)) (by decide)) (by decide)) (gn (gn (gn hp (by decide)) (by decide)) (by decide)) (gn (gn (gn hq (by decide)) (by decide)) (by decide)) (gn (gn (gn hwd (by decide)) (by decide)) (by decide)) (gs (gn (gn hlo (by decide)) (by decide))) hF hn1 hn22 (Nat.pos_of_ne_zero hm0) (Nat.le_trans hirl ht8) (hml.2 hm0) ?_ n 0 (by omega)
      refine G.hp (show _ = ((((M.set (150) (.inl (2, 2200, .inl (fun j => nI (((imc m t n s).2) j).toNat)))).set (152) (.inl (0, 17, .inl (fun j => nI ((wsy m s.1 n s.2.1 (2 * t)) j))))).set (153) (.inl (0, 72, .inl (fun j => nI (((imr m t n s).2.1) j))))).set (154) (.inl (0, 9, .inl (fun j => nI (((imr m t n s).2.2) j))))) from by rw [List.set_comm _ _ (by decide : (154 : Nat) ≠ 150), List.set_comm _ _ (by decide : (153 : Nat) ≠ 150), List.set_comm _ _ (by decide : (152 : Nat) ≠ 150)]; rfl) ?_
      have hic : (imc m t n s).1 ≤ n := msc_le n
      refine x_iload_n dX7_isMended_146 rfl rfl ?_
      refine x_if_le (tgt := 166) dX7_isMended_147 (by decide) (fun h => False.elim (absurd (Int32.le_iff_toInt_le.mp h) (by rw [nI_toInt (by omega)]; show ¬ (((imr m t n s).1 : Nat) : Int) ≤ 0; omega))) (fun _ => ?_)
      refine x_iload_n dX7_isMended_150 rfl rfl ?_
      refine x_iload_n dX7_isMended_151 rfl rfl ?_
      refine x_icmp_ne (tgt := 166) dX7_isMended_152 (by decide) (fun h152 => ?_) (fun h152 => ?_)
      · have hfe : (imc m t n s).1 ≠ (imr m t n s).1 := fun z => h152 (congrArg nI z)
        have hz : (imd m t n s) = (((imc m t n s).2, (wsy m s.1 n s.2.1 (2 * t)), (imr m t n s).2), false) := by show (if _ then _ else if _ then _ else if _ then _ else _) = _; rw [if_neg hnr, if_neg hm0, if_neg hfe]
        rw [hz]
        refine x_iconst (y := nI 0) dX7_isMended_166 rfl ?_
        exact x_zreturn_eq dX7_isMended_167 rfl rfl
      · have hfe : (imc m t n s).1 = (imr m t n s).1 := (nI_eq (Nat.lt_of_le_of_lt hic (by omega)) (Nat.lt_of_le_of_lt hirl (by omega))).mp h152
        have hz : (imd m t n s) = (((imc m t n s).2, wsy m (imc m t n s).2 n (wsy m s.1 n s.2.1 (2 * t)) (2 * t), (imr m t n s).2), wrt m (imc m t n s).2 n (2 * t)) := by show (if _ then _ else if _ then _ else if _ then _ else _) = _; rw [if_neg hnr, if_neg hm0, if_pos hfe]
        rw [hz]
        refine x_aload_n dX7_isMended_155 rfl rfl ?_
        refine x_callV (ci := 6) (as := []) dX7_isMended_156 mk_X7_isRight in_X7_isRight se_X7_isRight ml_RX7_165 rfl (gn (gn (gn (gn hO (by decide)) (by decide)) (by decide)) (by decide)) (by decide) rfl rfl (Nat.le_of_ble_eq_true rfl) (c_isRight (gn (gn (gn (gn hO (by decide)) (by decide)) (by decide)) (by decide)) (gn (gn (gn (gn hp (by decide)) (by decide)) (by decide)) (by decide)) (gn (gn (gn (gs hwd) (by decide)) (by decide)) (by decide)) (gn (gn (gs (gn hsy (by decide))) (by decide)) (by decide)) hF ht8 hn1 hn22) ?_
        refine G.hp (show (((((M.set (150) (.inl (2, 2200, .inl (fun j => nI (((imc m t n s).2) j).toNat)))).set (152) (.inl (0, 17, .inl (fun j => nI ((wsy m s.1 n s.2.1 (2 * t)) j))))).set (153) (.inl (0, 72, .inl (fun j => nI (((imr m t n s).2.1) j))))).set (154) (.inl (0, 9, .inl (fun j => nI (((imr m t n s).2.2) j))))).set (152) (.inl (0, 17, .inl (fun j => nI ((wsy m ((imc m t n s).2) n (wsy m s.1 n s.2.1 (2 * t)) (2 * t)) j)))) : Hp) = ((((M.set (150) (.inl (2, 2200, .inl (fun j => nI (((imc m t n s).2) j).toNat)))).set (152) (.inl (0, 17, .inl (fun j => nI ((wsy m ((imc m t n s).2) n (wsy m s.1 n s.2.1 (2 * t)) (2 * t)) j))))).set (153) (.inl (0, 72, .inl (fun j => nI (((imr m t n s).2.1) j))))).set (154) (.inl (0, 9, .inl (fun j => nI (((imr m t n s).2.2) j))))) from (ss2 (by decide) (by decide))) ?_
        refine x_if_eq (tgt := 166) dX7_isMended_159 (by decide) (fun h159 => ?_) (fun h159 => ?_)
        · refine x_iconst (y := nI 0) dX7_isMended_166 rfl ?_
          exact x_zreturn_eq dX7_isMended_167 rfl (by rw [ite0 h159]; rfl)
        · refine x_iconst (y := nI 1) dX7_isMended_162 rfl ?_
          refine x_goto (tgt := 167) dX7_isMended_163 (by decide) ?_
          exact x_zreturn_eq dX7_isMended_167 rfl (by rw [ite1 h159]; rfl)
  · have hz : (imd m t n s) = ((s.1, (wsy m s.1 n s.2.1 (2 * t)), s.2.2), true) := if_pos (ite1 h4)
    rw [hz]
    refine x_iconst (y := nI 1) dX7_isMended_7 rfl ?_
    exact x_zreturn_eq dX7_isMended_8 rfl rfl
