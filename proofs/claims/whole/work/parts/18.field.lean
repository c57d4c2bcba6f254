/-! FIELD -/
def lgs (m a : Nat) : Nat → Nat
  | 0 => 0
  | k + 1 => if pwr m k = a then k else lgs m a k
/-- the i for which A^i is a -/
def lgn (m a : Nat) : Nat := lgs m a (2 ^ m - 1)
theorem lgs_spec {m a : Nat} : ∀ k, (∃ i, i < k ∧ pwr m i = a) → lgs m a k < k ∧ pwr m (lgs m a k) = a
  | 0, h => absurd h (fun ⟨i, h1, _⟩ => by omega)
  | k + 1, h => by
    unfold lgs
    split
    · rename_i hc; exact ⟨by omega, hc⟩
    · rename_i hc
      obtain ⟨i, h1, h2⟩ := h
      have := lgs_spec k ⟨i, by rcases Nat.lt_or_ge i k with h | h; exact h; exact absurd (by rw [show k = i by omega]; exact h2) hc, h2⟩
      exact ⟨by omega, this.2⟩
theorem lgn_spec {m a : Nat} (h3 : 3 ≤ m) (h13 : m ≤ 13) (h0 : a ≠ 0) (ha : a < 2 ^ m) : lgn m a < 2 ^ m - 1 ∧ pwr m (lgn m a) = a := lgs_spec _ (pwr_sur h3 h13 (by omega) ha)
theorem lgn_pwr {m i : Nat} (h3 : 3 ≤ m) (h13 : m ≤ 13) (hi : i < 2 ^ m - 1) : lgn m (pwr m i) = i := by
  have h := lgn_spec h3 h13 (pwr_pos h3 h13 i) (pwr_lt h3 h13 i)
  exact pwr_inj h3 h13 h.1 hi h.2
def fmul (m a b : Nat) : Nat := if a = 0 ∨ b = 0 then 0 else pwr m (lgn m a + lgn m b)
def finv (m a : Nat) : Nat := pwr m (2 ^ m - 1 - lgn m a)
theorem fmul_lt {m a b : Nat} (h3 : 3 ≤ m) (h13 : m ≤ 13) : fmul m a b < 2 ^ m := by
  unfold fmul; split
  · exact Nat.two_pow_pos m
  · exact pwr_lt h3 h13 _
/-- the tables as they are for m -/
def FT (pw lg : Nat → Int32) (m : Nat) : Prop := (3 ≤ m ∧ m ≤ 13) ∧ ∀ i, i < 2 ^ m - 1 → pw i = nI (pwr m i) ∧ lg (pwr m i) = nI i
theorem FT.lg {pw lg : Nat → Int32} {m a : Nat} (h : FT pw lg m) (h0 : a ≠ 0) (ha : a < 2 ^ m) : lg a = nI (lgn m a) := by
  have hl := lgn_spec h.1.1 h.1.2 h0 ha
  have := (h.2 _ hl.1).2
  rw [hl.2] at this
  exact this
theorem nI_xor (a b : Nat) : nI a ^^^ nI b = nI (a ^^^ b) := nx_xor a b
theorem nI_or (a b : Nat) : nI a ||| nI b = nI (a ||| b) := by
  apply Int32.toBitVec_inj.mp
  apply BitVec.eq_of_toNat_eq
  have e8 : ∀ z : Nat, (nI z).toBitVec.toNat = z % 2 ^ 32 := fun z => BitVec.toNat_ofNat z 32
  rw [Int32.toBitVec_or, BitVec.toNat_or, e8, e8, e8, Nat.or_mod_two_pow]
def inr_ (a : Int32) (n : Nat) : Bool := decide (0 ≤ a.toInt ∧ a.toInt ≤ n)
theorem c_has {X : Ev} {M : Hp} {o p q c m : Nat} {pw lg : Nat → Int32} (ho : M[o]? = some (.inr (1, [.ref (p), .ref (q), .ref (c), .int (nI m), .int (nI (2 ^ m - 1))]))) (hp : M[p]? = some (.inl (0, 8192, .inl pw))) (hq : M[q]? = some (.inl (0, 8192, .inl lg))) (hF : FT pw lg m) {z : Int32} : Cl X 0 jX2_has [.ref (o), .int (z)] M (some (.int (if inr_ z (2 ^ m - 1) then 1 else 0))) M := by
  have ht := two_le hF.1.1 hF.1.2
  refine Cl.of (ls := [some (.ref (o)), some (.int (z))]) (by decide) rfl (Nat.le_of_ble_eq_true rfl) ?_
  refine x_iload_n dX2_has_0 rfl rfl ?_
  refine x_if_lt (tgt := 16) dX2_has_1 (by decide) (fun h1 => ?_) (fun h1 => ?_)
  · refine x_iconst (y := nI 0) dX2_has_16 rfl ?_
    exact x_zreturn_eq dX2_has_17 rfl (by rw [show inr_ z (2 ^ m - 1) = false from decide_eq_false (fun hz => by first | (have := Int32.lt_iff_toInt_lt.mp h9; rw [nI_toInt (by omega)] at this; omega) | (have := (i32_neg_iff z).mp h1; omega))]; rfl)
  · refine x_iload_n dX2_has_4 rfl rfl ?_
    refine x_aload_n dX2_has_5 rfl rfl ?_
    refine x_getf (ci := 1) (kf := 4) dX2_has_6 rfl uX2 (by decide) fl_RX2_25 ho rfl ?_
    refine x_icmp_gt (tgt := 16) dX2_has_9 (by decide) (fun h9 => ?_) (fun h9 => ?_)
    · refine x_iconst (y := nI 0) dX2_has_16 rfl ?_
      exact x_zreturn_eq dX2_has_17 rfl (by rw [show inr_ z (2 ^ m - 1) = false from decide_eq_false (fun hz => by first | (have := Int32.lt_iff_toInt_lt.mp h9; rw [nI_toInt (by omega)] at this; omega) | (have := (i32_neg_iff z).mp h1; omega))]; rfl)
    · refine x_iconst (y := nI 1) dX2_has_12 rfl ?_
      refine x_goto (tgt := 17) dX2_has_13 (by decide) ?_
      exact x_zreturn_eq dX2_has_17 rfl (by rw [show inr_ z (2 ^ m - 1) = true from decide_eq_true ⟨(i32_ge_iff z).mp (Int32.not_lt.mp h1), by have := Int32.le_iff_toInt_le.mp (Int32.not_lt.mp h9); rwa [nI_toInt (by omega)] at this⟩]; rfl)
theorem c_powerOfA {X : Ev} {M : Hp} {o p q c m : Nat} {pw lg : Nat → Int32} (ho : M[o]? = some (.inr (1, [.ref (p), .ref (q), .ref (c), .int (nI m), .int (nI (2 ^ m - 1))]))) (hp : M[p]? = some (.inl (0, 8192, .inl pw))) (hq : M[q]? = some (.inl (0, 8192, .inl lg))) (hF : FT pw lg m) {z : Int32} : Cl X 2 jX2_powerOfA [.ref (o), .int (z)] M (some (.int (nI (pwr m (red z (2 ^ m - 1)))))) M := by
  have ht := two_le hF.1.1 hF.1.2
  have hr := red_lt z (n := 2 ^ m - 1) (by omega)
  refine Cl.of (ls := [some (.ref (o)), some (.int (z))]) (by decide) rfl (Nat.le_of_ble_eq_true rfl) ?_
  refine x_aload_n dX2_powerOfA_0 rfl rfl ?_
  refine x_getf (ci := 1) (kf := 0) dX2_powerOfA_1 rfl uX2 (by decide) fl_RX2_9 ho rfl ?_
  refine x_iload_n dX2_powerOfA_4 rfl rfl ?_
  refine x_aload_n dX2_powerOfA_5 rfl rfl ?_
  refine x_getf (ci := 1) (kf := 4) dX2_powerOfA_6 rfl uX2 (by decide) fl_RX2_25 ho rfl ?_
  refine x_callS (as := [.int (z), .int (nI (2 ^ m - 1))]) dX2_powerOfA_9 mk_X1_reduced st_X1_reduced ml_RX2_31 (by decide) rfl rfl (Nat.le_of_ble_eq_true rfl) (c_reduced (by omega) (by omega)) ?_
  refine x_ild (j := red z (2 ^ m - 1)) dX2_powerOfA_12 hp rfl (by omega) (by decide) ?_
  exact x_ireturn_eq dX2_powerOfA_13 rfl ((hF.2 _ hr).1)
theorem c_product {X : Ev} {M : Hp} {o p q c m : Nat} {pw lg : Nat → Int32} (ho : M[o]? = some (.inr (1, [.ref (p), .ref (q), .ref (c), .int (nI m), .int (nI (2 ^ m - 1))]))) (hp : M[p]? = some (.inl (0, 8192, .inl pw))) (hq : M[q]? = some (.inl (0, 8192, .inl lg))) (hF : FT pw lg m) {a b : Nat} (ha : a < 2 ^ m) (hb : b < 2 ^ m) : Cl X 0 jX2_product [.ref (o), .int (nI a), .int (nI b)] M (some (.int (nI (fmul m a b)))) M := by
  have ht := two_le hF.1.1 hF.1.2
  refine Cl.of (ls := [some (.ref (o)), some (.int (nI a)), some (.int (nI b)), none]) (by decide) rfl (Nat.le_of_ble_eq_true rfl) ?_
  refine x_iload_n dX2_product_0 rfl rfl ?_
  refine x_if_eq (tgt := 8) dX2_product_1 (by decide) (fun h1 => ?_) (fun h1 => ?_)
  · refine x_iconst (y := nI 0) dX2_product_8 rfl ?_
    exact x_ireturn_eq dX2_product_9 rfl (by unfold fmul; rw [if_pos (by first | exact Or.inl ((nI_eq (by omega) (by decide)).mp h1) | exact Or.inr ((nI_eq (by omega) (by decide)).mp h5))])
  · refine x_iload_n dX2_product_4 rfl rfl ?_
    refine x_if_ne (tgt := 10) dX2_product_5 (by decide) (fun h5 => ?_) (fun h5 => ?_)
    · have ha0 : a ≠ 0 := fun z => h1 (by rw [z]; rfl)
      have hb0 : b ≠ 0 := fun z => h5 (by rw [z]; rfl)
      have hla := lgn_spec hF.1.1 hF.1.2 ha0 ha
      have hlb := lgn_spec hF.1.1 hF.1.2 hb0 hb
      have hfm : fmul m a b = pwr m (lgn m a + lgn m b) := if_neg (fun z => z.elim ha0 hb0)
      refine x_aload_n dX2_product_10 rfl rfl ?_
      refine x_getf (ci := 1) (kf := 1) dX2_product_11 rfl uX2 (by decide) fl_RX2_15 ho rfl ?_
      refine x_iload_n dX2_product_14 rfl rfl ?_
      refine x_ild (j := a) dX2_product_15 hq rfl (by omega) (by decide) ?_
      refine x_casti (y := nI (lgn m a)) (hF.lg ha0 ha) ?_
      refine x_aload_n dX2_product_16 rfl rfl ?_
      refine x_getf (ci := 1) (kf := 1) dX2_product_17 rfl uX2 (by decide) fl_RX2_15 ho rfl ?_
      refine x_iload_n dX2_product_20 rfl rfl ?_
      refine x_ild (j := b) dX2_product_21 hq rfl (by omega) (by decide) ?_
      refine x_casti (y := nI (lgn m b)) (hF.lg hb0 hb) ?_
      refine x_iadd dX2_product_22 ?_
      refine x_casti (y := nI (lgn m a + lgn m b)) (nI_add _ _) ?_
      refine x_istore_n (ls' := [some (.ref (o)), some (.int (nI a)), some (.int (nI b)), some (.int (nI (lgn m a + lgn m b)))]) dX2_product_23 rfl (by decide) rfl rfl ?_
      refine x_aload_n dX2_product_24 rfl rfl ?_
      refine x_getf (ci := 1) (kf := 0) dX2_product_25 rfl uX2 (by decide) fl_RX2_9 ho rfl ?_
      refine x_iload_n dX2_product_28 rfl rfl ?_
      refine x_aload_n dX2_product_29 rfl rfl ?_
      refine x_getf (ci := 1) (kf := 4) dX2_product_30 rfl uX2 (by decide) fl_RX2_25 ho rfl ?_
      refine x_icmp_lt (tgt := 45) dX2_product_33 (by decide) (fun h33 => ?_) (fun h33 => ?_)
      · refine x_iload_n dX2_product_45 rfl rfl ?_
        refine x_ild (j := lgn m a + lgn m b) dX2_product_46 hp rfl (by have := (nI_ltI (by omega) (by omega)).mp h33; omega) (by decide) ?_
        exact x_ireturn_eq dX2_product_47 rfl (by rw [hfm]; exact (hF.2 _ (by have := (nI_ltI (by omega) (by omega)).mp h33; omega)).1)
      · refine x_iload_n dX2_product_36 rfl rfl ?_
        refine x_aload_n dX2_product_37 rfl rfl ?_
        refine x_getf (ci := 1) (kf := 4) dX2_product_38 rfl uX2 (by decide) fl_RX2_25 ho rfl ?_
        refine x_isub dX2_product_41 ?_
        refine x_casti (y := nI (lgn m a + lgn m b - (2 ^ m - 1))) (pk_sub ((nI_leI (by omega) (by omega)).mp (Int32.not_lt.mp h33))) ?_
        refine x_goto (tgt := 46) dX2_product_42 (by decide) ?_
        refine x_ild (j := lgn m a + lgn m b - (2 ^ m - 1)) dX2_product_46 hp rfl (by omega) (by decide) ?_
        exact x_ireturn_eq dX2_product_47 rfl (by rw [hfm, (hF.2 _ (by omega)).1]; have hge := (nI_leI (by omega) (by omega)).mp (Int32.not_lt.mp h33); have := pwr_per hF.1.1 hF.1.2 (lgn m a + lgn m b - (2 ^ m - 1)); rw [show lgn m a + lgn m b - (2 ^ m - 1) + (2 ^ m - 1) = lgn m a + lgn m b by omega] at this; rw [this])
    · refine x_iconst (y := nI 0) dX2_product_8 rfl ?_
      exact x_ireturn_eq dX2_product_9 rfl (by unfold fmul; rw [if_pos (by first | exact Or.inl ((nI_eq (by omega) (by decide)).mp h1) | exact Or.inr ((nI_eq (by omega) (by decide)).mp h5))])
theorem c_reciprocal {X : Ev} {M : Hp} {o p q c m : Nat} {pw lg : Nat → Int32} (ho : M[o]? = some (.inr (1, [.ref (p), .ref (q), .ref (c), .int (nI m), .int (nI (2 ^ m - 1))]))) (hp : M[p]? = some (.inl (0, 8192, .inl pw))) (hq : M[q]? = some (.inl (0, 8192, .inl lg))) (hF : FT pw lg m) {a : Nat} (ha0 : a ≠ 0) (ha : a < 2 ^ m) : Cl X 0 jX2_reciprocal [.ref (o), .int (nI a)] M (some (.int (nI (finv m a)))) M := by
  have ht := two_le hF.1.1 hF.1.2
  have hla := lgn_spec hF.1.1 hF.1.2 ha0 ha
  refine Cl.of (ls := [some (.ref (o)), some (.int (nI a)), none]) (by decide) rfl (Nat.le_of_ble_eq_true rfl) ?_
  refine x_aload_n dX2_reciprocal_0 rfl rfl ?_
  refine x_getf (ci := 1) (kf := 1) dX2_reciprocal_1 rfl uX2 (by decide) fl_RX2_15 ho rfl ?_
  refine x_iload_n dX2_reciprocal_4 rfl rfl ?_
  refine x_ild (j := a) dX2_reciprocal_5 hq rfl (by omega) (by decide) ?_
  refine x_casti (y := nI (lgn m a)) (hF.lg ha0 ha) ?_
  refine x_istore_n (ls' := [some (.ref (o)), some (.int (nI a)), some (.int (nI (lgn m a)))]) dX2_reciprocal_6 rfl (by decide) rfl rfl ?_
  refine x_aload_n dX2_reciprocal_7 rfl rfl ?_
  refine x_getf (ci := 1) (kf := 0) dX2_reciprocal_8 rfl uX2 (by decide) fl_RX2_9 ho rfl ?_
  refine x_iload_n dX2_reciprocal_11 rfl rfl ?_
  refine x_if_ne (tgt := 19) dX2_reciprocal_12 (by decide) (fun h12 => ?_) (fun h12 => ?_)
  · have hl0 : lgn m a ≠ 0 := fun z => h12 (by rw [z]; rfl)
    refine x_aload_n dX2_reciprocal_19 rfl rfl ?_
    refine x_getf (ci := 1) (kf := 4) dX2_reciprocal_20 rfl uX2 (by decide) fl_RX2_25 ho rfl ?_
    refine x_iload_n dX2_reciprocal_23 rfl rfl ?_
    refine x_isub dX2_reciprocal_24 ?_
    refine x_casti (y := nI (2 ^ m - 1 - lgn m a)) (pk_sub (by omega)) ?_
    refine x_ild (j := 2 ^ m - 1 - lgn m a) dX2_reciprocal_25 hp rfl (by omega) (by decide) ?_
    exact x_ireturn_eq dX2_reciprocal_26 rfl ((hF.2 _ (by omega)).1)
  · have hl0 : lgn m a = 0 := (nI_eq (by omega) (by decide)).mp h12
    refine x_iconst (y := nI 0) dX2_reciprocal_15 rfl ?_
    refine x_goto (tgt := 25) dX2_reciprocal_16 (by decide) ?_
    refine x_ild (j := 0) dX2_reciprocal_25 hp rfl (by omega) (by decide) ?_
    exact x_ireturn_eq dX2_reciprocal_26 rfl (by rw [(hF.2 0 (by omega)).1]; unfold finv; rw [hl0, Nat.sub_zero, (pwr_ord hF.1.1 hF.1.2).2]; rfl)
