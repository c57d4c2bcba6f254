/-! PAGEMENDER: its methods; places as its constructor leaves them -/
def inl_ (z : Int32) (n : Nat) : Bool := decide (0 ≤ z.toInt ∧ z.toInt < n)
theorem inl_n {i n : Nat} (h : i < n) (hn : n < 2 ^ 31) : inl_ (nI i) n = true := decide_eq_true (by rw [nI_toInt (by omega)]; omega)
theorem inl_of {z : Int32} {n : Nat} (hn : n < 2 ^ 31) (h1 : ¬ z < 0) (h2 : z < nI n) : inl_ z n = true := decide_eq_true ⟨Int.not_lt.mp (fun z1 => h1 ((i32_neg_iff z).mpr z1)), by have := Int32.lt_iff_toInt_lt.mp h2; rwa [nI_toInt hn] at this⟩
theorem inl_no {z : Int32} {n : Nat} (hn : n < 2 ^ 31) (h : z < 0 ∨ ¬ z < nI n) : inl_ z n = false := decide_eq_false (fun hz => by
  rcases h with h | h
  · have := (i32_neg_iff z).mp h; omega
  · exact h (Int32.lt_iff_toInt_lt.mpr (by rw [nI_toInt hn]; exact hz.2)))
theorem inr_n {a m : Nat} (h3 : 3 ≤ m) (h13 : m ≤ 13) (h : a < 2 ^ m) : inr_ (nI a) (2 ^ m - 1) = true := by
  have ht := two_le h3 h13
  exact decide_eq_true (by rw [nI_toInt (by omega)]; omega)
theorem ite_ne {b : Bool} (hb : b = true) (h : (if b then (1 : Int32) else 0) = 0) : False := by rw [hb] at h; exact absurd h (by decide)
theorem pgs_at {i g : Nat} (h : i < 16) (hg : 22 + 7 * i = g) : pgs 16 i = some g := by unfold pgs; rw [if_pos h, hg]
def b255 (b : Int32) : Nat := b.toBitVec.toNat % 256
theorem and255 (b : Int32) : b &&& nI 255 = nI (b255 b) := by
  have hb : b = nI b.toBitVec.toNat := Int32.toBitVec_inj.mp (BitVec.eq_of_toNat_eq (by show _ = (BitVec.ofNat 32 _).toNat; rw [BitVec.toNat_ofNat, Nat.mod_eq_of_lt b.toBitVec.isLt]))
  unfold b255
  have := pk_andN (m := nI 255) (n := b.toBitVec.toNat) b.toBitVec.isLt 8 (by decide)
  rw [← hb] at this
  exact this
theorem c_hasPage {X : Ev} {M : Hp}  {z : Int32} : Cl X 0 jX6_hasPage [.ref (0), .int (z)] M (some (.int (if inl_ z 16 then 1 else 0))) M := by
  refine Cl.of (ls := [some (.ref (0)), some (.int (z))]) (by decide) rfl (Nat.le_of_ble_eq_true rfl) ?_
  refine x_iload_n dX6_hasPage_0 rfl rfl ?_
  refine x_if_lt (tgt := 14) dX6_hasPage_1 (by decide) (fun h1 => ?_) (fun h1 => ?_)
  · refine x_iconst (y := nI 0) dX6_hasPage_14 rfl ?_
    exact x_zreturn_eq dX6_hasPage_15 rfl (by rw [inl_no (n := 16) (by decide) (by first | exact Or.inl h1 | exact Or.inr (Int32.not_lt.mpr h7))]; rfl)
  · refine x_iload_n dX6_hasPage_4 rfl rfl ?_
    refine x_bipush (y := nI 16) dX6_hasPage_5 rfl ?_
    refine x_icmp_ge (tgt := 14) dX6_hasPage_7 (by decide) (fun h7 => ?_) (fun h7 => ?_)
    · refine x_iconst (y := nI 0) dX6_hasPage_14 rfl ?_
      exact x_zreturn_eq dX6_hasPage_15 rfl (by rw [inl_no (n := 16) (by decide) (by first | exact Or.inl h1 | exact Or.inr (Int32.not_lt.mpr h7))]; rfl)
    · refine x_iconst (y := nI 1) dX6_hasPage_10 rfl ?_
      refine x_goto (tgt := 15) dX6_hasPage_11 (by decide) ?_
      exact x_zreturn_eq dX6_hasPage_15 rfl (by rw [inl_of (n := 16) (by decide) h1 (Int32.not_le.mp h7)]; rfl)
theorem c_hasBit {X : Ev} {M : Hp} {t d r n : Nat} {s : Ms} {ra rr rl : Int32} (h0 : M[0]? = some (.inr (5, [.ref (1), .ref (5), .ref (12), .ref (21), .ref (134), .ref (136), .int (1), .int (ra), .int (rr), .int (rl)])))  (ho : M[5]? = some (.inr (0, [.ref (1), .ref (6), .ref (7), .ref (8), .ref (9), .ref (10), .int (nI t), .int (nI d), .int (nI r), .int (nI n), .long (s.1.1), .long (s.1.2)]))) (hn31 : n < 2 ^ 31) {z : Int32} : Cl X 0 jX6_hasBit [.ref (0), .int (z)] M (some (.int (if inl_ z n then 1 else 0))) M := by
  refine Cl.of (ls := [some (.ref (0)), some (.int (z))]) (by decide) rfl (Nat.le_of_ble_eq_true rfl) ?_
  refine x_iload_n dX6_hasBit_0 rfl rfl ?_
  refine x_if_lt (tgt := 19) dX6_hasBit_1 (by decide) (fun h1 => ?_) (fun h1 => ?_)
  · refine x_iconst (y := nI 0) dX6_hasBit_19 rfl ?_
    exact x_zreturn_eq dX6_hasBit_20 rfl (by rw [inl_no (n := n) hn31 (by first | exact Or.inl h1 | exact Or.inr (Int32.not_lt.mpr h12))]; rfl)
  · refine x_iload_n dX6_hasBit_4 rfl rfl ?_
    refine x_aload_n dX6_hasBit_5 rfl rfl ?_
    refine x_getf (ci := 5) (kf := 1) dX6_hasBit_6 rfl uX6 (by decide) fl_RX6_21 h0 rfl ?_
    refine x_getf (ci := 0) (kf := 9) dX6_hasBit_9 rfl uX0 (by decide) fl_RX6_193 ho rfl ?_
    refine x_icmp_ge (tgt := 19) dX6_hasBit_12 (by decide) (fun h12 => ?_) (fun h12 => ?_)
    · refine x_iconst (y := nI 0) dX6_hasBit_19 rfl ?_
      exact x_zreturn_eq dX6_hasBit_20 rfl (by rw [inl_no (n := n) hn31 (by first | exact Or.inl h1 | exact Or.inr (Int32.not_lt.mpr h12))]; rfl)
    · refine x_iconst (y := nI 1) dX6_hasBit_15 rfl ?_
      refine x_goto (tgt := 20) dX6_hasBit_16 (by decide) ?_
      exact x_zreturn_eq dX6_hasBit_20 rfl (by rw [inl_of (n := n) hn31 h1 (Int32.not_le.mp h12)]; rfl)
theorem c_hasByte {X : Ev} {M : Hp} {t d r n : Nat} {s : Ms} {ra rr rl : Int32} (h0 : M[0]? = some (.inr (5, [.ref (1), .ref (5), .ref (12), .ref (21), .ref (134), .ref (136), .int (1), .int (ra), .int (rr), .int (rl)])))  (ho : M[5]? = some (.inr (0, [.ref (1), .ref (6), .ref (7), .ref (8), .ref (9), .ref (10), .int (nI t), .int (nI d), .int (nI r), .int (nI n), .long (s.1.1), .long (s.1.2)]))) (hn31 : d < 2 ^ 31) {z : Int32} : Cl X 0 jX6_hasByte [.ref (0), .int (z)] M (some (.int (if inl_ z d then 1 else 0))) M := by
  refine Cl.of (ls := [some (.ref (0)), some (.int (z))]) (by decide) rfl (Nat.le_of_ble_eq_true rfl) ?_
  refine x_iload_n dX6_hasByte_0 rfl rfl ?_
  refine x_if_lt (tgt := 19) dX6_hasByte_1 (by decide) (fun h1 => ?_) (fun h1 => ?_)
  · refine x_iconst (y := nI 0) dX6_hasByte_19 rfl ?_
    exact x_zreturn_eq dX6_hasByte_20 rfl (by rw [inl_no (n := d) hn31 (by first | exact Or.inl h1 | exact Or.inr (Int32.not_lt.mpr h12))]; rfl)
  · refine x_iload_n dX6_hasByte_4 rfl rfl ?_
    refine x_aload_n dX6_hasByte_5 rfl rfl ?_
    refine x_getf (ci := 5) (kf := 1) dX6_hasByte_6 rfl uX6 (by decide) fl_RX6_21 h0 rfl ?_
    refine x_getf (ci := 0) (kf := 7) dX6_hasByte_9 rfl uX0 (by decide) fl_RX6_129 ho rfl ?_
    refine x_icmp_ge (tgt := 19) dX6_hasByte_12 (by decide) (fun h12 => ?_) (fun h12 => ?_)
    · refine x_iconst (y := nI 0) dX6_hasByte_19 rfl ?_
      exact x_zreturn_eq dX6_hasByte_20 rfl (by rw [inl_no (n := d) hn31 (by first | exact Or.inl h1 | exact Or.inr (Int32.not_lt.mpr h12))]; rfl)
    · refine x_iconst (y := nI 1) dX6_hasByte_15 rfl ?_
      refine x_goto (tgt := 20) dX6_hasByte_16 (by decide) ?_
      exact x_zreturn_eq dX6_hasByte_20 rfl (by rw [inl_of (n := d) hn31 h1 (Int32.not_le.mp h12)]; rfl)
theorem c_about0 {X : Ev} {M : Hp} {ra rr rl : Int32} (h0 : M[0]? = some (.inr (5, [.ref (1), .ref (5), .ref (12), .ref (21), .ref (134), .ref (136), .int (0), .int (ra), .int (rr), .int (rl)]))) {z0 : Int32} : Cl X 9 jX6_about [.ref (0), .int (z0)] M (some (.int (-3))) M := by
  refine Cl.of (ls := [some (.ref (0)), some (.int (z0))]) (by decide) rfl (Nat.le_of_ble_eq_true rfl) ?_
  refine x_aload_n dX6_about_0 rfl rfl ?_
  refine x_getf (ci := 5) (kf := 6) dX6_about_1 rfl uX6 (by decide) fl_RX6_84 h0 rfl ?_
  refine x_if_ne (tgt := 10) dX6_about_4 (by decide) (fun h => False.elim (h rfl)) (fun _ => ?_)
  refine x_bipush (y := -3) dX6_about_7 rfl ?_
  exact x_ireturn_eq dX6_about_9 rfl rfl
theorem c_bit0 {X : Ev} {M : Hp} {ra rr rl : Int32} (h0 : M[0]? = some (.inr (5, [.ref (1), .ref (5), .ref (12), .ref (21), .ref (134), .ref (136), .int (0), .int (ra), .int (rr), .int (rl)]))) {z0 : Int32} {z1 : Int32} : Cl X 9 jX6_bit [.ref (0), .int (z0), .int (z1)] M (some (.int (-3))) M := by
  refine Cl.of (ls := [some (.ref (0)), some (.int (z0)), some (.int (z1))]) (by decide) rfl (Nat.le_of_ble_eq_true rfl) ?_
  refine x_aload_n dX6_bit_0 rfl rfl ?_
  refine x_getf (ci := 5) (kf := 6) dX6_bit_1 rfl uX6 (by decide) fl_RX6_84 h0 rfl ?_
  refine x_if_ne (tgt := 10) dX6_bit_4 (by decide) (fun h => False.elim (h rfl)) (fun _ => ?_)
  refine x_bipush (y := -3) dX6_bit_7 rfl ?_
  exact x_ireturn_eq dX6_bit_9 rfl rfl
theorem c_copy0 {X : Ev} {M : Hp} {ra rr rl : Int32} (h0 : M[0]? = some (.inr (5, [.ref (1), .ref (5), .ref (12), .ref (21), .ref (134), .ref (136), .int (0), .int (ra), .int (rr), .int (rl)]))) {z0 : Int32} {z1 : Int32} : Cl X 9 jX6_copy [.ref (0), .int (z0), .int (z1)] M (some (.int (-3))) M := by
  refine Cl.of (ls := [some (.ref (0)), some (.int (z0)), some (.int (z1))]) (by decide) rfl (Nat.le_of_ble_eq_true rfl) ?_
  refine x_aload_n dX6_copy_0 rfl rfl ?_
  refine x_getf (ci := 5) (kf := 6) dX6_copy_1 rfl uX6 (by decide) fl_RX6_84 h0 rfl ?_
  refine x_if_ne (tgt := 10) dX6_copy_4 (by decide) (fun h => False.elim (h rfl)) (fun _ => ?_)
  refine x_bipush (y := -3) dX6_copy_7 rfl ?_
  exact x_ireturn_eq dX6_copy_9 rfl rfl
theorem c_erase0 {X : Ev} {M : Hp} {ra rr rl : Int32} (h0 : M[0]? = some (.inr (5, [.ref (1), .ref (5), .ref (12), .ref (21), .ref (134), .ref (136), .int (0), .int (ra), .int (rr), .int (rl)]))) {z0 : Int32} : Cl X 9 jX6_erase [.ref (0), .int (z0)] M (some (.int (-3))) M := by
  refine Cl.of (ls := [some (.ref (0)), some (.int (z0))]) (by decide) rfl (Nat.le_of_ble_eq_true rfl) ?_
  refine x_aload_n dX6_erase_0 rfl rfl ?_
  refine x_getf (ci := 5) (kf := 6) dX6_erase_1 rfl uX6 (by decide) fl_RX6_84 h0 rfl ?_
  refine x_if_ne (tgt := 10) dX6_erase_4 (by decide) (fun h => False.elim (h rfl)) (fun _ => ?_)
  refine x_bipush (y := -3) dX6_erase_7 rfl ?_
  exact x_ireturn_eq dX6_erase_9 rfl rfl
theorem c_fill0 {X : Ev} {M : Hp} {ra rr rl : Int32} (h0 : M[0]? = some (.inr (5, [.ref (1), .ref (5), .ref (12), .ref (21), .ref (134), .ref (136), .int (0), .int (ra), .int (rr), .int (rl)]))) {z0 : Int32} {z1 : Int64} : Cl X 9 jX6_fill [.ref (0), .int (z0), .long (z1)] M (some (.int (-3))) M := by
  refine Cl.of (ls := [some (.ref (0)), some (.int (z0)), some (.long (z1)), none, none, none]) (by decide) rfl (Nat.le_of_ble_eq_true rfl) ?_
  refine x_aload_n dX6_fill_0 rfl rfl ?_
  refine x_getf (ci := 5) (kf := 6) dX6_fill_1 rfl uX6 (by decide) fl_RX6_84 h0 rfl ?_
  refine x_if_ne (tgt := 10) dX6_fill_4 (by decide) (fun h => False.elim (h rfl)) (fun _ => ?_)
  refine x_bipush (y := -3) dX6_fill_7 rfl ?_
  exact x_ireturn_eq dX6_fill_9 rfl rfl
theorem c_flip0 {X : Ev} {M : Hp} {ra rr rl : Int32} (h0 : M[0]? = some (.inr (5, [.ref (1), .ref (5), .ref (12), .ref (21), .ref (134), .ref (136), .int (0), .int (ra), .int (rr), .int (rl)]))) {z0 : Int32} {z1 : Int32} : Cl X 9 jX6_flip [.ref (0), .int (z0), .int (z1)] M (some (.int (-3))) M := by
  refine Cl.of (ls := [some (.ref (0)), some (.int (z0)), some (.int (z1))]) (by decide) rfl (Nat.le_of_ble_eq_true rfl) ?_
  refine x_aload_n dX6_flip_0 rfl rfl ?_
  refine x_getf (ci := 5) (kf := 6) dX6_flip_1 rfl uX6 (by decide) fl_RX6_84 h0 rfl ?_
  refine x_if_ne (tgt := 10) dX6_flip_4 (by decide) (fun h => False.elim (h rfl)) (fun _ => ?_)
  refine x_bipush (y := -3) dX6_flip_7 rfl ?_
  exact x_ireturn_eq dX6_flip_9 rfl rfl
theorem c_generator0 {X : Ev} {M : Hp} {ra rr rl : Int32} (h0 : M[0]? = some (.inr (5, [.ref (1), .ref (5), .ref (12), .ref (21), .ref (134), .ref (136), .int (0), .int (ra), .int (rr), .int (rl)]))) {z0 : Int32} : Cl X 9 jX6_generator [.ref (0), .int (z0)] M (some (.int (-3))) M := by
  refine Cl.of (ls := [some (.ref (0)), some (.int (z0))]) (by decide) rfl (Nat.le_of_ble_eq_true rfl) ?_
  refine x_aload_n dX6_generator_0 rfl rfl ?_
  refine x_getf (ci := 5) (kf := 6) dX6_generator_1 rfl uX6 (by decide) fl_RX6_84 h0 rfl ?_
  refine x_if_ne (tgt := 10) dX6_generator_4 (by decide) (fun h => False.elim (h rfl)) (fun _ => ?_)
  refine x_bipush (y := -3) dX6_generator_7 rfl ?_
  exact x_ireturn_eq dX6_generator_9 rfl rfl
theorem c_get0 {X : Ev} {M : Hp} {ra rr rl : Int32} (h0 : M[0]? = some (.inr (5, [.ref (1), .ref (5), .ref (12), .ref (21), .ref (134), .ref (136), .int (0), .int (ra), .int (rr), .int (rl)]))) {z0 : Int32} : Cl X 9 jX6_get [.ref (0), .int (z0)] M (some (.int (-3))) M := by
  refine Cl.of (ls := [some (.ref (0)), some (.int (z0))]) (by decide) rfl (Nat.le_of_ble_eq_true rfl) ?_
  refine x_aload_n dX6_get_0 rfl rfl ?_
  refine x_getf (ci := 5) (kf := 6) dX6_get_1 rfl uX6 (by decide) fl_RX6_84 h0 rfl ?_
  refine x_if_ne (tgt := 10) dX6_get_4 (by decide) (fun h => False.elim (h rfl)) (fun _ => ?_)
  refine x_bipush (y := -3) dX6_get_7 rfl ?_
  exact x_ireturn_eq dX6_get_9 rfl rfl
theorem c_inverse0 {X : Ev} {M : Hp} {ra rr rl : Int32} (h0 : M[0]? = some (.inr (5, [.ref (1), .ref (5), .ref (12), .ref (21), .ref (134), .ref (136), .int (0), .int (ra), .int (rr), .int (rl)]))) {z0 : Int32} : Cl X 9 jX6_inverse [.ref (0), .int (z0)] M (some (.int (-3))) M := by
  refine Cl.of (ls := [some (.ref (0)), some (.int (z0))]) (by decide) rfl (Nat.le_of_ble_eq_true rfl) ?_
  refine x_aload_n dX6_inverse_0 rfl rfl ?_
  refine x_getf (ci := 5) (kf := 6) dX6_inverse_1 rfl uX6 (by decide) fl_RX6_84 h0 rfl ?_
  refine x_if_ne (tgt := 10) dX6_inverse_4 (by decide) (fun h => False.elim (h rfl)) (fun _ => ?_)
  refine x_bipush (y := -3) dX6_inverse_7 rfl ?_
  exact x_ireturn_eq dX6_inverse_9 rfl rfl
theorem c_log0 {X : Ev} {M : Hp} {ra rr rl : Int32} (h0 : M[0]? = some (.inr (5, [.ref (1), .ref (5), .ref (12), .ref (21), .ref (134), .ref (136), .int (0), .int (ra), .int (rr), .int (rl)]))) {z0 : Int32} : Cl X 9 jX6_log [.ref (0), .int (z0)] M (some (.int (-3))) M := by
  refine Cl.of (ls := [some (.ref (0)), some (.int (z0))]) (by decide) rfl (Nat.le_of_ble_eq_true rfl) ?_
  refine x_aload_n dX6_log_0 rfl rfl ?_
  refine x_getf (ci := 5) (kf := 6) dX6_log_1 rfl uX6 (by decide) fl_RX6_84 h0 rfl ?_
  refine x_if_ne (tgt := 10) dX6_log_4 (by decide) (fun h => False.elim (h rfl)) (fun _ => ?_)
  refine x_bipush (y := -3) dX6_log_7 rfl ?_
  exact x_ireturn_eq dX6_log_9 rfl rfl
theorem c_mark0 {X : Ev} {M : Hp} {ra rr rl : Int32} (h0 : M[0]? = some (.inr (5, [.ref (1), .ref (5), .ref (12), .ref (21), .ref (134), .ref (136), .int (0), .int (ra), .int (rr), .int (rl)]))) {z0 : Int32} {z1 : Int32} {z2 : Int32} : Cl X 9 jX6_mark [.ref (0), .int (z0), .int (z1), .int (z2)] M (some (.int (-3))) M := by
  refine Cl.of (ls := [some (.ref (0)), some (.int (z0)), some (.int (z1)), some (.int (z2))]) (by decide) rfl (Nat.le_of_ble_eq_true rfl) ?_
  refine x_aload_n dX6_mark_0 rfl rfl ?_
  refine x_getf (ci := 5) (kf := 6) dX6_mark_1 rfl uX6 (by decide) fl_RX6_84 h0 rfl ?_
  refine x_if_ne (tgt := 10) dX6_mark_4 (by decide) (fun h => False.elim (h rfl)) (fun _ => ?_)
  refine x_bipush (y := -3) dX6_mark_7 rfl ?_
  exact x_ireturn_eq dX6_mark_9 rfl rfl
theorem c_minimal0 {X : Ev} {M : Hp} {ra rr rl : Int32} (h0 : M[0]? = some (.inr (5, [.ref (1), .ref (5), .ref (12), .ref (21), .ref (134), .ref (136), .int (0), .int (ra), .int (rr), .int (rl)]))) {z0 : Int32} : Cl X 9 jX6_minimal [.ref (0), .int (z0)] M (some (.int (-3))) M := by
  refine Cl.of (ls := [some (.ref (0)), some (.int (z0))]) (by decide) rfl (Nat.le_of_ble_eq_true rfl) ?_
  refine x_aload_n dX6_minimal_0 rfl rfl ?_
  refine x_getf (ci := 5) (kf := 6) dX6_minimal_1 rfl uX6 (by decide) fl_RX6_84 h0 rfl ?_
  refine x_if_ne (tgt := 10) dX6_minimal_4 (by decide) (fun h => False.elim (h rfl)) (fun _ => ?_)
  refine x_bipush (y := -3) dX6_minimal_7 rfl ?_
  exact x_ireturn_eq dX6_minimal_9 rfl rfl
theorem c_power0 {X : Ev} {M : Hp} {ra rr rl : Int32} (h0 : M[0]? = some (.inr (5, [.ref (1), .ref (5), .ref (12), .ref (21), .ref (134), .ref (136), .int (0), .int (ra), .int (rr), .int (rl)]))) {z0 : Int32} : Cl X 9 jX6_power [.ref (0), .int (z0)] M (some (.int (-3))) M := by
  refine Cl.of (ls := [some (.ref (0)), some (.int (z0))]) (by decide) rfl (Nat.le_of_ble_eq_true rfl) ?_
  refine x_aload_n dX6_power_0 rfl rfl ?_
  refine x_getf (ci := 5) (kf := 6) dX6_power_1 rfl uX6 (by decide) fl_RX6_84 h0 rfl ?_
  refine x_if_ne (tgt := 10) dX6_power_4 (by decide) (fun h => False.elim (h rfl)) (fun _ => ?_)
  refine x_bipush (y := -3) dX6_power_7 rfl ?_
  exact x_ireturn_eq dX6_power_9 rfl rfl
theorem c_put0 {X : Ev} {M : Hp} {ra rr rl : Int32} (h0 : M[0]? = some (.inr (5, [.ref (1), .ref (5), .ref (12), .ref (21), .ref (134), .ref (136), .int (0), .int (ra), .int (rr), .int (rl)]))) {z0 : Int32} {z1 : Int32} : Cl X 9 jX6_put [.ref (0), .int (z0), .int (z1)] M (some (.int (-3))) M := by
  refine Cl.of (ls := [some (.ref (0)), some (.int (z0)), some (.int (z1)), none]) (by decide) rfl (Nat.le_of_ble_eq_true rfl) ?_
  refine x_aload_n dX6_put_0 rfl rfl ?_
  refine x_getf (ci := 5) (kf := 6) dX6_put_1 rfl uX6 (by decide) fl_RX6_84 h0 rfl ?_
  refine x_if_ne (tgt := 10) dX6_put_4 (by decide) (fun h => False.elim (h rfl)) (fun _ => ?_)
  refine x_bipush (y := -3) dX6_put_7 rfl ?_
  exact x_ireturn_eq dX6_put_9 rfl rfl
theorem c_read0 {X : Ev} {M : Hp} {ra rr rl : Int32} (h0 : M[0]? = some (.inr (5, [.ref (1), .ref (5), .ref (12), .ref (21), .ref (134), .ref (136), .int (0), .int (ra), .int (rr), .int (rl)]))) {z0 : Int32} : Cl X 9 jX6_read [.ref (0), .int (z0)] M (some (.int (-3))) M := by
  refine Cl.of (ls := [some (.ref (0)), some (.int (z0)), none]) (by decide) rfl (Nat.le_of_ble_eq_true rfl) ?_
  refine x_aload_n dX6_read_0 rfl rfl ?_
  refine x_getf (ci := 5) (kf := 6) dX6_read_1 rfl uX6 (by decide) fl_RX6_84 h0 rfl ?_
  refine x_if_ne (tgt := 10) dX6_read_4 (by decide) (fun h => False.elim (h rfl)) (fun _ => ?_)
  refine x_bipush (y := -3) dX6_read_7 rfl ?_
  exact x_ireturn_eq dX6_read_9 rfl rfl
theorem c_refresh0 {X : Ev} {M : Hp} {ra rr rl : Int32} (h0 : M[0]? = some (.inr (5, [.ref (1), .ref (5), .ref (12), .ref (21), .ref (134), .ref (136), .int (0), .int (ra), .int (rr), .int (rl)]))) {z0 : Int32} : Cl X 9 jX6_refresh [.ref (0), .int (z0)] M (some (.int (-3))) M := by
  refine Cl.of (ls := [some (.ref (0)), some (.int (z0)), none, none, none]) (by decide) rfl (Nat.le_of_ble_eq_true rfl) ?_
  refine x_aload_n dX6_refresh_0 rfl rfl ?_
  refine x_getf (ci := 5) (kf := 6) dX6_refresh_1 rfl uX6 (by decide) fl_RX6_84 h0 rfl ?_
  refine x_if_ne (tgt := 10) dX6_refresh_4 (by decide) (fun h => False.elim (h rfl)) (fun _ => ?_)
  refine x_bipush (y := -3) dX6_refresh_7 rfl ?_
  exact x_ireturn_eq dX6_refresh_9 rfl rfl
theorem c_stick0 {X : Ev} {M : Hp} {ra rr rl : Int32} (h0 : M[0]? = some (.inr (5, [.ref (1), .ref (5), .ref (12), .ref (21), .ref (134), .ref (136), .int (0), .int (ra), .int (rr), .int (rl)]))) {z0 : Int32} {z1 : Int32} {z2 : Int32} : Cl X 9 jX6_stick [.ref (0), .int (z0), .int (z1), .int (z2)] M (some (.int (-3))) M := by
  refine Cl.of (ls := [some (.ref (0)), some (.int (z0)), some (.int (z1)), some (.int (z2))]) (by decide) rfl (Nat.le_of_ble_eq_true rfl) ?_
  refine x_aload_n dX6_stick_0 rfl rfl ?_
  refine x_getf (ci := 5) (kf := 6) dX6_stick_1 rfl uX6 (by decide) fl_RX6_84 h0 rfl ?_
  refine x_if_ne (tgt := 10) dX6_stick_4 (by decide) (fun h => False.elim (h rfl)) (fun _ => ?_)
  refine x_bipush (y := -3) dX6_stick_7 rfl ?_
  exact x_ireturn_eq dX6_stick_9 rfl rfl
theorem c_syndrome0 {X : Ev} {M : Hp} {ra rr rl : Int32} (h0 : M[0]? = some (.inr (5, [.ref (1), .ref (5), .ref (12), .ref (21), .ref (134), .ref (136), .int (0), .int (ra), .int (rr), .int (rl)]))) {z0 : Int32} {z1 : Int32} : Cl X 9 jX6_syndrome [.ref (0), .int (z0), .int (z1)] M (some (.int (-3))) M := by
  refine Cl.of (ls := [some (.ref (0)), some (.int (z0)), some (.int (z1))]) (by decide) rfl (Nat.le_of_ble_eq_true rfl) ?_
  refine x_aload_n dX6_syndrome_0 rfl rfl ?_
  refine x_getf (ci := 5) (kf := 6) dX6_syndrome_1 rfl uX6 (by decide) fl_RX6_84 h0 rfl ?_
  refine x_if_ne (tgt := 10) dX6_syndrome_4 (by decide) (fun h => False.elim (h rfl)) (fun _ => ?_)
  refine x_bipush (y := -3) dX6_syndrome_7 rfl ?_
  exact x_ireturn_eq dX6_syndrome_9 rfl rfl
theorem c_tail0 {X : Ev} {M : Hp} {ra rr rl : Int32} (h0 : M[0]? = some (.inr (5, [.ref (1), .ref (5), .ref (12), .ref (21), .ref (134), .ref (136), .int (0), .int (ra), .int (rr), .int (rl)]))) {z0 : Int32} : Cl X 9 jX6_tail [.ref (0), .int (z0)] M (some (.int (-3))) M := by
  refine Cl.of (ls := [some (.ref (0)), some (.int (z0))]) (by decide) rfl (Nat.le_of_ble_eq_true rfl) ?_
  refine x_aload_n dX6_tail_0 rfl rfl ?_
  refine x_getf (ci := 5) (kf := 6) dX6_tail_1 rfl uX6 (by decide) fl_RX6_84 h0 rfl ?_
  refine x_if_ne (tgt := 10) dX6_tail_4 (by decide) (fun h => False.elim (h rfl)) (fun _ => ?_)
  refine x_bipush (y := -3) dX6_tail_7 rfl ?_
  exact x_ireturn_eq dX6_tail_9 rfl rfl
theorem c_times0 {X : Ev} {M : Hp} {ra rr rl : Int32} (h0 : M[0]? = some (.inr (5, [.ref (1), .ref (5), .ref (12), .ref (21), .ref (134), .ref (136), .int (0), .int (ra), .int (rr), .int (rl)]))) {z0 : Int32} {z1 : Int32} : Cl X 9 jX6_times [.ref (0), .int (z0), .int (z1)] M (some (.int (-3))) M := by
  refine Cl.of (ls := [some (.ref (0)), some (.int (z0)), some (.int (z1))]) (by decide) rfl (Nat.le_of_ble_eq_true rfl) ?_
  refine x_aload_n dX6_times_0 rfl rfl ?_
  refine x_getf (ci := 5) (kf := 6) dX6_times_1 rfl uX6 (by decide) fl_RX6_84 h0 rfl ?_
  refine x_if_ne (tgt := 10) dX6_times_4 (by decide) (fun h => False.elim (h rfl)) (fun _ => ?_)
  refine x_bipush (y := -3) dX6_times_7 rfl ?_
  exact x_ireturn_eq dX6_times_9 rfl rfl
theorem c_told0 {X : Ev} {M : Hp} {ra rr rl : Int32} (h0 : M[0]? = some (.inr (5, [.ref (1), .ref (5), .ref (12), .ref (21), .ref (134), .ref (136), .int (0), .int (ra), .int (rr), .int (rl)]))) {z0 : Int32} {z1 : Int32} : Cl X 9 jX6_told [.ref (0), .int (z0), .int (z1)] M (some (.int (-3))) M := by
  refine Cl.of (ls := [some (.ref (0)), some (.int (z0)), some (.int (z1)), none]) (by decide) rfl (Nat.le_of_ble_eq_true rfl) ?_
  refine x_aload_n dX6_told_0 rfl rfl ?_
  refine x_getf (ci := 5) (kf := 6) dX6_told_1 rfl uX6 (by decide) fl_RX6_84 h0 rfl ?_
  refine x_if_ne (tgt := 10) dX6_told_4 (by decide) (fun h => False.elim (h rfl)) (fun _ => ?_)
  refine x_bipush (y := -3) dX6_told_7 rfl ?_
  exact x_ireturn_eq dX6_told_9 rfl rfl
theorem c_write0 {X : Ev} {M : Hp} {ra rr rl : Int32} (h0 : M[0]? = some (.inr (5, [.ref (1), .ref (5), .ref (12), .ref (21), .ref (134), .ref (136), .int (0), .int (ra), .int (rr), .int (rl)]))) {z0 : Int32} : Cl X 9 jX6_write [.ref (0), .int (z0)] M (some (.int (-3))) M := by
  refine Cl.of (ls := [some (.ref (0)), some (.int (z0))]) (by decide) rfl (Nat.le_of_ble_eq_true rfl) ?_
  refine x_aload_n dX6_write_0 rfl rfl ?_
  refine x_getf (ci := 5) (kf := 6) dX6_write_1 rfl uX6 (by decide) fl_RX6_84 h0 rfl ?_
  refine x_if_ne (tgt := 10) dX6_write_4 (by decide) (fun h => False.elim (h rfl)) (fun _ => ?_)
  refine x_bipush (y := -3) dX6_write_7 rfl ?_
  exact x_ireturn_eq dX6_write_9 rfl rfl
theorem c_bitB {X : Ev} {M : Hp} {t d r n : Nat} {s : Ms} {ra rr rl : Int32} (h0 : M[0]? = some (.inr (5, [.ref (1), .ref (5), .ref (12), .ref (21), .ref (134), .ref (136), .int (1), .int (ra), .int (rr), .int (rl)])))  (ho : M[5]? = some (.inr (0, [.ref (1), .ref (6), .ref (7), .ref (8), .ref (9), .ref (10), .int (nI t), .int (nI d), .int (nI r), .int (nI n), .long (s.1.1), .long (s.1.2)]))) (hn31 : n < 2 ^ 31) {z0 : Int32} {z1 : Int32} (hbad : (inl_ z0 16 && inl_ z1 n) = false) : Cl X 9 jX6_bit [.ref (0), .int (z0), .int (z1)] M (some (.int (-2))) M := by
  refine Cl.of (ls := [some (.ref (0)), some (.int (z0)), some (.int (z1))]) (by decide) rfl (Nat.le_of_ble_eq_true rfl) ?_
  refine x_aload_n dX6_bit_0 rfl rfl ?_
  refine x_getf (ci := 5) (kf := 6) dX6_bit_1 rfl uX6 (by decide) fl_RX6_84 h0 rfl ?_
  refine x_if_ne (tgt := 10) dX6_bit_4 (by decide) (fun _ => ?_) (fun h => False.elim (absurd h (by decide)))
  refine x_aload_n dX6_bit_10 rfl rfl ?_
  refine x_iload_n dX6_bit_11 rfl rfl ?_
  refine x_callV (ci := 5) (as := [.int (z0)]) dX6_bit_12 mk_X6_hasPage in_X6_hasPage se_X6_hasPage ml_RX6_143 rfl h0 (by decide) rfl rfl (Nat.le_of_ble_eq_true rfl) (c_hasPage) ?_
  refine x_if_eq (tgt := 26) dX6_bit_15 (by decide) (fun h15 => ?_) (fun h15 => ?_)
  · refine x_bipush (y := -2) dX6_bit_26 rfl ?_
    exact x_ireturn_eq dX6_bit_28 rfl rfl
  · refine x_aload_n dX6_bit_18 rfl rfl ?_
    refine x_iload_n dX6_bit_19 rfl rfl ?_
    refine x_callV (ci := 5) (as := [.int (z1)]) dX6_bit_20 mk_X6_hasBit in_X6_hasBit se_X6_hasBit ml_RX6_156 rfl h0 (by decide) rfl rfl (Nat.le_of_ble_eq_true rfl) (c_hasBit h0 ho hn31) ?_
    refine x_if_ne (tgt := 29) dX6_bit_23 (by decide) (fun h23 => ?_) (fun h23 => ?_)
    · exact absurd hbad (by rw [ite1 h15, ite1 h23]; decide)
    · refine x_bipush (y := -2) dX6_bit_26 rfl ?_
      exact x_ireturn_eq dX6_bit_28 rfl rfl
theorem c_flipB {X : Ev} {M : Hp} {t d r n : Nat} {s : Ms} {ra rr rl : Int32} (h0 : M[0]? = some (.inr (5, [.ref (1), .ref (5), .ref (12), .ref (21), .ref (134), .ref (136), .int (1), .int (ra), .int (rr), .int (rl)])))  (ho : M[5]? = some (.inr (0, [.ref (1), .ref (6), .ref (7), .ref (8), .ref (9), .ref (10), .int (nI t), .int (nI d), .int (nI r), .int (nI n), .long (s.1.1), .long (s.1.2)]))) (hn31 : n < 2 ^ 31) {z0 : Int32} {z1 : Int32} (hbad : (inl_ z0 16 && inl_ z1 n) = false) : Cl X 9 jX6_flip [.ref (0), .int (z0), .int (z1)] M (some (.int (-2))) M := by
  refine Cl.of (ls := [some (.ref (0)), some (.int (z0)), some (.int (z1))]) (by decide) rfl (Nat.le_of_ble_eq_true rfl) ?_
  refine x_aload_n dX6_flip_0 rfl rfl ?_
  refine x_getf (ci := 5) (kf := 6) dX6_flip_1 rfl uX6 (by decide) fl_RX6_84 h0 rfl ?_
  refine x_if_ne (tgt := 10) dX6_flip_4 (by decide) (fun _ => ?_) (fun h => False.elim (absurd h (by decide)))
  refine x_aload_n dX6_flip_10 rfl rfl ?_
  refine x_iload_n dX6_flip_11 rfl rfl ?_
  refine x_callV (ci := 5) (as := [.int (z0)]) dX6_flip_12 mk_X6_hasPage in_X6_hasPage se_X6_hasPage ml_RX6_143 rfl h0 (by decide) rfl rfl (Nat.le_of_ble_eq_true rfl) (c_hasPage) ?_
  refine x_if_eq (tgt := 26) dX6_flip_15 (by decide) (fun h15 => ?_) (fun h15 => ?_)
  · refine x_bipush (y := -2) dX6_flip_26 rfl ?_
    exact x_ireturn_eq dX6_flip_28 rfl rfl
  · refine x_aload_n dX6_flip_18 rfl rfl ?_
    refine x_iload_n dX6_flip_19 rfl rfl ?_
    refine x_callV (ci := 5) (as := [.int (z1)]) dX6_flip_20 mk_X6_hasBit in_X6_hasBit se_X6_hasBit ml_RX6_156 rfl h0 (by decide) rfl rfl (Nat.le_of_ble_eq_true rfl) (c_hasBit h0 ho hn31) ?_
    refine x_if_ne (tgt := 29) dX6_flip_23 (by decide) (fun h23 => ?_) (fun h23 => ?_)
    · exact absurd hbad (by rw [ite1 h15, ite1 h23]; decide)
    · refine x_bipush (y := -2) dX6_flip_26 rfl ?_
      exact x_ireturn_eq dX6_flip_28 rfl rfl
theorem c_markB {X : Ev} {M : Hp} {t d r n : Nat} {s : Ms} {ra rr rl : Int32} (h0 : M[0]? = some (.inr (5, [.ref (1), .ref (5), .ref (12), .ref (21), .ref (134), .ref (136), .int (1), .int (ra), .int (rr), .int (rl)])))  (ho : M[5]? = some (.inr (0, [.ref (1), .ref (6), .ref (7), .ref (8), .ref (9), .ref (10), .int (nI t), .int (nI d), .int (nI r), .int (nI n), .long (s.1.1), .long (s.1.2)]))) (hn31 : n < 2 ^ 31) {z0 : Int32} {z1 : Int32} {z2 : Int32} (hbad : (inl_ z0 16 && inl_ z1 n) = false) : Cl X 9 jX6_mark [.ref (0), .int (z0), .int (z1), .int (z2)] M (some (.int (-2))) M := by
  refine Cl.of (ls := [some (.ref (0)), some (.int (z0)), some (.int (z1)), some (.int (z2))]) (by decide) rfl (Nat.le_of_ble_eq_true rfl) ?_
  refine x_aload_n dX6_mark_0 rfl rfl ?_
  refine x_getf (ci := 5) (kf := 6) dX6_mark_1 rfl uX6 (by decide) fl_RX6_84 h0 rfl ?_
  refine x_if_ne (tgt := 10) dX6_mark_4 (by decide) (fun _ => ?_) (fun h => False.elim (absurd h (by decide)))
  refine x_aload_n dX6_mark_10 rfl rfl ?_
  refine x_iload_n dX6_mark_11 rfl rfl ?_
  refine x_callV (ci := 5) (as := [.int (z0)]) dX6_mark_12 mk_X6_hasPage in_X6_hasPage se_X6_hasPage ml_RX6_143 rfl h0 (by decide) rfl rfl (Nat.le_of_ble_eq_true rfl) (c_hasPage) ?_
  refine x_if_eq (tgt := 26) dX6_mark_15 (by decide) (fun h15 => ?_) (fun h15 => ?_)
  · refine x_bipush (y := -2) dX6_mark_26 rfl ?_
    exact x_ireturn_eq dX6_mark_28 rfl rfl
  · refine x_aload_n dX6_mark_18 rfl rfl ?_
    refine x_iload_n dX6_mark_19 rfl rfl ?_
    refine x_callV (ci := 5) (as := [.int (z1)]) dX6_mark_20 mk_X6_hasBit in_X6_hasBit se_X6_hasBit ml_RX6_156 rfl h0 (by decide) rfl rfl (Nat.le_of_ble_eq_true rfl) (c_hasBit h0 ho hn31) ?_
    refine x_if_ne (tgt := 29) dX6_mark_23 (by decide) (fun h23 => ?_) (fun h23 => ?_)
    · exact absurd hbad (by rw [ite1 h15, ite1 h23]; decide)
    · refine x_bipush (y := -2) dX6_mark_26 rfl ?_
      exact x_ireturn_eq dX6_mark_28 rfl rfl
theorem c_copyB {X : Ev} {M : Hp}  {ra rr rl : Int32} (h0 : M[0]? = some (.inr (5, [.ref (1), .ref (5), .ref (12), .ref (21), .ref (134), .ref (136), .int (1), .int (ra), .int (rr), .int (rl)]))) {z0 : Int32} {z1 : Int32} (hbad : (inl_ z0 16 && inl_ z1 16) = false) : Cl X 9 jX6_copy [.ref (0), .int (z0), .int (z1)] M (some (.int (-2))) M := by
  refine Cl.of (ls := [some (.ref (0)), some (.int (z0)), some (.int (z1))]) (by decide) rfl (Nat.le_of_ble_eq_true rfl) ?_
  refine x_aload_n dX6_copy_0 rfl rfl ?_
  refine x_getf (ci := 5) (kf := 6) dX6_copy_1 rfl uX6 (by decide) fl_RX6_84 h0 rfl ?_
  refine x_if_ne (tgt := 10) dX6_copy_4 (by decide) (fun _ => ?_) (fun h => False.elim (absurd h (by decide)))
  refine x_aload_n dX6_copy_10 rfl rfl ?_
  refine x_iload_n dX6_copy_11 rfl rfl ?_
  refine x_callV (ci := 5) (as := [.int (z0)]) dX6_copy_12 mk_X6_hasPage in_X6_hasPage se_X6_hasPage ml_RX6_143 rfl h0 (by decide) rfl rfl (Nat.le_of_ble_eq_true rfl) (c_hasPage) ?_
  refine x_if_eq (tgt := 26) dX6_copy_15 (by decide) (fun h15 => ?_) (fun h15 => ?_)
  · refine x_bipush (y := -2) dX6_copy_26 rfl ?_
    exact x_ireturn_eq dX6_copy_28 rfl rfl
  · refine x_aload_n dX6_copy_18 rfl rfl ?_
    refine x_iload_n dX6_copy_19 rfl rfl ?_
    refine x_callV (ci := 5) (as := [.int (z1)]) dX6_copy_20 mk_X6_hasPage in_X6_hasPage se_X6_hasPage ml_RX6_143 rfl h0 (by decide) rfl rfl (Nat.le_of_ble_eq_true rfl) (c_hasPage) ?_
    refine x_if_ne (tgt := 29) dX6_copy_23 (by decide) (fun h23 => ?_) (fun h23 => ?_)
    · exact absurd hbad (by rw [ite1 h15, ite1 h23]; decide)
    · refine x_bipush (y := -2) dX6_copy_26 rfl ?_
      exact x_ireturn_eq dX6_copy_28 rfl rfl
theorem c_eraseB {X : Ev} {M : Hp}  {ra rr rl : Int32} (h0 : M[0]? = some (.inr (5, [.ref (1), .ref (5), .ref (12), .ref (21), .ref (134), .ref (136), .int (1), .int (ra), .int (rr), .int (rl)]))) {z0 : Int32} (hbad : inl_ z0 16 = false) : Cl X 9 jX6_erase [.ref (0), .int (z0)] M (some (.int (-2))) M := by
  refine Cl.of (ls := [some (.ref (0)), some (.int (z0))]) (by decide) rfl (Nat.le_of_ble_eq_true rfl) ?_
  refine x_aload_n dX6_erase_0 rfl rfl ?_
  refine x_getf (ci := 5) (kf := 6) dX6_erase_1 rfl uX6 (by decide) fl_RX6_84 h0 rfl ?_
  refine x_if_ne (tgt := 10) dX6_erase_4 (by decide) (fun _ => ?_) (fun h => False.elim (absurd h (by decide)))
  refine x_aload_n dX6_erase_10 rfl rfl ?_
  refine x_iload_n dX6_erase_11 rfl rfl ?_
  refine x_callV (ci := 5) (as := [.int (z0)]) dX6_erase_12 mk_X6_hasPage in_X6_hasPage se_X6_hasPage ml_RX6_143 rfl h0 (by decide) rfl rfl (Nat.le_of_ble_eq_true rfl) (c_hasPage) ?_
  refine x_if_ne (tgt := 21) dX6_erase_15 (by decide) (fun h15 => ?_) (fun h15 => ?_)
  · exact absurd hbad (by rw [ite1 h15]; decide)
  · refine x_bipush (y := -2) dX6_erase_18 rfl ?_
    exact x_ireturn_eq dX6_erase_20 rfl rfl
theorem c_readB {X : Ev} {M : Hp}  {ra rr rl : Int32} (h0 : M[0]? = some (.inr (5, [.ref (1), .ref (5), .ref (12), .ref (21), .ref (134), .ref (136), .int (1), .int (ra), .int (rr), .int (rl)]))) {z0 : Int32} (hbad : inl_ z0 16 = false) : Cl X 9 jX6_read [.ref (0), .int (z0)] M (some (.int (-2))) M := by
  refine Cl.of (ls := [some (.ref (0)), some (.int (z0)), none]) (by decide) rfl (Nat.le_of_ble_eq_true rfl) ?_
  refine x_aload_n dX6_read_0 rfl rfl ?_
  refine x_getf (ci := 5) (kf := 6) dX6_read_1 rfl uX6 (by decide) fl_RX6_84 h0 rfl ?_
  refine x_if_ne (tgt := 10) dX6_read_4 (by decide) (fun _ => ?_) (fun h => False.elim (absurd h (by decide)))
  refine x_aload_n dX6_read_10 rfl rfl ?_
  refine x_iload_n dX6_read_11 rfl rfl ?_
  refine x_callV (ci := 5) (as := [.int (z0)]) dX6_read_12 mk_X6_hasPage in_X6_hasPage se_X6_hasPage ml_RX6_143 rfl h0 (by decide) rfl rfl (Nat.le_of_ble_eq_true rfl) (c_hasPage) ?_
  refine x_if_ne (tgt := 21) dX6_read_15 (by decide) (fun h15 => ?_) (fun h15 => ?_)
  · exact absurd hbad (by rw [ite1 h15]; decide)
  · refine x_bipush (y := -2) dX6_read_18 rfl ?_
    exact x_ireturn_eq dX6_read_20 rfl rfl
theorem c_writeB {X : Ev} {M : Hp}  {ra rr rl : Int32} (h0 : M[0]? = some (.inr (5, [.ref (1), .ref (5), .ref (12), .ref (21), .ref (134), .ref (136), .int (1), .int (ra), .int (rr), .int (rl)]))) {z0 : Int32} (hbad : inl_ z0 16 = false) : Cl X 9 jX6_write [.ref (0), .int (z0)] M (some (.int (-2))) M := by
  refine Cl.of (ls := [some (.ref (0)), some (.int (z0))]) (by decide) rfl (Nat.le_of_ble_eq_true rfl) ?_
  refine x_aload_n dX6_write_0 rfl rfl ?_
  refine x_getf (ci := 5) (kf := 6) dX6_write_1 rfl uX6 (by decide) fl_RX6_84 h0 rfl ?_
  refine x_if_ne (tgt := 10) dX6_write_4 (by decide) (fun _ => ?_) (fun h => False.elim (absurd h (by decide)))
  refine x_aload_n dX6_write_10 rfl rfl ?_
  refine x_iload_n dX6_write_11 rfl rfl ?_
  refine x_callV (ci := 5) (as := [.int (z0)]) dX6_write_12 mk_X6_hasPage in_X6_hasPage se_X6_hasPage ml_RX6_143 rfl h0 (by decide) rfl rfl (Nat.le_of_ble_eq_true rfl) (c_hasPage) ?_
  refine x_if_ne (tgt := 21) dX6_write_15 (by decide) (fun h15 => ?_) (fun h15 => ?_)
  · exact absurd hbad (by rw [ite1 h15]; decide)
  · refine x_bipush (y := -2) dX6_write_18 rfl ?_
    exact x_ireturn_eq dX6_write_20 rfl rfl
theorem c_fillB {X : Ev} {M : Hp} {t d r n : Nat} {s : Ms} {ra rr rl : Int32} (h0 : M[0]? = some (.inr (5, [.ref (1), .ref (5), .ref (12), .ref (21), .ref (134), .ref (136), .int (1), .int (ra), .int (rr), .int (rl)])))  (ho : M[5]? = some (.inr (0, [.ref (1), .ref (6), .ref (7), .ref (8), .ref (9), .ref (10), .int (nI t), .int (nI d), .int (nI r), .int (nI n), .long (s.1.1), .long (s.1.2)]))) (hn31 : d < 2 ^ 31) {z0 : Int32} {z1 : Int64} (hbad : inl_ z0 d = false) : Cl X 9 jX6_fill [.ref (0), .int (z0), .long (z1)] M (some (.int (-2))) M := by
  refine Cl.of (ls := [some (.ref (0)), some (.int (z0)), some (.long (z1)), none, none, none]) (by decide) rfl (Nat.le_of_ble_eq_true rfl) ?_
  refine x_aload_n dX6_fill_0 rfl rfl ?_
  refine x_getf (ci := 5) (kf := 6) dX6_fill_1 rfl uX6 (by decide) fl_RX6_84 h0 rfl ?_
  refine x_if_ne (tgt := 10) dX6_fill_4 (by decide) (fun _ => ?_) (fun h => False.elim (absurd h (by decide)))
  refine x_aload_n dX6_fill_10 rfl rfl ?_
  refine x_iload_n dX6_fill_11 rfl rfl ?_
  refine x_callV (ci := 5) (as := [.int (z0)]) dX6_fill_12 mk_X6_hasByte in_X6_hasByte se_X6_hasByte ml_RX6_120 rfl h0 (by decide) rfl rfl (Nat.le_of_ble_eq_true rfl) (c_hasByte h0 ho hn31) ?_
  refine x_if_ne (tgt := 21) dX6_fill_15 (by decide) (fun h15 => ?_) (fun h15 => ?_)
  · exact absurd hbad (by rw [ite1 h15]; decide)
  · refine x_bipush (y := -2) dX6_fill_18 rfl ?_
    exact x_ireturn_eq dX6_fill_20 rfl rfl
theorem c_getB {X : Ev} {M : Hp} {t d r n : Nat} {s : Ms} {ra rr rl : Int32} (h0 : M[0]? = some (.inr (5, [.ref (1), .ref (5), .ref (12), .ref (21), .ref (134), .ref (136), .int (1), .int (ra), .int (rr), .int (rl)])))  (ho : M[5]? = some (.inr (0, [.ref (1), .ref (6), .ref (7), .ref (8), .ref (9), .ref (10), .int (nI t), .int (nI d), .int (nI r), .int (nI n), .long (s.1.1), .long (s.1.2)]))) (hn31 : d < 2 ^ 31) {z0 : Int32} (hbad : inl_ z0 d = false) : Cl X 9 jX6_get [.ref (0), .int (z0)] M (some (.int (-2))) M := by
  refine Cl.of (ls := [some (.ref (0)), some (.int (z0))]) (by decide) rfl (Nat.le_of_ble_eq_true rfl) ?_
  refine x_aload_n dX6_get_0 rfl rfl ?_
  refine x_getf (ci := 5) (kf := 6) dX6_get_1 rfl uX6 (by decide) fl_RX6_84 h0 rfl ?_
  refine x_if_ne (tgt := 10) dX6_get_4 (by decide) (fun _ => ?_) (fun h => False.elim (absurd h (by decide)))
  refine x_aload_n dX6_get_10 rfl rfl ?_
  refine x_iload_n dX6_get_11 rfl rfl ?_
  refine x_callV (ci := 5) (as := [.int (z0)]) dX6_get_12 mk_X6_hasByte in_X6_hasByte se_X6_hasByte ml_RX6_120 rfl h0 (by decide) rfl rfl (Nat.le_of_ble_eq_true rfl) (c_hasByte h0 ho hn31) ?_
  refine x_if_ne (tgt := 21) dX6_get_15 (by decide) (fun h15 => ?_) (fun h15 => ?_)
  · exact absurd hbad (by rw [ite1 h15]; decide)
  · refine x_bipush (y := -2) dX6_get_18 rfl ?_
    exact x_ireturn_eq dX6_get_20 rfl rfl
theorem c_putB {X : Ev} {M : Hp} {t d r n : Nat} {s : Ms} {ra rr rl : Int32} (h0 : M[0]? = some (.inr (5, [.ref (1), .ref (5), .ref (12), .ref (21), .ref (134), .ref (136), .int (1), .int (ra), .int (rr), .int (rl)])))  (ho : M[5]? = some (.inr (0, [.ref (1), .ref (6), .ref (7), .ref (8), .ref (9), .ref (10), .int (nI t), .int (nI d), .int (nI r), .int (nI n), .long (s.1.1), .long (s.1.2)]))) (hn31 : d < 2 ^ 31) {z0 : Int32} {z1 : Int32} (hbad : inl_ z0 d = false) : Cl X 9 jX6_put [.ref (0), .int (z0), .int (z1)] M (some (.int (-2))) M := by
  refine Cl.of (ls := [some (.ref (0)), some (.int (z0)), some (.int (z1)), none]) (by decide) rfl (Nat.le_of_ble_eq_true rfl) ?_
  refine x_aload_n dX6_put_0 rfl rfl ?_
  refine x_getf (ci := 5) (kf := 6) dX6_put_1 rfl uX6 (by decide) fl_RX6_84 h0 rfl ?_
  refine x_if_ne (tgt := 10) dX6_put_4 (by decide) (fun _ => ?_) (fun h => False.elim (absurd h (by decide)))
  refine x_aload_n dX6_put_10 rfl rfl ?_
  refine x_iload_n dX6_put_11 rfl rfl ?_
  refine x_callV (ci := 5) (as := [.int (z0)]) dX6_put_12 mk_X6_hasByte in_X6_hasByte se_X6_hasByte ml_RX6_120 rfl h0 (by decide) rfl rfl (Nat.le_of_ble_eq_true rfl) (c_hasByte h0 ho hn31) ?_
  refine x_if_ne (tgt := 21) dX6_put_15 (by decide) (fun h15 => ?_) (fun h15 => ?_)
  · exact absurd hbad (by rw [ite1 h15]; decide)
  · refine x_bipush (y := -2) dX6_put_18 rfl ?_
    exact x_ireturn_eq dX6_put_20 rfl rfl
theorem c_inverseB {X : Ev} {M : Hp}  {ra rr rl : Int32} (h0 : M[0]? = some (.inr (5, [.ref (1), .ref (5), .ref (12), .ref (21), .ref (134), .ref (136), .int (1), .int (ra), .int (rr), .int (rl)]))) {m : Nat} (hf : M[1]? = some (.inr (1, [.ref (2), .ref (3), .ref (4), .int (nI m), .int (nI (2 ^ m - 1))]))) {pw : Nat → Int32} (hp : M[2]? = some (.inl (0, 8192, .inl (pw)))) {lg : Nat → Int32} (hq : M[3]? = some (.inl (0, 8192, .inl (lg)))) (hF : FT pw lg m) {z0 : Int32} (hbad : (inr_ z0 (2 ^ m - 1) && decide (z0 ≠ 0)) = false) : Cl X 9 jX6_inverse [.ref (0), .int (z0)] M (some (.int (-2))) M := by
  refine Cl.of (ls := [some (.ref (0)), some (.int (z0))]) (by decide) rfl (Nat.le_of_ble_eq_true rfl) ?_
  refine x_aload_n dX6_inverse_0 rfl rfl ?_
  refine x_getf (ci := 5) (kf := 6) dX6_inverse_1 rfl uX6 (by decide) fl_RX6_84 h0 rfl ?_
  refine x_if_ne (tgt := 10) dX6_inverse_4 (by decide) (fun _ => ?_) (fun h => False.elim (absurd h (by decide)))
  refine x_aload_n dX6_inverse_10 rfl rfl ?_
  refine x_getf (ci := 5) (kf := 0) dX6_inverse_11 rfl uX6 (by decide) fl_RX6_12 h0 rfl ?_
  refine x_iload_n dX6_inverse_14 rfl rfl ?_
  refine x_callV (ci := 1) (as := [.int (z0)]) dX6_inverse_15 mk_X2_has in_X2_has se_X2_has ml_RX6_88 rfl hf (by decide) rfl rfl (Nat.le_of_ble_eq_true rfl) (c_has hf hp hq hF) ?_
  refine x_if_eq (tgt := 25) dX6_inverse_18 (by decide) (fun h18 => ?_) (fun h18 => ?_)
  · refine x_bipush (y := -2) dX6_inverse_25 rfl ?_
    exact x_ireturn_eq dX6_inverse_27 rfl rfl
  · refine x_iload_n dX6_inverse_21 rfl rfl ?_
    refine x_if_ne (tgt := 28) dX6_inverse_22 (by decide) (fun h22 => ?_) (fun h22 => ?_)
    · exact absurd hbad (by rw [ite1 h18, decide_eq_true h22]; decide)
    · refine x_bipush (y := -2) dX6_inverse_25 rfl ?_
      exact x_ireturn_eq dX6_inverse_27 rfl rfl
theorem c_logB {X : Ev} {M : Hp}  {ra rr rl : Int32} (h0 : M[0]? = some (.inr (5, [.ref (1), .ref (5), .ref (12), .ref (21), .ref (134), .ref (136), .int (1), .int (ra), .int (rr), .int (rl)]))) {m : Nat} (hf : M[1]? = some (.inr (1, [.ref (2), .ref (3), .ref (4), .int (nI m), .int (nI (2 ^ m - 1))]))) {pw : Nat → Int32} (hp : M[2]? = some (.inl (0, 8192, .inl (pw)))) {lg : Nat → Int32} (hq : M[3]? = some (.inl (0, 8192, .inl (lg)))) (hF : FT pw lg m) {z0 : Int32} (hbad : (inr_ z0 (2 ^ m - 1) && decide (z0 ≠ 0)) = false) : Cl X 9 jX6_log [.ref (0), .int (z0)] M (some (.int (-2))) M := by
  refine Cl.of (ls := [some (.ref (0)), some (.int (z0))]) (by decide) rfl (Nat.le_of_ble_eq_true rfl) ?_
  refine x_aload_n dX6_log_0 rfl rfl ?_
  refine x_getf (ci := 5) (kf := 6) dX6_log_1 rfl uX6 (by decide) fl_RX6_84 h0 rfl ?_
  refine x_if_ne (tgt := 10) dX6_log_4 (by decide) (fun _ => ?_) (fun h => False.elim (absurd h (by decide)))
  refine x_aload_n dX6_log_10 rfl rfl ?_
  refine x_getf (ci := 5) (kf := 0) dX6_log_11 rfl uX6 (by decide) fl_RX6_12 h0 rfl ?_
  refine x_iload_n dX6_log_14 rfl rfl ?_
  refine x_callV (ci := 1) (as := [.int (z0)]) dX6_log_15 mk_X2_has in_X2_has se_X2_has ml_RX6_88 rfl hf (by decide) rfl rfl (Nat.le_of_ble_eq_true rfl) (c_has hf hp hq hF) ?_
  refine x_if_eq (tgt := 25) dX6_log_18 (by decide) (fun h18 => ?_) (fun h18 => ?_)
  · refine x_bipush (y := -2) dX6_log_25 rfl ?_
    exact x_ireturn_eq dX6_log_27 rfl rfl
  · refine x_iload_n dX6_log_21 rfl rfl ?_
    refine x_if_ne (tgt := 28) dX6_log_22 (by decide) (fun h22 => ?_) (fun h22 => ?_)
    · exact absurd hbad (by rw [ite1 h18, decide_eq_true h22]; decide)
    · refine x_bipush (y := -2) dX6_log_25 rfl ?_
      exact x_ireturn_eq dX6_log_27 rfl rfl
theorem c_timesB {X : Ev} {M : Hp}  {ra rr rl : Int32} (h0 : M[0]? = some (.inr (5, [.ref (1), .ref (5), .ref (12), .ref (21), .ref (134), .ref (136), .int (1), .int (ra), .int (rr), .int (rl)]))) {m : Nat} (hf : M[1]? = some (.inr (1, [.ref (2), .ref (3), .ref (4), .int (nI m), .int (nI (2 ^ m - 1))]))) {pw : Nat → Int32} (hp : M[2]? = some (.inl (0, 8192, .inl (pw)))) {lg : Nat → Int32} (hq : M[3]? = some (.inl (0, 8192, .inl (lg)))) (hF : FT pw lg m) {z0 : Int32} {z1 : Int32} (hbad : (inr_ z0 (2 ^ m - 1) && inr_ z1 (2 ^ m - 1)) = false) : Cl X 9 jX6_times [.ref (0), .int (z0), .int (z1)] M (some (.int (-2))) M := by
  refine Cl.of (ls := [some (.ref (0)), some (.int (z0)), some (.int (z1))]) (by decide) rfl (Nat.le_of_ble_eq_true rfl) ?_
  refine x_aload_n dX6_times_0 rfl rfl ?_
  refine x_getf (ci := 5) (kf := 6) dX6_times_1 rfl uX6 (by decide) fl_RX6_84 h0 rfl ?_
  refine x_if_ne (tgt := 10) dX6_times_4 (by decide) (fun _ => ?_) (fun h => False.elim (absurd h (by decide)))
  refine x_aload_n dX6_times_10 rfl rfl ?_
  refine x_getf (ci := 5) (kf := 0) dX6_times_11 rfl uX6 (by decide) fl_RX6_12 h0 rfl ?_
  refine x_iload_n dX6_times_14 rfl rfl ?_
  refine x_callV (ci := 1) (as := [.int (z0)]) dX6_times_15 mk_X2_has in_X2_has se_X2_has ml_RX6_88 rfl hf (by decide) rfl rfl (Nat.le_of_ble_eq_true rfl) (c_has hf hp hq hF) ?_
  refine x_if_eq (tgt := 32) dX6_times_18 (by decide) (fun h18 => ?_) (fun h18 => ?_)
  · refine x_bipush (y := -2) dX6_times_32 rfl ?_
    exact x_ireturn_eq dX6_times_34 rfl rfl
  · refine x_aload_n dX6_times_21 rfl rfl ?_
    refine x_getf (ci := 5) (kf := 0) dX6_times_22 rfl uX6 (by decide) fl_RX6_12 h0 rfl ?_
    refine x_iload_n dX6_times_25 rfl rfl ?_
    refine x_callV (ci := 1) (as := [.int (z1)]) dX6_times_26 mk_X2_has in_X2_has se_X2_has ml_RX6_88 rfl hf (by decide) rfl rfl (Nat.le_of_ble_eq_true rfl) (c_has hf hp hq hF) ?_
    refine x_if_ne (tgt := 35) dX6_times_29 (by decide) (fun h29 => ?_) (fun h29 => ?_)
    · exact absurd hbad (by rw [ite1 h18, ite1 h29]; decide)
    · refine x_bipush (y := -2) dX6_times_32 rfl ?_
      exact x_ireturn_eq dX6_times_34 rfl rfl
theorem c_minimalB {X : Ev} {M : Hp}  {ra rr rl : Int32} (h0 : M[0]? = some (.inr (5, [.ref (1), .ref (5), .ref (12), .ref (21), .ref (134), .ref (136), .int (1), .int (ra), .int (rr), .int (rl)]))) {m : Nat} (hf : M[1]? = some (.inr (1, [.ref (2), .ref (3), .ref (4), .int (nI m), .int (nI (2 ^ m - 1))]))) (hm3 : 3 ≤ m) (hm13 : m ≤ 13) {z0 : Int32} (hbad : inl_ z0 (2 ^ m - 1) = false) : Cl X 9 jX6_minimal [.ref (0), .int (z0)] M (some (.int (-2))) M := by
  have ht := two_le hm3 hm13
  refine Cl.of (ls := [some (.ref (0)), some (.int (z0))]) (by decide) rfl (Nat.le_of_ble_eq_true rfl) ?_
  refine x_aload_n dX6_minimal_0 rfl rfl ?_
  refine x_getf (ci := 5) (kf := 6) dX6_minimal_1 rfl uX6 (by decide) fl_RX6_84 h0 rfl ?_
  refine x_if_ne (tgt := 10) dX6_minimal_4 (by decide) (fun _ => ?_) (fun h => False.elim (absurd h (by decide)))
  refine x_iload_n dX6_minimal_10 rfl rfl ?_
  refine x_if_lt (tgt := 25) dX6_minimal_11 (by decide) (fun h11 => ?_) (fun h11 => ?_)
  · refine x_bipush (y := -2) dX6_minimal_25 rfl ?_
    exact x_ireturn_eq dX6_minimal_27 rfl rfl
  · refine x_iload_n dX6_minimal_14 rfl rfl ?_
    refine x_aload_n dX6_minimal_15 rfl rfl ?_
    refine x_getf (ci := 5) (kf := 0) dX6_minimal_16 rfl uX6 (by decide) fl_RX6_12 h0 rfl ?_
    refine x_getf (ci := 1) (kf := 4) dX6_minimal_19 rfl uX2 (by decide) fl_RX6_108 hf rfl ?_
    refine x_icmp_lt (tgt := 28) dX6_minimal_22 (by decide) (fun h22 => ?_) (fun h22 => ?_)
    · exact absurd hbad (by rw [inl_of (by omega) h11 h22]; decide)
    · refine x_bipush (y := -2) dX6_minimal_25 rfl ?_
      exact x_ireturn_eq dX6_minimal_27 rfl rfl
theorem c_tailB {X : Ev} {M : Hp} {t d r n : Nat} {s : Ms} {ra rr rl : Int32} (h0 : M[0]? = some (.inr (5, [.ref (1), .ref (5), .ref (12), .ref (21), .ref (134), .ref (136), .int (1), .int (ra), .int (rr), .int (rl)])))  (ho : M[5]? = some (.inr (0, [.ref (1), .ref (6), .ref (7), .ref (8), .ref (9), .ref (10), .int (nI t), .int (nI d), .int (nI r), .int (nI n), .long (s.1.1), .long (s.1.2)]))) (hn31 : r < 2 ^ 31) {z0 : Int32} (hbad : inl_ z0 r = false) : Cl X 9 jX6_tail [.ref (0), .int (z0)] M (some (.int (-2))) M := by
  refine Cl.of (ls := [some (.ref (0)), some (.int (z0))]) (by decide) rfl (Nat.le_of_ble_eq_true rfl) ?_
  refine x_aload_n dX6_tail_0 rfl rfl ?_
  refine x_getf (ci := 5) (kf := 6) dX6_tail_1 rfl uX6 (by decide) fl_RX6_84 h0 rfl ?_
  refine x_if_ne (tgt := 10) dX6_tail_4 (by decide) (fun _ => ?_) (fun h => False.elim (absurd h (by decide)))
  refine x_iload_n dX6_tail_10 rfl rfl ?_
  refine x_if_lt (tgt := 25) dX6_tail_11 (by decide) (fun h11 => ?_) (fun h11 => ?_)
  · refine x_bipush (y := -2) dX6_tail_25 rfl ?_
    exact x_ireturn_eq dX6_tail_27 rfl rfl
  · refine x_iload_n dX6_tail_14 rfl rfl ?_
    refine x_aload_n dX6_tail_15 rfl rfl ?_
    refine x_getf (ci := 5) (kf := 1) dX6_tail_16 rfl uX6 (by decide) fl_RX6_21 h0 rfl ?_
    refine x_getf (ci := 0) (kf := 8) dX6_tail_19 rfl uX0 (by decide) fl_RX6_114 ho rfl ?_
    refine x_icmp_lt (tgt := 28) dX6_tail_22 (by decide) (fun h22 => ?_) (fun h22 => ?_)
    · exact absurd hbad (by rw [inl_of hn31 h11 h22]; decide)
    · refine x_bipush (y := -2) dX6_tail_25 rfl ?_
      exact x_ireturn_eq dX6_tail_27 rfl rfl
theorem c_generatorB {X : Ev} {M : Hp}  {ra rr rl : Int32} (h0 : M[0]? = some (.inr (5, [.ref (1), .ref (5), .ref (12), .ref (21), .ref (134), .ref (136), .int (1), .int (ra), .int (rr), .int (rl)]))) {z0 : Int32} (hbad : decide (0 ≤ z0.toInt) = false) : Cl X 9 jX6_generator [.ref (0), .int (z0)] M (some (.int (-2))) M := by
  refine Cl.of (ls := [some (.ref (0)), some (.int (z0))]) (by decide) rfl (Nat.le_of_ble_eq_true rfl) ?_
  refine x_aload_n dX6_generator_0 rfl rfl ?_
  refine x_getf (ci := 5) (kf := 6) dX6_generator_1 rfl uX6 (by decide) fl_RX6_84 h0 rfl ?_
  refine x_if_ne (tgt := 10) dX6_generator_4 (by decide) (fun _ => ?_) (fun h => False.elim (absurd h (by decide)))
  refine x_iload_n dX6_generator_10 rfl rfl ?_
  refine x_if_ge (tgt := 17) dX6_generator_11 (by decide) (fun h11 => ?_) (fun h11 => ?_)
  · exact absurd hbad (by rw [decide_eq_true ((i32_ge_iff z0).mp h11)]; decide)
  · refine x_bipush (y := -2) dX6_generator_14 rfl ?_
    exact x_ireturn_eq dX6_generator_16 rfl rfl
theorem c_powerB {X : Ev} {M : Hp}  {ra rr rl : Int32} (h0 : M[0]? = some (.inr (5, [.ref (1), .ref (5), .ref (12), .ref (21), .ref (134), .ref (136), .int (1), .int (ra), .int (rr), .int (rl)]))) {z0 : Int32} (hbad : decide (-100000 ≤ z0.toInt ∧ z0.toInt ≤ 100000) = false) : Cl X 9 jX6_power [.ref (0), .int (z0)] M (some (.int (-2))) M := by
  refine Cl.of (ls := [some (.ref (0)), some (.int (z0))]) (by decide) rfl (Nat.le_of_ble_eq_true rfl) ?_
  refine x_aload_n dX6_power_0 rfl rfl ?_
  refine x_getf (ci := 5) (kf := 6) dX6_power_1 rfl uX6 (by decide) fl_RX6_84 h0 rfl ?_
  refine x_if_ne (tgt := 10) dX6_power_4 (by decide) (fun _ => ?_) (fun h => False.elim (absurd h (by decide)))
  refine x_iload_n dX6_power_10 rfl rfl ?_
  refine x_ldc (y := (-100000)) dX6_power_11 ki_RX6_99 ?_
  refine x_icmp_lt (tgt := 22) dX6_power_13 (by decide) (fun h13 => ?_) (fun h13 => ?_)
  · refine x_bipush (y := -2) dX6_power_22 rfl ?_
    exact x_ireturn_eq dX6_power_24 rfl rfl
  · refine x_iload_n dX6_power_16 rfl rfl ?_
    refine x_ldc (y := (100000)) dX6_power_17 ki_RX6_100 ?_
    refine x_icmp_le (tgt := 25) dX6_power_19 (by decide) (fun h19 => ?_) (fun h19 => ?_)
    · exact absurd hbad (by rw [decide_eq_true ⟨Int32.le_iff_toInt_le.mp (Int32.not_lt.mp h13), Int32.le_iff_toInt_le.mp h19⟩]; decide)
    · refine x_bipush (y := -2) dX6_power_22 rfl ?_
      exact x_ireturn_eq dX6_power_24 rfl rfl
theorem c_refreshB {X : Ev} {M : Hp}  {ra rr rl : Int32} (h0 : M[0]? = some (.inr (5, [.ref (1), .ref (5), .ref (12), .ref (21), .ref (134), .ref (136), .int (1), .int (ra), .int (rr), .int (rl)]))) {z0 : Int32} (hbad : inl_ z0 65 = false) : Cl X 9 jX6_refresh [.ref (0), .int (z0)] M (some (.int (-2))) M := by
  refine Cl.of (ls := [some (.ref (0)), some (.int (z0)), none, none, none]) (by decide) rfl (Nat.le_of_ble_eq_true rfl) ?_
  refine x_aload_n dX6_refresh_0 rfl rfl ?_
  refine x_getf (ci := 5) (kf := 6) dX6_refresh_1 rfl uX6 (by decide) fl_RX6_84 h0 rfl ?_
  refine x_if_ne (tgt := 10) dX6_refresh_4 (by decide) (fun _ => ?_) (fun h => False.elim (absurd h (by decide)))
  refine x_iload_n dX6_refresh_10 rfl rfl ?_
  refine x_if_lt (tgt := 20) dX6_refresh_11 (by decide) (fun h11 => ?_) (fun h11 => ?_)
  · refine x_bipush (y := -2) dX6_refresh_20 rfl ?_
    exact x_ireturn_eq dX6_refresh_22 rfl rfl
  · refine x_iload_n dX6_refresh_14 rfl rfl ?_
    refine x_bipush (y := nI 64) dX6_refresh_15 rfl ?_
    refine x_icmp_le (tgt := 23) dX6_refresh_17 (by decide) (fun h17 => ?_) (fun h17 => ?_)
    · exact absurd hbad (by rw [inl_of (by decide) h11 (Int32.lt_iff_toInt_lt.mpr (by have := Int32.le_iff_toInt_le.mp h17; rw [nI_toInt (by decide)] at this ⊢; omega))]; decide)
    · refine x_bipush (y := -2) dX6_refresh_20 rfl ?_
      exact x_ireturn_eq dX6_refresh_22 rfl rfl
theorem c_stickB {X : Ev} {M : Hp} {t d r n : Nat} {s : Ms} {ra rr rl : Int32} (h0 : M[0]? = some (.inr (5, [.ref (1), .ref (5), .ref (12), .ref (21), .ref (134), .ref (136), .int (1), .int (ra), .int (rr), .int (rl)])))  (ho : M[5]? = some (.inr (0, [.ref (1), .ref (6), .ref (7), .ref (8), .ref (9), .ref (10), .int (nI t), .int (nI d), .int (nI r), .int (nI n), .long (s.1.1), .long (s.1.2)]))) (hn31 : n < 2 ^ 31) {z0 : Int32} {z1 : Int32} {z2 : Int32} (hbad : (inl_ z0 16 && inl_ z1 n && decide (-1 ≤ z2.toInt ∧ z2.toInt ≤ 1)) = false) : Cl X 9 jX6_stick [.ref (0), .int (z0), .int (z1), .int (z2)] M (some (.int (-2))) M := by
  refine Cl.of (ls := [some (.ref (0)), some (.int (z0)), some (.int (z1)), some (.int (z2))]) (by decide) rfl (Nat.le_of_ble_eq_true rfl) ?_
  refine x_aload_n dX6_stick_0 rfl rfl ?_
  refine x_getf (ci := 5) (kf := 6) dX6_stick_1 rfl uX6 (by decide) fl_RX6_84 h0 rfl ?_
  refine x_if_ne (tgt := 10) dX6_stick_4 (by decide) (fun _ => ?_) (fun h => False.elim (absurd h (by decide)))
  refine x_aload_n dX6_stick_10 rfl rfl ?_
  refine x_iload_n dX6_stick_11 rfl rfl ?_
  refine x_callV (ci := 5) (as := [.int (z0)]) dX6_stick_12 mk_X6_hasPage in_X6_hasPage se_X6_hasPage ml_RX6_143 rfl h0 (by decide) rfl rfl (Nat.le_of_ble_eq_true rfl) (c_hasPage) ?_
  refine x_if_eq (tgt := 36) dX6_stick_15 (by decide) (fun h15 => ?_) (fun h15 => ?_)
  · refine x_bipush (y := -2) dX6_stick_36 rfl ?_
    exact x_ireturn_eq dX6_stick_38 rfl rfl
  · refine x_aload_n dX6_stick_18 rfl rfl ?_
    refine x_iload_n dX6_stick_19 rfl rfl ?_
    refine x_callV (ci := 5) (as := [.int (z1)]) dX6_stick_20 mk_X6_hasBit in_X6_hasBit se_X6_hasBit ml_RX6_156 rfl h0 (by decide) rfl rfl (Nat.le_of_ble_eq_true rfl) (c_hasBit h0 ho hn31) ?_
    refine x_if_eq (tgt := 36) dX6_stick_23 (by decide) (fun h23 => ?_) (fun h23 => ?_)
    · refine x_bipush (y := -2) dX6_stick_36 rfl ?_
      exact x_ireturn_eq dX6_stick_38 rfl rfl
    · refine x_iload_n dX6_stick_26 rfl rfl ?_
      refine x_iconst (y := -1) dX6_stick_27 rfl ?_
      refine x_icmp_lt (tgt := 36) dX6_stick_28 (by decide) (fun h28 => ?_) (fun h28 => ?_)
      · refine x_bipush (y := -2) dX6_stick_36 rfl ?_
        exact x_ireturn_eq dX6_stick_38 rfl rfl
      · refine x_iload_n dX6_stick_31 rfl rfl ?_
        refine x_iconst (y := nI 1) dX6_stick_32 rfl ?_
        refine x_icmp_le (tgt := 39) dX6_stick_33 (by decide) (fun h33 => ?_) (fun h33 => ?_)
        · exact absurd hbad (by rw [ite1 h15, ite1 h23, decide_eq_true ⟨Int32.le_iff_toInt_le.mp (Int32.not_lt.mp h28), Int32.le_iff_toInt_le.mp h33⟩]; decide)
        · refine x_bipush (y := -2) dX6_stick_36 rfl ?_
          exact x_ireturn_eq dX6_stick_38 rfl rfl
theorem c_syndromeB {X : Ev} {M : Hp} {t d r n : Nat} {s : Ms} {ra rr rl : Int32} (h0 : M[0]? = some (.inr (5, [.ref (1), .ref (5), .ref (12), .ref (21), .ref (134), .ref (136), .int (1), .int (ra), .int (rr), .int (rl)])))  (ho : M[5]? = some (.inr (0, [.ref (1), .ref (6), .ref (7), .ref (8), .ref (9), .ref (10), .int (nI t), .int (nI d), .int (nI r), .int (nI n), .long (s.1.1), .long (s.1.2)]))) (ht8 : t ≤ 8) {z0 : Int32} {z1 : Int32} (hbad : (inl_ z0 16 && decide (1 ≤ z1.toInt ∧ z1.toInt ≤ 2 * (t : Int))) = false) : Cl X 9 jX6_syndrome [.ref (0), .int (z0), .int (z1)] M (some (.int (-2))) M := by
  refine Cl.of (ls := [some (.ref (0)), some (.int (z0)), some (.int (z1))]) (by decide) rfl (Nat.le_of_ble_eq_true rfl) ?_
  refine x_aload_n dX6_syndrome_0 rfl rfl ?_
  refine x_getf (ci := 5) (kf := 6) dX6_syndrome_1 rfl uX6 (by decide) fl_RX6_84 h0 rfl ?_
  refine x_if_ne (tgt := 10) dX6_syndrome_4 (by decide) (fun _ => ?_) (fun h => False.elim (absurd h (by decide)))
  refine x_aload_n dX6_syndrome_10 rfl rfl ?_
  refine x_iload_n dX6_syndrome_11 rfl rfl ?_
  refine x_callV (ci := 5) (as := [.int (z0)]) dX6_syndrome_12 mk_X6_hasPage in_X6_hasPage se_X6_hasPage ml_RX6_143 rfl h0 (by decide) rfl rfl (Nat.le_of_ble_eq_true rfl) (c_hasPage) ?_
  refine x_if_eq (tgt := 36) dX6_syndrome_15 (by decide) (fun h15 => ?_) (fun h15 => ?_)
  · refine x_bipush (y := -2) dX6_syndrome_36 rfl ?_
    exact x_ireturn_eq dX6_syndrome_38 rfl rfl
  · refine x_iload_n dX6_syndrome_18 rfl rfl ?_
    refine x_iconst (y := nI 1) dX6_syndrome_19 rfl ?_
    refine x_icmp_lt (tgt := 36) dX6_syndrome_20 (by decide) (fun h20 => ?_) (fun h20 => ?_)
    · refine x_bipush (y := -2) dX6_syndrome_36 rfl ?_
      exact x_ireturn_eq dX6_syndrome_38 rfl rfl
    · refine x_iload_n dX6_syndrome_23 rfl rfl ?_
      refine x_iconst (y := nI 2) dX6_syndrome_24 rfl ?_
      refine x_aload_n dX6_syndrome_25 rfl rfl ?_
      refine x_getf (ci := 5) (kf := 1) dX6_syndrome_26 rfl uX6 (by decide) fl_RX6_21 h0 rfl ?_
      refine x_getf (ci := 0) (kf := 6) dX6_syndrome_29 rfl uX0 (by decide) fl_RX6_196 ho rfl ?_
      refine x_imul dX6_syndrome_32 ?_
      refine x_icmp_le (tgt := 39) dX6_syndrome_33 (by decide) (fun h33 => ?_) (fun h33 => ?_)
      · exact absurd hbad (by rw [ite1 h15, decide_eq_true ⟨Int32.le_iff_toInt_le.mp (Int32.not_lt.mp h20), by have h := Int32.le_iff_toInt_le.mp h33; rw [pk_mul, nI_toInt (by omega)] at h; omega⟩]; decide)
      · refine x_bipush (y := -2) dX6_syndrome_36 rfl ?_
        exact x_ireturn_eq dX6_syndrome_38 rfl rfl
theorem c_toldB {X : Ev} {M : Hp}  {ra rr rl : Int32} (h0 : M[0]? = some (.inr (5, [.ref (1), .ref (5), .ref (12), .ref (21), .ref (134), .ref (136), .int (1), .int (ra), .int (rr), .int (rl)]))) {z0 : Int32} {z1 : Int32} (hbad : (inl_ z0 16 && inl_ z1 20) = false) : Cl X 9 jX6_told [.ref (0), .int (z0), .int (z1)] M (some (.int (-2))) M := by
  refine Cl.of (ls := [some (.ref (0)), some (.int (z0)), some (.int (z1)), none]) (by decide) rfl (Nat.le_of_ble_eq_true rfl) ?_
  refine x_aload_n dX6_told_0 rfl rfl ?_
  refine x_getf (ci := 5) (kf := 6) dX6_told_1 rfl uX6 (by decide) fl_RX6_84 h0 rfl ?_
  refine x_if_ne (tgt := 10) dX6_told_4 (by decide) (fun _ => ?_) (fun h => False.elim (absurd h (by decide)))
  refine x_aload_n dX6_told_10 rfl rfl ?_
  refine x_iload_n dX6_told_11 rfl rfl ?_
  refine x_callV (ci := 5) (as := [.int (z0)]) dX6_told_12 mk_X6_hasPage in_X6_hasPage se_X6_hasPage ml_RX6_143 rfl h0 (by decide) rfl rfl (Nat.le_of_ble_eq_true rfl) (c_hasPage) ?_
  refine x_if_eq (tgt := 28) dX6_told_15 (by decide) (fun h15 => ?_) (fun h15 => ?_)
  · refine x_bipush (y := -2) dX6_told_28 rfl ?_
    exact x_ireturn_eq dX6_told_30 rfl rfl
  · refine x_iload_n dX6_told_18 rfl rfl ?_
    refine x_if_lt (tgt := 28) dX6_told_19 (by decide) (fun h19 => ?_) (fun h19 => ?_)
    · refine x_bipush (y := -2) dX6_told_28 rfl ?_
      exact x_ireturn_eq dX6_told_30 rfl rfl
    · refine x_iload_n dX6_told_22 rfl rfl ?_
      refine x_bipush (y := nI 19) dX6_told_23 rfl ?_
      refine x_icmp_le (tgt := 31) dX6_told_25 (by decide) (fun h25 => ?_) (fun h25 => ?_)
      · exact absurd hbad (by rw [ite1 h15, inl_of (by decide) h19 (Int32.lt_iff_toInt_lt.mpr (by have := Int32.le_iff_toInt_le.mp h25; rw [nI_toInt (by decide)] at this ⊢; omega))]; decide)
      · refine x_bipush (y := -2) dX6_told_28 rfl ?_
        exact x_ireturn_eq dX6_told_30 rfl rfl
