theorem Sc.l00 {t n : Nat} {f g : Nat → Int64} : (.inl (t, n, .inr (.inl (fun j => if j < 0 then g j else f j))) : Cel) = .inl (t, n, .inr (.inl f)) := by
  have e : (fun j => if j < 0 then g j else f j) = f := by funext j; simp
  rw [e]
/-! ROW: a row of 2176 bits in 34 longs -/
def rb (f : Nat → Int64) (k : Nat) : Bool := (uN (f (k / 64))).testBit (63 - k % 64)
theorem sh_n {k : Nat} (h : k < 2 ^ 31) (a p : Nat) (hs : ((nI a &&& 31).toBitVec.smod 32).toNat = a) (hp : 2 ^ a = p) : nI k >>> (nI a &&& 31) = nI (k / p) := by rw [pk_shrN h _ a hs, hp]
theorem an_n {k : Nat} (h : k < 2 ^ 32) (m a : Nat) (hm : (nI m).toBitVec.toNat = 2 ^ a - 1) : nI k &&& nI m = nI (k % 2 ^ a) := pk_andN h a hm
theorem l_bit (x : Int64) {j : Nat} (hj : j < 64) : ((x.toUInt64 >>> ((nI j).toInt64.toUInt64 &&& Int64.toUInt64 63)).toInt64).toInt32 &&& nI 1 = nI ((uN x).testBit j).toNat := by
  rw [uN_i32, uN_sk x hj, pk_and _ 1 (by decide +kernel)]
  have e8 : (nI (uN x / 2 ^ j)).toBitVec.toNat = (uN x / 2 ^ j) % 2 ^ 32 := BitVec.toNat_ofNat _ 32
  rw [e8, Nat.toNat_testBit]
  congr 1
  omega
theorem l_byte (x : Int64) {j : Nat} (hj : j < 64) : ((x.toUInt64 >>> ((nI j).toInt64.toUInt64 &&& Int64.toUInt64 63)).toInt64).toInt32 &&& nI 255 = nI (uN x / 2 ^ j % 256) := by
  rw [uN_i32, uN_sk x hj, pk_and _ 8 (by decide +kernel)]
  have e8 : (nI (uN x / 2 ^ j)).toBitVec.toNat = (uN x / 2 ^ j) % 2 ^ 32 := BitVec.toNat_ofNat _ 32
  rw [e8]
  congr 1
  omega
/-- byte i of a row -/
def rby (f : Nat → Int64) (i : Nat) : Nat := uN (f (i / 8)) / 2 ^ (56 - 8 * (i % 8)) % 256
/-- a long with bit j set to b, as Row.set does it -/
def sbit (x : Int64) (j : Nat) (b : Bool) : Int64 := if b then x ||| ((1 : Int64) <<< ((nI j).toInt64 &&& 63)) else x &&& (((1 : Int64) <<< ((nI j).toInt64 &&& 63)) ^^^ (-1))
def rset (f : Nat → Int64) (k : Nat) (b : Bool) : Nat → Int64 := vp_updL f (k / 64) (sbit (f (k / 64)) (63 - k % 64) b)
/-- a long with the byte at bit j replaced, as Row.setByte does it -/
def sbyt (x : Int64) (j b : Nat) : Int64 := (x &&& (((255 : Int64) <<< ((nI j).toInt64 &&& 63)) ^^^ (-1))) ||| ((nI b).toInt64 <<< ((nI j).toInt64 &&& 63))
def rsetb (f : Nat → Int64) (i b : Nat) : Nat → Int64 := vp_updL f (i / 8) (sbyt (f (i / 8)) (56 - 8 * (i % 8)) b)
def rones (f : Nat → Int64) : Nat → Nat
  | 0 => 0
  | n + 1 => rones f n + pc64 (f n)
theorem rones_le (f : Nat → Int64) : ∀ n, rones f n ≤ 64 * n
  | 0 => Nat.le_refl _
  | n + 1 => by
    have := rones_le f n
    have := cnt_le (uN (f n)).testBit 64
    show rones f n + cnt _ 64 ≤ _
    omega
theorem nI_63 {k : Nat} : nI 63 - nI (k % 2 ^ 6) = nI (63 - k % 64) := pk_sub (by omega)
theorem nI_56 {k : Nat} : nI 56 - nI (8 * (k % 2 ^ 3)) = nI (56 - 8 * (k % 8)) := pk_sub (by omega)
theorem c_at {X : Ev} {M : Hp} {a b : Nat} {f : Nat → Int64} (ha : M[a]? = some (.inr (4, [.ref (b)]))) (hb : M[b]? = some (.inl (1, 34, .inr (.inl (f))))) {k : Nat} (hk : k < 2176) : Cl X 0 jX5_at [.ref (a), .int (nI k)] M (some (.int (nI (rb f k).toNat))) M := by
  refine Cl.of (ls := [some (.ref (a)), some (.int (nI k))]) (by decide) rfl (Nat.le_of_ble_eq_true rfl) ?_
  refine x_aload_n dX5_at_0 rfl rfl ?_
  refine x_getf (ci := 4) (kf := 0) dX5_at_1 rfl uX5 (by decide) fl_RX5_9 ha rfl ?_
  refine x_iload_n dX5_at_4 rfl rfl ?_
  refine x_bipush (y := nI 6) dX5_at_5 rfl ?_
  refine x_ishr dX5_at_7 ?_
  refine x_casti (y := nI (k / 64)) (sh_n (by omega) 6 64 (by decide) (by decide)) ?_
  refine x_lld (j := k / 64) dX5_at_8 hb rfl (by omega) (by decide) ?_
  refine x_bipush (y := nI 63) dX5_at_9 rfl ?_
  refine x_iload_n dX5_at_11 rfl rfl ?_
  refine x_bipush (y := nI 63) dX5_at_12 rfl ?_
  refine x_iand dX5_at_14 ?_
  refine x_casti (y := nI (k % 2 ^ 6)) (an_n (by omega) 63 6 (by decide +kernel)) ?_
  refine x_isub dX5_at_15 ?_
  refine x_casti (y := nI (63 - k % 64)) nI_63 ?_
  refine x_lushr dX5_at_16 ?_
  refine x_l2i dX5_at_17 ?_
  refine x_iconst (y := nI 1) dX5_at_18 rfl ?_
  refine x_iand dX5_at_19 ?_
  exact x_ireturn_eq dX5_at_20 rfl (l_bit _ (by omega))
theorem c_set {X : Ev} {M : Hp} {a b : Nat} {f : Nat → Int64} (ha : M[a]? = some (.inr (4, [.ref (b)]))) (hb : M[b]? = some (.inl (1, 34, .inr (.inl (f))))) {k : Nat} (hk : k < 2176) {z : Int32} {b0 : Bool} (hz : z = 0 ↔ b0 = false) : Cl X 0 jX5_set [.ref (a), .int (nI k), .int (z)] M none (M.set b (.inl (1, 34, .inr (.inl (rset f k b0))))) := by
  refine Cl.of (ls := [some (.ref (a)), some (.int (nI k)), some (.int (z)), none, none]) (by decide) rfl (Nat.le_of_ble_eq_true rfl) ?_
  refine x_lconst (y := 1) dX5_set_0 rfl ?_
  refine x_bipush (y := nI 63) dX5_set_1 rfl ?_
  refine x_iload_n dX5_set_3 rfl rfl ?_
  refine x_bipush (y := nI 63) dX5_set_4 rfl ?_
  refine x_iand dX5_set_6 ?_
  refine x_casti (y := nI (k % 2 ^ 6)) (an_n (by omega) 63 6 (by decide +kernel)) ?_
  refine x_isub dX5_set_7 ?_
  refine x_casti (y := nI (63 - k % 64)) nI_63 ?_
  refine x_lshl dX5_set_8 ?_
  refine x_lstore_n (ls' := [some (.ref (a)), some (.int (nI k)), some (.int (z)), some (.long ((1) <<< ((nI (63 - k % 64)).toInt64 &&& 63))), none]) dX5_set_9 rfl (by decide) rfl rfl ?_
  refine x_iload_n dX5_set_10 rfl rfl ?_
  refine x_if_ne (tgt := 34) dX5_set_11 (by decide) (fun h11 => ?_) (fun h11 => ?_)
  · refine x_aload_n dX5_set_34 rfl rfl ?_
    refine x_getf (ci := 4) (kf := 0) dX5_set_35 rfl uX5 (by decide) fl_RX5_9 ha rfl ?_
    refine x_iload_n dX5_set_38 rfl rfl ?_
    refine x_bipush (y := nI 6) dX5_set_39 rfl ?_
    refine x_ishr dX5_set_41 ?_
    refine x_casti (y := nI (k / 64)) (sh_n (by omega) 6 64 (by decide) (by decide)) ?_
    refine x_dup2 dX5_set_42 rfl rfl ?_
    refine x_lld (j := k / 64) dX5_set_43 hb rfl (by omega) (by decide) ?_
    refine x_lload_n dX5_set_44 rfl rfl ?_
    refine x_lor dX5_set_45 ?_
    refine x_lst (j := k / 64) (M1 := (M.set (b) (.inl (1, 34, .inr (.inl (rset f k b0)))))) dX5_set_46 hb rfl (by omega) (by decide) (by rw [show vp_updL f (k / 64) ((f (k / 64)) ||| ((1) <<< ((nI (63 - k % 64)).toInt64 &&& 63))) = (rset f k b0) from (by rw [show b0 = true from by cases b0 with | true => rfl | false => exact absurd (hz.mpr rfl) (by simpa using h11)]; rfl)] <;> exact rfl) ?_
    exact x_ret dX5_set_47 rfl
  · refine x_aload_n dX5_set_14 rfl rfl ?_
    refine x_getf (ci := 4) (kf := 0) dX5_set_15 rfl uX5 (by decide) fl_RX5_9 ha rfl ?_
    refine x_iload_n dX5_set_18 rfl rfl ?_
    refine x_bipush (y := nI 6) dX5_set_19 rfl ?_
    refine x_ishr dX5_set_21 ?_
    refine x_casti (y := nI (k / 64)) (sh_n (by omega) 6 64 (by decide) (by decide)) ?_
    refine x_dup2 dX5_set_22 rfl rfl ?_
    refine x_lld (j := k / 64) dX5_set_23 hb rfl (by omega) (by decide) ?_
    refine x_lload_n dX5_set_24 rfl rfl ?_
    refine x_ldc2 (y := (-1)) dX5_set_25 kl_RX5_15 ?_
    refine x_lxor dX5_set_28 ?_
    refine x_land dX5_set_29 ?_
    refine x_lst (j := k / 64) (M1 := (M.set (b) (.inl (1, 34, .inr (.inl (rset f k b0)))))) dX5_set_30 hb rfl (by omega) (by decide) (by rw [show vp_updL f (k / 64) ((f (k / 64)) &&& (((1) <<< ((nI (63 - k % 64)).toInt64 &&& 63)) ^^^ ((-1)))) = (rset f k b0) from (by rw [show b0 = false from hz.mp (by simpa using h11)]; rfl)] <;> exact rfl) ?_
    refine x_goto (tgt := 47) dX5_set_31 (by decide) ?_
    exact x_ret dX5_set_47 rfl
theorem c_byteAt {X : Ev} {M : Hp} {a b : Nat} {f : Nat → Int64} (ha : M[a]? = some (.inr (4, [.ref (b)]))) (hb : M[b]? = some (.inl (1, 34, .inr (.inl (f))))) {i : Nat} (hi : i < 272) : Cl X 0 jX5_byteAt [.ref (a), .int (nI i)] M (some (.int (nI (rby f i)))) M := by
  refine Cl.of (ls := [some (.ref (a)), some (.int (nI i))]) (by decide) rfl (Nat.le_of_ble_eq_true rfl) ?_
  refine x_aload_n dX5_byteAt_0 rfl rfl ?_
  refine x_getf (ci := 4) (kf := 0) dX5_byteAt_1 rfl uX5 (by decide) fl_RX5_9 ha rfl ?_
  refine x_iload_n dX5_byteAt_4 rfl rfl ?_
  refine x_iconst (y := nI 3) dX5_byteAt_5 rfl ?_
  refine x_ishr dX5_byteAt_6 ?_
  refine x_casti (y := nI (i / 8)) (sh_n (by omega) 3 8 (by decide) (by decide)) ?_
  refine x_lld (j := i / 8) dX5_byteAt_7 hb rfl (by omega) (by decide) ?_
  refine x_bipush (y := nI 56) dX5_byteAt_8 rfl ?_
  refine x_bipush (y := nI 8) dX5_byteAt_10 rfl ?_
  refine x_iload_n dX5_byteAt_12 rfl rfl ?_
  refine x_bipush (y := nI 7) dX5_byteAt_13 rfl ?_
  refine x_iand dX5_byteAt_15 ?_
  refine x_casti (y := nI (i % 2 ^ 3)) (an_n (by omega) 7 3 (by decide +kernel)) ?_
  refine x_imul dX5_byteAt_16 ?_
  refine x_casti (y := nI (8 * (i % 2 ^ 3))) (pk_mul _ _) ?_
  refine x_isub dX5_byteAt_17 ?_
  refine x_casti (y := nI (56 - 8 * (i % 8))) nI_56 ?_
  refine x_lushr dX5_byteAt_18 ?_
  refine x_l2i dX5_byteAt_19 ?_
  refine x_sipush (y := nI 255) dX5_byteAt_20 rfl ?_
  refine x_iand dX5_byteAt_23 ?_
  exact x_ireturn_eq dX5_byteAt_24 rfl (l_byte _ (by omega))
theorem c_setByte {X : Ev} {M : Hp} {a b : Nat} {f : Nat → Int64} (ha : M[a]? = some (.inr (4, [.ref (b)]))) (hb : M[b]? = some (.inl (1, 34, .inr (.inl (f))))) {i z : Nat} (hi : i < 272) : Cl X 0 jX5_setByte [.ref (a), .int (nI i), .int (nI z)] M none (M.set b (.inl (1, 34, .inr (.inl (rsetb f i z))))) := by
  refine Cl.of (ls := [some (.ref (a)), some (.int (nI i)), some (.int (nI z)), none]) (by decide) rfl (Nat.le_of_ble_eq_true rfl) ?_
  refine x_bipush (y := nI 56) dX5_setByte_0 rfl ?_
  refine x_bipush (y := nI 8) dX5_setByte_2 rfl ?_
  refine x_iload_n dX5_setByte_4 rfl rfl ?_
  refine x_bipush (y := nI 7) dX5_setByte_5 rfl ?_
  refine x_iand dX5_setByte_7 ?_
  refine x_casti (y := nI (i % 2 ^ 3)) (an_n (by omega) 7 3 (by decide +kernel)) ?_
  refine x_imul dX5_setByte_8 ?_
  refine x_casti (y := nI (8 * (i % 2 ^ 3))) (pk_mul _ _) ?_
  refine x_isub dX5_setByte_9 ?_
  refine x_casti (y := nI (56 - 8 * (i % 8))) nI_56 ?_
  refine x_istore_n (ls' := [some (.ref (a)), some (.int (nI i)), some (.int (nI z)), some (.int (nI (56 - 8 * (i % 8))))]) dX5_setByte_10 rfl (by decide) rfl rfl ?_
  refine x_aload_n dX5_setByte_11 rfl rfl ?_
  refine x_getf (ci := 4) (kf := 0) dX5_setByte_12 rfl uX5 (by decide) fl_RX5_9 ha rfl ?_
  refine x_iload_n dX5_setByte_15 rfl rfl ?_
  refine x_iconst (y := nI 3) dX5_setByte_16 rfl ?_
  refine x_ishr dX5_setByte_17 ?_
  refine x_casti (y := nI (i / 8)) (sh_n (by omega) 3 8 (by decide) (by decide)) ?_
  refine x_aload_n dX5_setByte_18 rfl rfl ?_
  refine x_getf (ci := 4) (kf := 0) dX5_setByte_19 rfl uX5 (by decide) fl_RX5_9 ha rfl ?_
  refine x_iload_n dX5_setByte_22 rfl rfl ?_
  refine x_iconst (y := nI 3) dX5_setByte_23 rfl ?_
  refine x_ishr dX5_setByte_24 ?_
  refine x_casti (y := nI (i / 8)) (sh_n (by omega) 3 8 (by decide) (by decide)) ?_
  refine x_lld (j := i / 8) dX5_setByte_25 hb rfl (by omega) (by decide) ?_
  refine x_ldc2 (y := (255)) dX5_setByte_26 kl_RX5_17 ?_
  refine x_iload_n dX5_setByte_29 rfl rfl ?_
  refine x_lshl dX5_setByte_30 ?_
  refine x_ldc2 (y := (-1)) dX5_setByte_31 kl_RX5_15 ?_
  refine x_lxor dX5_setByte_34 ?_
  refine x_land dX5_setByte_35 ?_
  refine x_iload_n dX5_setByte_36 rfl rfl ?_
  refine x_i2l dX5_setByte_37 ?_
  refine x_iload_n dX5_setByte_38 rfl rfl ?_
  refine x_lshl dX5_setByte_39 ?_
  refine x_lor dX5_setByte_40 ?_
  refine x_lst (j := i / 8) (M1 := (M.set (b) (.inl (1, 34, .inr (.inl (rsetb f i z)))))) dX5_setByte_41 hb rfl (by omega) (by decide) (by rw [show vp_updL f (i / 8) (((f (i / 8)) &&& ((((255)) <<< ((nI (56 - 8 * (i % 8))).toInt64 &&& 63)) ^^^ ((-1)))) ||| (((nI z).toInt64) <<< ((nI (56 - 8 * (i % 8))).toInt64 &&& 63))) = (rsetb f i z) from rfl] <;> exact rfl) ?_
  exact x_ret dX5_setByte_42 rfl
theorem lp_ones {X : Ev} {M0 M M' : Hp} {v : Option Value} {a b : Nat} {f : Nat → Int64} (ha : M[a]? = some (.inr (4, [.ref (b)]))) (hb : M[b]? = some (.inl (1, 34, .inr (.inl (f))))) (k : G X 1 jX5_ones M0 28 [some (.ref (a)), some (.int (nI (rones f (34)))), some (.int (nI 34))] [] M v M') : ∀ (r i : Nat), i + r = 34 → G X 1 jX5_ones M0 4 [some (.ref (a)), some (.int (nI (rones f (i)))), some (.int (nI (i)))] [] M v M' := by
  intro r
  induction r with
  | zero =>
    intro i hi
    have hi : i = 34 := by omega
    subst hi
    refine x_iload_n dX5_ones_4 rfl rfl ?_
    refine x_bipush (y := nI 34) dX5_ones_5 rfl ?_
    refine x_icmp_ge (tgt := 28) dX5_ones_7 (by decide) (fun _ => ?_) (fun h => False.elim (h (nI_le (Nat.le_refl _) (by decide))))
    exact k
  | succ r ih =>
    intro i hi
    refine x_iload_n dX5_ones_4 rfl rfl ?_
    refine x_bipush (y := nI 34) dX5_ones_5 rfl ?_
    refine x_icmp_ge (tgt := 28) dX5_ones_7 (by decide) (fun h => False.elim (nI_ge (by omega : i < 34) (by decide) h)) (fun _ => ?_)
    refine x_iload_n dX5_ones_10 rfl rfl ?_
    refine x_aload_n dX5_ones_11 rfl rfl ?_
    refine x_getf (ci := 4) (kf := 0) dX5_ones_12 rfl uX5 (by decide) fl_RX5_9 ha rfl ?_
    refine x_iload_n dX5_ones_15 rfl rfl ?_
    refine x_lld (j := i) dX5_ones_16 hb rfl (by omega) (by decide) ?_
    refine x_callS (as := [.long (f (i))]) dX5_ones_17 mk_J13_bitCount_95d88 st_J13_bitCount_95d88 ml_RX5_19 (by decide) rfl rfl (Nat.le_of_ble_eq_true rfl) c_bitCount ?_
    refine x_iadd dX5_ones_20 ?_
    refine x_casti (y := nI (rones f (i + 1))) (nI_add _ _) ?_
    refine x_istore_n (ls' := [some (.ref (a)), some (.int (nI (rones f (i + 1)))), some (.int (nI (i)))]) dX5_ones_21 rfl (by decide) rfl rfl ?_
    refine x_iinc (y := nI ((i) + 1)) (ls' := [some (.ref (a)), some (.int (nI (rones f (i + 1)))), some (.int (nI ((i) + 1)))]) dX5_ones_22 (by decide) rfl rfl (ii_add _ 1) rfl ?_
    refine x_goto (tgt := 4) dX5_ones_25 (by decide) ?_
    exact ih (i + 1) (by omega)
theorem c_ones {X : Ev} {M : Hp} {a b : Nat} {f : Nat → Int64} (ha : M[a]? = some (.inr (4, [.ref (b)]))) (hb : M[b]? = some (.inl (1, 34, .inr (.inl (f))))) : Cl X 1 jX5_ones [.ref (a)] M (some (.int (nI (rones f 34)))) M := by
  refine Cl.of (ls := [some (.ref (a)), none, none]) (by decide) rfl (Nat.le_of_ble_eq_true rfl) ?_
  refine x_iconst (y := nI 0) dX5_ones_0 rfl ?_
  refine x_istore_n (ls' := [some (.ref (a)), some (.int (nI 0)), none]) dX5_ones_1 rfl (by decide) rfl rfl ?_
  refine x_iconst (y := nI 0) dX5_ones_2 rfl ?_
  refine x_istore_n (ls' := [some (.ref (a)), some (.int (nI 0)), some (.int (nI 0))]) dX5_ones_3 rfl (by decide) rfl rfl ?_
  exact lp_ones ha hb (by
    refine x_iload_n dX5_ones_28 rfl rfl ?_
    exact x_ireturn_eq dX5_ones_29 rfl rfl) 34 0 rfl
theorem lp_apart {X : Ev} {M0 M M' : Hp} {v : Option Value} {a b : Nat} {f : Nat → Int64} (ha : M[a]? = some (.inr (4, [.ref (b)]))) (hb : M[b]? = some (.inl (1, 34, .inr (.inl (f))))) {a2 b2 : Nat} {g : Nat → Int64} (ha2 : M[a2]? = some (.inr (4, [.ref (b2)]))) (hb2 : M[b2]? = some (.inl (1, 34, .inr (.inl (g))))) (k : G X 1 jX5_apart M0 35 [some (.ref (a)), some (.ref (a2)), some (.int (nI (rones (fun j => f j ^^^ g j) (34)))), some (.int (nI 34))] [] M v M') : ∀ (r i : Nat), i + r = 34 → G X 1 jX5_apart M0 4 [some (.ref (a)), some (.ref (a2)), some (.int (nI (rones (fun j => f j ^^^ g j) (i)))), some (.int (nI (i)))] [] M v M' := by
  intro r
  induction r with
  | zero =>
    intro i hi
    have hi : i = 34 := by omega
    subst hi
    refine x_iload_n dX5_apart_4 rfl rfl ?_
    refine x_bipush (y := nI 34) dX5_apart_5 rfl ?_
    refine x_icmp_ge (tgt := 35) dX5_apart_7 (by decide) (fun _ => ?_) (fun h => False.elim (h (nI_le (Nat.le_refl _) (by decide))))
    exact k
  | succ r ih =>
    intro i hi
    refine x_iload_n dX5_apart_4 rfl rfl ?_
    refine x_bipush (y := nI 34) dX5_apart_5 rfl ?_
    refine x_icmp_ge (tgt := 35) dX5_apart_7 (by decide) (fun h => False.elim (nI_ge (by omega : i < 34) (by decide) h)) (fun _ => ?_)
    refine x_iload_n dX5_apart_10 rfl rfl ?_
    refine x_aload_n dX5_apart_11 rfl rfl ?_
    refine x_getf (ci := 4) (kf := 0) dX5_apart_12 rfl uX5 (by decide) fl_RX5_9 ha rfl ?_
    refine x_iload_n dX5_apart_15 rfl rfl ?_
    refine x_lld (j := i) dX5_apart_16 hb rfl (by omega) (by decide) ?_
    refine x_aload_n dX5_apart_17 rfl rfl ?_
    refine x_getf (ci := 4) (kf := 0) dX5_apart_18 rfl uX5 (by decide) fl_RX5_9 ha2 rfl ?_
    refine x_iload_n dX5_apart_21 rfl rfl ?_
    refine x_lld (j := i) dX5_apart_22 hb2 rfl (by omega) (by decide) ?_
    refine x_lxor dX5_apart_23 ?_
    refine x_callS (as := [.long ((f (i)) ^^^ (g (i)))]) dX5_apart_24 mk_J13_bitCount_95d88 st_J13_bitCount_95d88 ml_RX5_19 (by decide) rfl rfl (Nat.le_of_ble_eq_true rfl) c_bitCount ?_
    refine x_iadd dX5_apart_27 ?_
    refine x_casti (y := nI (rones (fun j => f j ^^^ g j) (i + 1))) (nI_add _ _) ?_
    refine x_istore_n (ls' := [some (.ref (a)), some (.ref (a2)), some (.int (nI (rones (fun j => f j ^^^ g j) (i + 1)))), some (.int (nI (i)))]) dX5_apart_28 rfl (by decide) rfl rfl ?_
    refine x_iinc (y := nI ((i) + 1)) (ls' := [some (.ref (a)), some (.ref (a2)), some (.int (nI (rones (fun j => f j ^^^ g j) (i + 1)))), some (.int (nI ((i) + 1)))]) dX5_apart_29 (by decide) rfl rfl (ii_add _ 1) rfl ?_
    refine x_goto (tgt := 4) dX5_apart_32 (by decide) ?_
    exact ih (i + 1) (by omega)
theorem c_apart {X : Ev} {M : Hp} {a b : Nat} {f : Nat → Int64} (ha : M[a]? = some (.inr (4, [.ref (b)]))) (hb : M[b]? = some (.inl (1, 34, .inr (.inl (f))))) {a2 b2 : Nat} {g : Nat → Int64} (ha2 : M[a2]? = some (.inr (4, [.ref (b2)]))) (hb2 : M[b2]? = some (.inl (1, 34, .inr (.inl (g))))) : Cl X 1 jX5_apart [.ref (a), .ref (a2)] M (some (.int (nI (rones (fun j => f j ^^^ g j) 34)))) M := by
  refine Cl.of (ls := [some (.ref (a)), some (.ref (a2)), none, none]) (by decide) rfl (Nat.le_of_ble_eq_true rfl) ?_
  refine x_iconst (y := nI 0) dX5_apart_0 rfl ?_
  refine x_istore_n (ls' := [some (.ref (a)), some (.ref (a2)), some (.int (nI 0)), none]) dX5_apart_1 rfl (by decide) rfl rfl ?_
  refine x_iconst (y := nI 0) dX5_apart_2 rfl ?_
  refine x_istore_n (ls' := [some (.ref (a)), some (.ref (a2)), some (.int (nI 0)), some (.int (nI 0))]) dX5_apart_3 rfl (by decide) rfl rfl ?_
  exact lp_apart ha hb ha2 hb2 (by
    refine x_iload_n dX5_apart_35 rfl rfl ?_
    exact x_ireturn_eq dX5_apart_36 rfl rfl) 34 0 rfl
theorem c_clear {X : Ev} {M : Hp} {a b : Nat} {f : Nat → Int64} (ha : M[a]? = some (.inr (4, [.ref (b)]))) (hb : M[b]? = some (.inl (1, 34, .inr (.inl (f))))) : Cl X 1 jX5_clear [.ref (a)] M none (M.set b (.inl (1, 34, .inr (.inl (fun _ => 0))))) := by
  refine Cl.of (ls := [some (.ref (a))]) (by decide) rfl (Nat.le_of_ble_eq_true rfl) ?_
  refine x_aload_n dX5_clear_0 rfl rfl ?_
  refine x_getf (ci := 4) (kf := 0) dX5_clear_1 rfl uX5 (by decide) fl_RX5_9 ha rfl ?_
  refine x_lconst (y := 0) dX5_clear_4 rfl ?_
  refine x_callS (as := [.ref (b), .long (0)]) dX5_clear_5 mk_J7_fill_d0a16 st_J7_fill_d0a16 ml_RX5_25 (by decide) rfl rfl (Nat.le_of_ble_eq_true rfl) (c_filll hb (by decide)) ?_
  exact x_ret dX5_clear_8 rfl
theorem c_become {X : Ev} {M : Hp} {a b : Nat} {f : Nat → Int64} (ha : M[a]? = some (.inr (4, [.ref (b)]))) (hb : M[b]? = some (.inl (1, 34, .inr (.inl (f))))) {a2 b2 : Nat} {g : Nat → Int64} (ha2 : M[a2]? = some (.inr (4, [.ref (b2)]))) (hb2 : M[b2]? = some (.inl (1, 34, .inr (.inl (g))))) : Cl X 1 jX5_become [.ref (a), .ref (a2)] M none (M.set b (.inl (1, 34, .inr (.inl (g))))) := by
  refine Cl.of (ls := [some (.ref (a)), some (.ref (a2))]) (by decide) rfl (Nat.le_of_ble_eq_true rfl) ?_
  refine x_aload_n dX5_become_0 rfl rfl ?_
  refine x_getf (ci := 4) (kf := 0) dX5_become_1 rfl uX5 (by decide) fl_RX5_9 ha2 rfl ?_
  refine x_iconst (y := nI 0) dX5_become_4 rfl ?_
  refine x_aload_n dX5_become_5 rfl rfl ?_
  refine x_getf (ci := 4) (kf := 0) dX5_become_6 rfl uX5 (by decide) fl_RX5_9 ha rfl ?_
  refine x_iconst (y := nI 0) dX5_become_9 rfl ?_
  refine x_bipush (y := nI 34) dX5_become_10 rfl ?_
  refine x_copyl (np := 34) (M1 := (M.set (b) (.inl (1, 34, .inr (.inl (va_cpy g f 0 0 34)))))) dX5_become_12 ml_RX5_31 ac_nat ac_sta ac_ini hb2 hb (by decide) (by decide) (by decide) (by decide) (Nat.le_of_ble_eq_true rfl) rfl ?_
  exact G.post (Sm.set1 (Sc.l (fun j hj => pk_cpy_in (Nat.zero_le _) (by omega) |>.trans (by rw [Nat.zero_add, Nat.sub_zero])))) (x_ret dX5_become_15 rfl)
theorem dif_step {f g1 g : Nat → Int64} {i : Nat} : vp_updL (fun j => if j < i then g1 j ^^^ g j else f j) i (g1 i ^^^ g i) = (fun j => if j < i + 1 then g1 j ^^^ g j else f j) := by
  funext j
  by_cases h : j = i
  · subst h; simp [vp_updL]
  · rw [pk_uLn h]; by_cases h2 : j < i
    · show (if j < i then g1 j ^^^ g j else f j) = _; rw [if_pos h2, if_pos (by omega)]
    · show (if j < i then g1 j ^^^ g j else f j) = _; rw [if_neg h2, if_neg (by omega)]
theorem lp_dif {X : Ev} {d : Nat} {M0 M M' : Hp} {v : Option Value} {a b : Nat} {f : Nat → Int64} (ha : M[a]? = some (.inr (4, [.ref (b)]))) (hb : M[b]? = some (.inl (1, 34, .inr (.inl (f))))) {a1 b1 : Nat} {g1 : Nat → Int64} (ha1 : M[a1]? = some (.inr (4, [.ref (b1)]))) (hb1 : M[b1]? = some (.inl (1, 34, .inr (.inl (g1))))) {a2 b2 : Nat} {g : Nat → Int64} (ha2 : M[a2]? = some (.inr (4, [.ref (b2)]))) (hb2 : M[b2]? = some (.inl (1, 34, .inr (.inl (g))))) (n1 : b ≠ a) (n2 : b ≠ a1) (n3 : b ≠ b1) (n4 : b ≠ a2) (n5 : b ≠ b2) (k : G X d jX5_becomeDifference M0 33 [some (.ref (a)), some (.ref (a1)), some (.ref (a2)), some (.int (nI 34))] [] (M.set (b) (.inl (1, 34, .inr (.inl (fun j => if j < 34 then g1 j ^^^ g j else f j))))) v M') : ∀ (r i : Nat), i + r = 34 → G X d jX5_becomeDifference M0 2 [some (.ref (a)), some (.ref (a1)), some (.ref (a2)), some (.int (nI (i)))] [] (M.set (b) (.inl (1, 34, .inr (.inl (fun j => if j < i then g1 j ^^^ g j else f j))))) v M' := by
  intro r
  induction r with
  | zero =>
    intro i hi
    have hi : i = 34 := by omega
    subst hi
    refine x_iload_n dX5_becomeDifference_2 rfl rfl ?_
    refine x_bipush (y := nI 34) dX5_becomeDifference_3 rfl ?_
    refine x_icmp_ge (tgt := 33) dX5_becomeDifference_5 (by decide) (fun _ => ?_) (fun h => False.elim (h (nI_le (Nat.le_refl _) (by decide))))
    exact k
  | succ r ih =>
    intro i hi
    refine x_iload_n dX5_becomeDifference_2 rfl rfl ?_
    refine x_bipush (y := nI 34) dX5_becomeDifference_3 rfl ?_
    refine x_icmp_ge (tgt := 33) dX5_becomeDifference_5 (by decide) (fun h => False.elim (nI_ge (by omega : i < 34) (by decide) h)) (fun _ => ?_)
    refine x_aload_n dX5_becomeDifference_8 rfl rfl ?_
    refine x_getf (ci := 4) (kf := 0) dX5_becomeDifference_9 rfl uX5 (by decide) fl_RX5_9 (gn ha n1) rfl ?_
    refine x_iload_n dX5_becomeDifference_12 rfl rfl ?_
    refine x_aload_n dX5_becomeDifference_13 rfl rfl ?_
    refine x_getf (ci := 4) (kf := 0) dX5_becomeDifference_14 rfl uX5 (by decide) fl_RX5_9 (gn ha1 n2) rfl ?_
    refine x_iload_n dX5_becomeDifference_17 rfl rfl ?_
    refine x_lld (j := i) dX5_becomeDifference_18 (gn hb1 n3) rfl (by omega) (by decide) ?_
    refine x_aload_n dX5_becomeDifference_19 rfl rfl ?_
    refine x_getf (ci := 4) (kf := 0) dX5_becomeDifference_20 rfl uX5 (by decide) fl_RX5_9 (gn ha2 n4) rfl ?_
    refine x_iload_n dX5_becomeDifference_23 rfl rfl ?_
    refine x_lld (j := i) dX5_becomeDifference_24 (gn hb2 n5) rfl (by omega) (by decide) ?_
    refine x_lxor dX5_becomeDifference_25 ?_
    refine x_lst (j := i) (M1 := (M.set (b) (.inl (1, 34, .inr (.inl (fun j => if j < i + 1 then g1 j ^^^ g j else f j)))))) dX5_becomeDifference_26 (gs hb) rfl (by omega) (by decide) (by rw [show vp_updL (fun j => if j < i then g1 j ^^^ g j else f j) (i) ((g1 (i)) ^^^ (g (i))) = (fun j => if j < i + 1 then g1 j ^^^ g j else f j) from dif_step] <;> exact (ss0)) ?_
    refine x_iinc (y := nI ((i) + 1)) (ls' := [some (.ref (a)), some (.ref (a1)), some (.ref (a2)), some (.int (nI ((i) + 1)))]) dX5_becomeDifference_27 (by decide) rfl rfl (ii_add _ 1) rfl ?_
    refine x_goto (tgt := 2) dX5_becomeDifference_30 (by decide) ?_
    exact ih (i + 1) (by omega)
theorem c_becomeDifference {X : Ev} {M : Hp} {a b : Nat} {f : Nat → Int64} (ha : M[a]? = some (.inr (4, [.ref (b)]))) (hb : M[b]? = some (.inl (1, 34, .inr (.inl (f))))) {a1 b1 : Nat} {g1 : Nat → Int64} (ha1 : M[a1]? = some (.inr (4, [.ref (b1)]))) (hb1 : M[b1]? = some (.inl (1, 34, .inr (.inl (g1))))) {a2 b2 : Nat} {g : Nat → Int64} (ha2 : M[a2]? = some (.inr (4, [.ref (b2)]))) (hb2 : M[b2]? = some (.inl (1, 34, .inr (.inl (g))))) (n1 : b ≠ a) (n2 : b ≠ a1) (n3 : b ≠ b1) (n4 : b ≠ a2) (n5 : b ≠ b2) : Cl X 0 jX5_becomeDifference [.ref (a), .ref (a1), .ref (a2)] M none (M.set b (.inl (1, 34, .inr (.inl (fun j => g1 j ^^^ g j))))) := by
  refine Cl.of (ls := [some (.ref (a)), some (.ref (a1)), some (.ref (a2)), none]) (by decide) rfl (Nat.le_of_ble_eq_true rfl) ?_
  refine x_iconst (y := nI 0) dX5_becomeDifference_0 rfl ?_
  refine x_istore_n (ls' := [some (.ref (a)), some (.ref (a1)), some (.ref (a2)), some (.int (nI 0))]) dX5_becomeDifference_1 rfl (by decide) rfl rfl ?_
  refine G.hp (set_id hb (Sc.l00 (f := f) (g := fun j => g1 j ^^^ g j))) (lp_dif ha hb ha1 hb1 ha2 hb2 n1 n2 n3 n4 n5 (G.post (Sm.set1 (Sc.l (fun j hj => if_pos hj))) (x_ret dX5_becomeDifference_33 rfl)) 34 0 rfl)
def rfirst (f : Nat → Int64) : Nat → (Nat → Int64)
  | 0 => f
  | n + 1 => rset (rfirst f n) n true
theorem lp_first {X : Ev} {M0 M M' : Hp} {v : Option Value} {a b : Nat} {f : Nat → Int64} (ha : M[a]? = some (.inr (4, [.ref (b)]))) (hb : M[b]? = some (.inl (1, 34, .inr (.inl (f))))) (n1 : b ≠ a) {n : Nat} (hn : n ≤ 2176) (k : G X 2 jX5_becomeFirstOnes M0 23 [some (.ref (a)), some (.int (nI n)), some (.int (nI (n)))] [] (M.set (b) (.inl (1, 34, .inr (.inl (rfirst (fun _ => 0) (n)))))) v M') : ∀ (r i : Nat), i + r = n → G X 2 jX5_becomeFirstOnes M0 6 [some (.ref (a)), some (.int (nI n)), some (.int (nI (i)))] [] (M.set (b) (.inl (1, 34, .inr (.inl (rfirst (fun _ => 0) (i)))))) v M' := by
  intro r
  induction r with
  | zero =>
    intro i hi
    have hi : i = n := by omega
    subst hi
    refine x_iload_n dX5_becomeFirstOnes_6 rfl rfl ?_
    refine x_iload_n dX5_becomeFirstOnes_7 rfl rfl ?_
    refine x_icmp_ge (tgt := 23) dX5_becomeFirstOnes_8 (by decide) (fun _ => ?_) (fun h => False.elim (h (nI_le (Nat.le_refl _) (by omega))))
    exact k
  | succ r ih =>
    intro i hi
    refine x_iload_n dX5_becomeFirstOnes_6 rfl rfl ?_
    refine x_iload_n dX5_becomeFirstOnes_7 rfl rfl ?_
    refine x_icmp_ge (tgt := 23) dX5_becomeFirstOnes_8 (by decide) (fun h => False.elim (nI_ge (by omega : i < n) (by omega) h)) (fun _ => ?_)
    refine x_aload_n dX5_becomeFirstOnes_11 rfl rfl ?_
    refine x_iload_n dX5_becomeFirstOnes_12 rfl rfl ?_
    refine x_iconst (y := nI 1) dX5_becomeFirstOnes_13 rfl ?_
    refine x_callV (ci := 4) (as := [.int (nI (i)), .int (nI 1)]) dX5_becomeFirstOnes_14 mk_X5_set in_X5_set se_X5_set ml_RX5_40 rfl (gn ha n1) (by decide) rfl rfl (Nat.le_of_ble_eq_true rfl) (c_set (gn ha n1) (gs hb) (by omega) (b0 := true) (by decide)) ?_
    refine G.hp (ss0) ?_
    refine x_iinc (y := nI ((i) + 1)) (ls' := [some (.ref (a)), some (.int (nI n)), some (.int (nI ((i) + 1)))]) dX5_becomeFirstOnes_17 (by decide) rfl rfl (ii_add _ 1) rfl ?_
    refine x_goto (tgt := 6) dX5_becomeFirstOnes_20 (by decide) ?_
    exact ih (i + 1) (by omega)
theorem c_becomeFirstOnes {X : Ev} {M : Hp} {a b : Nat} {f : Nat → Int64} (ha : M[a]? = some (.inr (4, [.ref (b)]))) (hb : M[b]? = some (.inl (1, 34, .inr (.inl (f))))) (n1 : b ≠ a) {n : Nat} (hn : n ≤ 2176) : Cl X 2 jX5_becomeFirstOnes [.ref (a), .int (nI n)] M none (M.set b (.inl (1, 34, .inr (.inl (rfirst (fun _ => 0) n))))) := by
  refine Cl.of (ls := [some (.ref (a)), some (.int (nI n)), none]) (by decide) rfl (Nat.le_of_ble_eq_true rfl) ?_
  refine x_aload_n dX5_becomeFirstOnes_0 rfl rfl ?_
  refine x_callV (ci := 4) (as := []) dX5_becomeFirstOnes_1 mk_X5_clear in_X5_clear se_X5_clear ml_RX5_37 rfl ha (by decide) rfl rfl (Nat.le_of_ble_eq_true rfl) (c_clear ha hb) ?_
  refine x_iconst (y := nI 0) dX5_becomeFirstOnes_4 rfl ?_
  refine x_istore_n (ls' := [some (.ref (a)), some (.int (nI n)), some (.int (nI 0))]) dX5_becomeFirstOnes_5 rfl (by decide) rfl rfl ?_
  exact lp_first ha hb n1 hn (x_ret dX5_becomeFirstOnes_23 rfl) n 0 (by omega)
