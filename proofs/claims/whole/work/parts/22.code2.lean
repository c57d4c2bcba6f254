/-! CODE: a word divided, the rest's values -/
/-- what is left of bit q of the tail -/
def lft (f : Nat → Int64) (hi lo : Int64) (d q : Nat) : Bool := (rgb hi lo q ^^ true) ^^ rb f (8 * d + q)
def rsu (rs : Nat → Int32) (r : Nat) (lf : Nat → Bool) : Nat → (Nat → Int32)
  | 0 => rs
  | q + 1 => upd (rsu rs r lf q) (r - 1 - q) (nI (lf q).toNat)
def nnl (lf : Nat → Bool) : Nat → Bool
  | 0 => true
  | q + 1 => nnl lf q && !(lf q)
theorem nn_1 {a b : Bool} (h : ¬ nI a.toNat = 0) (h2 : nI b.toNat = 0) : nI 1 = nI (a && !b).toNat := by
  match a, b, h, h2 with
  | false, _, h, _ => exact absurd rfl h
  | true, true, _, h2 => exact absurd h2 (by decide)
  | true, false, _, _ => rfl
theorem nn_0 {a b : Bool} (h : nI a.toNat = 0) : nI 0 = nI (a && !b).toNat := by
  match a, h with
  | false, _ => rfl
  | true, h => exact absurd h (by decide)
theorem nn_2 {a b : Bool} (h2 : ¬ nI b.toNat = 0) : nI 0 = nI (a && !b).toNat := by
  match b, h2 with
  | false, h => exact absurd rfl h
  | true, _ => cases a <;> rfl
theorem bn_ite {b : Bool} : nI b.toNat = if b then 1 else 0 := by cases b <;> rfl
theorem bx1 {a : Bool} : nI a.toNat ^^^ nI 1 = nI (a ^^ true).toNat := by cases a <;> rfl
theorem bx2 {a b : Bool} : nI a.toNat ^^^ nI b.toNat = nI (a ^^ b).toNat := by cases a <;> cases b <;> rfl
theorem lp_divide_fw {X : Ev} {d' : Nat} {M0 M M' : Hp} {v : Option Value} {pc : Nat} {a b i c j : Value} (k : G X d' jX0_divide M0 pc [some a, some b, some i, some c, none] [] M v M') : G X d' jX0_divide M0 pc [some a, some b, some i, some c, some j] [] M v M' := x_fewer (fun q w h => by match q, h with | 0, h => exact h | 1, h => exact h | 2, h => exact h | 3, h => exact h | 4, h => cases h | q + 5, h => cases h) k
theorem lp_divide {X : Ev} {M0 M M' : Hp} {v : Option Value} {t d r n : Nat} {hi lo : Int64} (ho : M[5]? = some (.inr (0, [.ref (1), .ref (6), .ref (7), .ref (8), .ref (9), .ref (10), .int (nI t), .int (nI d), .int (nI r), .int (nI n), .long (hi), .long (lo)]))) {hs ls : Nat → Int64} (hh : M[7]? = some (.inl (1, 256, .inr (.inl (hs))))) (hl : M[8]? = some (.inl (1, 256, .inr (.inl (ls))))) {u : Nat} {uf : Nat → Int64} (hU : M[u]? = some (.inr (4, [.ref (u + 1)]))) (hu : M[u + 1]? = some (.inl (1, 34, .inr (.inl (uf))))) (hu5 : 11 < u) {rs : Nat → Int32} (hrs : M[9]? = some (.inl (0, 104, .inl (rs)))) (hd : d ≤ 256) (hr : r ≤ 104) (k : G X 2 jX0_divide M0 76 [some (.ref (5)), some (.ref (u)), some (.int (nI (nnl (lft uf (tkd hs ls uf d).1 (tkd hs ls uf d).2 d) (r)).toNat)), some (.int (nI (r))), none] [] ((M.set (5) (.inr (0, [.ref (1), .ref (6), .ref (7), .ref (8), .ref (9), .ref (10), .int (nI t), .int (nI d), .int (nI r), .int (nI n), .long ((tkd hs ls uf (d)).1), .long ((tkd hs ls uf (d)).2)]))).set (9) (.inl (0, 104, .inl (rsu rs r (lft uf (tkd hs ls uf d).1 (tkd hs ls uf d).2 d) (r))))) v M') : ∀ (zz i : Nat), i + zz = r → G X 2 jX0_divide M0 9 [some (.ref (5)), some (.ref (u)), some (.int (nI (nnl (lft uf (tkd hs ls uf d).1 (tkd hs ls uf d).2 d) (i)).toNat)), some (.int (nI (i))), none] [] ((M.set (5) (.inr (0, [.ref (1), .ref (6), .ref (7), .ref (8), .ref (9), .ref (10), .int (nI t), .int (nI d), .int (nI r), .int (nI n), .long ((tkd hs ls uf (d)).1), .long ((tkd hs ls uf (d)).2)]))).set (9) (.inl (0, 104, .inl (rsu rs r (lft uf (tkd hs ls uf d).1 (tkd hs ls uf d).2 d) (i))))) v M' := by
  intro zz
  induction zz with
  | zero =>
    intro i hi
    have hi : i = r := by omega
    subst hi
    refine x_iload_n dX0_divide_9 rfl rfl ?_
    refine x_aload_n dX0_divide_10 rfl rfl ?_
    refine x_getf (ci := 0) (kf := 8) dX0_divide_11 rfl uX0 (by decide) fl_RX0_46 (gn (gs ho) (by decide)) rfl ?_
    refine x_icmp_ge (tgt := 76) dX0_divide_14 (by decide) (fun _ => ?_) (fun h => False.elim (h (nI_le (Nat.le_refl _) (by omega))))
    exact k
  | succ zz ih =>
    intro i hi
    refine x_iload_n dX0_divide_9 rfl rfl ?_
    refine x_aload_n dX0_divide_10 rfl rfl ?_
    refine x_getf (ci := 0) (kf := 8) dX0_divide_11 rfl uX0 (by decide) fl_RX0_46 (gn (gs ho) (by decide)) rfl ?_
    refine x_icmp_ge (tgt := 76) dX0_divide_14 (by decide) (fun h => False.elim (nI_ge (by omega : i < r) (by omega) h)) (fun _ => ?_)
    refine x_aload_n dX0_divide_17 rfl rfl ?_
    refine x_iload_n dX0_divide_18 rfl rfl ?_
    refine x_callV (ci := 0) (as := [.int (nI (i))]) dX0_divide_19 mk_X0_registerAt in_X0_registerAt se_X0_registerAt ml_RX0_105 rfl (gn (gs ho) (by decide)) (by decide) rfl rfl (Nat.le_of_ble_eq_true rfl) (c_registerAt (gn (gs ho) (by decide)) (by omega)) ?_
    refine x_iconst (y := nI 1) dX0_divide_22 rfl ?_
    refine x_ixor dX0_divide_23 ?_
    refine x_casti (y := nI (rgb (tkd hs ls uf d).1 (tkd hs ls uf d).2 i ^^ true).toNat) bx1 ?_
    refine x_aload_n dX0_divide_24 rfl rfl ?_
    refine x_bipush (y := nI 8) dX0_divide_25 rfl ?_
    refine x_aload_n dX0_divide_27 rfl rfl ?_
    refine x_getf (ci := 0) (kf := 7) dX0_divide_28 rfl uX0 (by decide) fl_RX0_40 (gn (gs ho) (by decide)) rfl ?_
    refine x_imul dX0_divide_31 ?_
    refine x_casti (y := nI (8 * d)) (pk_mul _ _) ?_
    refine x_iload_n dX0_divide_32 rfl rfl ?_
    refine x_iadd dX0_divide_33 ?_
    refine x_casti (y := nI (8 * d + i)) (nI_add _ _) ?_
    refine x_callV (ci := 4) (as := [.int (nI (8 * d + i))]) dX0_divide_34 mk_X5_at in_X5_at se_X5_at ml_RX0_111 rfl (gn (gn hU (by omega)) (by omega)) (by decide) rfl rfl (Nat.le_of_ble_eq_true rfl) (c_at (gn (gn hU (by omega)) (by omega)) (gn (gn hu (by omega)) (by omega)) (by omega)) ?_
    refine x_ixor dX0_divide_37 ?_
    refine x_casti (y := nI ((lft uf (tkd hs ls uf d).1 (tkd hs ls uf d).2 d) i).toNat) bx2 ?_
    refine x_istore (ls' := [some (.ref (5)), some (.ref (u)), some (.int (nI (nnl (lft uf (tkd hs ls uf d).1 (tkd hs ls uf d).2 d) (i)).toNat)), some (.int (nI (i))), some (.int (nI ((lft uf (tkd hs ls uf d).1 (tkd hs ls uf d).2 d) i).toNat))]) dX0_divide_38 (by decide) rfl rfl ?_
    refine x_aload_n dX0_divide_40 rfl rfl ?_
    refine x_getf (ci := 0) (kf := 4) dX0_divide_41 rfl uX0 (by decide) fl_RX0_22 (gn (gs ho) (by decide)) rfl ?_
    refine x_aload_n dX0_divide_44 rfl rfl ?_
    refine x_getf (ci := 0) (kf := 8) dX0_divide_45 rfl uX0 (by decide) fl_RX0_46 (gn (gs ho) (by decide)) rfl ?_
    refine x_iconst (y := nI 1) dX0_divide_48 rfl ?_
    refine x_isub dX0_divide_49 ?_
    refine x_casti (y := nI (r - 1)) (pk_sub (by omega)) ?_
    refine x_iload_n dX0_divide_50 rfl rfl ?_
    refine x_isub dX0_divide_51 ?_
    refine x_casti (y := nI (r - 1 - i)) (pk_sub (by omega)) ?_
    refine x_iload dX0_divide_52 rfl ?_
    refine x_ist (j := r - 1 - i) (M1 := ((M.set (5) (.inr (0, [.ref (1), .ref (6), .ref (7), .ref (8), .ref (9), .ref (10), .int (nI t), .int (nI d), .int (nI r), .int (nI n), .long ((tkd hs ls uf (d)).1), .long ((tkd hs ls uf (d)).2)]))).set (9) (.inl (0, 104, .inl (rsu rs r (lft uf (tkd hs ls uf d).1 (tkd hs ls uf d).2 d) (i + 1)))))) dX0_divide_54 (gs (gn hrs (by decide))) rfl (by omega) (by decide) (by rw [show upd (rsu rs r (lft uf (tkd hs ls uf d).1 (tkd hs ls uf d).2 d) (i)) (r - 1 - i) (nI ((lft uf (tkd hs ls uf d).1 (tkd hs ls uf d).2 d) i).toNat) = (rsu rs r (lft uf (tkd hs ls uf d).1 (tkd hs ls uf d).2 d) (i + 1)) from rfl] <;> exact (ss0)) ?_
    refine x_iload_n dX0_divide_55 rfl rfl ?_
    refine x_if_eq (tgt := 68) dX0_divide_56 (by decide) (fun h56 => ?_) (fun h56 => ?_)
    · refine x_iconst (y := nI 0) dX0_divide_68 rfl ?_
      refine x_casti (y := nI (nnl (lft uf (tkd hs ls uf d).1 (tkd hs ls uf d).2 d) (i + 1)).toNat) (by first | exact nn_0 h56 | exact nn_2 h61) ?_
      refine x_istore_n (ls' := [some (.ref (5)), some (.ref (u)), some (.int (nI (nnl (lft uf (tkd hs ls uf d).1 (tkd hs ls uf d).2 d) (i + 1)).toNat)), some (.int (nI (i))), some (.int (nI ((lft uf (tkd hs ls uf d).1 (tkd hs ls uf d).2 d) i).toNat))]) dX0_divide_69 rfl (by decide) rfl rfl ?_
      refine x_iinc (y := nI ((i) + 1)) (ls' := [some (.ref (5)), some (.ref (u)), some (.int (nI (nnl (lft uf (tkd hs ls uf d).1 (tkd hs ls uf d).2 d) (i + 1)).toNat)), some (.int (nI ((i) + 1))), some (.int (nI ((lft uf (tkd hs ls uf d).1 (tkd hs ls uf d).2 d) i).toNat))]) dX0_divide_70 (by decide) rfl rfl (ii_add _ 1) rfl ?_
      refine x_goto (tgt := 9) dX0_divide_73 (by decide) ?_
      refine lp_divide_fw ?_
      exact ih (i + 1) (by omega)
    · refine x_iload dX0_divide_59 rfl ?_
      refine x_if_ne (tgt := 68) dX0_divide_61 (by decide) (fun h61 => ?_) (fun h61 => ?_)
      · refine x_iconst (y := nI 0) dX0_divide_68 rfl ?_
        refine x_casti (y := nI (nnl (lft uf (tkd hs ls uf d).1 (tkd hs ls uf d).2 d) (i + 1)).toNat) (by first | exact nn_0 h56 | exact nn_2 h61) ?_
        refine x_istore_n (ls' := [some (.ref (5)), some (.ref (u)), some (.int (nI (nnl (lft uf (tkd hs ls uf d).1 (tkd hs ls uf d).2 d) (i + 1)).toNat)), some (.int (nI (i))), some (.int (nI ((lft uf (tkd hs ls uf d).1 (tkd hs ls uf d).2 d) i).toNat))]) dX0_divide_69 rfl (by decide) rfl rfl ?_
        refine x_iinc (y := nI ((i) + 1)) (ls' := [some (.ref (5)), some (.ref (u)), some (.int (nI (nnl (lft uf (tkd hs ls uf d).1 (tkd hs ls uf d).2 d) (i + 1)).toNat)), some (.int (nI ((i) + 1))), some (.int (nI ((lft uf (tkd hs ls uf d).1 (tkd hs ls uf d).2 d) i).toNat))]) dX0_divide_70 (by decide) rfl rfl (ii_add _ 1) rfl ?_
        refine x_goto (tgt := 9) dX0_divide_73 (by decide) ?_
        refine lp_divide_fw ?_
        exact ih (i + 1) (by omega)
      · refine x_iconst (y := nI 1) dX0_divide_64 rfl ?_
        refine x_goto (tgt := 69) dX0_divide_65 (by decide) ?_
        refine x_casti (y := nI (nnl (lft uf (tkd hs ls uf d).1 (tkd hs ls uf d).2 d) (i + 1)).toNat) (nn_1 h56 h61) ?_
        refine x_istore_n (ls' := [some (.ref (5)), some (.ref (u)), some (.int (nI (nnl (lft uf (tkd hs ls uf d).1 (tkd hs ls uf d).2 d) (i + 1)).toNat)), some (.int (nI (i))), some (.int (nI ((lft uf (tkd hs ls uf d).1 (tkd hs ls uf d).2 d) i).toNat))]) dX0_divide_69 rfl (by decide) rfl rfl ?_
        refine x_iinc (y := nI ((i) + 1)) (ls' := [some (.ref (5)), some (.ref (u)), some (.int (nI (nnl (lft uf (tkd hs ls uf d).1 (tkd hs ls uf d).2 d) (i + 1)).toNat)), some (.int (nI ((i) + 1))), some (.int (nI ((lft uf (tkd hs ls uf d).1 (tkd hs ls uf d).2 d) i).toNat))]) dX0_divide_70 (by decide) rfl rfl (ii_add _ 1) rfl ?_
        refine x_goto (tgt := 9) dX0_divide_73 (by decide) ?_
        refine lp_divide_fw ?_
        exact ih (i + 1) (by omega)
theorem c_divide {X : Ev} {M : Hp} {t d r n : Nat} {hi lo : Int64} (ho : M[5]? = some (.inr (0, [.ref (1), .ref (6), .ref (7), .ref (8), .ref (9), .ref (10), .int (nI t), .int (nI d), .int (nI r), .int (nI n), .long (hi), .long (lo)]))) {hs ls : Nat → Int64} (hh : M[7]? = some (.inl (1, 256, .inr (.inl (hs))))) (hl : M[8]? = some (.inl (1, 256, .inr (.inl (ls))))) {u : Nat} {uf : Nat → Int64} (hU : M[u]? = some (.inr (4, [.ref (u + 1)]))) (hu : M[u + 1]? = some (.inl (1, 34, .inr (.inl (uf))))) (hu5 : 11 < u) {rs : Nat → Int32} (hrs : M[9]? = some (.inl (0, 104, .inl (rs)))) (hd : d ≤ 256) (hr : r ≤ 104) : Cl X 2 jX0_divide [.ref (5), .ref (u)] M (some (.int (if nnl (lft uf (tkd hs ls uf d).1 (tkd hs ls uf d).2 d) r then 1 else 0))) ((M.set 5 (.inr (0, [.ref (1), .ref (6), .ref (7), .ref (8), .ref (9), .ref (10), .int (nI t), .int (nI d), .int (nI r), .int (nI n), .long ((tkd hs ls uf (d)).1), .long ((tkd hs ls uf (d)).2)]))).set 9 (.inl (0, 104, .inl (rsu rs r (lft uf (tkd hs ls uf d).1 (tkd hs ls uf d).2 d) r)))) := by
  refine Cl.of (ls := [some (.ref (5)), some (.ref (u)), none, none, none]) (by decide) rfl (Nat.le_of_ble_eq_true rfl) ?_
  refine x_aload_n dX0_divide_0 rfl rfl ?_
  refine x_aload_n dX0_divide_1 rfl rfl ?_
  refine x_callV (ci := 0) (as := [.ref (u)]) dX0_divide_2 mk_X0_takeData in_X0_takeData se_X0_takeData ml_RX0_101 rfl ho (by decide) rfl rfl (Nat.le_of_ble_eq_true rfl) (c_takeData ho hh hl hU hu hu5 hd) ?_
  refine x_iconst (y := nI 1) dX0_divide_5 rfl ?_
  refine x_istore_n (ls' := [some (.ref (5)), some (.ref (u)), some (.int (nI 1)), none, none]) dX0_divide_6 rfl (by decide) rfl rfl ?_
  refine x_iconst (y := nI 0) dX0_divide_7 rfl ?_
  refine x_istore_n (ls' := [some (.ref (5)), some (.ref (u)), some (.int (nI 1)), some (.int (nI 0)), none]) dX0_divide_8 rfl (by decide) rfl rfl ?_
  refine G.hp (set_id (gn hrs (by decide)) rfl) (lp_divide ho hh hl hU hu hu5 hrs hd hr ?_ r 0 (by omega))
  refine x_iload_n dX0_divide_76 rfl rfl ?_
  exact x_zreturn_eq dX0_divide_77 rfl bn_ite
/-- the value at A^s of the polynomial with these bits -/
def rsum (m : Nat) (rq : Nat → Bool) (s : Nat) : Nat → Nat
  | 0 => 0
  | p + 1 => if rq p then rsum m rq s p ^^^ pwr m (p * s) else rsum m rq s p
theorem rsum_lt {m : Nat} (h3 : 3 ≤ m) (h13 : m ≤ 13) {rq : Nat → Bool} {s : Nat} : ∀ p, rsum m rq s p < 2 ^ m
  | 0 => Nat.two_pow_pos m
  | p + 1 => by
    unfold rsum
    split
    · exact xor_lt (rsum_lt h3 h13 p) (pwr_lt h3 h13 _)
    · exact rsum_lt h3 h13 p
theorem em_1 {p s N : Nat} (hN : 0 < N) (hs : s < N) (h : N ≤ p * s % N + s) : p * s % N + s - N = (p + 1) * s % N := by
  have h1 : p * s % N < N := Nat.mod_lt _ hN
  have e : (p + 1) * s % N = (p * s % N + s) % N := by rw [Nat.succ_mul, Nat.add_mod, Nat.mod_eq_of_lt hs]
  rw [e, Nat.mod_eq_sub_mod h]
  exact (Nat.mod_eq_of_lt (by omega)).symm
theorem em_2 {p s N : Nat} (hs : s < N) (h : p * s % N + s < N) : p * s % N + s = (p + 1) * s % N := by
  rw [Nat.succ_mul, Nat.add_mod, Nat.mod_eq_of_lt hs, Nat.mod_eq_of_lt h]
theorem rq_1 {b : Bool} (h : nI b.toNat = nI 1) : b = true := by cases b with | true => rfl | false => exact absurd h (by decide)
theorem rq_0 {b : Bool} (h : ¬ nI b.toNat = nI 1) : b = false := by cases b with | false => rfl | true => exact absurd rfl h
theorem lp_restAt {X : Ev} {M0 M M' : Hp} {v : Option Value} {t d r n : Nat} {hi lo : Int64} (ho : M[5]? = some (.inr (0, [.ref (1), .ref (6), .ref (7), .ref (8), .ref (9), .ref (10), .int (nI t), .int (nI d), .int (nI r), .int (nI n), .long (hi), .long (lo)]))) {m : Nat} {pw lg : Nat → Int32} (hf : M[1]? = some (.inr (1, [.ref (2), .ref (3), .ref (4), .int (nI m), .int (nI (2 ^ m - 1))]))) (hp : M[2]? = some (.inl (0, 8192, .inl (pw)))) (hF : FT pw lg m) {rs : Nat → Int32} {rq : Nat → Bool} (hrs : M[9]? = some (.inl (0, 104, .inl (rs)))) (hrq : ∀ j, j < r → rs j = nI (rq j).toNat) (hr : r ≤ 104) {a : Nat} (ha : a < 2 ^ 20) (k : G X 2 jX0_restAt M0 87 [some (.ref (5)), some (.int (nI a)), some (.int (nI (2 ^ m - 1))), some (.int (nI (a % (2 ^ m - 1)))), some (.int (nI (rsum m rq (a % (2 ^ m - 1)) (r)))), some (.int (nI ((r) * (a % (2 ^ m - 1)) % (2 ^ m - 1)))), some (.int (nI (r)))] [] M v M') : ∀ (zz i : Nat), i + zz = r → G X 2 jX0_restAt M0 23 [some (.ref (5)), some (.int (nI a)), some (.int (nI (2 ^ m - 1))), some (.int (nI (a % (2 ^ m - 1)))), some (.int (nI (rsum m rq (a % (2 ^ m - 1)) (i)))), some (.int (nI ((i) * (a % (2 ^ m - 1)) % (2 ^ m - 1)))), some (.int (nI (i)))] [] M v M' := by
  have ht := two_le hF.1.1 hF.1.2
  have hs : a % (2 ^ m - 1) < 2 ^ m - 1 := Nat.mod_lt _ (by omega)
  intro zz
  induction zz with
  | zero =>
    intro i hi
    have hi : i = r := by omega
    subst hi
    refine x_iload dX0_restAt_23 rfl ?_
    refine x_aload_n dX0_restAt_25 rfl rfl ?_
    refine x_getf (ci := 0) (kf := 8) dX0_restAt_26 rfl uX0 (by decide) fl_RX0_46 ho rfl ?_
    refine x_icmp_ge (tgt := 87) dX0_restAt_29 (by decide) (fun _ => ?_) (fun h => False.elim (h (nI_le (Nat.le_refl _) (by omega))))
    exact k
  | succ zz ih =>
    intro i hi
    have hem : i * (a % (2 ^ m - 1)) % (2 ^ m - 1) < 2 ^ m - 1 := Nat.mod_lt _ (by omega)
    refine x_iload dX0_restAt_23 rfl ?_
    refine x_aload_n dX0_restAt_25 rfl rfl ?_
    refine x_getf (ci := 0) (kf := 8) dX0_restAt_26 rfl uX0 (by decide) fl_RX0_46 ho rfl ?_
    refine x_icmp_ge (tgt := 87) dX0_restAt_29 (by decide) (fun h => False.elim (nI_ge (by omega : i < r) (by omega) h)) (fun _ => ?_)
    refine x_aload_n dX0_restAt_32 rfl rfl ?_
    refine x_getf (ci := 0) (kf := 4) dX0_restAt_33 rfl uX0 (by decide) fl_RX0_22 ho rfl ?_
    refine x_iload dX0_restAt_36 rfl ?_
    refine x_ild (j := i) dX0_restAt_38 hrs rfl (by omega) (by decide) ?_
    refine x_casti (y := nI (rq i).toNat) (hrq i (by omega)) ?_
    refine x_iconst (y := nI 1) dX0_restAt_39 rfl ?_
    refine x_icmp_ne (tgt := 58) dX0_restAt_40 (by decide) (fun h40 => ?_) (fun h40 => ?_)
    · refine x_iload dX0_restAt_58 rfl ?_
      refine x_iload_n dX0_restAt_60 rfl rfl ?_
      refine x_iadd dX0_restAt_61 ?_
      refine x_casti (y := nI (i * (a % (2 ^ m - 1)) % (2 ^ m - 1) + (a % (2 ^ m - 1)))) (nI_add _ _) ?_
      refine x_iload_n dX0_restAt_62 rfl rfl ?_
      refine x_icmp_lt (tgt := 75) dX0_restAt_63 (by decide) (fun h63 => ?_) (fun h63 => ?_)
      · refine x_iload dX0_restAt_75 rfl ?_
        refine x_iload_n dX0_restAt_77 rfl rfl ?_
        refine x_iadd dX0_restAt_78 ?_
        refine x_casti (y := nI ((i + 1) * (a % (2 ^ m - 1)) % (2 ^ m - 1))) (by rw [nI_add, em_2 hs ((nI_ltI (by omega) (by omega)).mp h63)]) ?_
        refine x_istore (ls' := [some (.ref (5)), some (.int (nI a)), some (.int (nI (2 ^ m - 1))), some (.int (nI (a % (2 ^ m - 1)))), some (.int (nI (rsum m rq (a % (2 ^ m - 1)) (i)))), some (.int (nI ((i + 1) * (a % (2 ^ m - 1)) % (2 ^ m - 1)))), some (.int (nI (i)))]) dX0_restAt_79 (by decide) rfl rfl ?_
        refine x_iinc (y := nI ((i) + 1)) (ls' := [some (.ref (5)), some (.int (nI a)), some (.int (nI (2 ^ m - 1))), some (.int (nI (a % (2 ^ m - 1)))), some (.int (nI (rsum m rq (a % (2 ^ m - 1)) (i)))), some (.int (nI ((i + 1) * (a % (2 ^ m - 1)) % (2 ^ m - 1)))), some (.int (nI ((i) + 1)))]) dX0_restAt_81 (by decide) rfl rfl (ii_add _ 1) rfl ?_
        refine x_goto (tgt := 23) dX0_restAt_84 (by decide) ?_
        have hz : rsum m rq (a % (2 ^ m - 1)) (i + 1) = rsum m rq (a % (2 ^ m - 1)) i := by
          show (if rq i then _ else _) = _; rw [rq_0 h40]; rfl
        rw [← hz]
        exact ih (i + 1) (by omega)
      · refine x_iload dX0_restAt_66 rfl ?_
        refine x_iload_n dX0_restAt_68 rfl rfl ?_
        refine x_iadd dX0_restAt_69 ?_
        refine x_casti (y := nI (i * (a % (2 ^ m - 1)) % (2 ^ m - 1) + (a % (2 ^ m - 1)))) (nI_add _ _) ?_
        refine x_iload_n dX0_restAt_70 rfl rfl ?_
        refine x_isub dX0_restAt_71 ?_
        refine x_casti (y := nI ((i + 1) * (a % (2 ^ m - 1)) % (2 ^ m - 1))) (by rw [pk_sub ((nI_leI (by omega) (by omega)).mp (Int32.not_lt.mp h63)), em_1 (by omega) hs ((nI_leI (by omega) (by omega)).mp (Int32.not_lt.mp h63))]) ?_
        refine x_goto (tgt := 79) dX0_restAt_72 (by decide) ?_
        refine x_istore (ls' := [some (.ref (5)), some (.int (nI a)), some (.int (nI (2 ^ m - 1))), some (.int (nI (a % (2 ^ m - 1)))), some (.int (nI (rsum m rq (a % (2 ^ m - 1)) (i)))), some (.int (nI ((i + 1) * (a % (2 ^ m - 1)) % (2 ^ m - 1)))), some (.int (nI (i)))]) dX0_restAt_79 (by decide) rfl rfl ?_
        refine x_iinc (y := nI ((i) + 1)) (ls' := [some (.ref (5)), some (.int (nI a)), some (.int (nI (2 ^ m - 1))), some (.int (nI (a % (2 ^ m - 1)))), some (.int (nI (rsum m rq (a % (2 ^ m - 1)) (i)))), some (.int (nI ((i + 1) * (a % (2 ^ m - 1)) % (2 ^ m - 1)))), some (.int (nI ((i) + 1)))]) dX0_restAt_81 (by decide) rfl rfl (ii_add _ 1) rfl ?_
        refine x_goto (tgt := 23) dX0_restAt_84 (by decide) ?_
        have hz : rsum m rq (a % (2 ^ m - 1)) (i + 1) = rsum m rq (a % (2 ^ m - 1)) i := by
          show (if rq i then _ else _) = _; rw [rq_0 h40]; rfl
        rw [← hz]
        exact ih (i + 1) (by omega)
    · refine x_iload dX0_restAt_43 rfl ?_
      refine x_aload_n dX0_restAt_45 rfl rfl ?_
      refine x_getf (ci := 0) (kf := 0) dX0_restAt_46 rfl uX0 (by decide) fl_RX0_32 ho rfl ?_
      refine x_getf (ci := 1) (kf := 0) dX0_restAt_49 rfl uX2 (by decide) fl_RX0_120 hf rfl ?_
      refine x_iload dX0_restAt_52 rfl ?_
      refine x_ild (j := (i) * (a % (2 ^ m - 1)) % (2 ^ m - 1)) dX0_restAt_54 hp rfl (by omega) (by decide) ?_
      refine x_casti (y := nI (pwr m (i * (a % (2 ^ m - 1))))) (by rw [(hF.2 _ hem).1, pwr_mod hF.1.1 hF.1.2]) ?_
      refine x_ixor dX0_restAt_55 ?_
      refine x_casti (y := nI (rsum m rq (a % (2 ^ m - 1)) (i + 1))) (by rw [nI_xor]; congr 1; show _ = if rq i then _ else _; rw [rq_1 h40]; rfl) ?_
      refine x_istore (ls' := [some (.ref (5)), some (.int (nI a)), some (.int (nI (2 ^ m - 1))), some (.int (nI (a % (2 ^ m - 1)))), some (.int (nI (rsum m rq (a % (2 ^ m - 1)) (i + 1)))), some (.int (nI ((i) * (a % (2 ^ m - 1)) % (2 ^ m - 1)))), some (.int (nI (i)))]) dX0_restAt_56 (by decide) rfl rfl ?_
      refine x_iload dX0_restAt_58 rfl ?_
      refine x_iload_n dX0_restAt_60 rfl rfl ?_
      refine x_iadd dX0_restAt_61 ?_
      refine x_casti (y := nI (i * (a % (2 ^ m - 1)) % (2 ^ m - 1) + (a % (2 ^ m - 1)))) (nI_add _ _) ?_
      refine x_iload_n dX0_restAt_62 rfl rfl ?_
      refine x_icmp_lt (tgt := 75) dX0_restAt_63 (by decide) (fun h63 => ?_) (fun h63 => ?_)
      · refine x_iload dX0_restAt_75 rfl ?_
        refine x_iload_n dX0_restAt_77 rfl rfl ?_
        refine x_iadd dX0_restAt_78 ?_
        refine x_casti (y := nI ((i + 1) * (a % (2 ^ m - 1)) % (2 ^ m - 1))) (by rw [nI_add, em_2 hs ((nI_ltI (by omega) (by omega)).mp h63)]) ?_
        refine x_istore (ls' := [some (.ref (5)), some (.int (nI a)), some (.int (nI (2 ^ m - 1))), some (.int (nI (a % (2 ^ m - 1)))), some (.int (nI (rsum m rq (a % (2 ^ m - 1)) (i + 1)))), some (.int (nI ((i + 1) * (a % (2 ^ m - 1)) % (2 ^ m - 1)))), some (.int (nI (i)))]) dX0_restAt_79 (by decide) rfl rfl ?_
        refine x_iinc (y := nI ((i) + 1)) (ls' := [some (.ref (5)), some (.int (nI a)), some (.int (nI (2 ^ m - 1))), some (.int (nI (a % (2 ^ m - 1)))), some (.int (nI (rsum m rq (a % (2 ^ m - 1)) (i + 1)))), some (.int (nI ((i + 1) * (a % (2 ^ m - 1)) % (2 ^ m - 1)))), some (.int (nI ((i) + 1)))]) dX0_restAt_81 (by decide) rfl rfl (ii_add _ 1) rfl ?_
        refine x_goto (tgt := 23) dX0_restAt_84 (by decide) ?_
        exact ih (i + 1) (by omega)
      · refine x_iload dX0_restAt_66 rfl ?_
        refine x_iload_n dX0_restAt_68 rfl rfl ?_
        refine x_iadd dX0_restAt_69 ?_
        refine x_casti (y := nI (i * (a % (2 ^ m - 1)) % (2 ^ m - 1) + (a % (2 ^ m - 1)))) (nI_add _ _) ?_
        refine x_iload_n dX0_restAt_70 rfl rfl ?_
        refine x_isub dX0_restAt_71 ?_
        refine x_casti (y := nI ((i + 1) * (a % (2 ^ m - 1)) % (2 ^ m - 1))) (by rw [pk_sub ((nI_leI (by omega) (by omega)).mp (Int32.not_lt.mp h63)), em_1 (by omega) hs ((nI_leI (by omega) (by omega)).mp (Int32.not_lt.mp h63))]) ?_
        refine x_goto (tgt := 79) dX0_restAt_72 (by decide) ?_
        refine x_istore (ls' := [some (.ref (5)), some (.int (nI a)), some (.int (nI (2 ^ m - 1))), some (.int (nI (a % (2 ^ m - 1)))), some (.int (nI (rsum m rq (a % (2 ^ m - 1)) (i + 1)))), some (.int (nI ((i + 1) * (a % (2 ^ m - 1)) % (2 ^ m - 1)))), some (.int (nI (i)))]) dX0_restAt_79 (by decide) rfl rfl ?_
        refine x_iinc (y := nI ((i) + 1)) (ls' := [some (.ref (5)), some (.int (nI a)), some (.int (nI (2 ^ m - 1))), some (.int (nI (a % (2 ^ m - 1)))), some (.int (nI (rsum m rq (a % (2 ^ m - 1)) (i + 1)))), some (.int (nI ((i + 1) * (a % (2 ^ m - 1)) % (2 ^ m - 1)))), some (.int (nI ((i) + 1)))]) dX0_restAt_81 (by decide) rfl rfl (ii_add _ 1) rfl ?_
        refine x_goto (tgt := 23) dX0_restAt_84 (by decide) ?_
        exact ih (i + 1) (by omega)
theorem c_restAt {X : Ev} {M : Hp} {t d r n : Nat} {hi lo : Int64} (ho : M[5]? = some (.inr (0, [.ref (1), .ref (6), .ref (7), .ref (8), .ref (9), .ref (10), .int (nI t), .int (nI d), .int (nI r), .int (nI n), .long (hi), .long (lo)]))) {m : Nat} {pw lg : Nat → Int32} (hf : M[1]? = some (.inr (1, [.ref (2), .ref (3), .ref (4), .int (nI m), .int (nI (2 ^ m - 1))]))) (hp : M[2]? = some (.inl (0, 8192, .inl (pw)))) (hF : FT pw lg m) {rs : Nat → Int32} {rq : Nat → Bool} (hrs : M[9]? = some (.inl (0, 104, .inl (rs)))) (hrq : ∀ j, j < r → rs j = nI (rq j).toNat) (hr : r ≤ 104) {a : Nat} (ha : a < 2 ^ 20) : Cl X 2 jX0_restAt [.ref (5), .int (nI a)] M (some (.int (nI (rsum m rq (a % (2 ^ m - 1)) r)))) M := by
  have ht := two_le hF.1.1 hF.1.2
  have hs : a % (2 ^ m - 1) < 2 ^ m - 1 := Nat.mod_lt _ (by omega)
  refine Cl.of (ls := [some (.ref (5)), some (.int (nI a)), none, none, none, none, none]) (by decide) rfl (Nat.le_of_ble_eq_true rfl) ?_
  refine x_aload_n dX0_restAt_0 rfl rfl ?_
  refine x_getf (ci := 0) (kf := 0) dX0_restAt_1 rfl uX0 (by decide) fl_RX0_32 ho rfl ?_
  refine x_getf (ci := 1) (kf := 4) dX0_restAt_4 rfl uX2 (by decide) fl_RX0_114 hf rfl ?_
  refine x_istore_n (ls' := [some (.ref (5)), some (.int (nI a)), some (.int (nI (2 ^ m - 1))), none, none, none, none]) dX0_restAt_7 rfl (by decide) rfl rfl ?_
  refine x_iload_n dX0_restAt_8 rfl rfl ?_
  refine x_iload_n dX0_restAt_9 rfl rfl ?_
  refine x_callS (as := [.int (nI a), .int (nI (2 ^ m - 1))]) dX0_restAt_10 mk_X1_reduced st_X1_reduced ml_RX0_117 (by decide) rfl rfl (Nat.le_of_ble_eq_true rfl) (c_reducedN (by omega) (by omega) (by omega)) ?_
  refine x_istore_n (ls' := [some (.ref (5)), some (.int (nI a)), some (.int (nI (2 ^ m - 1))), some (.int (nI (a % (2 ^ m - 1)))), none, none, none]) dX0_restAt_13 rfl (by decide) rfl rfl ?_
  refine x_iconst (y := nI 0) dX0_restAt_14 rfl ?_
  refine x_istore (ls' := [some (.ref (5)), some (.int (nI a)), some (.int (nI (2 ^ m - 1))), some (.int (nI (a % (2 ^ m - 1)))), some (.int (nI 0)), none, none]) dX0_restAt_15 (by decide) rfl rfl ?_
  refine x_iconst (y := nI 0) dX0_restAt_17 rfl ?_
  refine x_istore (ls' := [some (.ref (5)), some (.int (nI a)), some (.int (nI (2 ^ m - 1))), some (.int (nI (a % (2 ^ m - 1)))), some (.int (nI 0)), some (.int (nI 0)), none]) dX0_restAt_18 (by decide) rfl rfl ?_
  refine x_iconst (y := nI 0) dX0_restAt_20 rfl ?_
  refine x_istore (ls' := [some (.ref (5)), some (.int (nI a)), some (.int (nI (2 ^ m - 1))), some (.int (nI (a % (2 ^ m - 1)))), some (.int (nI 0)), some (.int (nI 0)), some (.int (nI 0))]) dX0_restAt_21 (by decide) rfl rfl ?_
  have h0 : 0 * (a % (2 ^ m - 1)) % (2 ^ m - 1) = 0 := by rw [Nat.zero_mul, Nat.zero_mod]
  have hl := lp_restAt (X := X) (M0 := M) (v := some (.int (nI (rsum m rq (a % (2 ^ m - 1)) r)))) (M' := M) ho hf hp hF hrs hrq hr ha (by
    refine x_iload dX0_restAt_87 rfl ?_
    exact x_ireturn_eq dX0_restAt_89 rfl rfl) r 0 (by omega)
  rw [h0] at hl
  exact hl
