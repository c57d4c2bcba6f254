/-! PAGE: at place g; bits at g + 1, stuck at g + 3, marks at g + 5, their longs behind each; another row at u -/
theorem c_renew {X : Ev} {M : Hp} {g : Nat} {wr : Int32} {bf sf kf : Nat → Int64} (hg : M[g]? = some (.inr (3, [.ref (g + 1), .ref (g + 3), .ref (g + 5), .int (wr)]))) (hB : M[g + 1]? = some (.inr (4, [.ref (g + 2)]))) (hb : M[g + 2]? = some (.inl (1, 34, .inr (.inl (bf))))) (hS : M[g + 3]? = some (.inr (4, [.ref (g + 4)]))) (hs : M[g + 4]? = some (.inl (1, 34, .inr (.inl (sf))))) (hK : M[g + 5]? = some (.inr (4, [.ref (g + 6)]))) (hk : M[g + 6]? = some (.inl (1, 34, .inr (.inl (kf))))) {u : Nat} {uf : Nat → Int64} (hU : M[u]? = some (.inr (4, [.ref (u + 1)]))) (hu : M[u + 1]? = some (.inl (1, 34, .inr (.inl (uf))))) (hd : u + 1 < g ∨ g + 6 < u) : Cl X 2 jX4_renew [.ref (g), .ref (u)] M none ((((M.set (g + 4) (.inl (1, 34, .inr (.inl (fun _ => 0))))).set (g + 6) (.inl (1, 34, .inr (.inl (fun _ => 0))))).set (g + 2) (.inl (1, 34, .inr (.inl (uf))))).set g (.inr (3, [.ref (g + 1), .ref (g + 3), .ref (g + 5), .int (nI 0)]))) := by
  refine Cl.of (ls := [some (.ref (g)), some (.ref (u))]) (by decide) rfl (Nat.le_of_ble_eq_true rfl) ?_
  refine x_aload_n dX4_renew_0 rfl rfl ?_
  refine x_getf (ci := 3) (kf := 1) dX4_renew_1 rfl uX4 (by decide) fl_RX4_18 hg rfl ?_
  refine x_callV (ci := 4) (as := []) dX4_renew_4 mk_X5_clear in_X5_clear se_X5_clear ml_RX4_24 rfl hS (by decide) rfl rfl (Nat.le_of_ble_eq_true rfl) (c_clear hS hs) ?_
  refine x_aload_n dX4_renew_7 rfl rfl ?_
  refine x_getf (ci := 3) (kf := 2) dX4_renew_8 rfl uX4 (by decide) fl_RX4_21 (gn hg (by omega)) rfl ?_
  refine x_callV (ci := 4) (as := []) dX4_renew_11 mk_X5_clear in_X5_clear se_X5_clear ml_RX4_24 rfl (gn hK (by omega)) (by decide) rfl rfl (Nat.le_of_ble_eq_true rfl) (c_clear (gn hK (by omega)) (gn hk (by omega))) ?_
  refine x_aload_n dX4_renew_14 rfl rfl ?_
  refine x_getf (ci := 3) (kf := 0) dX4_renew_15 rfl uX4 (by decide) fl_RX4_12 (gn (gn hg (by omega)) (by omega)) rfl ?_
  refine x_aload_n dX4_renew_18 rfl rfl ?_
  refine x_callV (ci := 4) (as := [.ref (u)]) dX4_renew_19 mk_X5_become in_X5_become se_X5_become ml_RX4_27 rfl (gn (gn hB (by omega)) (by omega)) (by decide) rfl rfl (Nat.le_of_ble_eq_true rfl) (c_become (gn (gn hB (by omega)) (by omega)) (gn (gn hb (by omega)) (by omega)) (gn (gn hU (by omega)) (by omega)) (gn (gn hu (by omega)) (by omega))) ?_
  refine x_aload_n dX4_renew_22 rfl rfl ?_
  refine x_iconst (y := nI 0) dX4_renew_23 rfl ?_
  refine x_putf (ci := 3) (kf := 3) (ty0 := tyX4) (M1 := ((((M.set (g + 4) (.inl (1, 34, .inr (.inl (fun _ => 0))))).set (g + 6) (.inl (1, 34, .inr (.inl (fun _ => 0))))).set (g + 2) (.inl (1, 34, .inr (.inl (uf))))).set (g) (.inr (3, [.ref (g + 1), .ref (g + 3), .ref (g + 5), .int (nI 0)])))) dX4_renew_24 rfl uX4 tyX4_ok nmX4 (by decide) fl_RX4_31 rfl rfl rfl rfl (gn (gn (gn hg (by omega)) (by omega)) (by omega)) (Nat.le_of_ble_eq_true rfl) rfl ?_
  exact x_ret dX4_renew_27 rfl
def rwp (f o s : Nat → Int64) (n : Nat) : Nat → Int64 := fun j => if j < n then f j ||| (o j &&& (s j ^^^ (-1))) else f j
theorem rwp_step {f o s : Nat → Int64} {i : Nat} : vp_updL (rwp f o s i) i (rwp f o s i i ||| (o i &&& (s i ^^^ (-1)))) = rwp f o s (i + 1) := by
  funext j
  unfold rwp
  by_cases h : j = i
  · subst h; simp [vp_updL]
  · rw [pk_uLn h]; by_cases h2 : j < i
    · rw [if_pos h2, if_pos (by omega)]
    · rw [if_neg h2, if_neg (by omega)]
def rpg (f w s : Nat → Int64) (n : Nat) : Nat → Int64 := fun j => if j < n then f j &&& (w j ||| s j) else f j
theorem rpg_step {f w s : Nat → Int64} {i : Nat} : vp_updL (rpg f w s i) i (rpg f w s i i &&& (w i ||| s i)) = rpg f w s (i + 1) := by
  funext j
  unfold rpg
  by_cases h : j = i
  · subst h; simp [vp_updL]
  · rw [pk_uLn h]; by_cases h2 : j < i
    · rw [if_pos h2, if_pos (by omega)]
    · rw [if_neg h2, if_neg (by omega)]
theorem rwp_0 {f o s : Nat → Int64} : rwp f o s 0 = f := by funext j; simp [rwp]
theorem rpg_0 {f o s : Nat → Int64} : rpg f o s 0 = f := by funext j; simp [rpg]
theorem lp_wipe {X : Ev} {d : Nat} {M0 M M' : Hp} {v : Option Value} {g : Nat} {wr : Int32} {bf sf kf : Nat → Int64} (hg : M[g]? = some (.inr (3, [.ref (g + 1), .ref (g + 3), .ref (g + 5), .int (wr)]))) (hB : M[g + 1]? = some (.inr (4, [.ref (g + 2)]))) (hb : M[g + 2]? = some (.inl (1, 34, .inr (.inl (bf))))) (hS : M[g + 3]? = some (.inr (4, [.ref (g + 4)]))) (hs : M[g + 4]? = some (.inl (1, 34, .inr (.inl (sf))))) (hK : M[g + 5]? = some (.inr (4, [.ref (g + 6)]))) (hk : M[g + 6]? = some (.inl (1, 34, .inr (.inl (kf))))) {u : Nat} {uf : Nat → Int64} (hU : M[u]? = some (.inr (4, [.ref (u + 1)]))) (hu : M[u + 1]? = some (.inl (1, 34, .inr (.inl (uf))))) (hd : u + 1 < g ∨ g + 6 < u) (k : G X d jX4_wipe M0 46 [some (.ref (g)), some (.ref (u)), some (.int (nI 34))] [] (M.set (g + 2) (.inl (1, 34, .inr (.inl (rwp bf uf sf (34)))))) v M') : ∀ (r i : Nat), i + r = 34 → G X d jX4_wipe M0 2 [some (.ref (g)), some (.ref (u)), some (.int (nI (i)))] [] (M.set (g + 2) (.inl (1, 34, .inr (.inl (rwp bf uf sf (i)))))) v M' := by
  intro r
  induction r with
  | zero =>
    intro i hi
    have hi : i = 34 := by omega
    subst hi
    refine x_iload_n dX4_wipe_2 rfl rfl ?_
    refine x_bipush (y := nI 34) dX4_wipe_3 rfl ?_
    refine x_icmp_ge (tgt := 46) dX4_wipe_5 (by decide) (fun _ => ?_) (fun h => False.elim (h (nI_le (Nat.le_refl _) (by decide))))
    exact k
  | succ r ih =>
    intro i hi
    refine x_iload_n dX4_wipe_2 rfl rfl ?_
    refine x_bipush (y := nI 34) dX4_wipe_3 rfl ?_
    refine x_icmp_ge (tgt := 46) dX4_wipe_5 (by decide) (fun h => False.elim (nI_ge (by omega : i < 34) (by decide) h)) (fun _ => ?_)
    refine x_aload_n dX4_wipe_8 rfl rfl ?_
    refine x_getf (ci := 3) (kf := 0) dX4_wipe_9 rfl uX4 (by decide) fl_RX4_12 (gn hg (by omega)) rfl ?_
    refine x_getf (ci := 4) (kf := 0) dX4_wipe_12 rfl uX5 (by decide) fl_RX4_35 (gn hB (by omega)) rfl ?_
    refine x_iload_n dX4_wipe_15 rfl rfl ?_
    refine x_dup2 dX4_wipe_16 rfl rfl ?_
    refine x_lld (j := i) dX4_wipe_17 (gs hb) rfl (by omega) (by decide) ?_
    refine x_aload_n dX4_wipe_18 rfl rfl ?_
    refine x_getf (ci := 4) (kf := 0) dX4_wipe_19 rfl uX5 (by decide) fl_RX4_35 (gn hU (by omega)) rfl ?_
    refine x_iload_n dX4_wipe_22 rfl rfl ?_
    refine x_lld (j := i) dX4_wipe_23 (gn hu (by omega)) rfl (by omega) (by decide) ?_
    refine x_aload_n dX4_wipe_24 rfl rfl ?_
    refine x_getf (ci := 3) (kf := 1) dX4_wipe_25 rfl uX4 (by decide) fl_RX4_18 (gn hg (by omega)) rfl ?_
    refine x_getf (ci := 4) (kf := 0) dX4_wipe_28 rfl uX5 (by decide) fl_RX4_35 (gn hS (by omega)) rfl ?_
    refine x_iload_n dX4_wipe_31 rfl rfl ?_
    refine x_lld (j := i) dX4_wipe_32 (gn hs (by omega)) rfl (by omega) (by decide) ?_
    refine x_ldc2 (y := (-1)) dX4_wipe_33 kl_RX4_39 ?_
    refine x_lxor dX4_wipe_36 ?_
    refine x_land dX4_wipe_37 ?_
    refine x_lor dX4_wipe_38 ?_
    refine x_lst (j := i) (M1 := (M.set (g + 2) (.inl (1, 34, .inr (.inl (rwp bf uf sf (i + 1))))))) dX4_wipe_39 (gs hb) rfl (by omega) (by decide) (by rw [show vp_updL (rwp bf uf sf (i)) (i) (((rwp bf uf sf (i)) (i)) ||| ((uf (i)) &&& ((sf (i)) ^^^ ((-1))))) = (rwp bf uf sf (i + 1)) from rwp_step] <;> exact (ss0)) ?_
    refine x_iinc (y := nI ((i) + 1)) (ls' := [some (.ref (g)), some (.ref (u)), some (.int (nI ((i) + 1)))]) dX4_wipe_40 (by decide) rfl rfl (ii_add _ 1) rfl ?_
    refine x_goto (tgt := 2) dX4_wipe_43 (by decide) ?_
    exact ih (i + 1) (by omega)
theorem c_wipe {X : Ev} {M : Hp} {g : Nat} {wr : Int32} {bf sf kf : Nat → Int64} (hg : M[g]? = some (.inr (3, [.ref (g + 1), .ref (g + 3), .ref (g + 5), .int (wr)]))) (hB : M[g + 1]? = some (.inr (4, [.ref (g + 2)]))) (hb : M[g + 2]? = some (.inl (1, 34, .inr (.inl (bf))))) (hS : M[g + 3]? = some (.inr (4, [.ref (g + 4)]))) (hs : M[g + 4]? = some (.inl (1, 34, .inr (.inl (sf))))) (hK : M[g + 5]? = some (.inr (4, [.ref (g + 6)]))) (hk : M[g + 6]? = some (.inl (1, 34, .inr (.inl (kf))))) {u : Nat} {uf : Nat → Int64} (hU : M[u]? = some (.inr (4, [.ref (u + 1)]))) (hu : M[u + 1]? = some (.inl (1, 34, .inr (.inl (uf))))) (hd : u + 1 < g ∨ g + 6 < u) : Cl X 2 jX4_wipe [.ref (g), .ref (u)] M none (((M.set (g + 2) (.inl (1, 34, .inr (.inl (rwp bf uf sf 34))))).set (g + 6) (.inl (1, 34, .inr (.inl (fun _ => 0))))).set g (.inr (3, [.ref (g + 1), .ref (g + 3), .ref (g + 5), .int (wr + nI 1)]))) := by
  refine Cl.of (ls := [some (.ref (g)), some (.ref (u)), none]) (by decide) rfl (Nat.le_of_ble_eq_true rfl) ?_
  refine x_iconst (y := nI 0) dX4_wipe_0 rfl ?_
  refine x_istore_n (ls' := [some (.ref (g)), some (.ref (u)), some (.int (nI 0))]) dX4_wipe_1 rfl (by decide) rfl rfl ?_
  refine G.hp (set_id hb (c' := .inl (1, 34, .inr (.inl (rwp bf uf sf 0)))) (by rw [rwp_0])) (lp_wipe hg hB hb hS hs hK hk hU hu hd ?_ 34 0 rfl)
  refine x_aload_n dX4_wipe_46 rfl rfl ?_
  refine x_getf (ci := 3) (kf := 2) dX4_wipe_47 rfl uX4 (by decide) fl_RX4_21 (gn hg (by omega)) rfl ?_
  refine x_callV (ci := 4) (as := []) dX4_wipe_50 mk_X5_clear in_X5_clear se_X5_clear ml_RX4_24 rfl (gn hK (by omega)) (by decide) rfl rfl (Nat.le_of_ble_eq_true rfl) (c_clear (gn hK (by omega)) (gn hk (by omega))) ?_
  refine x_aload_n dX4_wipe_53 rfl rfl ?_
  refine x_dup dX4_wipe_54 rfl ?_
  refine x_getf (ci := 3) (kf := 3) dX4_wipe_55 rfl uX4 (by decide) fl_RX4_31 (gn (gn hg (by omega)) (by omega)) rfl ?_
  refine x_iconst (y := nI 1) dX4_wipe_58 rfl ?_
  refine x_iadd dX4_wipe_59 ?_
  refine x_putf (ci := 3) (kf := 3) (ty0 := tyX4) (M1 := (((M.set (g + 2) (.inl (1, 34, .inr (.inl (rwp bf uf sf 34))))).set (g + 6) (.inl (1, 34, .inr (.inl (fun _ => 0))))).set (g) (.inr (3, [.ref (g + 1), .ref (g + 3), .ref (g + 5), .int ((wr) + (nI 1))])))) dX4_wipe_60 rfl uX4 tyX4_ok nmX4 (by decide) fl_RX4_31 rfl rfl rfl rfl (gn (gn hg (by omega)) (by omega)) (Nat.le_of_ble_eq_true rfl) rfl ?_
  exact x_ret dX4_wipe_63 rfl
theorem lp_program {X : Ev} {d : Nat} {M0 M M' : Hp} {v : Option Value} {g : Nat} {wr : Int32} {bf sf kf : Nat → Int64} (hg : M[g]? = some (.inr (3, [.ref (g + 1), .ref (g + 3), .ref (g + 5), .int (wr)]))) (hB : M[g + 1]? = some (.inr (4, [.ref (g + 2)]))) (hb : M[g + 2]? = some (.inl (1, 34, .inr (.inl (bf))))) (hS : M[g + 3]? = some (.inr (4, [.ref (g + 4)]))) (hs : M[g + 4]? = some (.inl (1, 34, .inr (.inl (sf))))) (hK : M[g + 5]? = some (.inr (4, [.ref (g + 6)]))) (hk : M[g + 6]? = some (.inl (1, 34, .inr (.inl (kf))))) {u : Nat} {uf : Nat → Int64} (hU : M[u]? = some (.inr (4, [.ref (u + 1)]))) (hu : M[u + 1]? = some (.inl (1, 34, .inr (.inl (uf))))) (hd : u + 1 < g ∨ g + 6 < u) (k : G X d jX4_program M0 42 [some (.ref (g)), some (.ref (u)), some (.int (nI 34))] [] (M.set (g + 2) (.inl (1, 34, .inr (.inl (rpg bf uf sf (34)))))) v M') : ∀ (r i : Nat), i + r = 34 → G X d jX4_program M0 2 [some (.ref (g)), some (.ref (u)), some (.int (nI (i)))] [] (M.set (g + 2) (.inl (1, 34, .inr (.inl (rpg bf uf sf (i)))))) v M' := by
  intro r
  induction r with
  | zero =>
    intro i hi
    have hi : i = 34 := by omega
    subst hi
    refine x_iload_n dX4_program_2 rfl rfl ?_
    refine x_bipush (y := nI 34) dX4_program_3 rfl ?_
    refine x_icmp_ge (tgt := 42) dX4_program_5 (by decide) (fun _ => ?_) (fun h => False.elim (h (nI_le (Nat.le_refl _) (by decide))))
    exact k
  | succ r ih =>
    intro i hi
    refine x_iload_n dX4_program_2 rfl rfl ?_
    refine x_bipush (y := nI 34) dX4_program_3 rfl ?_
    refine x_icmp_ge (tgt := 42) dX4_program_5 (by decide) (fun h => False.elim (nI_ge (by omega : i < 34) (by decide) h)) (fun _ => ?_)
    refine x_aload_n dX4_program_8 rfl rfl ?_
    refine x_getf (ci := 3) (kf := 0) dX4_program_9 rfl uX4 (by decide) fl_RX4_12 (gn hg (by omega)) rfl ?_
    refine x_getf (ci := 4) (kf := 0) dX4_program_12 rfl uX5 (by decide) fl_RX4_35 (gn hB (by omega)) rfl ?_
    refine x_iload_n dX4_program_15 rfl rfl ?_
    refine x_dup2 dX4_program_16 rfl rfl ?_
    refine x_lld (j := i) dX4_program_17 (gs hb) rfl (by omega) (by decide) ?_
    refine x_aload_n dX4_program_18 rfl rfl ?_
    refine x_getf (ci := 4) (kf := 0) dX4_program_19 rfl uX5 (by decide) fl_RX4_35 (gn hU (by omega)) rfl ?_
    refine x_iload_n dX4_program_22 rfl rfl ?_
    refine x_lld (j := i) dX4_program_23 (gn hu (by omega)) rfl (by omega) (by decide) ?_
    refine x_aload_n dX4_program_24 rfl rfl ?_
    refine x_getf (ci := 3) (kf := 1) dX4_program_25 rfl uX4 (by decide) fl_RX4_18 (gn hg (by omega)) rfl ?_
    refine x_getf (ci := 4) (kf := 0) dX4_program_28 rfl uX5 (by decide) fl_RX4_35 (gn hS (by omega)) rfl ?_
    refine x_iload_n dX4_program_31 rfl rfl ?_
    refine x_lld (j := i) dX4_program_32 (gn hs (by omega)) rfl (by omega) (by decide) ?_
    refine x_lor dX4_program_33 ?_
    refine x_land dX4_program_34 ?_
    refine x_lst (j := i) (M1 := (M.set (g + 2) (.inl (1, 34, .inr (.inl (rpg bf uf sf (i + 1))))))) dX4_program_35 (gs hb) rfl (by omega) (by decide) (by rw [show vp_updL (rpg bf uf sf (i)) (i) (((rpg bf uf sf (i)) (i)) &&& ((uf (i)) ||| (sf (i)))) = (rpg bf uf sf (i + 1)) from rpg_step] <;> exact (ss0)) ?_
    refine x_iinc (y := nI ((i) + 1)) (ls' := [some (.ref (g)), some (.ref (u)), some (.int (nI ((i) + 1)))]) dX4_program_36 (by decide) rfl rfl (ii_add _ 1) rfl ?_
    refine x_goto (tgt := 2) dX4_program_39 (by decide) ?_
    exact ih (i + 1) (by omega)
theorem c_program {X : Ev} {M : Hp} {g : Nat} {wr : Int32} {bf sf kf : Nat → Int64} (hg : M[g]? = some (.inr (3, [.ref (g + 1), .ref (g + 3), .ref (g + 5), .int (wr)]))) (hB : M[g + 1]? = some (.inr (4, [.ref (g + 2)]))) (hb : M[g + 2]? = some (.inl (1, 34, .inr (.inl (bf))))) (hS : M[g + 3]? = some (.inr (4, [.ref (g + 4)]))) (hs : M[g + 4]? = some (.inl (1, 34, .inr (.inl (sf))))) (hK : M[g + 5]? = some (.inr (4, [.ref (g + 6)]))) (hk : M[g + 6]? = some (.inl (1, 34, .inr (.inl (kf))))) {u : Nat} {uf : Nat → Int64} (hU : M[u]? = some (.inr (4, [.ref (u + 1)]))) (hu : M[u + 1]? = some (.inl (1, 34, .inr (.inl (uf))))) (hd : u + 1 < g ∨ g + 6 < u) : Cl X 2 jX4_program [.ref (g), .ref (u)] M (some (.int (nI (rones (fun j => rpg bf uf sf 34 j ^^^ uf j) 34)))) (M.set (g + 2) (.inl (1, 34, .inr (.inl (rpg bf uf sf 34))))) := by
  refine Cl.of (ls := [some (.ref (g)), some (.ref (u)), none]) (by decide) rfl (Nat.le_of_ble_eq_true rfl) ?_
  refine x_iconst (y := nI 0) dX4_program_0 rfl ?_
  refine x_istore_n (ls' := [some (.ref (g)), some (.ref (u)), some (.int (nI 0))]) dX4_program_1 rfl (by decide) rfl rfl ?_
  refine G.hp (set_id hb (c' := .inl (1, 34, .inr (.inl (rpg bf uf sf 0)))) (by rw [rpg_0])) (lp_program hg hB hb hS hs hK hk hU hu hd ?_ 34 0 rfl)
  refine x_aload_n dX4_program_42 rfl rfl ?_
  refine x_getf (ci := 3) (kf := 0) dX4_program_43 rfl uX4 (by decide) fl_RX4_12 (gn hg (by omega)) rfl ?_
  refine x_aload_n dX4_program_46 rfl rfl ?_
  refine x_callV (ci := 4) (as := [.ref (u)]) dX4_program_47 mk_X5_apart in_X5_apart se_X5_apart ml_RX4_41 rfl (gn hB (by omega)) (by decide) rfl rfl (Nat.le_of_ble_eq_true rfl) (c_apart (gn hB (by omega)) (gs hb) (gn hU (by omega)) (gn hu (by omega))) ?_
  exact x_ireturn_eq dX4_program_50 rfl rfl
theorem bz {b : Bool} : nI 1 - nI b.toNat = nI (!b).toNat := by cases b <;> rfl
theorem bz0 {b : Bool} : nI b.toNat = 0 ↔ b = false := by cases b <;> decide
def rflip (f s : Nat → Int64) (k : Nat) : Nat → Int64 := if rb s k then f else rset f k (!(rb f k))
theorem c_turn {X : Ev} {M : Hp} {g : Nat} {wr : Int32} {bf sf kf : Nat → Int64} (hg : M[g]? = some (.inr (3, [.ref (g + 1), .ref (g + 3), .ref (g + 5), .int (wr)]))) (hB : M[g + 1]? = some (.inr (4, [.ref (g + 2)]))) (hb : M[g + 2]? = some (.inl (1, 34, .inr (.inl (bf))))) (hS : M[g + 3]? = some (.inr (4, [.ref (g + 4)]))) (hs : M[g + 4]? = some (.inl (1, 34, .inr (.inl (sf))))) (hK : M[g + 5]? = some (.inr (4, [.ref (g + 6)]))) (hk : M[g + 6]? = some (.inl (1, 34, .inr (.inl (kf))))) {k : Nat} (hk2 : k < 2176) : Cl X 1 jX4_turn [.ref (g), .int (nI k)] M (some (.int (nI (rb (rflip bf sf k) k).toNat))) (M.set (g + 2) (.inl (1, 34, .inr (.inl (rflip bf sf k))))) := by
  refine Cl.of (ls := [some (.ref (g)), some (.int (nI k))]) (by decide) rfl (Nat.le_of_ble_eq_true rfl) ?_
  cases hq : rb sf k with
  | false =>
    have hfl : rflip bf sf k = rset bf k (!(rb bf k)) := by unfold rflip; rw [hq]; rfl
    rw [hfl]
    refine x_aload_n dX4_turn_0 rfl rfl ?_
    refine x_getf (ci := 3) (kf := 1) dX4_turn_1 rfl uX4 (by decide) fl_RX4_18 hg rfl ?_
    refine x_iload_n dX4_turn_4 rfl rfl ?_
    refine x_callV (ci := 4) (as := [.int (nI k)]) dX4_turn_5 mk_X5_at in_X5_at se_X5_at ml_RX4_45 rfl hS (by decide) rfl rfl (Nat.le_of_ble_eq_true rfl) (c_at hS hs hk2) ?_
    refine x_if_ne (tgt := 29) dX4_turn_8 (by decide) (fun h => False.elim (h (by rw [hq]; rfl))) (fun _ => ?_)
    refine x_aload_n dX4_turn_11 rfl rfl ?_
    refine x_getf (ci := 3) (kf := 0) dX4_turn_12 rfl uX4 (by decide) fl_RX4_12 hg rfl ?_
    refine x_iload_n dX4_turn_15 rfl rfl ?_
    refine x_iconst (y := nI 1) dX4_turn_16 rfl ?_
    refine x_aload_n dX4_turn_17 rfl rfl ?_
    refine x_getf (ci := 3) (kf := 0) dX4_turn_18 rfl uX4 (by decide) fl_RX4_12 hg rfl ?_
    refine x_iload_n dX4_turn_21 rfl rfl ?_
    refine x_callV (ci := 4) (as := [.int (nI k)]) dX4_turn_22 mk_X5_at in_X5_at se_X5_at ml_RX4_45 rfl hB (by decide) rfl rfl (Nat.le_of_ble_eq_true rfl) (c_at hB hb hk2) ?_
    refine x_isub dX4_turn_25 ?_
    refine x_casti (y := nI (!(rb bf k)).toNat) bz ?_
    refine x_callV (ci := 4) (as := [.int (nI k), .int (nI (!(rb bf k)).toNat)]) dX4_turn_26 mk_X5_set in_X5_set se_X5_set ml_RX4_49 rfl hB (by decide) rfl rfl (Nat.le_of_ble_eq_true rfl) (c_set hB hb hk2 (b0 := !(rb bf k)) bz0) ?_
    refine x_aload_n dX4_turn_29 rfl rfl ?_
    refine x_getf (ci := 3) (kf := 0) dX4_turn_30 rfl uX4 (by decide) fl_RX4_12 (gn hg (by omega)) rfl ?_
    refine x_iload_n dX4_turn_33 rfl rfl ?_
    refine x_callV (ci := 4) (as := [.int (nI k)]) dX4_turn_34 mk_X5_at in_X5_at se_X5_at ml_RX4_45 rfl (gn hB (by omega)) (by decide) rfl rfl (Nat.le_of_ble_eq_true rfl) (c_at (gn hB (by omega)) (gs hb) hk2) ?_
    exact x_ireturn_eq dX4_turn_37 rfl rfl
  | true =>
    have hfl : rflip bf sf k = bf := by unfold rflip; rw [hq]; rfl
    rw [hfl, ← set_id hb rfl]
    refine x_aload_n dX4_turn_0 rfl rfl ?_
    refine x_getf (ci := 3) (kf := 1) dX4_turn_1 rfl uX4 (by decide) fl_RX4_18 hg rfl ?_
    refine x_iload_n dX4_turn_4 rfl rfl ?_
    refine x_callV (ci := 4) (as := [.int (nI k)]) dX4_turn_5 mk_X5_at in_X5_at se_X5_at ml_RX4_45 rfl hS (by decide) rfl rfl (Nat.le_of_ble_eq_true rfl) (c_at hS hs hk2) ?_
    refine x_if_ne (tgt := 29) dX4_turn_8 (by decide) (fun _ => ?_) (fun h => False.elim (absurd h (by rw [hq]; decide)))
    refine x_aload_n dX4_turn_29 rfl rfl ?_
    refine x_getf (ci := 3) (kf := 0) dX4_turn_30 rfl uX4 (by decide) fl_RX4_12 hg rfl ?_
    refine x_iload_n dX4_turn_33 rfl rfl ?_
    refine x_callV (ci := 4) (as := [.int (nI k)]) dX4_turn_34 mk_X5_at in_X5_at se_X5_at ml_RX4_45 rfl hB (by decide) rfl rfl (Nat.le_of_ble_eq_true rfl) (c_at hB hb hk2) ?_
    exact x_ireturn_eq dX4_turn_37 rfl rfl
theorem z01_ne {z : Nat} (hz : z ≤ 1) : ¬ nI z = -1 := by
  have hz2 : z = 0 ∨ z = 1 := by omega
  rcases hz2 with rfl | rfl <;> decide
theorem z01_b {z : Nat} (hz : z ≤ 1) : nI z = 0 ↔ (z == 1) = false := by
  have hz2 : z = 0 ∨ z = 1 := by omega
  rcases hz2 with rfl | rfl <;> decide
theorem c_holdN {X : Ev} {M : Hp} {g : Nat} {wr : Int32} {bf sf kf : Nat → Int64} (hg : M[g]? = some (.inr (3, [.ref (g + 1), .ref (g + 3), .ref (g + 5), .int (wr)]))) (hB : M[g + 1]? = some (.inr (4, [.ref (g + 2)]))) (hb : M[g + 2]? = some (.inl (1, 34, .inr (.inl (bf))))) (hS : M[g + 3]? = some (.inr (4, [.ref (g + 4)]))) (hs : M[g + 4]? = some (.inl (1, 34, .inr (.inl (sf))))) (hK : M[g + 5]? = some (.inr (4, [.ref (g + 6)]))) (hk : M[g + 6]? = some (.inl (1, 34, .inr (.inl (kf))))) {k : Nat} (hk2 : k < 2176) : Cl X 1 jX4_hold [.ref (g), .int (nI k), .int (-1)] M none (M.set (g + 4) (.inl (1, 34, .inr (.inl (rset sf k false))))) := by
  refine Cl.of (ls := [some (.ref (g)), some (.int (nI k)), some (.int (-1))]) (by decide) rfl (Nat.le_of_ble_eq_true rfl) ?_
  refine x_iload_n dX4_hold_0 rfl rfl ?_
  refine x_iconst (y := -1) dX4_hold_1 rfl ?_
  refine x_icmp_ne (tgt := 17) dX4_hold_2 (by decide) (fun h => False.elim (h rfl)) (fun _ => ?_)
  refine x_aload_n dX4_hold_5 rfl rfl ?_
  refine x_getf (ci := 3) (kf := 1) dX4_hold_6 rfl uX4 (by decide) fl_RX4_18 hg rfl ?_
  refine x_iload_n dX4_hold_9 rfl rfl ?_
  refine x_iconst (y := nI 0) dX4_hold_10 rfl ?_
  refine x_callV (ci := 4) (as := [.int (nI k), .int (nI 0)]) dX4_hold_11 mk_X5_set in_X5_set se_X5_set ml_RX4_49 rfl hS (by decide) rfl rfl (Nat.le_of_ble_eq_true rfl) (c_set hS hs hk2 (b0 := false) (by decide)) ?_
  refine x_goto (tgt := 35) dX4_hold_14 (by decide) ?_
  exact x_ret dX4_hold_35 rfl
theorem c_holdV {X : Ev} {M : Hp} {g : Nat} {wr : Int32} {bf sf kf : Nat → Int64} (hg : M[g]? = some (.inr (3, [.ref (g + 1), .ref (g + 3), .ref (g + 5), .int (wr)]))) (hB : M[g + 1]? = some (.inr (4, [.ref (g + 2)]))) (hb : M[g + 2]? = some (.inl (1, 34, .inr (.inl (bf))))) (hS : M[g + 3]? = some (.inr (4, [.ref (g + 4)]))) (hs : M[g + 4]? = some (.inl (1, 34, .inr (.inl (sf))))) (hK : M[g + 5]? = some (.inr (4, [.ref (g + 6)]))) (hk : M[g + 6]? = some (.inl (1, 34, .inr (.inl (kf))))) {k : Nat} (hk2 : k < 2176) {z : Nat} (hz : z ≤ 1) : Cl X 1 jX4_hold [.ref (g), .int (nI k), .int (nI z)] M none ((M.set (g + 4) (.inl (1, 34, .inr (.inl (rset sf k true))))).set (g + 2) (.inl (1, 34, .inr (.inl (rset bf k (z == 1)))))) := by
  refine Cl.of (ls := [some (.ref (g)), some (.int (nI k)), some (.int (nI z))]) (by decide) rfl (Nat.le_of_ble_eq_true rfl) ?_
  refine x_iload_n dX4_hold_0 rfl rfl ?_
  refine x_iconst (y := -1) dX4_hold_1 rfl ?_
  refine x_icmp_ne (tgt := 17) dX4_hold_2 (by decide) (fun _ => ?_) (fun h => False.elim (absurd h (z01_ne hz)))
  refine x_aload_n dX4_hold_17 rfl rfl ?_
  refine x_getf (ci := 3) (kf := 1) dX4_hold_18 rfl uX4 (by decide) fl_RX4_18 hg rfl ?_
  refine x_iload_n dX4_hold_21 rfl rfl ?_
  refine x_iconst (y := nI 1) dX4_hold_22 rfl ?_
  refine x_callV (ci := 4) (as := [.int (nI k), .int (nI 1)]) dX4_hold_23 mk_X5_set in_X5_set se_X5_set ml_RX4_49 rfl hS (by decide) rfl rfl (Nat.le_of_ble_eq_true rfl) (c_set hS hs hk2 (b0 := true) (by decide)) ?_
  refine x_aload_n dX4_hold_26 rfl rfl ?_
  refine x_getf (ci := 3) (kf := 0) dX4_hold_27 rfl uX4 (by decide) fl_RX4_12 (gn hg (by omega)) rfl ?_
  refine x_iload_n dX4_hold_30 rfl rfl ?_
  refine x_iload_n dX4_hold_31 rfl rfl ?_
  refine x_callV (ci := 4) (as := [.int (nI k), .int (nI z)]) dX4_hold_32 mk_X5_set in_X5_set se_X5_set ml_RX4_49 rfl (gn hB (by omega)) (by decide) rfl rfl (Nat.le_of_ble_eq_true rfl) (c_set (gn hB (by omega)) (gn hb (by omega)) hk2 (b0 := z == 1) (z01_b hz)) ?_
  exact x_ret dX4_hold_35 rfl
