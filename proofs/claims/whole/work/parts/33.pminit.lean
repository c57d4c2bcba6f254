/-! THE CONSTRUCTOR of PageMender: places 0 to 137 -/
def pgs (n : Nat) : Nat → Option Nat := fun j => if j < n then some (22 + 7 * j) else none
def PgC (M : Hp) (g : Nat) (wr : Int32) (bf sf kf : Nat → Int64) : Prop := M[g]? = some (.inr (3, [.ref (g + 1), .ref (g + 3), .ref (g + 5), .int (wr)])) ∧ M[g + 1]? = some (.inr (4, [.ref (g + 2)])) ∧ M[g + 2]? = some (.inl (1, 34, .inr (.inl (bf)))) ∧ M[g + 3]? = some (.inr (4, [.ref (g + 4)])) ∧ M[g + 4]? = some (.inl (1, 34, .inr (.inl (sf)))) ∧ M[g + 5]? = some (.inr (4, [.ref (g + 6)])) ∧ M[g + 6]? = some (.inl (1, 34, .inr (.inl (kf))))
def tPM : Hp := [.inr (5, [.ref (1), .ref (5), .ref (12), .ref (21), .null, .null, .int (0), .int (0), .int (0), .int (0)]), .inr (1, [.ref (2), .ref (3), .ref (4), .int (0), .int (0)]), .inl (0, 8192, .inl (fun _ => 0)), .inl (0, 8192, .inl (fun _ => 0)), .inl (0, 14, .inl (fun _ => 0)), .inr (0, [.ref (1), .ref (6), .ref (7), .ref (8), .ref (9), .ref (10), .int (0), .int (0), .int (0), .int (0), .long (0), .long (0)]), .inl (0, 105, .inl (fun _ => 0)), .inl (1, 256, .inr (.inl (fun _ => 0))), .inl (1, 256, .inr (.inl (fun _ => 0))), .inl (0, 104, .inl (fun _ => 0)), .inr (4, [.ref (11)]), .inl (1, 34, .inr (.inl (fun _ => 0))), .inr (2, [.ref (1), .ref (5), .ref (13), .ref (15), .ref (16), .ref (17), .ref (18), .ref (19), .ref (20)]), .inr (4, [.ref (14)]), .inl (1, 34, .inr (.inl (fun _ => 0))), .inl (0, 17, .inl (fun _ => 0)), .inl (0, 17, .inl (fun _ => 0)), .inl (0, 17, .inl (fun _ => 0)), .inl (0, 17, .inl (fun _ => 0)), .inl (0, 9, .inl (fun _ => 0)), .inl (0, 8, .inl (fun _ => 0))]
def PI (i : Nat) (M : Hp) : Prop := (∀ p, p < 21 → M[p]? = tPM[p]?) ∧ M[21]? = some (.inl (3, 16, .inr (.inr (.inr (.inr (pgs i)))))) ∧ M.length = 22 + 7 * i ∧ ∀ j, j < i → PgC M (22 + 7 * j) 0 (fun _ => 0) (fun _ => 0) (fun _ => 0)
theorem pgs_up {i : Nat} : va_up (pgs i) i (some (22 + 7 * i)) = pgs (i + 1) := by
  funext j
  unfold va_up pgs
  by_cases h : j = i
  · subst h; simp
  · rw [if_neg h]
    by_cases h2 : j < i
    · rw [if_pos h2, if_pos (by omega)]
    · rw [if_neg h2, if_neg (by omega)]
theorem PgC.app {M T : Hp} {g : Nat} {wr : Int32} {bf sf kf : Nat → Int64} (h : PgC M g wr bf sf kf) : PgC (M ++ T) g wr bf sf kf := ⟨ap_low h.1, ap_low h.2.1, ap_low h.2.2.1, ap_low h.2.2.2.1, ap_low h.2.2.2.2.1, ap_low h.2.2.2.2.2.1, ap_low h.2.2.2.2.2.2⟩
theorem PgC.lo {M : Hp} {g p : Nat} {c : Cel} {wr : Int32} {bf sf kf : Nat → Int64} (h : PgC M g wr bf sf kf) (hp : p < g ∨ g + 6 < p) : PgC (M.set p c) g wr bf sf kf := ⟨gn h.1 (by omega), gn h.2.1 (by omega), gn h.2.2.1 (by omega), gn h.2.2.2.1 (by omega), gn h.2.2.2.2.1 (by omega), gn h.2.2.2.2.2.1 (by omega), gn h.2.2.2.2.2.2 (by omega)⟩
theorem PI.next {i : Nat} {M : Hp} (h : PI i M) : PI (i + 1) ((M ++ ([.inr (3, [.ref (M.length + 1), .ref (M.length + 3), .ref (M.length + 5), .int (0)]), .inr (4, [.ref (M.length + 2)]), .inl (1, 34, .inr (.inl (fun _ => 0))), .inr (4, [.ref (M.length + 4)]), .inl (1, 34, .inr (.inl (fun _ => 0))), .inr (4, [.ref (M.length + 6)]), .inl (1, 34, .inr (.inl (fun _ => 0)))] : Hp)).set (21) (.inl (3, 16, .inr (.inr (.inr (.inr (pgs (i + 1)))))))) := by
  obtain ⟨h1, h2, h3, h4⟩ := h
  refine ⟨fun p hp => ?_, gs (ap_low h2), by simp [h3]; omega, fun j hj => ?_⟩
  · rw [List.getElem?_set_ne (by omega), List.getElem?_append_left (by omega)]; exact h1 p hp
  · by_cases hji : j = i
    · subst hji
      rw [← h3]
      have e : ∀ k, k < 7 → 21 ≠ M.length + k := fun k hk => by omega
      exact ⟨gn (ap_get 0 rfl) (e 0 (by decide)), gn (ap_get 1 rfl) (e 1 (by decide)), gn (ap_get 2 rfl) (e 2 (by decide)), gn (ap_get 3 rfl) (e 3 (by decide)), gn (ap_get 4 rfl) (e 4 (by decide)), gn (ap_get 5 rfl) (e 5 (by decide)), gn (ap_get 6 rfl) (e 6 (by decide))⟩
    · exact (h4 j (by omega)).app.lo (Or.inl (by omega))
theorem lp_pages {X : Ev} {M0 : Hp} {Q : Hp → Prop} (k : ∀ M1, PI 16 M1 → ∃ M', G X 9 jX6_init M0 85 [some (.ref (0)), some (.int (nI 16))] [] M1 none M' ∧ Q M') : ∀ (zz i : Nat) (M : Hp), i + zz = 16 → PI i M → ∃ M', G X 9 jX6_init M0 60 [some (.ref (0)), some (.int (nI i))] [] M none M' ∧ Q M' := by
  intro zz
  induction zz with
  | zero =>
    intro i M hi hP
    have hi : i = 16 := by omega
    subst hi
    obtain ⟨M', hk, hq⟩ := k M hP
    refine ⟨M', ?_, hq⟩
    refine x_iload_n dX6_init_60 rfl rfl ?_
    refine x_bipush (y := nI 16) dX6_init_61 rfl ?_
    refine x_icmp_ge (tgt := 85) dX6_init_63 (by decide) (fun _ => ?_) (fun h => False.elim (h (nI_le (Nat.le_refl _) (by decide))))
    exact hk
  | succ zz ih =>
    intro i M hi hP
    obtain ⟨M', hk, hq⟩ := ih (i + 1) _ (by omega) hP.next
    refine ⟨M', ?_, hq⟩
    have h0 : M[0]? = some (.inr (5, [.ref (1), .ref (5), .ref (12), .ref (21), .null, .null, .int (0), .int (0), .int (0), .int (0)])) := hP.1 0 (by decide)
    have h21 := hP.2.1
    have hl := hP.2.2.1
    refine x_iload_n dX6_init_60 rfl rfl ?_
    refine x_bipush (y := nI 16) dX6_init_61 rfl ?_
    refine x_icmp_ge (tgt := 85) dX6_init_63 (by decide) (fun h => False.elim (nI_ge (by omega : i < 16) (by decide) h)) (fun _ => ?_)
    refine x_aload_n dX6_init_66 rfl rfl ?_
    refine x_getf (ci := 5) (kf := 3) dX6_init_67 rfl uX6 (by decide) fl_RX6_36 h0 rfl ?_
    refine x_iload_n dX6_init_70 rfl rfl ?_
    refine x_newP (p := M.length + 0) (ci := 3) (ty := tyX4) (fs := [.null, .null, .null, .int (0)]) (M1 := (M ++ [.inr (3, [.null, .null, .null, .int (0)])])) dX6_init_71 rfl uX4 tyX4_ok cl_RX6_34 ins_4 ini_4 (by decide) rfl rfl rfl rfl ?_
    refine x_dup dX6_init_74 rfl ?_
    refine x_callIN (host := "PageMender") (as := []) dX6_init_75 mk_X4_init rfl rfl in_X4_init (List.mem_of_getElem? (i := 1) rfl) (by decide) rfl rfl (Nat.le_of_ble_eq_true rfl) (c_pageInit (L := M)) ?_
    refine x_ast (j := i) (M1 := ((M ++ ([.inr (3, [.ref (M.length + 1), .ref (M.length + 3), .ref (M.length + 5), .int (0)]), .inr (4, [.ref (M.length + 2)]), .inl (1, 34, .inr (.inl (fun _ => 0))), .inr (4, [.ref (M.length + 4)]), .inl (1, 34, .inr (.inl (fun _ => 0))), .inr (4, [.ref (M.length + 6)]), .inl (1, 34, .inr (.inl (fun _ => 0)))] : Hp)).set (21) (.inl (3, 16, .inr (.inr (.inr (.inr (pgs (i + 1))))))))) dX6_init_78 (ap_low h21) (ap_get 0 rfl) rfl (by omega) (by decide) (by rw [show va_up (pgs i) i (some (M.length + 0)) = pgs (i + 1) by rw [show M.length + 0 = 22 + 7 * i by omega]; exact pgs_up]) ?_
    refine x_iinc (y := nI (i + 1)) (ls' := [some (.ref (0)), some (.int (nI (i + 1)))]) dX6_init_79 (by decide) rfl rfl (ii_add _ 1) rfl ?_
    refine x_goto (tgt := 60) dX6_init_82 (by decide) ?_
    exact hk
/-- a fresh PageMender -/
def PX (M : Hp) : Prop := M.length = 138 ∧ M[0]? = some (.inr (5, [.ref (1), .ref (5), .ref (12), .ref (21), .ref (134), .ref (136), .int (0), .int (0), .int (0), .int (0)])) ∧ (∀ p, 1 ≤ p → p < 21 → M[p]? = tPM[p]?) ∧ M[21]? = some (.inl (3, 16, .inr (.inr (.inr (.inr (pgs 16)))))) ∧ (∀ j, j < 16 → PgC M (22 + 7 * j) 0 (fun _ => 0) (fun _ => 0) (fun _ => 0)) ∧ M[134]? = some (.inr (4, [.ref (135)])) ∧ M[135]? = some (.inl (1, 34, .inr (.inl (fun _ => 0)))) ∧ M[136]? = some (.inr (4, [.ref (137)])) ∧ M[137]? = some (.inl (1, 34, .inr (.inl (fun _ => 0))))
theorem PX.of {M1 : Hp} (h : PI 16 M1) : PX ((((M1 ++ ([.inr (4, [.ref (135)]), .inl (1, 34, .inr (.inl (fun _ => 0)))] : Hp)).set (0) (.inr (5, [.ref (1), .ref (5), .ref (12), .ref (21), .ref (134), .null, .int (0), .int (0), .int (0), .int (0)]))) ++ ([.inr (4, [.ref (137)]), .inl (1, 34, .inr (.inl (fun _ => 0)))] : Hp)).set (0) (.inr (5, [.ref (1), .ref (5), .ref (12), .ref (21), .ref (134), .ref (136), .int (0), .int (0), .int (0), .int (0)]))) := by
  obtain ⟨h1, h2, h3, h4⟩ := h
  have hl : ((M1 ++ ([.inr (4, [.ref (135)]), .inl (1, 34, .inr (.inl (fun _ => 0)))] : Hp)).set (0) (.inr (5, [.ref (1), .ref (5), .ref (12), .ref (21), .ref (134), .null, .int (0), .int (0), .int (0), .int (0)]))).length = 136 := by simp [h3]
  refine ⟨by simp [h3], gs (c := .inr (5, [.ref (1), .ref (5), .ref (12), .ref (21), .ref (134), .null, .int (0), .int (0), .int (0), .int (0)])) (ap_low (gs (ap_low (h1 0 (by decide))))), fun p hp hp2 => ?_, gn (ap_low (gn (ap_low h2) (by decide))) (by decide), fun j hj => ?_, ?_, ?_, ?_, ?_⟩
  · rw [List.getElem?_set_ne (by omega), List.getElem?_append_left (by omega), List.getElem?_set_ne (by omega), List.getElem?_append_left (by omega)]; exact h1 p hp2
  · exact (((h4 j hj).app.lo (Or.inl (by omega))).app.lo (Or.inl (by omega)))
  · exact gn (ap_low (gn (by have := ap_get (L := M1) (T := [.inr (4, [.ref (135)]), .inl (1, 34, .inr (.inl (fun _ => 0)))]) 0 rfl; rw [h3] at this; exact this) (by decide))) (by decide)
  · exact gn (ap_low (gn (by have := ap_get (L := M1) (T := [.inr (4, [.ref (135)]), .inl (1, 34, .inr (.inl (fun _ => 0)))]) 1 rfl; rw [h3] at this; exact this) (by decide))) (by decide)
  · exact gn (by have := ap_get (L := ((M1 ++ ([.inr (4, [.ref (135)]), .inl (1, 34, .inr (.inl (fun _ => 0)))] : Hp)).set (0) (.inr (5, [.ref (1), .ref (5), .ref (12), .ref (21), .ref (134), .null, .int (0), .int (0), .int (0), .int (0)])))) (T := [.inr (4, [.ref (137)]), .inl (1, 34, .inr (.inl (fun _ => 0)))]) 0 rfl; rw [hl] at this; exact this) (by decide)
  · exact gn (by have := ap_get (L := ((M1 ++ ([.inr (4, [.ref (135)]), .inl (1, 34, .inr (.inl (fun _ => 0)))] : Hp)).set (0) (.inr (5, [.ref (1), .ref (5), .ref (12), .ref (21), .ref (134), .null, .int (0), .int (0), .int (0), .int (0)])))) (T := [.inr (4, [.ref (137)]), .inl (1, 34, .inr (.inl (fun _ => 0)))]) 1 rfl; rw [hl] at this; exact this) (by decide)
theorem c_pmTail {X : Ev} {M0 M1 : Hp} (h : PI 16 M1) : G X 9 jX6_init M0 85 [some (.ref (0)), some (.int (nI 16))] [] M1 none ((((M1 ++ ([.inr (4, [.ref (135)]), .inl (1, 34, .inr (.inl (fun _ => 0)))] : Hp)).set (0) (.inr (5, [.ref (1), .ref (5), .ref (12), .ref (21), .ref (134), .null, .int (0), .int (0), .int (0), .int (0)]))) ++ ([.inr (4, [.ref (137)]), .inl (1, 34, .inr (.inl (fun _ => 0)))] : Hp)).set (0) (.inr (5, [.ref (1), .ref (5), .ref (12), .ref (21), .ref (134), .ref (136), .int (0), .int (0), .int (0), .int (0)]))) := by
  obtain ⟨h1, h2, h3, h4⟩ := id h
  have h3 : M1.length = 134 := h3
  have hl : ((M1 ++ ([.inr (4, [.ref (135)]), .inl (1, 34, .inr (.inl (fun _ => 0)))] : Hp)).set (0) (.inr (5, [.ref (1), .ref (5), .ref (12), .ref (21), .ref (134), .null, .int (0), .int (0), .int (0), .int (0)]))).length = 136 := by simp [h3]
  have h0 : M1[0]? = some (.inr (5, [.ref (1), .ref (5), .ref (12), .ref (21), .null, .null, .int (0), .int (0), .int (0), .int (0)])) := h1 0 (by decide)
  have r1 := c_rowInit (X := X) (L := M1)
  rw [h3] at r1
  have r2 := c_rowInit (X := X) (L := ((M1 ++ ([.inr (4, [.ref (135)]), .inl (1, 34, .inr (.inl (fun _ => 0)))] : Hp)).set (0) (.inr (5, [.ref (1), .ref (5), .ref (12), .ref (21), .ref (134), .null, .int (0), .int (0), .int (0), .int (0)]))))
  rw [hl] at r2
  refine x_aload_n dX6_init_85 rfl rfl ?_
  refine x_newP (p := 134) (ci := 4) (ty := tyX5) (fs := [.null]) dX6_init_86 rfl uX5 tyX5_ok cl_RX6_41 ins_5 ini_5 (by decide) rfl rfl h3 rfl ?_
  refine x_dup dX6_init_89 rfl ?_
  refine x_callIN (host := "PageMender") (as := []) dX6_init_90 mk_X5_init rfl rfl in_X5_init (List.mem_of_getElem? (i := 2) rfl) (by decide) rfl rfl (Nat.le_of_ble_eq_true rfl) r1 ?_
  refine x_putF (ci := 5) (kf := 4) (ty0 := tyX6) (M1 := ((M1 ++ ([.inr (4, [.ref (135)]), .inl (1, 34, .inr (.inl (fun _ => 0)))] : Hp)).set (0) (.inr (5, [.ref (1), .ref (5), .ref (12), .ref (21), .ref (134), .null, .int (0), .int (0), .int (0), .int (0)])))) dX6_init_93 rfl uX6 tyX6_ok nmX6 (by decide) fl_RX6_44 rfl rfl rfl rfl rfl rfl (ap_low h0) (Nat.le_of_ble_eq_true rfl) rfl ?_
  refine x_aload_n dX6_init_96 rfl rfl ?_
  refine x_newP (p := 136) (ci := 4) (ty := tyX5) (fs := [.null]) dX6_init_97 rfl uX5 tyX5_ok cl_RX6_41 ins_5 ini_5 (by decide) rfl rfl hl rfl ?_
  refine x_dup dX6_init_100 rfl ?_
  refine x_callIN (host := "PageMender") (as := []) dX6_init_101 mk_X5_init rfl rfl in_X5_init (List.mem_of_getElem? (i := 2) rfl) (by decide) rfl rfl (Nat.le_of_ble_eq_true rfl) r2 ?_
  refine x_putF (ci := 5) (kf := 5) (ty0 := tyX6) (M1 := ((((M1 ++ ([.inr (4, [.ref (135)]), .inl (1, 34, .inr (.inl (fun _ => 0)))] : Hp)).set (0) (.inr (5, [.ref (1), .ref (5), .ref (12), .ref (21), .ref (134), .null, .int (0), .int (0), .int (0), .int (0)]))) ++ ([.inr (4, [.ref (137)]), .inl (1, 34, .inr (.inl (fun _ => 0)))] : Hp)).set (0) (.inr (5, [.ref (1), .ref (5), .ref (12), .ref (21), .ref (134), .ref (136), .int (0), .int (0), .int (0), .int (0)])))) dX6_init_104 rfl uX6 tyX6_ok nmX6 (by decide) fl_RX6_48 rfl rfl rfl rfl rfl rfl (ap_low (gs (ap_low h0))) (Nat.le_of_ble_eq_true rfl) rfl ?_
  exact x_ret dX6_init_107 rfl
theorem c_pmInit {X : Ev} : ∃ M', Cl X 9 jX6_init [.ref (0)] [.inr (5, [.null, .null, .null, .null, .null, .null, .int (0), .int (0), .int (0), .int (0)])] none M' ∧ PX M' := by
  obtain ⟨M', hk, hq⟩ := lp_pages (X := X) (M0 := [.inr (5, [.null, .null, .null, .null, .null, .null, .int (0), .int (0), .int (0), .int (0)])]) (Q := PX) (fun M1 h => ⟨_, c_pmTail h, PX.of h⟩) 16 0 (tPM ++ [.inl (3, 16, .inr (.inr (.inr (.inr (fun _ => none)))))]) rfl ⟨fun p hp => List.getElem?_append_left hp, rfl, rfl, fun j hj => absurd hj (by omega)⟩
  refine ⟨M', ?_, hq⟩
  refine Cl.of (ls := [some (.ref (0)), none]) (by decide) rfl (Nat.le_of_ble_eq_true rfl) ?_
  refine x_aload_n dX6_init_0 rfl rfl ?_
  refine x_objInit dX6_init_1 ml_RX6_3 oi_in oi_co (by decide) (Nat.le_of_ble_eq_true rfl) ?_
  refine x_aload_n dX6_init_4 rfl rfl ?_
  refine x_newP (p := 1) (ci := 1) (ty := tyX2) (fs := [.null, .null, .null, .int (0), .int (0)]) (M1 := ([.inr (5, [.null, .null, .null, .null, .null, .null, .int (0), .int (0), .int (0), .int (0)]), .inr (1, [.null, .null, .null, .int (0), .int (0)])] : Hp)) dX6_init_5 rfl uX2 tyX2_ok cl_RX6_9 ins_2 ini_2 (by decide) rfl rfl rfl rfl ?_
  refine x_dup dX6_init_8 rfl ?_
  refine x_callIN (host := "PageMender") (as := []) dX6_init_9 mk_X2_init rfl rfl in_X2_init (List.mem_of_getElem? (i := 0) rfl) (by decide) rfl rfl (Nat.le_of_ble_eq_true rfl) (c_fieldInit (L := [.inr (5, [.null, .null, .null, .null, .null, .null, .int (0), .int (0), .int (0), .int (0)])])) ?_
  refine x_putF (ci := 5) (kf := 0) (ty0 := tyX6) (M1 := ([.inr (5, [.ref (1), .null, .null, .null, .null, .null, .int (0), .int (0), .int (0), .int (0)]), .inr (1, [.ref (2), .ref (3), .ref (4), .int (0), .int (0)]), .inl (0, 8192, .inl (fun _ => 0)), .inl (0, 8192, .inl (fun _ => 0)), .inl (0, 14, .inl (fun _ => 0))] : Hp)) dX6_init_12 rfl uX6 tyX6_ok nmX6 (by decide) fl_RX6_12 rfl rfl rfl rfl rfl rfl rfl (Nat.le_of_ble_eq_true rfl) rfl ?_
  refine x_aload_n dX6_init_15 rfl rfl ?_
  refine x_newP (p := 5) (ci := 0) (ty := tyX0) (fs := [.null, .null, .null, .null, .null, .null, .int (0), .int (0), .int (0), .int (0), .long (0), .long (0)]) (M1 := ([.inr (5, [.ref (1), .null, .null, .null, .null, .null, .int (0), .int (0), .int (0), .int (0)]), .inr (1, [.ref (2), .ref (3), .ref (4), .int (0), .int (0)]), .inl (0, 8192, .inl (fun _ => 0)), .inl (0, 8192, .inl (fun _ => 0)), .inl (0, 14, .inl (fun _ => 0)), .inr (0, [.null, .null, .null, .null, .null, .null, .int (0), .int (0), .int (0), .int (0), .long (0), .long (0)])] : Hp)) dX6_init_16 rfl uX0 tyX0_ok cl_RX6_16 ins_0 ini_0 (by decide) rfl rfl rfl rfl ?_
  refine x_dup dX6_init_19 rfl ?_
  refine x_aload_n dX6_init_20 rfl rfl ?_
  refine x_getf (ci := 5) (kf := 0) dX6_init_21 rfl uX6 (by decide) fl_RX6_12 rfl rfl ?_
  refine x_callI (as := [.ref (1)]) dX6_init_24 mk_X0_init rfl rfl in_X0_init ml_RX6_18 (by decide) rfl rfl (Nat.le_of_ble_eq_true rfl) (c_codeInit (F := 1) (L := [.inr (5, [.ref (1), .null, .null, .null, .null, .null, .int (0), .int (0), .int (0), .int (0)]), .inr (1, [.ref (2), .ref (3), .ref (4), .int (0), .int (0)]), .inl (0, 8192, .inl (fun _ => 0)), .inl (0, 8192, .inl (fun _ => 0)), .inl (0, 14, .inl (fun _ => 0))])) ?_
  refine x_putF (ci := 5) (kf := 1) (ty0 := tyX6) (M1 := ([.inr (5, [.ref (1), .ref (5), .null, .null, .null, .null, .int (0), .int (0), .int (0), .int (0)]), .inr (1, [.ref (2), .ref (3), .ref (4), .int (0), .int (0)]), .inl (0, 8192, .inl (fun _ => 0)), .inl (0, 8192, .inl (fun _ => 0)), .inl (0, 14, .inl (fun _ => 0)), .inr (0, [.ref (1), .ref (6), .ref (7), .ref (8), .ref (9), .ref (10), .int (0), .int (0), .int (0), .int (0), .long (0), .long (0)]), .inl (0, 105, .inl (fun _ => 0)), .inl (1, 256, .inr (.inl (fun _ => 0))), .inl (1, 256, .inr (.inl (fun _ => 0))), .inl (0, 104, .inl (fun _ => 0)), .inr (4, [.ref (11)]), .inl (1, 34, .inr (.inl (fun _ => 0)))] : Hp)) dX6_init_27 rfl uX6 tyX6_ok nmX6 (by decide) fl_RX6_21 rfl rfl rfl rfl rfl rfl rfl (Nat.le_of_ble_eq_true rfl) rfl ?_
  refine x_aload_n dX6_init_30 rfl rfl ?_
  refine x_newP (p := 12) (ci := 2) (ty := tyX3) (fs := [.null, .null, .null, .null, .null, .null, .null, .null, .null]) (M1 := ([.inr (5, [.ref (1), .ref (5), .null, .null, .null, .null, .int (0), .int (0), .int (0), .int (0)]), .inr (1, [.ref (2), .ref (3), .ref (4), .int (0), .int (0)]), .inl (0, 8192, .inl (fun _ => 0)), .inl (0, 8192, .inl (fun _ => 0)), .inl (0, 14, .inl (fun _ => 0)), .inr (0, [.ref (1), .ref (6), .ref (7), .ref (8), .ref (9), .ref (10), .int (0), .int (0), .int (0), .int (0), .long (0), .long (0)]), .inl (0, 105, .inl (fun _ => 0)), .inl (1, 256, .inr (.inl (fun _ => 0))), .inl (1, 256, .inr (.inl (fun _ => 0))), .inl (0, 104, .inl (fun _ => 0)), .inr (4, [.ref (11)]), .inl (1, 34, .inr (.inl (fun _ => 0))), .inr (2, [.null, .null, .null, .null, .null, .null, .null, .null, .null])] : Hp)) dX6_init_31 rfl uX3 tyX3_ok cl_RX6_25 ins_3 ini_3 (by decide) rfl rfl rfl rfl ?_
  refine x_dup dX6_init_34 rfl ?_
  refine x_aload_n dX6_init_35 rfl rfl ?_
  refine x_getf (ci := 5) (kf := 0) dX6_init_36 rfl uX6 (by decide) fl_RX6_12 rfl rfl ?_
  refine x_aload_n dX6_init_39 rfl rfl ?_
  refine x_getf (ci := 5) (kf := 1) dX6_init_40 rfl uX6 (by decide) fl_RX6_21 rfl rfl ?_
  refine x_callI (as := [.ref (1), .ref (5)]) dX6_init_43 mk_X3_init rfl rfl in_X3_init ml_RX6_27 (by decide) rfl rfl (Nat.le_of_ble_eq_true rfl) (c_menderInit (F := 1) (C := 5) (L := [.inr (5, [.ref (1), .ref (5), .null, .null, .null, .null, .int (0), .int (0), .int (0), .int (0)]), .inr (1, [.ref (2), .ref (3), .ref (4), .int (0), .int (0)]), .inl (0, 8192, .inl (fun _ => 0)), .inl (0, 8192, .inl (fun _ => 0)), .inl (0, 14, .inl (fun _ => 0)), .inr (0, [.ref (1), .ref (6), .ref (7), .ref (8), .ref (9), .ref (10), .int (0), .int (0), .int (0), .int (0), .long (0), .long (0)]), .inl (0, 105, .inl (fun _ => 0)), .inl (1, 256, .inr (.inl (fun _ => 0))), .inl (1, 256, .inr (.inl (fun _ => 0))), .inl (0, 104, .inl (fun _ => 0)), .inr (4, [.ref (11)]), .inl (1, 34, .inr (.inl (fun _ => 0)))])) ?_
  refine x_putF (ci := 5) (kf := 2) (ty0 := tyX6) (M1 := ([.inr (5, [.ref (1), .ref (5), .ref (12), .null, .null, .null, .int (0), .int (0), .int (0), .int (0)]), .inr (1, [.ref (2), .ref (3), .ref (4), .int (0), .int (0)]), .inl (0, 8192, .inl (fun _ => 0)), .inl (0, 8192, .inl (fun _ => 0)), .inl (0, 14, .inl (fun _ => 0)), .inr (0, [.ref (1), .ref (6), .ref (7), .ref (8), .ref (9), .ref (10), .int (0), .int (0), .int (0), .int (0), .long (0), .long (0)]), .inl (0, 105, .inl (fun _ => 0)), .inl (1, 256, .inr (.inl (fun _ => 0))), .inl (1, 256, .inr (.inl (fun _ => 0))), .inl (0, 104, .inl (fun _ => 0)), .inr (4, [.ref (11)]), .inl (1, 34, .inr (.inl (fun _ => 0))), .inr (2, [.ref (1), .ref (5), .ref (13), .ref (15), .ref (16), .ref (17), .ref (18), .ref (19), .ref (20)]), .inr (4, [.ref (14)]), .inl (1, 34, .inr (.inl (fun _ => 0))), .inl (0, 17, .inl (fun _ => 0)), .inl (0, 17, .inl (fun _ => 0)), .inl (0, 17, .inl (fun _ => 0)), .inl (0, 17, .inl (fun _ => 0)), .inl (0, 9, .inl (fun _ => 0)), .inl (0, 8, .inl (fun _ => 0))] : Hp)) dX6_init_46 rfl uX6 tyX6_ok nmX6 (by decide) fl_RX6_30 rfl rfl rfl rfl rfl rfl rfl (Nat.le_of_ble_eq_true rfl) rfl ?_
  refine x_aload_n dX6_init_49 rfl rfl ?_
  refine x_bipush (y := nI 16) dX6_init_50 rfl ?_
  refine x_newqP (p := 21) (M1 := ([.inr (5, [.ref (1), .ref (5), .ref (12), .null, .null, .null, .int (0), .int (0), .int (0), .int (0)]), .inr (1, [.ref (2), .ref (3), .ref (4), .int (0), .int (0)]), .inl (0, 8192, .inl (fun _ => 0)), .inl (0, 8192, .inl (fun _ => 0)), .inl (0, 14, .inl (fun _ => 0)), .inr (0, [.ref (1), .ref (6), .ref (7), .ref (8), .ref (9), .ref (10), .int (0), .int (0), .int (0), .int (0), .long (0), .long (0)]), .inl (0, 105, .inl (fun _ => 0)), .inl (1, 256, .inr (.inl (fun _ => 0))), .inl (1, 256, .inr (.inl (fun _ => 0))), .inl (0, 104, .inl (fun _ => 0)), .inr (4, [.ref (11)]), .inl (1, 34, .inr (.inl (fun _ => 0))), .inr (2, [.ref (1), .ref (5), .ref (13), .ref (15), .ref (16), .ref (17), .ref (18), .ref (19), .ref (20)]), .inr (4, [.ref (14)]), .inl (1, 34, .inr (.inl (fun _ => 0))), .inl (0, 17, .inl (fun _ => 0)), .inl (0, 17, .inl (fun _ => 0)), .inl (0, 17, .inl (fun _ => 0)), .inl (0, 17, .inl (fun _ => 0)), .inl (0, 9, .inl (fun _ => 0)), .inl (0, 8, .inl (fun _ => 0)), .inl (3, 16, .inr (.inr (.inr (.inr (fun _ => none)))))] : Hp)) dX6_init_52 cl_RX6_34 rfl (by decide) rfl rfl ?_
  refine x_putF (ci := 5) (kf := 3) (ty0 := tyX6) (M1 := ([.inr (5, [.ref (1), .ref (5), .ref (12), .ref (21), .null, .null, .int (0), .int (0), .int (0), .int (0)]), .inr (1, [.ref (2), .ref (3), .ref (4), .int (0), .int (0)]), .inl (0, 8192, .inl (fun _ => 0)), .inl (0, 8192, .inl (fun _ => 0)), .inl (0, 14, .inl (fun _ => 0)), .inr (0, [.ref (1), .ref (6), .ref (7), .ref (8), .ref (9), .ref (10), .int (0), .int (0), .int (0), .int (0), .long (0), .long (0)]), .inl (0, 105, .inl (fun _ => 0)), .inl (1, 256, .inr (.inl (fun _ => 0))), .inl (1, 256, .inr (.inl (fun _ => 0))), .inl (0, 104, .inl (fun _ => 0)), .inr (4, [.ref (11)]), .inl (1, 34, .inr (.inl (fun _ => 0))), .inr (2, [.ref (1), .ref (5), .ref (13), .ref (15), .ref (16), .ref (17), .ref (18), .ref (19), .ref (20)]), .inr (4, [.ref (14)]), .inl (1, 34, .inr (.inl (fun _ => 0))), .inl (0, 17, .inl (fun _ => 0)), .inl (0, 17, .inl (fun _ => 0)), .inl (0, 17, .inl (fun _ => 0)), .inl (0, 17, .inl (fun _ => 0)), .inl (0, 9, .inl (fun _ => 0)), .inl (0, 8, .inl (fun _ => 0)), .inl (3, 16, .inr (.inr (.inr (.inr (fun _ => none)))))] : Hp)) dX6_init_55 rfl uX6 tyX6_ok nmX6 (by decide) fl_RX6_36 rfl rfl rfl rfl rfl rfl rfl (Nat.le_of_ble_eq_true rfl) rfl ?_
  refine x_iconst (y := nI 0) dX6_init_58 rfl ?_
  refine x_istore_n (ls' := [some (.ref (0)), some (.int (nI 0))]) dX6_init_59 rfl (by decide) rfl rfl ?_
  exact hk
