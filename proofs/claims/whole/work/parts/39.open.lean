/-! PAGEMENDER: open -/
theorem tll_le {m t : Nat} (h : 1 ≤ m) : ∀ (f i s : Nat), tll m t f i s ≤ s + f * m
  | 0, i, s => by show s ≤ _; omega
  | f + 1, i, s => by
    unfold tll
    have hc := csize_le (i := i) (m := m) h
    have h1 := tll_le (t := t) h f (i + 2) (if cnew i m then s + csize i m else s)
    have e : (f + 1) * m = f * m + m := Nat.succ_mul f m
    have h2 : (if cnew i m then s + csize i m else s) ≤ s + m := by split <;> omega
    split <;> omega
theorem c_openB {X : Ev} {M : Hp} {z0 z1 z2 : Int32} (hbad : (decide (3 ≤ z0.toInt ∧ z0.toInt ≤ 13) && decide (1 ≤ z1.toInt ∧ z1.toInt ≤ 8) && decide (1 ≤ z2.toInt ∧ z2.toInt ≤ 256)) = false) : Cl X 9 jX6_open [.ref (0), .int (z0), .int (z1), .int (z2)] M (some (.int (-2))) M := by
  refine Cl.of (ls := [some (.ref (0)), some (.int (z0)), some (.int (z1)), some (.int (z2)), none, none]) (by decide) rfl (Nat.le_of_ble_eq_true rfl) ?_
  refine x_iload_n dX6_open_0 rfl rfl ?_
  refine x_iconst (y := nI 3) dX6_open_1 rfl ?_
  refine x_icmp_lt (tgt := 34) dX6_open_2 (by decide) (fun h2 => ?_) (fun h2 => ?_)
  · refine x_bipush (y := -2) dX6_open_34 rfl ?_
    exact x_ireturn_eq dX6_open_36 rfl rfl
  · refine x_iload_n dX6_open_5 rfl rfl ?_
    refine x_bipush (y := nI 13) dX6_open_6 rfl ?_
    refine x_icmp_gt (tgt := 34) dX6_open_8 (by decide) (fun h8 => ?_) (fun h8 => ?_)
    · refine x_bipush (y := -2) dX6_open_34 rfl ?_
      exact x_ireturn_eq dX6_open_36 rfl rfl
    · refine x_iload_n dX6_open_11 rfl rfl ?_
      refine x_iconst (y := nI 1) dX6_open_12 rfl ?_
      refine x_icmp_lt (tgt := 34) dX6_open_13 (by decide) (fun h13 => ?_) (fun h13 => ?_)
      · refine x_bipush (y := -2) dX6_open_34 rfl ?_
        exact x_ireturn_eq dX6_open_36 rfl rfl
      · refine x_iload_n dX6_open_16 rfl rfl ?_
        refine x_bipush (y := nI 8) dX6_open_17 rfl ?_
        refine x_icmp_gt (tgt := 34) dX6_open_19 (by decide) (fun h19 => ?_) (fun h19 => ?_)
        · refine x_bipush (y := -2) dX6_open_34 rfl ?_
          exact x_ireturn_eq dX6_open_36 rfl rfl
        · refine x_iload_n dX6_open_22 rfl rfl ?_
          refine x_iconst (y := nI 1) dX6_open_23 rfl ?_
          refine x_icmp_lt (tgt := 34) dX6_open_24 (by decide) (fun h24 => ?_) (fun h24 => ?_)
          · refine x_bipush (y := -2) dX6_open_34 rfl ?_
            exact x_ireturn_eq dX6_open_36 rfl rfl
          · refine x_iload_n dX6_open_27 rfl rfl ?_
            refine x_sipush (y := nI 256) dX6_open_28 rfl ?_
            refine x_icmp_le (tgt := 37) dX6_open_31 (by decide) (fun h31 => ?_) (fun h31 => ?_)
            · exact absurd hbad (by rw [decide_eq_true ⟨Int32.le_iff_toInt_le.mp (Int32.not_lt.mp h2), Int32.le_iff_toInt_le.mp (Int32.not_lt.mp h8)⟩, decide_eq_true ⟨Int32.le_iff_toInt_le.mp (Int32.not_lt.mp h13), Int32.le_iff_toInt_le.mp (Int32.not_lt.mp h19)⟩, decide_eq_true ⟨Int32.le_iff_toInt_le.mp (Int32.not_lt.mp h24), Int32.le_iff_toInt_le.mp h31⟩]; decide)
            · refine x_bipush (y := -2) dX6_open_34 rfl ?_
              exact x_ireturn_eq dX6_open_36 rfl rfl
theorem c_openC {X : Ev} {M : Hp} {m t d : Nat} (h3 : 3 ≤ m) (h13 : m ≤ 13) (h1t : 1 ≤ t) (h8 : t ≤ 8) (h1d : 1 ≤ d) (hd : d ≤ 256) (hbig : 2 ^ m - 1 < 8 * d + ctail m t) : Cl X 9 jX6_open [.ref (0), .int (nI m), .int (nI t), .int (nI d)] M (some (.int (-2))) M := by
  have ht2 := two_le h3 h13
  have hct : ctail m t ≤ 208 := by
    have h := tll_le (m := m) (t := t) (by omega) (2 * t) 1 0
    have h2 : 2 * t * m ≤ 16 * 13 := Nat.mul_le_mul (by omega) h13
    unfold ctail; omega
  refine Cl.of (ls := [some (.ref (0)), some (.int (nI m)), some (.int (nI t)), some (.int (nI d)), none, none]) (by decide) rfl (Nat.le_of_ble_eq_true rfl) ?_
  refine x_iload_n dX6_open_0 rfl rfl ?_
  refine x_iconst (y := nI 3) dX6_open_1 rfl ?_
  refine x_icmp_lt (tgt := 34) dX6_open_2 (by decide) (fun h => False.elim (absurd ((nI_ltI (by omega) (by decide)).mp h) (by omega))) (fun _ => ?_)
  refine x_iload_n dX6_open_5 rfl rfl ?_
  refine x_bipush (y := nI 13) dX6_open_6 rfl ?_
  refine x_icmp_gt (tgt := 34) dX6_open_8 (by decide) (fun h => False.elim (absurd ((nI_ltI (by decide) (by omega)).mp h) (by omega))) (fun _ => ?_)
  refine x_iload_n dX6_open_11 rfl rfl ?_
  refine x_iconst (y := nI 1) dX6_open_12 rfl ?_
  refine x_icmp_lt (tgt := 34) dX6_open_13 (by decide) (fun h => False.elim (absurd ((nI_ltI (by omega) (by decide)).mp h) (by omega))) (fun _ => ?_)
  refine x_iload_n dX6_open_16 rfl rfl ?_
  refine x_bipush (y := nI 8) dX6_open_17 rfl ?_
  refine x_icmp_gt (tgt := 34) dX6_open_19 (by decide) (fun h => False.elim (absurd ((nI_ltI (by decide) (by omega)).mp h) (by omega))) (fun _ => ?_)
  refine x_iload_n dX6_open_22 rfl rfl ?_
  refine x_iconst (y := nI 1) dX6_open_23 rfl ?_
  refine x_icmp_lt (tgt := 34) dX6_open_24 (by decide) (fun h => False.elim (absurd ((nI_ltI (by omega) (by decide)).mp h) (by omega))) (fun _ => ?_)
  refine x_iload_n dX6_open_27 rfl rfl ?_
  refine x_sipush (y := nI 256) dX6_open_28 rfl ?_
  refine x_icmp_le (tgt := 37) dX6_open_31 (by decide) (fun _ => ?_) (fun h => False.elim (h ((nI_leI (by omega) (by decide)).mpr hd)))
  refine x_iload_n dX6_open_37 rfl rfl ?_
  refine x_iload_n dX6_open_38 rfl rfl ?_
  refine x_callS (as := [.int (nI m), .int (nI t)]) dX6_open_39 mk_X1_tailLength st_X1_tailLength ml_RX6_51 (by decide) rfl rfl (Nat.le_of_ble_eq_true rfl) (c_tailLength h3 h13 h8) ?_
  refine x_istore (ls' := [some (.ref (0)), some (.int (nI m)), some (.int (nI t)), some (.int (nI d)), some (.int (nI (ctail m t))), none]) dX6_open_42 (by decide) rfl rfl ?_
  refine x_bipush (y := nI 8) dX6_open_44 rfl ?_
  refine x_iload_n dX6_open_46 rfl rfl ?_
  refine x_imul dX6_open_47 ?_
  refine x_casti (y := nI (8 * d)) (pk_mul _ _) ?_
  refine x_iload dX6_open_48 rfl ?_
  refine x_iadd dX6_open_50 ?_
  refine x_casti (y := nI (8 * d + ctail m t)) (nI_add _ _) ?_
  refine x_iconst (y := nI 1) dX6_open_51 rfl ?_
  refine x_iload_n dX6_open_52 rfl rfl ?_
  refine x_ishl dX6_open_53 ?_
  refine x_casti (y := nI (2 ^ m)) (sl_m (by omega)) ?_
  refine x_iconst (y := nI 1) dX6_open_54 rfl ?_
  refine x_isub dX6_open_55 ?_
  refine x_casti (y := nI (2 ^ m - 1)) (pk_sub (by omega)) ?_
  refine x_icmp_le (tgt := 62) dX6_open_56 (by decide) (fun h => False.elim (absurd ((nI_leI (by omega) (by omega)).mp h) (by omega))) (fun _ => ?_)
  refine x_bipush (y := -2) dX6_open_59 rfl ?_
  exact x_ireturn_eq dX6_open_61 rfl rfl
theorem XL.code {op ra rr rl : Int32} {m t0 d0 r0 n0 : Nat} {pw lg cf : Nat → Int32} {gp : Nat → Bool} {hs ls on : Nat → Int64} {s : Ms} {pg : Nat → Pg} {uf tf : Nat → Int64} {M : Hp} (h : XL op ra rr rl m t0 d0 r0 n0 pw lg cf gp hs ls on s pg uf tf M) (t d : Nat) : XL op ra rr rl m t d (gen m t cf).2.1 (8 * d + (gen m t cf).2.1) pw lg (gen m t cf).2.2 (gen m t cf).1 (stpH hs (ldH (gen m t cf).1 (gen m t cf).2.1 (gen m t cf).2.1) (ldL (gen m t cf).1 (gen m t cf).2.1 (gen m t cf).2.1) 8) (stpL ls (ldH (gen m t cf).1 (gen m t cf).2.1 (gen m t cf).2.1) (ldL (gen m t cf).1 (gen m t cf).2.1 (gen m t cf).2.1) 8) (rfirst (fun _ => 0) (8 * d + (gen m t cf).2.1)) ((rgs (ldH (gen m t cf).1 (gen m t cf).2.1 (gen m t cf).2.1) (ldL (gen m t cf).1 (gen m t cf).2.1 (gen m t cf).2.1) 8), s.2) pg uf tf ((((((M.set (5) (.inr (0, [.ref (1), .ref (6), .ref (7), .ref (8), .ref (9), .ref (10), .int (nI t), .int (nI d), .int (nI (gen m t cf).2.1), .int (nI (8 * d + (gen m t cf).2.1)), .long ((rgs (ldH (gen m t cf).1 (gen m t cf).2.1 (gen m t cf).2.1) (ldL (gen m t cf).1 (gen m t cf).2.1 (gen m t cf).2.1) 8).1), .long ((rgs (ldH (gen m t cf).1 (gen m t cf).2.1 (gen m t cf).2.1) (ldL (gen m t cf).1 (gen m t cf).2.1 (gen m t cf).2.1) 8).2)]))).set (6) (.inl (0, 105, .inl (fun j => nI (((gen m t cf).1) j).toNat)))).set (4) (.inl (0, 14, .inl ((gen m t cf).2.2)))).set (11) (.inl (1, 34, .inr (.inl ((rfirst (fun _ => 0) (8 * d + (gen m t cf).2.1))))))).set (7) (.inl (1, 256, .inr (.inl ((stpH hs (ldH (gen m t cf).1 (gen m t cf).2.1 (gen m t cf).2.1) (ldL (gen m t cf).1 (gen m t cf).2.1 (gen m t cf).2.1) 8)))))).set (8) (.inl (1, 256, .inr (.inl ((stpL ls (ldH (gen m t cf).1 (gen m t cf).2.1 (gen m t cf).2.1) (ldL (gen m t cf).1 (gen m t cf).2.1 (gen m t cf).2.1) 8)))))) := by
  obtain ⟨h0, hf, hp, hq, hc, ho, hpl, hh, hl, hrs, hR, hon, hm, hw, hwf, hsy, hlc, hea, hsp, hlg, hwr, h21, hP, hBu, hbu, hTu, htu⟩ := h
  exact ⟨(gn (gn (gn (gn (gn (gn h0 (by decide)) (by decide)) (by decide)) (by decide)) (by decide)) (by decide)), (gn (gn (gn (gn (gn (gn hf (by decide)) (by decide)) (by decide)) (by decide)) (by decide)) (by decide)), (gn (gn (gn (gn (gn (gn hp (by decide)) (by decide)) (by decide)) (by decide)) (by decide)) (by decide)), (gn (gn (gn (gn (gn (gn hq (by decide)) (by decide)) (by decide)) (by decide)) (by decide)) (by decide)), (gn (gn (gn (gs (gn (gn hc (by decide)) (by decide))) (by decide)) (by decide)) (by decide)), (gn (gn (gn (gn (gn (gs ho) (by decide)) (by decide)) (by decide)) (by decide)) (by decide)), (gn (gn (gn (gn (gs (gn hpl (by decide))) (by decide)) (by decide)) (by decide)) (by decide)), (gn (gs (gn (gn (gn (gn hh (by decide)) (by decide)) (by decide)) (by decide))) (by decide)), (gs (gn (gn (gn (gn (gn hl (by decide)) (by decide)) (by decide)) (by decide)) (by decide))), (gn (gn (gn (gn (gn (gn hrs (by decide)) (by decide)) (by decide)) (by decide)) (by decide)) (by decide)), (gn (gn (gn (gn (gn (gn hR (by decide)) (by decide)) (by decide)) (by decide)) (by decide)) (by decide)), (gn (gn (gs (gn (gn (gn hon (by decide)) (by decide)) (by decide))) (by decide)) (by decide)), (gn (gn (gn (gn (gn (gn hm (by decide)) (by decide)) (by decide)) (by decide)) (by decide)) (by decide)), (gn (gn (gn (gn (gn (gn hw (by decide)) (by decide)) (by decide)) (by decide)) (by decide)) (by decide)), (gn (gn (gn (gn (gn (gn hwf (by decide)) (by decide)) (by decide)) (by decide)) (by decide)) (by decide)), (gn (gn (gn (gn (gn (gn hsy (by decide)) (by decide)) (by decide)) (by decide)) (by decide)) (by decide)), (gn (gn (gn (gn (gn (gn hlc (by decide)) (by decide)) (by decide)) (by decide)) (by decide)) (by decide)), (gn (gn (gn (gn (gn (gn hea (by decide)) (by decide)) (by decide)) (by decide)) (by decide)) (by decide)), (gn (gn (gn (gn (gn (gn hsp (by decide)) (by decide)) (by decide)) (by decide)) (by decide)) (by decide)), (gn (gn (gn (gn (gn (gn hlg (by decide)) (by decide)) (by decide)) (by decide)) (by decide)) (by decide)), (gn (gn (gn (gn (gn (gn hwr (by decide)) (by decide)) (by decide)) (by decide)) (by decide)) (by decide)), (gn (gn (gn (gn (gn (gn h21 (by decide)) (by decide)) (by decide)) (by decide)) (by decide)) (by decide)), fun j hj => ((((((hP j hj).lo (Or.inl (by omega))).lo (Or.inl (by omega))).lo (Or.inl (by omega))).lo (Or.inl (by omega))).lo (Or.inl (by omega))).lo (Or.inl (by omega)), (gn (gn (gn (gn (gn (gn hBu (by decide)) (by decide)) (by decide)) (by decide)) (by decide)) (by decide)), (gn (gn (gn (gn (gn (gn hbu (by decide)) (by decide)) (by decide)) (by decide)) (by decide)) (by decide)), (gn (gn (gn (gn (gn (gn hTu (by decide)) (by decide)) (by decide)) (by decide)) (by decide)) (by decide)), (gn (gn (gn (gn (gn (gn htu (by decide)) (by decide)) (by decide)) (by decide)) (by decide)) (by decide))⟩
theorem XL.field {op ra rr rl : Int32} {m0 t0 d0 r0 n0 : Nat} {pw lg cf : Nat → Int32} {gp : Nat → Bool} {hs ls on : Nat → Int64} {s : Ms} {pg : Nat → Pg} {uf tf : Nat → Int64} {M : Hp} (h : XL op ra rr rl m0 t0 d0 r0 n0 pw lg cf gp hs ls on s pg uf tf M) (m : Nat) : XL op ra rr rl m t0 d0 r0 n0 (tpw pw m (2 ^ m - 1)) (tlg lg m (2 ^ m - 1)) cf gp hs ls on s pg uf tf (((M.set (1) (.inr (1, [.ref (2), .ref (3), .ref (4), .int (nI m), .int (nI (2 ^ m - 1))]))).set (2) (.inl (0, 8192, .inl (tpw pw m (2 ^ m - 1))))).set (3) (.inl (0, 8192, .inl (tlg lg m (2 ^ m - 1))))) := by
  obtain ⟨h0, hf, hp, hq, hc, ho, hpl, hh, hl, hrs, hR, hon, hm, hw, hwf, hsy, hlc, hea, hsp, hlg, hwr, h21, hP, hBu, hbu, hTu, htu⟩ := h
  exact ⟨(gn (gn (gn h0 (by decide)) (by decide)) (by decide)), (gn (gn (gs hf) (by decide)) (by decide)), (gn (gs (gn hp (by decide))) (by decide)), (gs (gn (gn hq (by decide)) (by decide))), (gn (gn (gn hc (by decide)) (by decide)) (by decide)), (gn (gn (gn ho (by decide)) (by decide)) (by decide)), (gn (gn (gn hpl (by decide)) (by decide)) (by decide)), (gn (gn (gn hh (by decide)) (by decide)) (by decide)), (gn (gn (gn hl (by decide)) (by decide)) (by decide)), (gn (gn (gn hrs (by decide)) (by decide)) (by decide)), (gn (gn (gn hR (by decide)) (by decide)) (by decide)), (gn (gn (gn hon (by decide)) (by decide)) (by decide)), (gn (gn (gn hm (by decide)) (by decide)) (by decide)), (gn (gn (gn hw (by decide)) (by decide)) (by decide)), (gn (gn (gn hwf (by decide)) (by decide)) (by decide)), (gn (gn (gn hsy (by decide)) (by decide)) (by decide)), (gn (gn (gn hlc (by decide)) (by decide)) (by decide)), (gn (gn (gn hea (by decide)) (by decide)) (by decide)), (gn (gn (gn hsp (by decide)) (by decide)) (by decide)), (gn (gn (gn hlg (by decide)) (by decide)) (by decide)), (gn (gn (gn hwr (by decide)) (by decide)) (by decide)), (gn (gn (gn h21 (by decide)) (by decide)) (by decide)), fun j hj => (((hP j hj).lo (Or.inl (by omega))).lo (Or.inl (by omega))).lo (Or.inl (by omega)), (gn (gn (gn hBu (by decide)) (by decide)) (by decide)), (gn (gn (gn hbu (by decide)) (by decide)) (by decide)), (gn (gn (gn hTu (by decide)) (by decide)) (by decide)), (gn (gn (gn htu (by decide)) (by decide)) (by decide))⟩
/-- the pages before i are new -/
def rnw (pg : Nat → Pg) (on : Nat → Int64) (i : Nat) : Nat → Pg := fun j => if j < i then (nI 0, on, fun _ => 0, fun _ => 0) else pg j
theorem rnw_up {pg : Nat → Pg} {on : Nat → Int64} {i : Nat} : pgu (rnw pg on i) i (nI 0, on, fun _ => 0, fun _ => 0) = rnw pg on (i + 1) := by
  funext j
  unfold pgu rnw
  by_cases h : j = i
  · subst h; rw [if_pos rfl, if_pos (by omega)]
  · rw [if_neg h]
    by_cases h2 : j < i
    · rw [if_pos h2, if_pos (by omega)]
    · rw [if_neg h2, if_neg (by omega)]
theorem lp_renew {X : Ev} {M0 : Hp} {op ra rr rl : Int32} {m t d r n : Nat} {pw lg cf : Nat → Int32} {gp : Nat → Bool} {hs ls on : Nat → Int64} {s : Ms} {pg : Nat → Pg} {uf tf : Nat → Int64} {a1 a2 a3 a4 : Int32} : ∀ (zz i : Nat) (M : Hp), i + zz = 16 → XL op ra rr rl m t d r n pw lg cf gp hs ls on s (rnw pg on i) uf tf M → ∃ M1, (XL op ra rr rl m t d r n pw lg cf gp hs ls on s (rnw pg on 16) uf tf M1 ∧ Hi M M1) ∧ ∀ v M', G X 9 jX6_open M0 112 [some (.ref (0)), some (.int (a1)), some (.int (a2)), some (.int (a3)), some (.int (a4)), some (.int (nI 16))] [] M1 v M' → G X 9 jX6_open M0 82 [some (.ref (0)), some (.int (a1)), some (.int (a2)), some (.int (a3)), some (.int (a4)), some (.int (nI i))] [] M v M' := by
  intro zz
  induction zz with
  | zero =>
    intro i M hi hX
    have hi : i = 16 := by omega
    subst hi
    refine ⟨M, ⟨hX, Hi.rf M⟩, fun v M' k => ?_⟩
    refine x_iload dX6_open_82 rfl ?_
    refine x_bipush (y := nI 16) dX6_open_84 rfl ?_
    refine x_icmp_ge (tgt := 112) dX6_open_86 (by decide) (fun _ => ?_) (fun h => False.elim (h (nI_le (Nat.le_refl _) (by decide))))
    exact k
  | succ zz ih =>
    intro i M hi hX
    obtain ⟨h0, hf, hp, hq, hc, ho, hpl, hh, hl, hrs, hR, hon, hm, hw, hwf, hsy, hlc, hea, hsp, hlg, hwr, h21, hP, hBu, hbu, hTu, htu⟩ := id hX
    obtain ⟨g, hgi⟩ : ∃ g, 22 + 7 * i = g := ⟨_, rfl⟩
    have hi16 : i < 16 := by omega
    have hP_ := hP i hi16
    rw [hgi] at hP_
    have hX1 := hX.page (M' := ((((M.set (g + 4) (.inl (1, 34, .inr (.inl (fun _ => 0))))).set (g + 6) (.inl (1, 34, .inr (.inl (fun _ => 0))))).set (g + 2) (.inl (1, 34, .inr (.inl (on))))).set (g) (.inr (3, [.ref (g + 1), .ref (g + 3), .ref (g + 5), .int (nI 0)])))) hi16 (x := (nI 0, on, fun _ => 0, fun _ => 0)) (fun p hp => by rw [List.getElem?_set_ne (by omega), List.getElem?_set_ne (by omega), List.getElem?_set_ne (by omega), List.getElem?_set_ne (by omega)]) (by rw [hgi]; exact ⟨gs (gn (gn (gn hP_.1 (by omega)) (by omega)) (by omega)), gn (gn (gn (gn hP_.2.1 (by omega)) (by omega)) (by omega)) (by omega), gn (gs (gn (gn hP_.2.2.1 (by omega)) (by omega))) (by omega), gn (gn (gn (gn hP_.2.2.2.1 (by omega)) (by omega)) (by omega)) (by omega), gn (gn (gn (gs hP_.2.2.2.2.1) (by omega)) (by omega)) (by omega), gn (gn (gn (gn hP_.2.2.2.2.2.1 (by omega)) (by omega)) (by omega)) (by omega), gn (gn (gs (gn hP_.2.2.2.2.2.2 (by omega))) (by omega)) (by omega)⟩)
    rw [rnw_up] at hX1
    obtain ⟨M1, ⟨hX2, hH⟩, kk⟩ := ih (i + 1) _ (by omega) hX1
    refine ⟨M1, ⟨hX2, (((((Hi.rf M).st (by omega)).st (by omega)).st (by omega)).st (by omega)).tr hH⟩, fun v M' k => ?_⟩
    have hk := kk v M' k
    refine x_iload dX6_open_82 rfl ?_
    refine x_bipush (y := nI 16) dX6_open_84 rfl ?_
    refine x_icmp_ge (tgt := 112) dX6_open_86 (by decide) (fun h => False.elim (nI_ge (by omega : i < 16) (by decide) h)) (fun _ => ?_)
    refine x_aload_n dX6_open_89 rfl rfl ?_
    refine x_getf (ci := 5) (kf := 3) dX6_open_90 rfl uX6 (by decide) fl_RX6_36 h0 rfl ?_
    refine x_iload dX6_open_93 rfl ?_
    refine x_ald (j := i) dX6_open_95 h21 rfl (by omega) (by decide) (pgs_at hi16 hgi) ?_
    refine x_aload_n dX6_open_96 rfl rfl ?_
    refine x_getf (ci := 5) (kf := 1) dX6_open_97 rfl uX6 (by decide) fl_RX6_21 h0 rfl ?_
    refine x_getf (ci := 0) (kf := 5) dX6_open_100 rfl uX0 (by decide) fl_RX6_64 ho rfl ?_
    refine x_callV (ci := 3) (as := [.ref (10)]) dX6_open_103 mk_X4_renew in_X4_renew se_X4_renew ml_RX6_67 rfl hP_.1 (by decide) rfl rfl (Nat.le_of_ble_eq_true rfl) (c_renew hP_.1 hP_.2.1 hP_.2.2.1 hP_.2.2.2.1 hP_.2.2.2.2.1 hP_.2.2.2.2.2.1 hP_.2.2.2.2.2.2 hR hon (Or.inl (by omega))) ?_
    refine x_iinc (y := nI (i + 1)) (ls' := [some (.ref (0)), some (.int (a1)), some (.int (a2)), some (.int (a3)), some (.int (a4)), some (.int (nI (i + 1)))]) dX6_open_106 (by decide) rfl rfl (ii_add _ 1) rfl ?_
    refine x_goto (tgt := 82) dX6_open_109 (by decide) ?_
    exact hk
theorem XL.fin {op ra rr rl : Int32} {m t d r n : Nat} {pw lg cf : Nat → Int32} {gp : Nat → Bool} {hs ls on : Nat → Int64} {s : Ms} {pg : Nat → Pg} {uf tf : Nat → Int64} {M : Hp} (h : XL op ra rr rl m t d r n pw lg cf gp hs ls on s pg uf tf M) : XL 1 (nI 0) (nI 0) (nI 0) m t d r n pw lg cf gp hs ls on s pg (fun _ => 0) (fun _ => 0) (((M.set (135) (.inl (1, 34, .inr (.inl (fun _ => 0))))).set (137) (.inl (1, 34, .inr (.inl (fun _ => 0))))).set (0) (.inr (5, [.ref (1), .ref (5), .ref (12), .ref (21), .ref (134), .ref (136), .int (1), .int (nI 0), .int (nI 0), .int (nI 0)]))) := by
  obtain ⟨h0, hf, hp, hq, hc, ho, hpl, hh, hl, hrs, hR, hon, hm, hw, hwf, hsy, hlc, hea, hsp, hlg, hwr, h21, hP, hBu, hbu, hTu, htu⟩ := h
  exact ⟨(gs (gn (gn h0 (by decide)) (by decide))), (gn (gn (gn hf (by decide)) (by decide)) (by decide)), (gn (gn (gn hp (by decide)) (by decide)) (by decide)), (gn (gn (gn hq (by decide)) (by decide)) (by decide)), (gn (gn (gn hc (by decide)) (by decide)) (by decide)), (gn (gn (gn ho (by decide)) (by decide)) (by decide)), (gn (gn (gn hpl (by decide)) (by decide)) (by decide)), (gn (gn (gn hh (by decide)) (by decide)) (by decide)), (gn (gn (gn hl (by decide)) (by decide)) (by decide)), (gn (gn (gn hrs (by decide)) (by decide)) (by decide)), (gn (gn (gn hR (by decide)) (by decide)) (by decide)), (gn (gn (gn hon (by decide)) (by decide)) (by decide)), (gn (gn (gn hm (by decide)) (by decide)) (by decide)), (gn (gn (gn hw (by decide)) (by decide)) (by decide)), (gn (gn (gn hwf (by decide)) (by decide)) (by decide)), (gn (gn (gn hsy (by decide)) (by decide)) (by decide)), (gn (gn (gn hlc (by decide)) (by decide)) (by decide)), (gn (gn (gn hea (by decide)) (by decide)) (by decide)), (gn (gn (gn hsp (by decide)) (by decide)) (by decide)), (gn (gn (gn hlg (by decide)) (by decide)) (by decide)), (gn (gn (gn hwr (by decide)) (by decide)) (by decide)), (gn (gn (gn h21 (by decide)) (by decide)) (by decide)), fun j hj => (((hP j hj).lo (Or.inr (by omega))).lo (Or.inr (by omega))).lo (Or.inl (by omega)), (gn (gn (gn hBu (by decide)) (by decide)) (by decide)), (gn (gn (gs hbu) (by decide)) (by decide)), (gn (gn (gn hTu (by decide)) (by decide)) (by decide)), (gn (gs (gn htu (by decide))) (by decide))⟩
theorem c_openEnd {X : Ev} {M0 : Hp} {op ra rr rl : Int32} {m t d r n : Nat} {pw lg cf : Nat → Int32} {gp : Nat → Bool} {hs ls on : Nat → Int64} {s : Ms} {pg : Nat → Pg} {uf tf : Nat → Int64} {M : Hp} (h : XL op ra rr rl m t d r n pw lg cf gp hs ls on s pg uf tf M) {a1 a2 a3 a4 : Int32} : G X 9 jX6_open M0 112 [some (.ref (0)), some (.int (a1)), some (.int (a2)), some (.int (a3)), some (.int (a4)), some (.int (nI 16))] [] M (some (.int a4)) (((M.set (135) (.inl (1, 34, .inr (.inl (fun _ => 0))))).set (137) (.inl (1, 34, .inr (.inl (fun _ => 0))))).set (0) (.inr (5, [.ref (1), .ref (5), .ref (12), .ref (21), .ref (134), .ref (136), .int (1), .int (nI 0), .int (nI 0), .int (nI 0)]))) := by
  obtain ⟨h0, hf, hp, hq, hc, ho, hpl, hh, hl, hrs, hR, hon, hm, hw, hwf, hsy, hlc, hea, hsp, hlg, hwr, h21, hP, hBu, hbu, hTu, htu⟩ := h
  refine x_aload_n dX6_open_112 rfl rfl ?_
  refine x_getf (ci := 5) (kf := 4) dX6_open_113 rfl uX6 (by decide) fl_RX6_44 h0 rfl ?_
  refine x_callV (ci := 4) (as := []) dX6_open_116 mk_X5_clear in_X5_clear se_X5_clear ml_RX6_71 rfl hBu (by decide) rfl rfl (Nat.le_of_ble_eq_true rfl) (c_clear hBu hbu) ?_
  refine x_aload_n dX6_open_119 rfl rfl ?_
  refine x_getf (ci := 5) (kf := 5) dX6_open_120 rfl uX6 (by decide) fl_RX6_48 (gn h0 (by decide)) rfl ?_
  refine x_callV (ci := 4) (as := []) dX6_open_123 mk_X5_clear in_X5_clear se_X5_clear ml_RX6_71 rfl (gn hTu (by decide)) (by decide) rfl rfl (Nat.le_of_ble_eq_true rfl) (c_clear (gn hTu (by decide)) (gn htu (by decide))) ?_
  refine x_aload_n dX6_open_126 rfl rfl ?_
  refine x_iconst (y := nI 0) dX6_open_127 rfl ?_
  refine x_putf (ci := 5) (kf := 7) (ty0 := tyX6) (M1 := (((M.set (135) (.inl (1, 34, .inr (.inl (fun _ => 0))))).set (137) (.inl (1, 34, .inr (.inl (fun _ => 0))))).set (0) (.inr (5, [.ref (1), .ref (5), .ref (12), .ref (21), .ref (134), .ref (136), .int (op), .int (nI 0), .int (rr), .int (rl)])))) dX6_open_128 rfl uX6 tyX6_ok nmX6 (by decide) fl_RX6_74 rfl rfl rfl rfl (gn (gn h0 (by decide)) (by decide)) (Nat.le_of_ble_eq_true rfl) rfl ?_
  refine x_aload_n dX6_open_131 rfl rfl ?_
  refine x_iconst (y := nI 0) dX6_open_132 rfl ?_
  refine x_putf (ci := 5) (kf := 8) (ty0 := tyX6) (M1 := (((M.set (135) (.inl (1, 34, .inr (.inl (fun _ => 0))))).set (137) (.inl (1, 34, .inr (.inl (fun _ => 0))))).set (0) (.inr (5, [.ref (1), .ref (5), .ref (12), .ref (21), .ref (134), .ref (136), .int (op), .int (nI 0), .int (nI 0), .int (rl)])))) dX6_open_133 rfl uX6 tyX6_ok nmX6 (by decide) fl_RX6_78 rfl rfl rfl rfl (gs (gn (gn h0 (by decide)) (by decide))) (Nat.le_of_ble_eq_true rfl) (ss0) ?_
  refine x_aload_n dX6_open_136 rfl rfl ?_
  refine x_iconst (y := nI 0) dX6_open_137 rfl ?_
  refine x_putf (ci := 5) (kf := 9) (ty0 := tyX6) (M1 := (((M.set (135) (.inl (1, 34, .inr (.inl (fun _ => 0))))).set (137) (.inl (1, 34, .inr (.inl (fun _ => 0))))).set (0) (.inr (5, [.ref (1), .ref (5), .ref (12), .ref (21), .ref (134), .ref (136), .int (op), .int (nI 0), .int (nI 0), .int (nI 0)])))) dX6_open_138 rfl uX6 tyX6_ok nmX6 (by decide) fl_RX6_81 rfl rfl rfl rfl (gs (gn (gn h0 (by decide)) (by decide))) (Nat.le_of_ble_eq_true rfl) (ss0) ?_
  refine x_aload_n dX6_open_141 rfl rfl ?_
  refine x_iconst (y := nI 1) dX6_open_142 rfl ?_
  refine x_putf (ci := 5) (kf := 6) (ty0 := tyX6) (M1 := (((M.set (135) (.inl (1, 34, .inr (.inl (fun _ => 0))))).set (137) (.inl (1, 34, .inr (.inl (fun _ => 0))))).set (0) (.inr (5, [.ref (1), .ref (5), .ref (12), .ref (21), .ref (134), .ref (136), .int (nI 1), .int (nI 0), .int (nI 0), .int (nI 0)])))) dX6_open_143 rfl uX6 tyX6_ok nmX6 (by decide) fl_RX6_84 rfl rfl rfl rfl (gs (gn (gn h0 (by decide)) (by decide))) (Nat.le_of_ble_eq_true rfl) (ss0) ?_
  refine x_iload dX6_open_146 rfl ?_
  exact x_ireturn_eq dX6_open_148 rfl rfl
theorem c_openS {X : Ev} {op ra rr rl : Int32} {m t0 d0 r0 n0 : Nat} {pw lg cf : Nat → Int32} {gp : Nat → Bool} {hs ls on : Nat → Int64} {s : Ms} {pg : Nat → Pg} {uf tf : Nat → Int64} {M : Hp} (hX : XL op ra rr rl m t0 d0 r0 n0 pw lg cf gp hs ls on s pg uf tf M) (hF : FT pw lg m) {t d : Nat} (h3 : 3 ≤ m) (h13 : m ≤ 13) (h1t : 1 ≤ t) (h8 : t ≤ 8) (h1d : 1 ≤ d) (hd : d ≤ 256) (hbig : 8 * d + ctail m t ≤ 2 ^ m - 1) : ∃ M', Cl X 9 jX6_open [.ref (0), .int (nI m), .int (nI t), .int (nI d)] M (some (.int (nI (ctail m t)))) M' ∧ XL 1 (nI 0) (nI 0) (nI 0) m t d (gen m t cf).2.1 (8 * d + (gen m t cf).2.1) pw lg (gen m t cf).2.2 (gen m t cf).1 (stpH hs (ldH (gen m t cf).1 (gen m t cf).2.1 (gen m t cf).2.1) (ldL (gen m t cf).1 (gen m t cf).2.1 (gen m t cf).2.1) 8) (stpL ls (ldH (gen m t cf).1 (gen m t cf).2.1 (gen m t cf).2.1) (ldL (gen m t cf).1 (gen m t cf).2.1 (gen m t cf).2.1) 8) (rfirst (fun _ => 0) (8 * d + (gen m t cf).2.1)) ((rgs (ldH (gen m t cf).1 (gen m t cf).2.1 (gen m t cf).2.1) (ldL (gen m t cf).1 (gen m t cf).2.1 (gen m t cf).2.1) 8), s.2) (rnw pg (rfirst (fun _ => 0) (8 * d + (gen m t cf).2.1)) 16) (fun _ => 0) (fun _ => 0) M' ∧ Hi M M' := by
  have ht2 := two_le h3 h13
  have hct : ctail m t ≤ 208 := by
    have h := tll_le (m := m) (t := t) (by omega) (2 * t) 1 0
    have h2 : 2 * t * m ≤ 16 * 13 := Nat.mul_le_mul (by omega) h13
    unfold ctail; omega
  have hX1 := hX.code t d
  obtain ⟨M1, ⟨hX2, hH⟩, kk⟩ := lp_renew (X := X) (M0 := M) (a1 := nI m) (a2 := nI t) (a3 := nI d) (a4 := nI (ctail m t)) 16 0 _ rfl hX1
  refine ⟨_, ?_, hX2.fin, (((((((((((Hi.rf M).st (by decide)).st (by decide)).st (by decide)).st (by decide)).st (by decide)).st (by decide)).tr hH)).st (by decide)).st (by decide)).st (by decide)⟩
  have hk := kk _ _ (c_openEnd hX2)
  clear hX1 hX2 kk
  obtain ⟨h0, hf, hp, hq, hc, ho, hpl, hh, hl, hrs, hR, hon, hm, hw, hwf, hsy, hlc, hea, hsp, hlg, hwr, h21, hP, hBu, hbu, hTu, htu⟩ := hX
  refine Cl.of (ls := [some (.ref (0)), some (.int (nI m)), some (.int (nI t)), some (.int (nI d)), none, none]) (by decide) rfl (Nat.le_of_ble_eq_true rfl) ?_
  refine x_iload_n dX6_open_0 rfl rfl ?_
  refine x_iconst (y := nI 3) dX6_open_1 rfl ?_
  refine x_icmp_lt (tgt := 34) dX6_open_2 (by decide) (fun h => False.elim (absurd ((nI_ltI (by omega) (by decide)).mp h) (by omega))) (fun _ => ?_)
  refine x_iload_n dX6_open_5 rfl rfl ?_
  refine x_bipush (y := nI 13) dX6_open_6 rfl ?_
  refine x_icmp_gt (tgt := 34) dX6_open_8 (by decide) (fun h => False.elim (absurd ((nI_ltI (by decide) (by omega)).mp h) (by omega))) (fun _ => ?_)
  refine x_iload_n dX6_open_11 rfl rfl ?_
  refine x_iconst (y := nI 1) dX6_open_12 rfl ?_
  refine x_icmp_lt (tgt := 34) dX6_open_13 (by decide) (fun h => False.elim (absurd ((nI_ltI (by omega) (by decide)).mp h) (by omega))) (fun _ => ?_)
  refine x_iload_n dX6_open_16 rfl rfl ?_
  refine x_bipush (y := nI 8) dX6_open_17 rfl ?_
  refine x_icmp_gt (tgt := 34) dX6_open_19 (by decide) (fun h => False.elim (absurd ((nI_ltI (by decide) (by omega)).mp h) (by omega))) (fun _ => ?_)
  refine x_iload_n dX6_open_22 rfl rfl ?_
  refine x_iconst (y := nI 1) dX6_open_23 rfl ?_
  refine x_icmp_lt (tgt := 34) dX6_open_24 (by decide) (fun h => False.elim (absurd ((nI_ltI (by omega) (by decide)).mp h) (by omega))) (fun _ => ?_)
  refine x_iload_n dX6_open_27 rfl rfl ?_
  refine x_sipush (y := nI 256) dX6_open_28 rfl ?_
  refine x_icmp_le (tgt := 37) dX6_open_31 (by decide) (fun _ => ?_) (fun h => False.elim (h ((nI_leI (by omega) (by decide)).mpr hd)))
  refine x_iload_n dX6_open_37 rfl rfl ?_
  refine x_iload_n dX6_open_38 rfl rfl ?_
  refine x_callS (as := [.int (nI m), .int (nI t)]) dX6_open_39 mk_X1_tailLength st_X1_tailLength ml_RX6_51 (by decide) rfl rfl (Nat.le_of_ble_eq_true rfl) (c_tailLength h3 h13 h8) ?_
  refine x_istore (ls' := [some (.ref (0)), some (.int (nI m)), some (.int (nI t)), some (.int (nI d)), some (.int (nI (ctail m t))), none]) dX6_open_42 (by decide) rfl rfl ?_
  refine x_bipush (y := nI 8) dX6_open_44 rfl ?_
  refine x_iload_n dX6_open_46 rfl rfl ?_
  refine x_imul dX6_open_47 ?_
  refine x_casti (y := nI (8 * d)) (pk_mul _ _) ?_
  refine x_iload dX6_open_48 rfl ?_
  refine x_iadd dX6_open_50 ?_
  refine x_casti (y := nI (8 * d + ctail m t)) (nI_add _ _) ?_
  refine x_iconst (y := nI 1) dX6_open_51 rfl ?_
  refine x_iload_n dX6_open_52 rfl rfl ?_
  refine x_ishl dX6_open_53 ?_
  refine x_casti (y := nI (2 ^ m)) (sl_m (by omega)) ?_
  refine x_iconst (y := nI 1) dX6_open_54 rfl ?_
  refine x_isub dX6_open_55 ?_
  refine x_casti (y := nI (2 ^ m - 1)) (pk_sub (by omega)) ?_
  refine x_icmp_le (tgt := 62) dX6_open_56 (by decide) (fun _ => ?_) (fun h => False.elim (h ((nI_leI (by omega) (by omega)).mpr hbig)))
  refine x_aload_n dX6_open_62 rfl rfl ?_
  refine x_getf (ci := 5) (kf := 0) dX6_open_63 rfl uX6 (by decide) fl_RX6_12 h0 rfl ?_
  refine x_iload_n dX6_open_66 rfl rfl ?_
  refine x_callV (ci := 1) (as := [.int (nI m)]) dX6_open_67 mk_X2_become in_X2_become se_X2_become ml_RX6_57 rfl hf (by decide) rfl rfl (Nat.le_of_ble_eq_true rfl) (c_becomeS hf) ?_
  refine x_aload_n dX6_open_70 rfl rfl ?_
  refine x_getf (ci := 5) (kf := 1) dX6_open_71 rfl uX6 (by decide) fl_RX6_21 h0 rfl ?_
  refine x_iload_n dX6_open_74 rfl rfl ?_
  refine x_iload_n dX6_open_75 rfl rfl ?_
  refine x_callV (ci := 0) (as := [.int (nI t), .int (nI d)]) dX6_open_76 mk_X0_become in_X0_become se_X0_become ml_RX6_61 rfl ho (by decide) rfl rfl (Nat.le_of_ble_eq_true rfl) (c_codeBecome ho hpl hf hp hq hF hc hh hl hR hon h8 hd) ?_
  refine x_iconst (y := nI 0) dX6_open_79 rfl ?_
  refine x_istore (ls' := [some (.ref (0)), some (.int (nI m)), some (.int (nI t)), some (.int (nI d)), some (.int (nI (ctail m t))), some (.int (nI 0))]) dX6_open_80 (by decide) rfl rfl ?_
  exact hk
theorem c_openM {X : Ev} {op ra rr rl : Int32} {m0 t0 d0 r0 n0 : Nat} {pw lg cf : Nat → Int32} {gp : Nat → Bool} {hs ls on : Nat → Int64} {s : Ms} {pg : Nat → Pg} {uf tf : Nat → Int64} {M : Hp} (hX : XL op ra rr rl m0 t0 d0 r0 n0 pw lg cf gp hs ls on s pg uf tf M) {m t d : Nat} (hne : ¬ nI m = nI m0) (h3 : 3 ≤ m) (h13 : m ≤ 13) (h1t : 1 ≤ t) (h8 : t ≤ 8) (h1d : 1 ≤ d) (hd : d ≤ 256) (hbig : 8 * d + ctail m t ≤ 2 ^ m - 1) : ∃ M', Cl X 9 jX6_open [.ref (0), .int (nI m), .int (nI t), .int (nI d)] M (some (.int (nI (ctail m t)))) M' ∧ XL 1 (nI 0) (nI 0) (nI 0) m t d (gen m t cf).2.1 (8 * d + (gen m t cf).2.1) (tpw pw m (2 ^ m - 1)) (tlg lg m (2 ^ m - 1)) (gen m t cf).2.2 (gen m t cf).1 (stpH hs (ldH (gen m t cf).1 (gen m t cf).2.1 (gen m t cf).2.1) (ldL (gen m t cf).1 (gen m t cf).2.1 (gen m t cf).2.1) 8) (stpL ls (ldH (gen m t cf).1 (gen m t cf).2.1 (gen m t cf).2.1) (ldL (gen m t cf).1 (gen m t cf).2.1 (gen m t cf).2.1) 8) (rfirst (fun _ => 0) (8 * d + (gen m t cf).2.1)) ((rgs (ldH (gen m t cf).1 (gen m t cf).2.1 (gen m t cf).2.1) (ldL (gen m t cf).1 (gen m t cf).2.1 (gen m t cf).2.1) 8), s.2) (rnw pg (rfirst (fun _ => 0) (8 * d + (gen m t cf).2.1)) 16) (fun _ => 0) (fun _ => 0) M' ∧ Hi M M' := by
  have ht2 := two_le h3 h13
  have hct : ctail m t ≤ 208 := by
    have h := tll_le (m := m) (t := t) (by omega) (2 * t) 1 0
    have h2 : 2 * t * m ≤ 16 * 13 := Nat.mul_le_mul (by omega) h13
    unfold ctail; omega
  have hF : FT (tpw pw m (2 ^ m - 1)) (tlg lg m (2 ^ m - 1)) m := FT.made h3 h13
  have hX0 := hX.field m
  have hX1 := hX0.code t d
  obtain ⟨M1, ⟨hX2, hH⟩, kk⟩ := lp_renew (X := X) (M0 := M) (a1 := nI m) (a2 := nI t) (a3 := nI d) (a4 := nI (ctail m t)) 16 0 _ rfl hX1
  refine ⟨_, ?_, hX2.fin, (((((((((((((Hi.rf M).st (by decide)).st (by decide)).st (by decide)).st (by decide)).st (by decide)).st (by decide)).st (by decide)).st (by decide)).st (by decide)).tr hH).st (by decide)).st (by decide)).st (by decide)⟩
  have hk := kk _ _ (c_openEnd hX2)
  clear hX1 hX2 kk hX0
  obtain ⟨h0, hf, hp, hq, hc, ho, hpl, hh, hl, hrs, hR, hon, hm, hw, hwf, hsy, hlc, hea, hsp, hlg, hwr, h21, hP, hBu, hbu, hTu, htu⟩ := hX
  refine Cl.of (ls := [some (.ref (0)), some (.int (nI m)), some (.int (nI t)), some (.int (nI d)), none, none]) (by decide) rfl (Nat.le_of_ble_eq_true rfl) ?_
  refine x_iload_n dX6_open_0 rfl rfl ?_
  refine x_iconst (y := nI 3) dX6_open_1 rfl ?_
  refine x_icmp_lt (tgt := 34) dX6_open_2 (by decide) (fun h => False.elim (absurd ((nI_ltI (by omega) (by decide)).mp h) (by omega))) (fun _ => ?_)
  refine x_iload_n dX6_open_5 rfl rfl ?_
  refine x_bipush (y := nI 13) dX6_open_6 rfl ?_
  refine x_icmp_gt (tgt := 34) dX6_open_8 (by decide) (fun h => False.elim (absurd ((nI_ltI (by decide) (by omega)).mp h) (by omega))) (fun _ => ?_)
  refine x_iload_n dX6_open_11 rfl rfl ?_
  refine x_iconst (y := nI 1) dX6_open_12 rfl ?_
  refine x_icmp_lt (tgt := 34) dX6_open_13 (by decide) (fun h => False.elim (absurd ((nI_ltI (by omega) (by decide)).mp h) (by omega))) (fun _ => ?_)
  refine x_iload_n dX6_open_16 rfl rfl ?_
  refine x_bipush (y := nI 8) dX6_open_17 rfl ?_
  refine x_icmp_gt (tgt := 34) dX6_open_19 (by decide) (fun h => False.elim (absurd ((nI_ltI (by decide) (by omega)).mp h) (by omega))) (fun _ => ?_)
  refine x_iload_n dX6_open_22 rfl rfl ?_
  refine x_iconst (y := nI 1) dX6_open_23 rfl ?_
  refine x_icmp_lt (tgt := 34) dX6_open_24 (by decide) (fun h => False.elim (absurd ((nI_ltI (by omega) (by decide)).mp h) (by omega))) (fun _ => ?_)
  refine x_iload_n dX6_open_27 rfl rfl ?_
  refine x_sipush (y := nI 256) dX6_open_28 rfl ?_
  refine x_icmp_le (tgt := 37) dX6_open_31 (by decide) (fun _ => ?_) (fun h => False.elim (h ((nI_leI (by omega) (by decide)).mpr hd)))
  refine x_iload_n dX6_open_37 rfl rfl ?_
  refine x_iload_n dX6_open_38 rfl rfl ?_
  refine x_callS (as := [.int (nI m), .int (nI t)]) dX6_open_39 mk_X1_tailLength st_X1_tailLength ml_RX6_51 (by decide) rfl rfl (Nat.le_of_ble_eq_true rfl) (c_tailLength h3 h13 h8) ?_
  refine x_istore (ls' := [some (.ref (0)), some (.int (nI m)), some (.int (nI t)), some (.int (nI d)), some (.int (nI (ctail m t))), none]) dX6_open_42 (by decide) rfl rfl ?_
  refine x_bipush (y := nI 8) dX6_open_44 rfl ?_
  refine x_iload_n dX6_open_46 rfl rfl ?_
  refine x_imul dX6_open_47 ?_
  refine x_casti (y := nI (8 * d)) (pk_mul _ _) ?_
  refine x_iload dX6_open_48 rfl ?_
  refine x_iadd dX6_open_50 ?_
  refine x_casti (y := nI (8 * d + ctail m t)) (nI_add _ _) ?_
  refine x_iconst (y := nI 1) dX6_open_51 rfl ?_
  refine x_iload_n dX6_open_52 rfl rfl ?_
  refine x_ishl dX6_open_53 ?_
  refine x_casti (y := nI (2 ^ m)) (sl_m (by omega)) ?_
  refine x_iconst (y := nI 1) dX6_open_54 rfl ?_
  refine x_isub dX6_open_55 ?_
  refine x_casti (y := nI (2 ^ m - 1)) (pk_sub (by omega)) ?_
  refine x_icmp_le (tgt := 62) dX6_open_56 (by decide) (fun _ => ?_) (fun h => False.elim (h ((nI_leI (by omega) (by omega)).mpr hbig)))
  refine x_aload_n dX6_open_62 rfl rfl ?_
  refine x_getf (ci := 5) (kf := 0) dX6_open_63 rfl uX6 (by decide) fl_RX6_12 h0 rfl ?_
  refine x_iload_n dX6_open_66 rfl rfl ?_
  refine x_callV (ci := 1) (as := [.int (nI m)]) dX6_open_67 mk_X2_become in_X2_become se_X2_become ml_RX6_57 rfl hf (by decide) rfl rfl (Nat.le_of_ble_eq_true rfl) (c_becomeM hf hp hq h3 h13 (by decide) (by decide) (by decide) hne) ?_
  refine x_aload_n dX6_open_70 rfl rfl ?_
  refine x_getf (ci := 5) (kf := 1) dX6_open_71 rfl uX6 (by decide) fl_RX6_21 (gn (gn (gn h0 (by decide)) (by decide)) (by decide)) rfl ?_
  refine x_iload_n dX6_open_74 rfl rfl ?_
  refine x_iload_n dX6_open_75 rfl rfl ?_
  refine x_callV (ci := 0) (as := [.int (nI t), .int (nI d)]) dX6_open_76 mk_X0_become in_X0_become se_X0_become ml_RX6_61 rfl (gn (gn (gn ho (by decide)) (by decide)) (by decide)) (by decide) rfl rfl (Nat.le_of_ble_eq_true rfl) (c_codeBecome (gn (gn (gn ho (by decide)) (by decide)) (by decide)) (gn (gn (gn hpl (by decide)) (by decide)) (by decide)) (gn (gn (gs hf) (by decide)) (by decide)) (gn (gs (gn hp (by decide))) (by decide)) (gs (gn (gn hq (by decide)) (by decide))) hF (gn (gn (gn hc (by decide)) (by decide)) (by decide)) (gn (gn (gn hh (by decide)) (by decide)) (by decide)) (gn (gn (gn hl (by decide)) (by decide)) (by decide)) (gn (gn (gn hR (by decide)) (by decide)) (by decide)) (gn (gn (gn hon (by decide)) (by decide)) (by decide)) h8 hd) ?_
  refine x_iconst (y := nI 0) dX6_open_79 rfl ?_
  refine x_istore (ls' := [some (.ref (0)), some (.int (nI m)), some (.int (nI t)), some (.int (nI d)), some (.int (nI (ctail m t))), some (.int (nI 0))]) dX6_open_80 (by decide) rfl rfl ?_
  exact hk
