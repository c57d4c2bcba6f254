/-! PAGEMENDER: read, turned, syndrome, rewrite, copy, told, about -/
theorem nI_nm4 {l : Nat} (h : l < 2 ^ 31) : ¬ nI l = -4 := fun z => by
  have := congrArg Int32.toInt z
  rw [nI_toInt h] at this
  exact absurd this (by show ¬ (l : Int) = -4; omega)
theorem nI_s0 {o : Nat} (h : o < 2 ^ 30) : ¬ nI (o + 1) = 0 := fun z => by
  have := congrArg Int32.toInt z
  rw [nI_toInt (by omega)] at this
  exact absurd this (by show ¬ ((o + 1 : Nat) : Int) = 0; omega)
theorem rb1 {b : Bool} (h : nI b.toNat = nI 1) : b = true := by cases b with | true => rfl | false => exact absurd h (by decide)
theorem rb0 {b : Bool} (h : ¬ nI b.toNat = nI 1) : ¬ b = true := by cases b with | false => decide | true => exact absurd rfl h
theorem c_readL {X : Ev} {M : Hp} {t d r n : Nat} {s : Ms} {g i : Nat} (hi16 : i < 16) (hgi : 22 + 7 * i = g) {ra rr rl : Int32} (h0 : M[0]? = some (.inr (5, [.ref (1), .ref (5), .ref (12), .ref (21), .ref (134), .ref (136), .int (1), .int (ra), .int (rr), .int (rl)])))  (h21 : M[21]? = some (.inl (3, 16, .inr (.inr (.inr (.inr (pgs 16))))))) {wr : Int32} (hg : M[g]? = some (.inr (3, [.ref (g + 1), .ref (g + 3), .ref (g + 5), .int (wr)])))  (hB : M[g + 1]? = some (.inr (4, [.ref (g + 2)]))) {bf : Nat → Int64} (hb : M[g + 2]? = some (.inl (1, 34, .inr (.inl (bf)))))  (hS : M[g + 3]? = some (.inr (4, [.ref (g + 4)]))) {sf : Nat → Int64} (hs_ : M[g + 4]? = some (.inl (1, 34, .inr (.inl (sf)))))  (hK : M[g + 5]? = some (.inr (4, [.ref (g + 6)]))) {kf : Nat → Int64} (hk : M[g + 6]? = some (.inl (1, 34, .inr (.inl (kf))))) {m : Nat} (hf : M[1]? = some (.inr (1, [.ref (2), .ref (3), .ref (4), .int (nI m), .int (nI (2 ^ m - 1))]))) {pw : Nat → Int32} (hp : M[2]? = some (.inl (0, 8192, .inl (pw)))) {lg : Nat → Int32} (hq : M[3]? = some (.inl (0, 8192, .inl (lg)))) {hs : Nat → Int64} (hh : M[7]? = some (.inl (1, 256, .inr (.inl (hs))))) {ls : Nat → Int64} (hl : M[8]? = some (.inl (1, 256, .inr (.inl (ls)))))  (hm : M[12]? = some (.inr (2, [.ref (1), .ref (5), .ref (13), .ref (15), .ref (16), .ref (17), .ref (18), .ref (19), .ref (20)])))  (hw : M[13]? = some (.inr (4, [.ref (14)])))  (ho : M[5]? = some (.inr (0, [.ref (1), .ref (6), .ref (7), .ref (8), .ref (9), .ref (10), .int (nI t), .int (nI d), .int (nI r), .int (nI n), .long (s.1.1), .long (s.1.2)])))  (hrs : M[9]? = some (.inl (0, 104, .inl (s.2.1))))  (hwf : M[14]? = some (.inl (1, 34, .inr (.inl (s.2.2.1)))))  (hsy : M[15]? = some (.inl (0, 17, .inl (fun j => nI ((s.2.2.2.1) j)))))  (hlc : M[16]? = some (.inl (0, 17, .inl (fun j => nI ((s.2.2.2.2.1) j)))))  (hea : M[17]? = some (.inl (0, 17, .inl (fun j => nI ((s.2.2.2.2.2.1) j)))))  (hsp : M[18]? = some (.inl (0, 17, .inl (fun j => nI ((s.2.2.2.2.2.2.1) j)))))  (hlg : M[19]? = some (.inl (0, 9, .inl (fun j => lgv ((s.2.2.2.2.2.2.2.1) j)))))  (hwr : M[20]? = some (.inl (0, 8, .inl (fun j => nI ((s.2.2.2.2.2.2.2.2) j))))) (hF : FT pw lg m) (hm4 : 4 ≤ m) (ht8 : t ≤ 8) (hd8 : d ≤ 256) (hr8 : r ≤ 104) (hn8 : n = 8 * d + r) (hn1 : 1 ≤ n) (hmd : (mmd ((m, t, d, r, n, hs, ls) : Mp) s bf kf).2 = none) : Cl X 9 jX6_read [.ref (0), .int (nI i)] M (some (.int (-4))) ((((((((((M.set (5) (.inr (0, [.ref (1), .ref (6), .ref (7), .ref (8), .ref (9), .ref (10), .int (nI t), .int (nI d), .int (nI r), .int (nI n), .long ((mmd ((m, t, d, r, n, hs, ls) : Mp) s bf kf).1.1.1), .long ((mmd ((m, t, d, r, n, hs, ls) : Mp) s bf kf).1.1.2)]))).set (9) (.inl (0, 104, .inl ((mmd ((m, t, d, r, n, hs, ls) : Mp) s bf kf).1.2.1)))).set (14) (.inl (1, 34, .inr (.inl ((mmd ((m, t, d, r, n, hs, ls) : Mp) s bf kf).1.2.2.1))))).set (15) (.inl (0, 17, .inl (fun j => nI (((mmd ((m, t, d, r, n, hs, ls) : Mp) s bf kf).1.2.2.2.1) j))))).set (16) (.inl (0, 17, .inl (fun j => nI (((mmd ((m, t, d, r, n, hs, ls) : Mp) s bf kf).1.2.2.2.2.1) j))))).set (17) (.inl (0, 17, .inl (fun j => nI (((mmd ((m, t, d, r, n, hs, ls) : Mp) s bf kf).1.2.2.2.2.2.1) j))))).set (18) (.inl (0, 17, .inl (fun j => nI (((mmd ((m, t, d, r, n, hs, ls) : Mp) s bf kf).1.2.2.2.2.2.2.1) j))))).set (19) (.inl (0, 9, .inl (fun j => lgv (((mmd ((m, t, d, r, n, hs, ls) : Mp) s bf kf).1.2.2.2.2.2.2.2.1) j))))).set (20) (.inl (0, 8, .inl (fun j => nI (((mmd ((m, t, d, r, n, hs, ls) : Mp) s bf kf).1.2.2.2.2.2.2.2.2) j))))).set (0) (.inr (5, [.ref (1), .ref (5), .ref (12), .ref (21), .ref (134), .ref (136), .int (1), .int (ra), .int (rr), .int (rl + nI 1)]))) := by
  refine Cl.of (ls := [some (.ref (0)), some (.int (nI i)), none]) (by decide) rfl (Nat.le_of_ble_eq_true rfl) ?_
  refine x_aload_n dX6_read_0 rfl rfl ?_
  refine x_getf (ci := 5) (kf := 6) dX6_read_1 rfl uX6 (by decide) fl_RX6_84 h0 rfl ?_
  refine x_if_ne (tgt := 10) dX6_read_4 (by decide) (fun _ => ?_) (fun h => False.elim (absurd h (by decide)))
  refine x_aload_n dX6_read_10 rfl rfl ?_
  refine x_iload_n dX6_read_11 rfl rfl ?_
  refine x_callV (ci := 5) (as := [.int (nI i)]) dX6_read_12 mk_X6_hasPage in_X6_hasPage se_X6_hasPage ml_RX6_143 rfl h0 (by decide) rfl rfl (Nat.le_of_ble_eq_true rfl) (c_hasPage) ?_
  refine x_if_ne (tgt := 21) dX6_read_15 (by decide) (fun _ => ?_) (fun h => False.elim (ite_ne (inl_n hi16 (by decide)) h))
  refine x_aload_n dX6_read_21 rfl rfl ?_
  refine x_getf (ci := 5) (kf := 2) dX6_read_22 rfl uX6 (by decide) fl_RX6_30 h0 rfl ?_
  refine x_aload_n dX6_read_25 rfl rfl ?_
  refine x_getf (ci := 5) (kf := 3) dX6_read_26 rfl uX6 (by decide) fl_RX6_36 h0 rfl ?_
  refine x_iload_n dX6_read_29 rfl rfl ?_
  refine x_ald (j := i) dX6_read_30 h21 rfl (by omega) (by decide) (pgs_at hi16 hgi) ?_
  refine x_callV (ci := 2) (as := [.ref (g)]) dX6_read_31 mk_X3_mend in_X3_mend se_X3_mend ml_RX6_180 rfl hm (by decide) rfl rfl (Nat.le_of_ble_eq_true rfl) (c_mend (s := s) hm hf hp hq hF hm4 ht8 hd8 hr8 hn8 hn1 hh hl hw ho hrs hwf hsy hlc hea hsp hlg hwr (by omega) hg hB hb hK hk) ?_
  refine x_casti (y := -4) (by rw [hmd]; rfl) ?_
  refine x_istore_n (ls' := [some (.ref (0)), some (.int (nI i)), some (.int (-4))]) dX6_read_34 rfl (by decide) rfl rfl ?_
  refine x_iload_n dX6_read_35 rfl rfl ?_
  refine x_bipush (y := -4) dX6_read_36 rfl ?_
  refine x_icmp_ne (tgt := 54) dX6_read_38 (by decide) (fun h => False.elim (h rfl)) (fun _ => ?_)
  refine x_aload_n dX6_read_41 rfl rfl ?_
  refine x_dup dX6_read_42 rfl ?_
  refine x_getf (ci := 5) (kf := 9) dX6_read_43 rfl uX6 (by decide) fl_RX6_81 (gn (gn (gn (gn (gn (gn (gn (gn (gn h0 (by decide)) (by decide)) (by decide)) (by decide)) (by decide)) (by decide)) (by decide)) (by decide)) (by decide)) rfl ?_
  refine x_iconst (y := nI 1) dX6_read_46 rfl ?_
  refine x_iadd dX6_read_47 ?_
  refine x_putf (ci := 5) (kf := 9) (ty0 := tyX6) (M1 := ((((((((((M.set (5) (.inr (0, [.ref (1), .ref (6), .ref (7), .ref (8), .ref (9), .ref (10), .int (nI t), .int (nI d), .int (nI r), .int (nI n), .long ((mmd ((m, t, d, r, n, hs, ls) : Mp) s bf kf).1.1.1), .long ((mmd ((m, t, d, r, n, hs, ls) : Mp) s bf kf).1.1.2)]))).set (9) (.inl (0, 104, .inl ((mmd ((m, t, d, r, n, hs, ls) : Mp) s bf kf).1.2.1)))).set (14) (.inl (1, 34, .inr (.inl ((mmd ((m, t, d, r, n, hs, ls) : Mp) s bf kf).1.2.2.1))))).set (15) (.inl (0, 17, .inl (fun j => nI (((mmd ((m, t, d, r, n, hs, ls) : Mp) s bf kf).1.2.2.2.1) j))))).set (16) (.inl (0, 17, .inl (fun j => nI (((mmd ((m, t, d, r, n, hs, ls) : Mp) s bf kf).1.2.2.2.2.1) j))))).set (17) (.inl (0, 17, .inl (fun j => nI (((mmd ((m, t, d, r, n, hs, ls) : Mp) s bf kf).1.2.2.2.2.2.1) j))))).set (18) (.inl (0, 17, .inl (fun j => nI (((mmd ((m, t, d, r, n, hs, ls) : Mp) s bf kf).1.2.2.2.2.2.2.1) j))))).set (19) (.inl (0, 9, .inl (fun j => lgv (((mmd ((m, t, d, r, n, hs, ls) : Mp) s bf kf).1.2.2.2.2.2.2.2.1) j))))).set (20) (.inl (0, 8, .inl (fun j => nI (((mmd ((m, t, d, r, n, hs, ls) : Mp) s bf kf).1.2.2.2.2.2.2.2.2) j))))).set (0) (.inr (5, [.ref (1), .ref (5), .ref (12), .ref (21), .ref (134), .ref (136), .int (1), .int (ra), .int (rr), .int ((rl) + (nI 1))])))) dX6_read_48 rfl uX6 tyX6_ok nmX6 (by decide) fl_RX6_81 rfl rfl rfl rfl (gn (gn (gn (gn (gn (gn (gn (gn (gn h0 (by decide)) (by decide)) (by decide)) (by decide)) (by decide)) (by decide)) (by decide)) (by decide)) (by decide)) (Nat.le_of_ble_eq_true rfl) rfl ?_
  refine x_bipush (y := -4) dX6_read_51 rfl ?_
  exact x_ireturn_eq dX6_read_53 rfl rfl
theorem c_readR {X : Ev} {M : Hp} {t d r n : Nat} {s : Ms} {g i : Nat} (hi16 : i < 16) (hgi : 22 + 7 * i = g) {ra rr rl : Int32} (h0 : M[0]? = some (.inr (5, [.ref (1), .ref (5), .ref (12), .ref (21), .ref (134), .ref (136), .int (1), .int (ra), .int (rr), .int (rl)])))  (h21 : M[21]? = some (.inl (3, 16, .inr (.inr (.inr (.inr (pgs 16))))))) {wr : Int32} (hg : M[g]? = some (.inr (3, [.ref (g + 1), .ref (g + 3), .ref (g + 5), .int (wr)])))  (hB : M[g + 1]? = some (.inr (4, [.ref (g + 2)]))) {bf : Nat → Int64} (hb : M[g + 2]? = some (.inl (1, 34, .inr (.inl (bf)))))  (hS : M[g + 3]? = some (.inr (4, [.ref (g + 4)]))) {sf : Nat → Int64} (hs_ : M[g + 4]? = some (.inl (1, 34, .inr (.inl (sf)))))  (hK : M[g + 5]? = some (.inr (4, [.ref (g + 6)]))) {kf : Nat → Int64} (hk : M[g + 6]? = some (.inl (1, 34, .inr (.inl (kf))))) {m : Nat} (hf : M[1]? = some (.inr (1, [.ref (2), .ref (3), .ref (4), .int (nI m), .int (nI (2 ^ m - 1))]))) {pw : Nat → Int32} (hp : M[2]? = some (.inl (0, 8192, .inl (pw)))) {lg : Nat → Int32} (hq : M[3]? = some (.inl (0, 8192, .inl (lg)))) {hs : Nat → Int64} (hh : M[7]? = some (.inl (1, 256, .inr (.inl (hs))))) {ls : Nat → Int64} (hl : M[8]? = some (.inl (1, 256, .inr (.inl (ls)))))  (hm : M[12]? = some (.inr (2, [.ref (1), .ref (5), .ref (13), .ref (15), .ref (16), .ref (17), .ref (18), .ref (19), .ref (20)])))  (hw : M[13]? = some (.inr (4, [.ref (14)])))  (ho : M[5]? = some (.inr (0, [.ref (1), .ref (6), .ref (7), .ref (8), .ref (9), .ref (10), .int (nI t), .int (nI d), .int (nI r), .int (nI n), .long (s.1.1), .long (s.1.2)])))  (hrs : M[9]? = some (.inl (0, 104, .inl (s.2.1))))  (hwf : M[14]? = some (.inl (1, 34, .inr (.inl (s.2.2.1)))))  (hsy : M[15]? = some (.inl (0, 17, .inl (fun j => nI ((s.2.2.2.1) j)))))  (hlc : M[16]? = some (.inl (0, 17, .inl (fun j => nI ((s.2.2.2.2.1) j)))))  (hea : M[17]? = some (.inl (0, 17, .inl (fun j => nI ((s.2.2.2.2.2.1) j)))))  (hsp : M[18]? = some (.inl (0, 17, .inl (fun j => nI ((s.2.2.2.2.2.2.1) j)))))  (hlg : M[19]? = some (.inl (0, 9, .inl (fun j => lgv ((s.2.2.2.2.2.2.2.1) j)))))  (hwr : M[20]? = some (.inl (0, 8, .inl (fun j => nI ((s.2.2.2.2.2.2.2.2) j)))))  (hBu : M[134]? = some (.inr (4, [.ref (135)]))) {uf : Nat → Int64} (hbu : M[135]? = some (.inl (1, 34, .inr (.inl (uf)))))  (hTu : M[136]? = some (.inr (4, [.ref (137)]))) {tf : Nat → Int64} (htu : M[137]? = some (.inl (1, 34, .inr (.inl (tf))))) (hF : FT pw lg m) (hm4 : 4 ≤ m) (ht8 : t ≤ 8) (hd8 : d ≤ 256) (hr8 : r ≤ 104) (hn8 : n = 8 * d + r) (hn1 : 1 ≤ n) (hmd : (mmd ((m, t, d, r, n, hs, ls) : Mp) s bf kf).2 = some (0)) : Cl X 9 jX6_read [.ref (0), .int (nI i)] M (some (.int (nI (0)))) ((((((((((((M.set (5) (.inr (0, [.ref (1), .ref (6), .ref (7), .ref (8), .ref (9), .ref (10), .int (nI t), .int (nI d), .int (nI r), .int (nI n), .long ((mmd ((m, t, d, r, n, hs, ls) : Mp) s bf kf).1.1.1), .long ((mmd ((m, t, d, r, n, hs, ls) : Mp) s bf kf).1.1.2)]))).set (9) (.inl (0, 104, .inl ((mmd ((m, t, d, r, n, hs, ls) : Mp) s bf kf).1.2.1)))).set (14) (.inl (1, 34, .inr (.inl ((mmd ((m, t, d, r, n, hs, ls) : Mp) s bf kf).1.2.2.1))))).set (15) (.inl (0, 17, .inl (fun j => nI (((mmd ((m, t, d, r, n, hs, ls) : Mp) s bf kf).1.2.2.2.1) j))))).set (16) (.inl (0, 17, .inl (fun j => nI (((mmd ((m, t, d, r, n, hs, ls) : Mp) s bf kf).1.2.2.2.2.1) j))))).set (17) (.inl (0, 17, .inl (fun j => nI (((mmd ((m, t, d, r, n, hs, ls) : Mp) s bf kf).1.2.2.2.2.2.1) j))))).set (18) (.inl (0, 17, .inl (fun j => nI (((mmd ((m, t, d, r, n, hs, ls) : Mp) s bf kf).1.2.2.2.2.2.2.1) j))))).set (19) (.inl (0, 9, .inl (fun j => lgv (((mmd ((m, t, d, r, n, hs, ls) : Mp) s bf kf).1.2.2.2.2.2.2.2.1) j))))).set (20) (.inl (0, 8, .inl (fun j => nI (((mmd ((m, t, d, r, n, hs, ls) : Mp) s bf kf).1.2.2.2.2.2.2.2.2) j))))).set (0) (.inr (5, [.ref (1), .ref (5), .ref (12), .ref (21), .ref (134), .ref (136), .int (1), .int (ra), .int (rr + nI 1), .int (rl)]))).set (135) (.inl (1, 34, .inr (.inl ((mmd ((m, t, d, r, n, hs, ls) : Mp) s bf kf).1.2.2.1))))).set (137) (.inl (1, 34, .inr (.inl (fun j => (mmd ((m, t, d, r, n, hs, ls) : Mp) s bf kf).1.2.2.1 j ^^^ bf j))))) := by
  refine Cl.of (ls := [some (.ref (0)), some (.int (nI i)), none]) (by decide) rfl (Nat.le_of_ble_eq_true rfl) ?_
  refine x_aload_n dX6_read_0 rfl rfl ?_
  refine x_getf (ci := 5) (kf := 6) dX6_read_1 rfl uX6 (by decide) fl_RX6_84 h0 rfl ?_
  refine x_if_ne (tgt := 10) dX6_read_4 (by decide) (fun _ => ?_) (fun h => False.elim (absurd h (by decide)))
  refine x_aload_n dX6_read_10 rfl rfl ?_
  refine x_iload_n dX6_read_11 rfl rfl ?_
  refine x_callV (ci := 5) (as := [.int (nI i)]) dX6_read_12 mk_X6_hasPage in_X6_hasPage se_X6_hasPage ml_RX6_143 rfl h0 (by decide) rfl rfl (Nat.le_of_ble_eq_true rfl) (c_hasPage) ?_
  refine x_if_ne (tgt := 21) dX6_read_15 (by decide) (fun _ => ?_) (fun h => False.elim (ite_ne (inl_n hi16 (by decide)) h))
  refine x_aload_n dX6_read_21 rfl rfl ?_
  refine x_getf (ci := 5) (kf := 2) dX6_read_22 rfl uX6 (by decide) fl_RX6_30 h0 rfl ?_
  refine x_aload_n dX6_read_25 rfl rfl ?_
  refine x_getf (ci := 5) (kf := 3) dX6_read_26 rfl uX6 (by decide) fl_RX6_36 h0 rfl ?_
  refine x_iload_n dX6_read_29 rfl rfl ?_
  refine x_ald (j := i) dX6_read_30 h21 rfl (by omega) (by decide) (pgs_at hi16 hgi) ?_
  refine x_callV (ci := 2) (as := [.ref (g)]) dX6_read_31 mk_X3_mend in_X3_mend se_X3_mend ml_RX6_180 rfl hm (by decide) rfl rfl (Nat.le_of_ble_eq_true rfl) (c_mend (s := s) hm hf hp hq hF hm4 ht8 hd8 hr8 hn8 hn1 hh hl hw ho hrs hwf hsy hlc hea hsp hlg hwr (by omega) hg hB hb hK hk) ?_
  refine x_casti (y := nI (0)) (by rw [hmd]; rfl) ?_
  refine x_istore_n (ls' := [some (.ref (0)), some (.int (nI i)), some (.int (nI (0)))]) dX6_read_34 rfl (by decide) rfl rfl ?_
  refine x_iload_n dX6_read_35 rfl rfl ?_
  refine x_bipush (y := -4) dX6_read_36 rfl ?_
  refine x_icmp_ne (tgt := 54) dX6_read_38 (by decide) (fun _ => ?_) (fun h => False.elim (nI_nm4 (by omega) h))
  refine x_iload_n dX6_read_54 rfl rfl ?_
  refine x_if_ne (tgt := 71) dX6_read_55 (by decide) (fun h => False.elim (h rfl)) (fun _ => ?_)
  refine x_aload_n dX6_read_58 rfl rfl ?_
  refine x_dup dX6_read_59 rfl ?_
  refine x_getf (ci := 5) (kf := 8) dX6_read_60 rfl uX6 (by decide) fl_RX6_78 (gn (gn (gn (gn (gn (gn (gn (gn (gn h0 (by decide)) (by decide)) (by decide)) (by decide)) (by decide)) (by decide)) (by decide)) (by decide)) (by decide)) rfl ?_
  refine x_iconst (y := nI 1) dX6_read_63 rfl ?_
  refine x_iadd dX6_read_64 ?_
  refine x_putf (ci := 5) (kf := 8) (ty0 := tyX6) (M1 := ((((((((((M.set (5) (.inr (0, [.ref (1), .ref (6), .ref (7), .ref (8), .ref (9), .ref (10), .int (nI t), .int (nI d), .int (nI r), .int (nI n), .long ((mmd ((m, t, d, r, n, hs, ls) : Mp) s bf kf).1.1.1), .long ((mmd ((m, t, d, r, n, hs, ls) : Mp) s bf kf).1.1.2)]))).set (9) (.inl (0, 104, .inl ((mmd ((m, t, d, r, n, hs, ls) : Mp) s bf kf).1.2.1)))).set (14) (.inl (1, 34, .inr (.inl ((mmd ((m, t, d, r, n, hs, ls) : Mp) s bf kf).1.2.2.1))))).set (15) (.inl (0, 17, .inl (fun j => nI (((mmd ((m, t, d, r, n, hs, ls) : Mp) s bf kf).1.2.2.2.1) j))))).set (16) (.inl (0, 17, .inl (fun j => nI (((mmd ((m, t, d, r, n, hs, ls) : Mp) s bf kf).1.2.2.2.2.1) j))))).set (17) (.inl (0, 17, .inl (fun j => nI (((mmd ((m, t, d, r, n, hs, ls) : Mp) s bf kf).1.2.2.2.2.2.1) j))))).set (18) (.inl (0, 17, .inl (fun j => nI (((mmd ((m, t, d, r, n, hs, ls) : Mp) s bf kf).1.2.2.2.2.2.2.1) j))))).set (19) (.inl (0, 9, .inl (fun j => lgv (((mmd ((m, t, d, r, n, hs, ls) : Mp) s bf kf).1.2.2.2.2.2.2.2.1) j))))).set (20) (.inl (0, 8, .inl (fun j => nI (((mmd ((m, t, d, r, n, hs, ls) : Mp) s bf kf).1.2.2.2.2.2.2.2.2) j))))).set (0) (.inr (5, [.ref (1), .ref (5), .ref (12), .ref (21), .ref (134), .ref (136), .int (1), .int (ra), .int ((rr) + (nI 1)), .int (rl)])))) dX6_read_65 rfl uX6 tyX6_ok nmX6 (by decide) fl_RX6_78 rfl rfl rfl rfl (gn (gn (gn (gn (gn (gn (gn (gn (gn h0 (by decide)) (by decide)) (by decide)) (by decide)) (by decide)) (by decide)) (by decide)) (by decide)) (by decide)) (Nat.le_of_ble_eq_true rfl) rfl ?_
  refine x_goto (tgt := 81) dX6_read_68 (by decide) ?_
  refine x_aload_n dX6_read_81 rfl rfl ?_
  refine x_getf (ci := 5) (kf := 4) dX6_read_82 rfl uX6 (by decide) fl_RX6_44 (gs (gn (gn (gn (gn (gn (gn (gn (gn (gn h0 (by decide)) (by decide)) (by decide)) (by decide)) (by decide)) (by decide)) (by decide)) (by decide)) (by decide))) rfl ?_
  refine x_aload_n dX6_read_85 rfl rfl ?_
  refine x_getf (ci := 5) (kf := 2) dX6_read_86 rfl uX6 (by decide) fl_RX6_30 (gs (gn (gn (gn (gn (gn (gn (gn (gn (gn h0 (by decide)) (by decide)) (by decide)) (by decide)) (by decide)) (by decide)) (by decide)) (by decide)) (by decide))) rfl ?_
  refine x_getf (ci := 2) (kf := 2) dX6_read_89 rfl uX3 (by decide) fl_RX6_184 (gn (gn (gn (gn (gn (gn (gn (gn (gn (gn hm (by decide)) (by decide)) (by decide)) (by decide)) (by decide)) (by decide)) (by decide)) (by decide)) (by decide)) (by decide)) rfl ?_
  refine x_callV (ci := 4) (as := [.ref (13)]) dX6_read_92 mk_X5_become in_X5_become se_X5_become ml_RX6_187 rfl (gn (gn (gn (gn (gn (gn (gn (gn (gn (gn hBu (by decide)) (by decide)) (by decide)) (by decide)) (by decide)) (by decide)) (by decide)) (by decide)) (by decide)) (by decide)) (by decide) rfl rfl (Nat.le_of_ble_eq_true rfl) (c_become (gn (gn (gn (gn (gn (gn (gn (gn (gn (gn hBu (by decide)) (by decide)) (by decide)) (by decide)) (by decide)) (by decide)) (by decide)) (by decide)) (by decide)) (by decide)) (gn (gn (gn (gn (gn (gn (gn (gn (gn (gn hbu (by decide)) (by decide)) (by decide)) (by decide)) (by decide)) (by decide)) (by decide)) (by decide)) (by decide)) (by decide)) (gn (gn (gn (gn (gn (gn (gn (gn (gn (gn hw (by decide)) (by decide)) (by decide)) (by decide)) (by decide)) (by decide)) (by decide)) (by decide)) (by decide)) (by decide)) (gn (gn (gn (gn (gn (gn (gn (gs (gn (gn hwf (by decide)) (by decide))) (by decide)) (by decide)) (by decide)) (by decide)) (by decide)) (by decide)) (by decide))) ?_
  refine x_aload_n dX6_read_95 rfl rfl ?_
  refine x_getf (ci := 5) (kf := 5) dX6_read_96 rfl uX6 (by decide) fl_RX6_48 (gn (gs (gn (gn (gn (gn (gn (gn (gn (gn (gn h0 (by decide)) (by decide)) (by decide)) (by decide)) (by decide)) (by decide)) (by decide)) (by decide)) (by decide))) (by decide)) rfl ?_
  refine x_aload_n dX6_read_99 rfl rfl ?_
  refine x_getf (ci := 5) (kf := 2) dX6_read_100 rfl uX6 (by decide) fl_RX6_30 (gn (gs (gn (gn (gn (gn (gn (gn (gn (gn (gn h0 (by decide)) (by decide)) (by decide)) (by decide)) (by decide)) (by decide)) (by decide)) (by decide)) (by decide))) (by decide)) rfl ?_
  refine x_getf (ci := 2) (kf := 2) dX6_read_103 rfl uX3 (by decide) fl_RX6_184 (gn (gn (gn (gn (gn (gn (gn (gn (gn (gn (gn hm (by decide)) (by decide)) (by decide)) (by decide)) (by decide)) (by decide)) (by decide)) (by decide)) (by decide)) (by decide)) (by decide)) rfl ?_
  refine x_aload_n dX6_read_106 rfl rfl ?_
  refine x_getf (ci := 5) (kf := 3) dX6_read_107 rfl uX6 (by decide) fl_RX6_36 (gn (gs (gn (gn (gn (gn (gn (gn (gn (gn (gn h0 (by decide)) (by decide)) (by decide)) (by decide)) (by decide)) (by decide)) (by decide)) (by decide)) (by decide))) (by decide)) rfl ?_
  refine x_iload_n dX6_read_110 rfl rfl ?_
  refine x_ald (j := i) dX6_read_111 (gn (gn (gn (gn (gn (gn (gn (gn (gn (gn (gn h21 (by decide)) (by decide)) (by decide)) (by decide)) (by decide)) (by decide)) (by decide)) (by decide)) (by decide)) (by decide)) (by decide)) rfl (by omega) (by decide) (pgs_at hi16 hgi) ?_
  refine x_getf (ci := 3) (kf := 0) dX6_read_112 rfl uX4 (by decide) fl_RX6_177 (gn (gn (gn (gn (gn (gn (gn (gn (gn (gn (gn hg (by omega)) (by omega)) (by omega)) (by omega)) (by omega)) (by omega)) (by omega)) (by omega)) (by omega)) (by omega)) (by omega)) rfl ?_
  refine x_callV (ci := 4) (as := [.ref (13), .ref (g + 1)]) dX6_read_115 mk_X5_becomeDifference in_X5_becomeDifference se_X5_becomeDifference ml_RX6_189 rfl (gn (gn (gn (gn (gn (gn (gn (gn (gn (gn (gn hTu (by decide)) (by decide)) (by decide)) (by decide)) (by decide)) (by decide)) (by decide)) (by decide)) (by decide)) (by decide)) (by decide)) (by decide) rfl rfl (Nat.le_of_ble_eq_true rfl) (c_becomeDifference (gn (gn (gn (gn (gn (gn (gn (gn (gn (gn (gn hTu (by decide)) (by decide)) (by decide)) (by decide)) (by decide)) (by decide)) (by decide)) (by decide)) (by decide)) (by decide)) (by decide)) (gn (gn (gn (gn (gn (gn (gn (gn (gn (gn (gn htu (by decide)) (by decide)) (by decide)) (by decide)) (by decide)) (by decide)) (by decide)) (by decide)) (by decide)) (by decide)) (by decide)) (gn (gn (gn (gn (gn (gn (gn (gn (gn (gn (gn hw (by decide)) (by decide)) (by decide)) (by decide)) (by decide)) (by decide)) (by decide)) (by decide)) (by decide)) (by decide)) (by decide)) (gn (gn (gn (gn (gn (gn (gn (gn (gs (gn (gn hwf (by decide)) (by decide))) (by decide)) (by decide)) (by decide)) (by decide)) (by decide)) (by decide)) (by decide)) (by decide)) (gn (gn (gn (gn (gn (gn (gn (gn (gn (gn (gn hB (by omega)) (by omega)) (by omega)) (by omega)) (by omega)) (by omega)) (by omega)) (by omega)) (by omega)) (by omega)) (by omega)) (gn (gn (gn (gn (gn (gn (gn (gn (gn (gn (gn hb (by omega)) (by omega)) (by omega)) (by omega)) (by omega)) (by omega)) (by omega)) (by omega)) (by omega)) (by omega)) (by omega)) (by decide) (by decide) (by decide) (by omega) (by omega)) ?_
  refine x_iload_n dX6_read_118 rfl rfl ?_
  exact x_ireturn_eq dX6_read_119 rfl rfl
theorem c_readM {X : Ev} {M : Hp} {t d r n : Nat} {s : Ms} {g i : Nat} (hi16 : i < 16) (hgi : 22 + 7 * i = g) {ra rr rl : Int32} (h0 : M[0]? = some (.inr (5, [.ref (1), .ref (5), .ref (12), .ref (21), .ref (134), .ref (136), .int (1), .int (ra), .int (rr), .int (rl)])))  (h21 : M[21]? = some (.inl (3, 16, .inr (.inr (.inr (.inr (pgs 16))))))) {wr : Int32} (hg : M[g]? = some (.inr (3, [.ref (g + 1), .ref (g + 3), .ref (g + 5), .int (wr)])))  (hB : M[g + 1]? = some (.inr (4, [.ref (g + 2)]))) {bf : Nat → Int64} (hb : M[g + 2]? = some (.inl (1, 34, .inr (.inl (bf)))))  (hS : M[g + 3]? = some (.inr (4, [.ref (g + 4)]))) {sf : Nat → Int64} (hs_ : M[g + 4]? = some (.inl (1, 34, .inr (.inl (sf)))))  (hK : M[g + 5]? = some (.inr (4, [.ref (g + 6)]))) {kf : Nat → Int64} (hk : M[g + 6]? = some (.inl (1, 34, .inr (.inl (kf))))) {m : Nat} (hf : M[1]? = some (.inr (1, [.ref (2), .ref (3), .ref (4), .int (nI m), .int (nI (2 ^ m - 1))]))) {pw : Nat → Int32} (hp : M[2]? = some (.inl (0, 8192, .inl (pw)))) {lg : Nat → Int32} (hq : M[3]? = some (.inl (0, 8192, .inl (lg)))) {hs : Nat → Int64} (hh : M[7]? = some (.inl (1, 256, .inr (.inl (hs))))) {ls : Nat → Int64} (hl : M[8]? = some (.inl (1, 256, .inr (.inl (ls)))))  (hm : M[12]? = some (.inr (2, [.ref (1), .ref (5), .ref (13), .ref (15), .ref (16), .ref (17), .ref (18), .ref (19), .ref (20)])))  (hw : M[13]? = some (.inr (4, [.ref (14)])))  (ho : M[5]? = some (.inr (0, [.ref (1), .ref (6), .ref (7), .ref (8), .ref (9), .ref (10), .int (nI t), .int (nI d), .int (nI r), .int (nI n), .long (s.1.1), .long (s.1.2)])))  (hrs : M[9]? = some (.inl (0, 104, .inl (s.2.1))))  (hwf : M[14]? = some (.inl (1, 34, .inr (.inl (s.2.2.1)))))  (hsy : M[15]? = some (.inl (0, 17, .inl (fun j => nI ((s.2.2.2.1) j)))))  (hlc : M[16]? = some (.inl (0, 17, .inl (fun j => nI ((s.2.2.2.2.1) j)))))  (hea : M[17]? = some (.inl (0, 17, .inl (fun j => nI ((s.2.2.2.2.2.1) j)))))  (hsp : M[18]? = some (.inl (0, 17, .inl (fun j => nI ((s.2.2.2.2.2.2.1) j)))))  (hlg : M[19]? = some (.inl (0, 9, .inl (fun j => lgv ((s.2.2.2.2.2.2.2.1) j)))))  (hwr : M[20]? = some (.inl (0, 8, .inl (fun j => nI ((s.2.2.2.2.2.2.2.2) j)))))  (hBu : M[134]? = some (.inr (4, [.ref (135)]))) {uf : Nat → Int64} (hbu : M[135]? = some (.inl (1, 34, .inr (.inl (uf)))))  (hTu : M[136]? = some (.inr (4, [.ref (137)]))) {tf : Nat → Int64} (htu : M[137]? = some (.inl (1, 34, .inr (.inl (tf))))) (hF : FT pw lg m) (hm4 : 4 ≤ m) (ht8 : t ≤ 8) (hd8 : d ≤ 256) (hr8 : r ≤ 104) (hn8 : n = 8 * d + r) (hn1 : 1 ≤ n) {o : Nat} (ho64 : o < 2 ^ 20) (hmd : (mmd ((m, t, d, r, n, hs, ls) : Mp) s bf kf).2 = some (o + 1)) : Cl X 9 jX6_read [.ref (0), .int (nI i)] M (some (.int (nI (o + 1)))) ((((((((((((M.set (5) (.inr (0, [.ref (1), .ref (6), .ref (7), .ref (8), .ref (9), .ref (10), .int (nI t), .int (nI d), .int (nI r), .int (nI n), .long ((mmd ((m, t, d, r, n, hs, ls) : Mp) s bf kf).1.1.1), .long ((mmd ((m, t, d, r, n, hs, ls) : Mp) s bf kf).1.1.2)]))).set (9) (.inl (0, 104, .inl ((mmd ((m, t, d, r, n, hs, ls) : Mp) s bf kf).1.2.1)))).set (14) (.inl (1, 34, .inr (.inl ((mmd ((m, t, d, r, n, hs, ls) : Mp) s bf kf).1.2.2.1))))).set (15) (.inl (0, 17, .inl (fun j => nI (((mmd ((m, t, d, r, n, hs, ls) : Mp) s bf kf).1.2.2.2.1) j))))).set (16) (.inl (0, 17, .inl (fun j => nI (((mmd ((m, t, d, r, n, hs, ls) : Mp) s bf kf).1.2.2.2.2.1) j))))).set (17) (.inl (0, 17, .inl (fun j => nI (((mmd ((m, t, d, r, n, hs, ls) : Mp) s bf kf).1.2.2.2.2.2.1) j))))).set (18) (.inl (0, 17, .inl (fun j => nI (((mmd ((m, t, d, r, n, hs, ls) : Mp) s bf kf).1.2.2.2.2.2.2.1) j))))).set (19) (.inl (0, 9, .inl (fun j => lgv (((mmd ((m, t, d, r, n, hs, ls) : Mp) s bf kf).1.2.2.2.2.2.2.2.1) j))))).set (20) (.inl (0, 8, .inl (fun j => nI (((mmd ((m, t, d, r, n, hs, ls) : Mp) s bf kf).1.2.2.2.2.2.2.2.2) j))))).set (0) (.inr (5, [.ref (1), .ref (5), .ref (12), .ref (21), .ref (134), .ref (136), .int (1), .int (ra + nI 1), .int (rr), .int (rl)]))).set (135) (.inl (1, 34, .inr (.inl ((mmd ((m, t, d, r, n, hs, ls) : Mp) s bf kf).1.2.2.1))))).set (137) (.inl (1, 34, .inr (.inl (fun j => (mmd ((m, t, d, r, n, hs, ls) : Mp) s bf kf).1.2.2.1 j ^^^ bf j))))) := by
  refine Cl.of (ls := [some (.ref (0)), some (.int (nI i)), none]) (by decide) rfl (Nat.le_of_ble_eq_true rfl) ?_
  refine x_aload_n dX6_read_0 rfl rfl ?_
  refine x_getf (ci := 5) (kf := 6) dX6_read_1 rfl uX6 (by decide) fl_RX6_84 h0 rfl ?_
  refine x_if_ne (tgt := 10) dX6_read_4 (by decide) (fun _ => ?_) (fun h => False.elim (absurd h (by decide)))
  refine x_aload_n dX6_read_10 rfl rfl ?_
  refine x_iload_n dX6_read_11 rfl rfl ?_
  refine x_callV (ci := 5) (as := [.int (nI i)]) dX6_read_12 mk_X6_hasPage in_X6_hasPage se_X6_hasPage ml_RX6_143 rfl h0 (by decide) rfl rfl (Nat.le_of_ble_eq_true rfl) (c_hasPage) ?_
  refine x_if_ne (tgt := 21) dX6_read_15 (by decide) (fun _ => ?_) (fun h => False.elim (ite_ne (inl_n hi16 (by decide)) h))
  refine x_aload_n dX6_read_21 rfl rfl ?_
  refine x_getf (ci := 5) (kf := 2) dX6_read_22 rfl uX6 (by decide) fl_RX6_30 h0 rfl ?_
  refine x_aload_n dX6_read_25 rfl rfl ?_
  refine x_getf (ci := 5) (kf := 3) dX6_read_26 rfl uX6 (by decide) fl_RX6_36 h0 rfl ?_
  refine x_iload_n dX6_read_29 rfl rfl ?_
  refine x_ald (j := i) dX6_read_30 h21 rfl (by omega) (by decide) (pgs_at hi16 hgi) ?_
  refine x_callV (ci := 2) (as := [.ref (g)]) dX6_read_31 mk_X3_mend in_X3_mend se_X3_mend ml_RX6_180 rfl hm (by decide) rfl rfl (Nat.le_of_ble_eq_true rfl) (c_mend (s := s) hm hf hp hq hF hm4 ht8 hd8 hr8 hn8 hn1 hh hl hw ho hrs hwf hsy hlc hea hsp hlg hwr (by omega) hg hB hb hK hk) ?_
  refine x_casti (y := nI (o + 1)) (by rw [hmd]; rfl) ?_
  refine x_istore_n (ls' := [some (.ref (0)), some (.int (nI i)), some (.int (nI (o + 1)))]) dX6_read_34 rfl (by decide) rfl rfl ?_
  refine x_iload_n dX6_read_35 rfl rfl ?_
  refine x_bipush (y := -4) dX6_read_36 rfl ?_
  refine x_icmp_ne (tgt := 54) dX6_read_38 (by decide) (fun _ => ?_) (fun h => False.elim (nI_nm4 (by omega) h))
  refine x_iload_n dX6_read_54 rfl rfl ?_
  refine x_if_ne (tgt := 71) dX6_read_55 (by decide) (fun _ => ?_) (fun h => False.elim (nI_s0 (by omega) h))
  refine x_aload_n dX6_read_71 rfl rfl ?_
  refine x_dup dX6_read_72 rfl ?_
  refine x_getf (ci := 5) (kf := 7) dX6_read_73 rfl uX6 (by decide) fl_RX6_74 (gn (gn (gn (gn (gn (gn (gn (gn (gn h0 (by decide)) (by decide)) (by decide)) (by decide)) (by decide)) (by decide)) (by decide)) (by decide)) (by decide)) rfl ?_
  refine x_iconst (y := nI 1) dX6_read_76 rfl ?_
  refine x_iadd dX6_read_77 ?_
  refine x_putf (ci := 5) (kf := 7) (ty0 := tyX6) (M1 := ((((((((((M.set (5) (.inr (0, [.ref (1), .ref (6), .ref (7), .ref (8), .ref (9), .ref (10), .int (nI t), .int (nI d), .int (nI r), .int (nI n), .long ((mmd ((m, t, d, r, n, hs, ls) : Mp) s bf kf).1.1.1), .long ((mmd ((m, t, d, r, n, hs, ls) : Mp) s bf kf).1.1.2)]))).set (9) (.inl (0, 104, .inl ((mmd ((m, t, d, r, n, hs, ls) : Mp) s bf kf).1.2.1)))).set (14) (.inl (1, 34, .inr (.inl ((mmd ((m, t, d, r, n, hs, ls) : Mp) s bf kf).1.2.2.1))))).set (15) (.inl (0, 17, .inl (fun j => nI (((mmd ((m, t, d, r, n, hs, ls) : Mp) s bf kf).1.2.2.2.1) j))))).set (16) (.inl (0, 17, .inl (fun j => nI (((mmd ((m, t, d, r, n, hs, ls) : Mp) s bf kf).1.2.2.2.2.1) j))))).set (17) (.inl (0, 17, .inl (fun j => nI (((mmd ((m, t, d, r, n, hs, ls) : Mp) s bf kf).1.2.2.2.2.2.1) j))))).set (18) (.inl (0, 17, .inl (fun j => nI (((mmd ((m, t, d, r, n, hs, ls) : Mp) s bf kf).1.2.2.2.2.2.2.1) j))))).set (19) (.inl (0, 9, .inl (fun j => lgv (((mmd ((m, t, d, r, n, hs, ls) : Mp) s bf kf).1.2.2.2.2.2.2.2.1) j))))).set (20) (.inl (0, 8, .inl (fun j => nI (((mmd ((m, t, d, r, n, hs, ls) : Mp) s bf kf).1.2.2.2.2.2.2.2.2) j))))).set (0) (.inr (5, [.ref (1), .ref (5), .ref (12), .ref (21), .ref (134), .ref (136), .int (1), .int ((ra) + (nI 1)), .int (rr), .int (rl)])))) dX6_read_78 rfl uX6 tyX6_ok nmX6 (by decide) fl_RX6_74 rfl rfl rfl rfl (gn (gn (gn (gn (gn (gn (gn (gn (gn h0 (by decide)) (by decide)) (by decide)) (by decide)) (by decide)) (by decide)) (by decide)) (by decide)) (by decide)) (Nat.le_of_ble_eq_true rfl) rfl ?_
  refine x_aload_n dX6_read_81 rfl rfl ?_
  refine x_getf (ci := 5) (kf := 4) dX6_read_82 rfl uX6 (by decide) fl_RX6_44 (gs (gn (gn (gn (gn (gn (gn (gn (gn (gn h0 (by decide)) (by decide)) (by decide)) (by decide)) (by decide)) (by decide)) (by decide)) (by decide)) (by decide))) rfl ?_
  refine x_aload_n dX6_read_85 rfl rfl ?_
  refine x_getf (ci := 5) (kf := 2) dX6_read_86 rfl uX6 (by decide) fl_RX6_30 (gs (gn (gn (gn (gn (gn (gn (gn (gn (gn h0 (by decide)) (by decide)) (by decide)) (by decide)) (by decide)) (by decide)) (by decide)) (by decide)) (by decide))) rfl ?_
  refine x_getf (ci := 2) (kf := 2) dX6_read_89 rfl uX3 (by decide) fl_RX6_184 (gn (gn (gn (gn (gn (gn (gn (gn (gn (gn hm (by decide)) (by decide)) (by decide)) (by decide)) (by decide)) (by decide)) (by decide)) (by decide)) (by decide)) (by decide)) rfl ?_
  refine x_callV (ci := 4) (as := [.ref (13)]) dX6_read_92 mk_X5_become in_X5_become se_X5_become ml_RX6_187 rfl (gn (gn (gn (gn (gn (gn (gn (gn (gn (gn hBu (by decide)) (by decide)) (by decide)) (by decide)) (by decide)) (by decide)) (by decide)) (by decide)) (by decide)) (by decide)) (by decide) rfl rfl (Nat.le_of_ble_eq_true rfl) (c_become (gn (gn (gn (gn (gn (gn (gn (gn (gn (gn hBu (by decide)) (by decide)) (by decide)) (by decide)) (by decide)) (by decide)) (by decide)) (by decide)) (by decide)) (by decide)) (gn (gn (gn (gn (gn (gn (gn (gn (gn (gn hbu (by decide)) (by decide)) (by decide)) (by decide)) (by decide)) (by decide)) (by decide)) (by decide)) (by decide)) (by decide)) (gn (gn (gn (gn (gn (gn (gn (gn (gn (gn hw (by decide)) (by decide)) (by decide)) (by decide)) (by decide)) (by decide)) (by decide)) (by decide)) (by decide)) (by decide)) (gn (gn (gn (gn (gn (gn (gn (gs (gn (gn hwf (by decide)) (by decide))) (by decide)) (by decide)) (by decide)) (by decide)) (by decide)) (by decide)) (by decide))) ?_
  refine x_aload_n dX6_read_95 rfl rfl ?_
  refine x_getf (ci := 5) (kf := 5) dX6_read_96 rfl uX6 (by decide) fl_RX6_48 (gn (gs (gn (gn (gn (gn (gn (gn (gn (gn (gn h0 (by decide)) (by decide)) (by decide)) (by decide)) (by decide)) (by decide)) (by decide)) (by decide)) (by decide))) (by decide)) rfl ?_
  refine x_aload_n dX6_read_99 rfl rfl ?_
  refine x_getf (ci := 5) (kf := 2) dX6_read_100 rfl uX6 (by decide) fl_RX6_30 (gn (gs (gn (gn (gn (gn (gn (gn (gn (gn (gn h0 (by decide)) (by decide)) (by decide)) (by decide)) (by decide)) (by decide)) (by decide)) (by decide)) (by decide))) (by decide)) rfl ?_
  refine x_getf (ci := 2) (kf := 2) dX6_read_103 rfl uX3 (by decide) fl_RX6_184 (gn (gn (gn (gn (gn (gn (gn (gn (gn (gn (gn hm (by decide)) (by decide)) (by decide)) (by decide)) (by decide)) (by decide)) (by decide)) (by decide)) (by decide)) (by decide)) (by decide)) rfl ?_
  refine x_aload_n dX6_read_106 rfl rfl ?_
  refine x_getf (ci := 5) (kf := 3) dX6_read_107 rfl uX6 (by decide) fl_RX6_36 (gn (gs (gn (gn (gn (gn (gn (gn (gn (gn (gn h0 (by decide)) (by decide)) (by decide)) (by decide)) (by decide)) (by decide)) (by decide)) (by decide)) (by decide))) (by decide)) rfl ?_
  refine x_iload_n dX6_read_110 rfl rfl ?_
  refine x_ald (j := i) dX6_read_111 (gn (gn (gn (gn (gn (gn (gn (gn (gn (gn (gn h21 (by decide)) (by decide)) (by decide)) (by decide)) (by decide)) (by decide)) (by decide)) (by decide)) (by decide)) (by decide)) (by decide)) rfl (by omega) (by decide) (pgs_at hi16 hgi) ?_
  refine x_getf (ci := 3) (kf := 0) dX6_read_112 rfl uX4 (by decide) fl_RX6_177 (gn (gn (gn (gn (gn (gn (gn (gn (gn (gn (gn hg (by omega)) (by omega)) (by omega)) (by omega)) (by omega)) (by omega)) (by omega)) (by omega)) (by omega)) (by omega)) (by omega)) rfl ?_
  refine x_callV (ci := 4) (as := [.ref (13), .ref (g + 1)]) dX6_read_115 mk_X5_becomeDifference in_X5_becomeDifference se_X5_becomeDifference ml_RX6_189 rfl (gn (gn (gn (gn (gn (gn (gn (gn (gn (gn (gn hTu (by decide)) (by decide)) (by decide)) (by decide)) (by decide)) (by decide)) (by decide)) (by decide)) (by decide)) (by decide)) (by decide)) (by decide) rfl rfl (Nat.le_of_ble_eq_true rfl) (c_becomeDifference (gn (gn (gn (gn (gn (gn (gn (gn (gn (gn (gn hTu (by decide)) (by decide)) (by decide)) (by decide)) (by decide)) (by decide)) (by decide)) (by decide)) (by decide)) (by decide)) (by decide)) (gn (gn (gn (gn (gn (gn (gn (gn (gn (gn (gn htu (by decide)) (by decide)) (by decide)) (by decide)) (by decide)) (by decide)) (by decide)) (by decide)) (by decide)) (by decide)) (by decide)) (gn (gn (gn (gn (gn (gn (gn (gn (gn (gn (gn hw (by decide)) (by decide)) (by decide)) (by decide)) (by decide)) (by decide)) (by decide)) (by decide)) (by decide)) (by decide)) (by decide)) (gn (gn (gn (gn (gn (gn (gn (gn (gs (gn (gn hwf (by decide)) (by decide))) (by decide)) (by decide)) (by decide)) (by decide)) (by decide)) (by decide)) (by decide)) (by decide)) (gn (gn (gn (gn (gn (gn (gn (gn (gn (gn (gn hB (by omega)) (by omega)) (by omega)) (by omega)) (by omega)) (by omega)) (by omega)) (by omega)) (by omega)) (by omega)) (by omega)) (gn (gn (gn (gn (gn (gn (gn (gn (gn (gn (gn hb (by omega)) (by omega)) (by omega)) (by omega)) (by omega)) (by omega)) (by omega)) (by omega)) (by omega)) (by omega)) (by omega)) (by decide) (by decide) (by decide) (by omega) (by omega)) ?_
  refine x_iload_n dX6_read_118 rfl rfl ?_
  exact x_ireturn_eq dX6_read_119 rfl rfl
theorem c_rewrite {X : Ev} {M : Hp} {t d r n : Nat} {s : Ms} {g i : Nat} (hi16 : i < 16) (hgi : 22 + 7 * i = g) {ra rr rl : Int32} (h0 : M[0]? = some (.inr (5, [.ref (1), .ref (5), .ref (12), .ref (21), .ref (134), .ref (136), .int (1), .int (ra), .int (rr), .int (rl)])))  (ho : M[5]? = some (.inr (0, [.ref (1), .ref (6), .ref (7), .ref (8), .ref (9), .ref (10), .int (nI t), .int (nI d), .int (nI r), .int (nI n), .long (s.1.1), .long (s.1.2)])))  (hR : M[10]? = some (.inr (4, [.ref (11)]))) {on : Nat → Int64} (hon : M[11]? = some (.inl (1, 34, .inr (.inl (on)))))  (hm : M[12]? = some (.inr (2, [.ref (1), .ref (5), .ref (13), .ref (15), .ref (16), .ref (17), .ref (18), .ref (19), .ref (20)])))  (hw : M[13]? = some (.inr (4, [.ref (14)])))  (hwf : M[14]? = some (.inl (1, 34, .inr (.inl (s.2.2.1))))) {wr : Int32} (hg : M[g]? = some (.inr (3, [.ref (g + 1), .ref (g + 3), .ref (g + 5), .int (wr)])))  (hB : M[g + 1]? = some (.inr (4, [.ref (g + 2)]))) {bf : Nat → Int64} (hb : M[g + 2]? = some (.inl (1, 34, .inr (.inl (bf)))))  (hS : M[g + 3]? = some (.inr (4, [.ref (g + 4)]))) {sf : Nat → Int64} (hs_ : M[g + 4]? = some (.inl (1, 34, .inr (.inl (sf)))))  (hK : M[g + 5]? = some (.inr (4, [.ref (g + 6)]))) {kf : Nat → Int64} (hk : M[g + 6]? = some (.inl (1, 34, .inr (.inl (kf))))) : Cl X 8 jX6_rewrite [.ref (0), .ref (g)] M (some (.int (nI (rones (fun j => rpg (rwp bf on sf 34) s.2.2.1 sf 34 j ^^^ s.2.2.1 j) 34)))) (((M.set (g + 2) (.inl (1, 34, .inr (.inl (rpg (rwp bf on sf 34) s.2.2.1 sf 34))))).set (g + 6) (.inl (1, 34, .inr (.inl (fun _ => 0))))).set (g) (.inr (3, [.ref (g + 1), .ref (g + 3), .ref (g + 5), .int (wr + nI 1)]))) := by
  refine Cl.of (ls := [some (.ref (0)), some (.ref (g))]) (by decide) rfl (Nat.le_of_ble_eq_true rfl) ?_
  refine x_aload_n dX6_rewrite_0 rfl rfl ?_
  refine x_aload_n dX6_rewrite_1 rfl rfl ?_
  refine x_getf (ci := 5) (kf := 1) dX6_rewrite_2 rfl uX6 (by decide) fl_RX6_21 h0 rfl ?_
  refine x_getf (ci := 0) (kf := 5) dX6_rewrite_5 rfl uX0 (by decide) fl_RX6_64 ho rfl ?_
  refine x_callV (ci := 3) (as := [.ref (10)]) dX6_rewrite_8 mk_X4_wipe in_X4_wipe se_X4_wipe ml_RX6_150 rfl hg (by decide) rfl rfl (Nat.le_of_ble_eq_true rfl) (c_wipe hg hB hb hS hs_ hK hk hR hon (Or.inl (by omega))) ?_
  refine x_aload_n dX6_rewrite_11 rfl rfl ?_
  refine x_aload_n dX6_rewrite_12 rfl rfl ?_
  refine x_getf (ci := 5) (kf := 2) dX6_rewrite_13 rfl uX6 (by decide) fl_RX6_30 (gn (gn (gn h0 (by omega)) (by omega)) (by omega)) rfl ?_
  refine x_getf (ci := 2) (kf := 2) dX6_rewrite_16 rfl uX3 (by decide) fl_RX6_184 (gn (gn (gn hm (by omega)) (by omega)) (by omega)) rfl ?_
  refine x_callV (ci := 3) (as := [.ref (13)]) dX6_rewrite_19 mk_X4_program in_X4_program se_X4_program ml_RX6_146 rfl (gs (gn (gn hg (by omega)) (by omega))) (by decide) rfl rfl (Nat.le_of_ble_eq_true rfl) (c_program (gs (gn (gn hg (by omega)) (by omega))) (gn (gn (gn hB (by omega)) (by omega)) (by omega)) (gn (gn (gs hb) (by omega)) (by omega)) (gn (gn (gn hS (by omega)) (by omega)) (by omega)) (gn (gn (gn hs_ (by omega)) (by omega)) (by omega)) (gn (gn (gn hK (by omega)) (by omega)) (by omega)) (gn (gs (gn hk (by omega))) (by omega)) (gn (gn (gn hw (by omega)) (by omega)) (by omega)) (gn (gn (gn hwf (by omega)) (by omega)) (by omega)) (Or.inl (by omega))) ?_
  refine G.hp (show ((((M.set (g + 2) (.inl (1, 34, .inr (.inl (rwp bf on sf 34))))).set (g + 6) (.inl (1, 34, .inr (.inl (fun _ => 0))))).set (g) (.inr (3, [.ref (g + 1), .ref (g + 3), .ref (g + 5), .int (wr + nI 1)]))).set (g + 2) (.inl (1, 34, .inr (.inl (rpg (rwp bf on sf 34) s.2.2.1 sf 34)))) : Hp) = (((M.set (g + 2) (.inl (1, 34, .inr (.inl (rpg (rwp bf on sf 34) s.2.2.1 sf 34))))).set (g + 6) (.inl (1, 34, .inr (.inl (fun _ => 0))))).set (g) (.inr (3, [.ref (g + 1), .ref (g + 3), .ref (g + 5), .int (wr + nI 1)]))) from (ss2 (by omega) (by omega))) ?_
  exact x_ireturn_eq dX6_rewrite_22 rfl rfl
theorem c_syndrome {X : Ev} {M : Hp} {t d r n : Nat} {s : Ms} {g i : Nat} (hi16 : i < 16) (hgi : 22 + 7 * i = g) {ra rr rl : Int32} (h0 : M[0]? = some (.inr (5, [.ref (1), .ref (5), .ref (12), .ref (21), .ref (134), .ref (136), .int (1), .int (ra), .int (rr), .int (rl)]))) {m : Nat} (hf : M[1]? = some (.inr (1, [.ref (2), .ref (3), .ref (4), .int (nI m), .int (nI (2 ^ m - 1))]))) {pw : Nat → Int32} (hp : M[2]? = some (.inl (0, 8192, .inl (pw)))) {lg : Nat → Int32} (hq : M[3]? = some (.inl (0, 8192, .inl (lg))))  (ho : M[5]? = some (.inr (0, [.ref (1), .ref (6), .ref (7), .ref (8), .ref (9), .ref (10), .int (nI t), .int (nI d), .int (nI r), .int (nI n), .long (s.1.1), .long (s.1.2)]))) {hs : Nat → Int64} (hh : M[7]? = some (.inl (1, 256, .inr (.inl (hs))))) {ls : Nat → Int64} (hl : M[8]? = some (.inl (1, 256, .inr (.inl (ls)))))  (hrs : M[9]? = some (.inl (0, 104, .inl (s.2.1))))  (h21 : M[21]? = some (.inl (3, 16, .inr (.inr (.inr (.inr (pgs 16))))))) {wr : Int32} (hg : M[g]? = some (.inr (3, [.ref (g + 1), .ref (g + 3), .ref (g + 5), .int (wr)])))  (hB : M[g + 1]? = some (.inr (4, [.ref (g + 2)]))) {bf : Nat → Int64} (hb : M[g + 2]? = some (.inl (1, 34, .inr (.inl (bf)))))  (hS : M[g + 3]? = some (.inr (4, [.ref (g + 4)]))) {sf : Nat → Int64} (hs_ : M[g + 4]? = some (.inl (1, 34, .inr (.inl (sf)))))  (hK : M[g + 5]? = some (.inr (4, [.ref (g + 6)]))) {kf : Nat → Int64} (hk : M[g + 6]? = some (.inl (1, 34, .inr (.inl (kf))))) (hF : FT pw lg m) (ht8 : t ≤ 8) (hd8 : d ≤ 256) (hr8 : r ≤ 104) {a : Nat} (ha1 : 1 ≤ a) (ha : a ≤ 2 * t) : Cl X 9 jX6_syndrome [.ref (0), .int (nI i), .int (nI a)] M (some (.int (nI (rsum m (fun j => (lft bf (tkd hs ls bf d).1 (tkd hs ls bf d).2 d) (r - 1 - j)) (a % (2 ^ m - 1)) r)))) ((M.set (5) (.inr (0, [.ref (1), .ref (6), .ref (7), .ref (8), .ref (9), .ref (10), .int (nI t), .int (nI d), .int (nI r), .int (nI n), .long ((tkd hs ls bf d).1), .long ((tkd hs ls bf d).2)]))).set (9) (.inl (0, 104, .inl (rsu s.2.1 r (lft bf (tkd hs ls bf d).1 (tkd hs ls bf d).2 d) r)))) := by
  refine Cl.of (ls := [some (.ref (0)), some (.int (nI i)), some (.int (nI a))]) (by decide) rfl (Nat.le_of_ble_eq_true rfl) ?_
  refine x_aload_n dX6_syndrome_0 rfl rfl ?_
  refine x_getf (ci := 5) (kf := 6) dX6_syndrome_1 rfl uX6 (by decide) fl_RX6_84 h0 rfl ?_
  refine x_if_ne (tgt := 10) dX6_syndrome_4 (by decide) (fun _ => ?_) (fun h => False.elim (absurd h (by decide)))
  refine x_aload_n dX6_syndrome_10 rfl rfl ?_
  refine x_iload_n dX6_syndrome_11 rfl rfl ?_
  refine x_callV (ci := 5) (as := [.int (nI i)]) dX6_syndrome_12 mk_X6_hasPage in_X6_hasPage se_X6_hasPage ml_RX6_143 rfl h0 (by decide) rfl rfl (Nat.le_of_ble_eq_true rfl) (c_hasPage) ?_
  refine x_if_eq (tgt := 36) dX6_syndrome_15 (by decide) (fun h => False.elim (ite_ne (inl_n hi16 (by decide)) h)) (fun _ => ?_)
  refine x_iload_n dX6_syndrome_18 rfl rfl ?_
  refine x_iconst (y := nI 1) dX6_syndrome_19 rfl ?_
  refine x_icmp_lt (tgt := 36) dX6_syndrome_20 (by decide) (fun h => False.elim (absurd ((nI_ltI (by omega) (by decide)).mp h) (by omega))) (fun _ => ?_)
  refine x_iload_n dX6_syndrome_23 rfl rfl ?_
  refine x_iconst (y := nI 2) dX6_syndrome_24 rfl ?_
  refine x_aload_n dX6_syndrome_25 rfl rfl ?_
  refine x_getf (ci := 5) (kf := 1) dX6_syndrome_26 rfl uX6 (by decide) fl_RX6_21 h0 rfl ?_
  refine x_getf (ci := 0) (kf := 6) dX6_syndrome_29 rfl uX0 (by decide) fl_RX6_196 ho rfl ?_
  refine x_imul dX6_syndrome_32 ?_
  refine x_casti (y := nI (2 * t)) (pk_mul _ _) ?_
  refine x_icmp_le (tgt := 39) dX6_syndrome_33 (by decide) (fun _ => ?_) (fun h => False.elim (h ((nI_leI (by omega) (by omega)).mpr ha)))
  refine x_aload_n dX6_syndrome_39 rfl rfl ?_
  refine x_getf (ci := 5) (kf := 1) dX6_syndrome_40 rfl uX6 (by decide) fl_RX6_21 h0 rfl ?_
  refine x_aload_n dX6_syndrome_43 rfl rfl ?_
  refine x_getf (ci := 5) (kf := 3) dX6_syndrome_44 rfl uX6 (by decide) fl_RX6_36 h0 rfl ?_
  refine x_iload_n dX6_syndrome_47 rfl rfl ?_
  refine x_ald (j := i) dX6_syndrome_48 h21 rfl (by omega) (by decide) (pgs_at hi16 hgi) ?_
  refine x_getf (ci := 3) (kf := 0) dX6_syndrome_49 rfl uX4 (by decide) fl_RX6_177 hg rfl ?_
  refine x_callV (ci := 0) (as := [.ref (g + 1)]) dX6_syndrome_52 mk_X0_divide in_X0_divide se_X0_divide ml_RX6_199 rfl ho (by decide) rfl rfl (Nat.le_of_ble_eq_true rfl) (c_divide ho hh hl hB hb (by omega) hrs hd8 hr8) ?_
  refine x_pop dX6_syndrome_55 rfl ?_
  refine x_aload_n dX6_syndrome_56 rfl rfl ?_
  refine x_getf (ci := 5) (kf := 1) dX6_syndrome_57 rfl uX6 (by decide) fl_RX6_21 (gn (gn h0 (by decide)) (by decide)) rfl ?_
  refine x_iload_n dX6_syndrome_60 rfl rfl ?_
  refine x_callV (ci := 0) (as := [.int (nI a)]) dX6_syndrome_61 mk_X0_restAt in_X0_restAt se_X0_restAt ml_RX6_203 rfl (gn (gs ho) (by decide)) (by decide) rfl rfl (Nat.le_of_ble_eq_true rfl) (c_restAt (gn (gs ho) (by decide)) (gn (gn hf (by decide)) (by decide)) (gn (gn hp (by decide)) (by decide)) hF (rq := fun j => (lft bf (tkd hs ls bf d).1 (tkd hs ls bf d).2 d) (r - 1 - j)) (gs (gn hrs (by decide))) (fun j hj => rsu_rq j hj) hr8 (by omega)) ?_
  exact x_ireturn_eq dX6_syndrome_64 rfl rfl
/-- the first bit k of the row, from k on, before which w bits of the row are ones that were seen -/
def trn (f : Nat → Int64) (n : Nat) (z : Int32) : Nat → Nat → Nat → Int32
  | 0, _, _ => -1
  | c + 1, k, w => if rb f k then (if nI w = z then nI k else trn f n z c (k + 1) (w + 1)) else trn f n z c (k + 1) w
theorem lp_turned {X : Ev} {M0 M : Hp} {t d r n : Nat} {s : Ms} {ra rr rl : Int32} (h0 : M[0]? = some (.inr (5, [.ref (1), .ref (5), .ref (12), .ref (21), .ref (134), .ref (136), .int (1), .int (ra), .int (rr), .int (rl)])))  (ho : M[5]? = some (.inr (0, [.ref (1), .ref (6), .ref (7), .ref (8), .ref (9), .ref (10), .int (nI t), .int (nI d), .int (nI r), .int (nI n), .long (s.1.1), .long (s.1.2)])))  (hTu : M[136]? = some (.inr (4, [.ref (137)]))) {tf : Nat → Int64} (htu : M[137]? = some (.inl (1, 34, .inr (.inl (tf))))) (hn21 : n ≤ 2176) {z : Int32} : ∀ (c k b : Nat), k + c = n → G X 9 jX6_turned M0 4 [some (.ref (0)), some (.int (z)), some (.int (nI b)), some (.int (nI k))] [] M (some (.int (trn tf n z c k b))) M := by
  intro c
  induction c with
  | zero =>
    intro k b hk
    have hk : k = n := by omega
    subst hk
    refine x_iload_n dX6_turned_4 rfl rfl ?_
    refine x_aload_n dX6_turned_5 rfl rfl ?_
    refine x_getf (ci := 5) (kf := 1) dX6_turned_6 rfl uX6 (by decide) fl_RX6_21 h0 rfl ?_
    refine x_getf (ci := 0) (kf := 9) dX6_turned_9 rfl uX0 (by decide) fl_RX6_193 ho rfl ?_
    refine x_icmp_ge (tgt := 43) dX6_turned_12 (by decide) (fun _ => ?_) (fun h => False.elim (h (nI_le (Nat.le_refl _) (by omega))))
    refine x_iconst (y := -1) dX6_turned_43 rfl ?_
    exact x_ireturn_eq dX6_turned_44 rfl rfl
  | succ c ih =>
    intro k b hk
    have e : trn tf n z (c + 1) k b = if rb tf k then (if nI b = z then nI k else trn tf n z c (k + 1) (b + 1)) else trn tf n z c (k + 1) b := rfl
    refine x_iload_n dX6_turned_4 rfl rfl ?_
    refine x_aload_n dX6_turned_5 rfl rfl ?_
    refine x_getf (ci := 5) (kf := 1) dX6_turned_6 rfl uX6 (by decide) fl_RX6_21 h0 rfl ?_
    refine x_getf (ci := 0) (kf := 9) dX6_turned_9 rfl uX0 (by decide) fl_RX6_193 ho rfl ?_
    refine x_icmp_ge (tgt := 43) dX6_turned_12 (by decide) (fun h => False.elim (nI_ge (by omega : k < n) (by omega) h)) (fun _ => ?_)
    refine x_aload_n dX6_turned_15 rfl rfl ?_
    refine x_getf (ci := 5) (kf := 5) dX6_turned_16 rfl uX6 (by decide) fl_RX6_48 h0 rfl ?_
    refine x_iload_n dX6_turned_19 rfl rfl ?_
    refine x_callV (ci := 4) (as := [.int (nI k)]) dX6_turned_20 mk_X5_at in_X5_at se_X5_at ml_RX6_140 rfl hTu (by decide) rfl rfl (Nat.le_of_ble_eq_true rfl) (c_at hTu htu (by omega)) ?_
    refine x_iconst (y := nI 1) dX6_turned_23 rfl ?_
    refine x_icmp_ne (tgt := 37) dX6_turned_24 (by decide) (fun h24 => ?_) (fun h24 => ?_)
    · refine x_iinc (y := nI (k + 1)) (ls' := [some (.ref (0)), some (.int (z)), some (.int (nI b)), some (.int (nI (k + 1)))]) dX6_turned_37 (by decide) rfl rfl (ii_add _ 1) rfl ?_
      refine x_goto (tgt := 4) dX6_turned_40 (by decide) ?_
      rw [e, if_neg (rb0 h24)]
      exact ih (k + 1) b (by omega)
    · refine x_iload_n dX6_turned_27 rfl rfl ?_
      refine x_iload_n dX6_turned_28 rfl rfl ?_
      refine x_icmp_ne (tgt := 34) dX6_turned_29 (by decide) (fun h29 => ?_) (fun h29 => ?_)
      · refine x_iinc (y := nI (b + 1)) (ls' := [some (.ref (0)), some (.int (z)), some (.int (nI (b + 1))), some (.int (nI k))]) dX6_turned_34 (by decide) rfl rfl (ii_add _ 1) rfl ?_
        refine x_iinc (y := nI (k + 1)) (ls' := [some (.ref (0)), some (.int (z)), some (.int (nI (b + 1))), some (.int (nI (k + 1)))]) dX6_turned_37 (by decide) rfl rfl (ii_add _ 1) rfl ?_
        refine x_goto (tgt := 4) dX6_turned_40 (by decide) ?_
        rw [e, if_pos (rb1 h24), if_neg h29]
        exact ih (k + 1) (b + 1) (by omega)
      · refine x_iload_n dX6_turned_32 rfl rfl ?_
        exact x_ireturn_eq dX6_turned_33 rfl (by rw [e, if_pos (rb1 h24), if_pos h29])
theorem c_turned {X : Ev} {M : Hp} {t d r n : Nat} {s : Ms} {ra rr rl : Int32} (h0 : M[0]? = some (.inr (5, [.ref (1), .ref (5), .ref (12), .ref (21), .ref (134), .ref (136), .int (1), .int (ra), .int (rr), .int (rl)])))  (ho : M[5]? = some (.inr (0, [.ref (1), .ref (6), .ref (7), .ref (8), .ref (9), .ref (10), .int (nI t), .int (nI d), .int (nI r), .int (nI n), .long (s.1.1), .long (s.1.2)])))  (hTu : M[136]? = some (.inr (4, [.ref (137)]))) {tf : Nat → Int64} (htu : M[137]? = some (.inl (1, 34, .inr (.inl (tf))))) (hn21 : n ≤ 2176) {z : Int32} : Cl X 9 jX6_turned [.ref (0), .int (z)] M (some (.int (trn tf n z n 0 0))) M := by
  refine Cl.of (ls := [some (.ref (0)), some (.int (z)), none, none]) (by decide) rfl (Nat.le_of_ble_eq_true rfl) ?_
  refine x_iconst (y := nI 0) dX6_turned_0 rfl ?_
  refine x_istore_n (ls' := [some (.ref (0)), some (.int (z)), some (.int (nI 0)), none]) dX6_turned_1 rfl (by decide) rfl rfl ?_
  refine x_iconst (y := nI 0) dX6_turned_2 rfl ?_
  refine x_istore_n (ls' := [some (.ref (0)), some (.int (z)), some (.int (nI 0)), some (.int (nI 0))]) dX6_turned_3 rfl (by decide) rfl rfl ?_
  exact lp_turned h0 ho hTu htu hn21 n 0 0 (by omega)
theorem c_copyL {X : Ev} {M : Hp} {t d r n : Nat} {s : Ms} {g i : Nat} (hi16 : i < 16) (hgi : 22 + 7 * i = g) {ra rr rl : Int32} (h0 : M[0]? = some (.inr (5, [.ref (1), .ref (5), .ref (12), .ref (21), .ref (134), .ref (136), .int (1), .int (ra), .int (rr), .int (rl)])))  (h21 : M[21]? = some (.inl (3, 16, .inr (.inr (.inr (.inr (pgs 16))))))) {wr : Int32} (hg : M[g]? = some (.inr (3, [.ref (g + 1), .ref (g + 3), .ref (g + 5), .int (wr)])))  (hB : M[g + 1]? = some (.inr (4, [.ref (g + 2)]))) {bf : Nat → Int64} (hb : M[g + 2]? = some (.inl (1, 34, .inr (.inl (bf)))))  (hS : M[g + 3]? = some (.inr (4, [.ref (g + 4)]))) {sf : Nat → Int64} (hs_ : M[g + 4]? = some (.inl (1, 34, .inr (.inl (sf)))))  (hK : M[g + 5]? = some (.inr (4, [.ref (g + 6)]))) {kf : Nat → Int64} (hk : M[g + 6]? = some (.inl (1, 34, .inr (.inl (kf))))) {m : Nat} (hf : M[1]? = some (.inr (1, [.ref (2), .ref (3), .ref (4), .int (nI m), .int (nI (2 ^ m - 1))]))) {pw : Nat → Int32} (hp : M[2]? = some (.inl (0, 8192, .inl (pw)))) {lg : Nat → Int32} (hq : M[3]? = some (.inl (0, 8192, .inl (lg)))) {hs : Nat → Int64} (hh : M[7]? = some (.inl (1, 256, .inr (.inl (hs))))) {ls : Nat → Int64} (hl : M[8]? = some (.inl (1, 256, .inr (.inl (ls)))))  (hm : M[12]? = some (.inr (2, [.ref (1), .ref (5), .ref (13), .ref (15), .ref (16), .ref (17), .ref (18), .ref (19), .ref (20)])))  (hw : M[13]? = some (.inr (4, [.ref (14)])))  (ho : M[5]? = some (.inr (0, [.ref (1), .ref (6), .ref (7), .ref (8), .ref (9), .ref (10), .int (nI t), .int (nI d), .int (nI r), .int (nI n), .long (s.1.1), .long (s.1.2)])))  (hrs : M[9]? = some (.inl (0, 104, .inl (s.2.1))))  (hwf : M[14]? = some (.inl (1, 34, .inr (.inl (s.2.2.1)))))  (hsy : M[15]? = some (.inl (0, 17, .inl (fun j => nI ((s.2.2.2.1) j)))))  (hlc : M[16]? = some (.inl (0, 17, .inl (fun j => nI ((s.2.2.2.2.1) j)))))  (hea : M[17]? = some (.inl (0, 17, .inl (fun j => nI ((s.2.2.2.2.2.1) j)))))  (hsp : M[18]? = some (.inl (0, 17, .inl (fun j => nI ((s.2.2.2.2.2.2.1) j)))))  (hlg : M[19]? = some (.inl (0, 9, .inl (fun j => lgv ((s.2.2.2.2.2.2.2.1) j)))))  (hwr : M[20]? = some (.inl (0, 8, .inl (fun j => nI ((s.2.2.2.2.2.2.2.2) j))))) (hF : FT pw lg m) (hm4 : 4 ≤ m) (ht8 : t ≤ 8) (hd8 : d ≤ 256) (hr8 : r ≤ 104) (hn8 : n = 8 * d + r) (hn1 : 1 ≤ n) (hmd : (mmd ((m, t, d, r, n, hs, ls) : Mp) s bf kf).2 = none) {z : Int32} (hz : inl_ z 16 = true) : Cl X 9 jX6_copy [.ref (0), .int (nI i), .int (z)] M (some (.int (-4))) (((((((((M.set (5) (.inr (0, [.ref (1), .ref (6), .ref (7), .ref (8), .ref (9), .ref (10), .int (nI t), .int (nI d), .int (nI r), .int (nI n), .long ((mmd ((m, t, d, r, n, hs, ls) : Mp) s bf kf).1.1.1), .long ((mmd ((m, t, d, r, n, hs, ls) : Mp) s bf kf).1.1.2)]))).set (9) (.inl (0, 104, .inl ((mmd ((m, t, d, r, n, hs, ls) : Mp) s bf kf).1.2.1)))).set (14) (.inl (1, 34, .inr (.inl ((mmd ((m, t, d, r, n, hs, ls) : Mp) s bf kf).1.2.2.1))))).set (15) (.inl (0, 17, .inl (fun j => nI (((mmd ((m, t, d, r, n, hs, ls) : Mp) s bf kf).1.2.2.2.1) j))))).set (16) (.inl (0, 17, .inl (fun j => nI (((mmd ((m, t, d, r, n, hs, ls) : Mp) s bf kf).1.2.2.2.2.1) j))))).set (17) (.inl (0, 17, .inl (fun j => nI (((mmd ((m, t, d, r, n, hs, ls) : Mp) s bf kf).1.2.2.2.2.2.1) j))))).set (18) (.inl (0, 17, .inl (fun j => nI (((mmd ((m, t, d, r, n, hs, ls) : Mp) s bf kf).1.2.2.2.2.2.2.1) j))))).set (19) (.inl (0, 9, .inl (fun j => lgv (((mmd ((m, t, d, r, n, hs, ls) : Mp) s bf kf).1.2.2.2.2.2.2.2.1) j))))).set (20) (.inl (0, 8, .inl (fun j => nI (((mmd ((m, t, d, r, n, hs, ls) : Mp) s bf kf).1.2.2.2.2.2.2.2.2) j))))) := by
  refine Cl.of (ls := [some (.ref (0)), some (.int (nI i)), some (.int (z))]) (by decide) rfl (Nat.le_of_ble_eq_true rfl) ?_
  refine x_aload_n dX6_copy_0 rfl rfl ?_
  refine x_getf (ci := 5) (kf := 6) dX6_copy_1 rfl uX6 (by decide) fl_RX6_84 h0 rfl ?_
  refine x_if_ne (tgt := 10) dX6_copy_4 (by decide) (fun _ => ?_) (fun h => False.elim (absurd h (by decide)))
  refine x_aload_n dX6_copy_10 rfl rfl ?_
  refine x_iload_n dX6_copy_11 rfl rfl ?_
  refine x_callV (ci := 5) (as := [.int (nI i)]) dX6_copy_12 mk_X6_hasPage in_X6_hasPage se_X6_hasPage ml_RX6_143 rfl h0 (by decide) rfl rfl (Nat.le_of_ble_eq_true rfl) (c_hasPage) ?_
  refine x_if_eq (tgt := 26) dX6_copy_15 (by decide) (fun h => False.elim (ite_ne (inl_n hi16 (by decide)) h)) (fun _ => ?_)
  refine x_aload_n dX6_copy_18 rfl rfl ?_
  refine x_iload_n dX6_copy_19 rfl rfl ?_
  refine x_callV (ci := 5) (as := [.int (z)]) dX6_copy_20 mk_X6_hasPage in_X6_hasPage se_X6_hasPage ml_RX6_143 rfl h0 (by decide) rfl rfl (Nat.le_of_ble_eq_true rfl) (c_hasPage) ?_
  refine x_if_ne (tgt := 29) dX6_copy_23 (by decide) (fun _ => ?_) (fun h => False.elim (ite_ne hz h))
  refine x_aload_n dX6_copy_29 rfl rfl ?_
  refine x_getf (ci := 5) (kf := 2) dX6_copy_30 rfl uX6 (by decide) fl_RX6_30 h0 rfl ?_
  refine x_aload_n dX6_copy_33 rfl rfl ?_
  refine x_getf (ci := 5) (kf := 3) dX6_copy_34 rfl uX6 (by decide) fl_RX6_36 h0 rfl ?_
  refine x_iload_n dX6_copy_37 rfl rfl ?_
  refine x_ald (j := i) dX6_copy_38 h21 rfl (by omega) (by decide) (pgs_at hi16 hgi) ?_
  refine x_callV (ci := 2) (as := [.ref (g)]) dX6_copy_39 mk_X3_mend in_X3_mend se_X3_mend ml_RX6_180 rfl hm (by decide) rfl rfl (Nat.le_of_ble_eq_true rfl) (c_mend (s := s) hm hf hp hq hF hm4 ht8 hd8 hr8 hn8 hn1 hh hl hw ho hrs hwf hsy hlc hea hsp hlg hwr (by omega) hg hB hb hK hk) ?_
  refine x_casti (y := -4) (by rw [hmd]; rfl) ?_
  refine x_bipush (y := -4) dX6_copy_42 rfl ?_
  refine x_icmp_ne (tgt := 50) dX6_copy_44 (by decide) (fun h => False.elim (h rfl)) (fun _ => ?_)
  refine x_bipush (y := -4) dX6_copy_47 rfl ?_
  exact x_ireturn_eq dX6_copy_49 rfl rfl
theorem c_copy {X : Ev} {M : Hp} {t d r n : Nat} {s : Ms} {g i : Nat} (hi16 : i < 16) (hgi : 22 + 7 * i = g) {q i2 : Nat} (hi162 : i2 < 16) (hqi : 22 + 7 * i2 = q) {ra rr rl : Int32} (h0 : M[0]? = some (.inr (5, [.ref (1), .ref (5), .ref (12), .ref (21), .ref (134), .ref (136), .int (1), .int (ra), .int (rr), .int (rl)])))  (h21 : M[21]? = some (.inl (3, 16, .inr (.inr (.inr (.inr (pgs 16))))))) {wr : Int32} (hg : M[g]? = some (.inr (3, [.ref (g + 1), .ref (g + 3), .ref (g + 5), .int (wr)])))  (hB : M[g + 1]? = some (.inr (4, [.ref (g + 2)]))) {bf : Nat → Int64} (hb : M[g + 2]? = some (.inl (1, 34, .inr (.inl (bf)))))  (hS : M[g + 3]? = some (.inr (4, [.ref (g + 4)]))) {sf : Nat → Int64} (hs_ : M[g + 4]? = some (.inl (1, 34, .inr (.inl (sf)))))  (hK : M[g + 5]? = some (.inr (4, [.ref (g + 6)]))) {kf : Nat → Int64} (hk : M[g + 6]? = some (.inl (1, 34, .inr (.inl (kf))))) {m : Nat} (hf : M[1]? = some (.inr (1, [.ref (2), .ref (3), .ref (4), .int (nI m), .int (nI (2 ^ m - 1))]))) {pw : Nat → Int32} (hp : M[2]? = some (.inl (0, 8192, .inl (pw)))) {lg : Nat → Int32} (hq : M[3]? = some (.inl (0, 8192, .inl (lg)))) {hs : Nat → Int64} (hh : M[7]? = some (.inl (1, 256, .inr (.inl (hs))))) {ls : Nat → Int64} (hl : M[8]? = some (.inl (1, 256, .inr (.inl (ls)))))  (hm : M[12]? = some (.inr (2, [.ref (1), .ref (5), .ref (13), .ref (15), .ref (16), .ref (17), .ref (18), .ref (19), .ref (20)])))  (hw : M[13]? = some (.inr (4, [.ref (14)])))  (ho : M[5]? = some (.inr (0, [.ref (1), .ref (6), .ref (7), .ref (8), .ref (9), .ref (10), .int (nI t), .int (nI d), .int (nI r), .int (nI n), .long (s.1.1), .long (s.1.2)])))  (hrs : M[9]? = some (.inl (0, 104, .inl (s.2.1))))  (hwf : M[14]? = some (.inl (1, 34, .inr (.inl (s.2.2.1)))))  (hsy : M[15]? = some (.inl (0, 17, .inl (fun j => nI ((s.2.2.2.1) j)))))  (hlc : M[16]? = some (.inl (0, 17, .inl (fun j => nI ((s.2.2.2.2.1) j)))))  (hea : M[17]? = some (.inl (0, 17, .inl (fun j => nI ((s.2.2.2.2.2.1) j)))))  (hsp : M[18]? = some (.inl (0, 17, .inl (fun j => nI ((s.2.2.2.2.2.2.1) j)))))  (hlg : M[19]? = some (.inl (0, 9, .inl (fun j => lgv ((s.2.2.2.2.2.2.2.1) j)))))  (hwr : M[20]? = some (.inl (0, 8, .inl (fun j => nI ((s.2.2.2.2.2.2.2.2) j))))) {wr2 : Int32} (hg2 : M[q]? = some (.inr (3, [.ref (q + 1), .ref (q + 3), .ref (q + 5), .int (wr2)])))  (hB2 : M[q + 1]? = some (.inr (4, [.ref (q + 2)]))) {bf2 : Nat → Int64} (hb2 : M[q + 2]? = some (.inl (1, 34, .inr (.inl (bf2)))))  (hS2 : M[q + 3]? = some (.inr (4, [.ref (q + 4)]))) {sf2 : Nat → Int64} (hs_2 : M[q + 4]? = some (.inl (1, 34, .inr (.inl (sf2)))))  (hK2 : M[q + 5]? = some (.inr (4, [.ref (q + 6)]))) {kf2 : Nat → Int64} (hk2 : M[q + 6]? = some (.inl (1, 34, .inr (.inl (kf2)))))  (hR : M[10]? = some (.inr (4, [.ref (11)]))) {on : Nat → Int64} (hon : M[11]? = some (.inl (1, 34, .inr (.inl (on))))) (hF : FT pw lg m) (hm4 : 4 ≤ m) (ht8 : t ≤ 8) (hd8 : d ≤ 256) (hr8 : r ≤ 104) (hn8 : n = 8 * d + r) (hn1 : 1 ≤ n) {o : Nat} (ho64 : o < 2 ^ 20) (hmd : (mmd ((m, t, d, r, n, hs, ls) : Mp) s bf kf).2 = some o) : Cl X 9 jX6_copy [.ref (0), .int (nI i), .int (nI i2)] M (some (.int (nI (rones (fun j => rpg (rwp bf2 on sf2 34) (mmd ((m, t, d, r, n, hs, ls) : Mp) s bf kf).1.2.2.1 sf2 34 j ^^^ (mmd ((m, t, d, r, n, hs, ls) : Mp) s bf kf).1.2.2.1 j) 34)))) ((((((((((((M.set (5) (.inr (0, [.ref (1), .ref (6), .ref (7), .ref (8), .ref (9), .ref (10), .int (nI t), .int (nI d), .int (nI r), .int (nI n), .long ((mmd ((m, t, d, r, n, hs, ls) : Mp) s bf kf).1.1.1), .long ((mmd ((m, t, d, r, n, hs, ls) : Mp) s bf kf).1.1.2)]))).set (9) (.inl (0, 104, .inl ((mmd ((m, t, d, r, n, hs, ls) : Mp) s bf kf).1.2.1)))).set (14) (.inl (1, 34, .inr (.inl ((mmd ((m, t, d, r, n, hs, ls) : Mp) s bf kf).1.2.2.1))))).set (15) (.inl (0, 17, .inl (fun j => nI (((mmd ((m, t, d, r, n, hs, ls) : Mp) s bf kf).1.2.2.2.1) j))))).set (16) (.inl (0, 17, .inl (fun j => nI (((mmd ((m, t, d, r, n, hs, ls) : Mp) s bf kf).1.2.2.2.2.1) j))))).set (17) (.inl (0, 17, .inl (fun j => nI (((mmd ((m, t, d, r, n, hs, ls) : Mp) s bf kf).1.2.2.2.2.2.1) j))))).set (18) (.inl (0, 17, .inl (fun j => nI (((mmd ((m, t, d, r, n, hs, ls) : Mp) s bf kf).1.2.2.2.2.2.2.1) j))))).set (19) (.inl (0, 9, .inl (fun j => lgv (((mmd ((m, t, d, r, n, hs, ls) : Mp) s bf kf).1.2.2.2.2.2.2.2.1) j))))).set (20) (.inl (0, 8, .inl (fun j => nI (((mmd ((m, t, d, r, n, hs, ls) : Mp) s bf kf).1.2.2.2.2.2.2.2.2) j))))).set (q + 2) (.inl (1, 34, .inr (.inl (rpg (rwp bf2 on sf2 34) (mmd ((m, t, d, r, n, hs, ls) : Mp) s bf kf).1.2.2.1 sf2 34))))).set (q + 6) (.inl (1, 34, .inr (.inl (fun _ => 0))))).set (q) (.inr (3, [.ref (q + 1), .ref (q + 3), .ref (q + 5), .int (wr2 + nI 1)]))) := by
  refine Cl.of (ls := [some (.ref (0)), some (.int (nI i)), some (.int (nI i2))]) (by decide) rfl (Nat.le_of_ble_eq_true rfl) ?_
  refine x_aload_n dX6_copy_0 rfl rfl ?_
  refine x_getf (ci := 5) (kf := 6) dX6_copy_1 rfl uX6 (by decide) fl_RX6_84 h0 rfl ?_
  refine x_if_ne (tgt := 10) dX6_copy_4 (by decide) (fun _ => ?_) (fun h => False.elim (absurd h (by decide)))
  refine x_aload_n dX6_copy_10 rfl rfl ?_
  refine x_iload_n dX6_copy_11 rfl rfl ?_
  refine x_callV (ci := 5) (as := [.int (nI i)]) dX6_copy_12 mk_X6_hasPage in_X6_hasPage se_X6_hasPage ml_RX6_143 rfl h0 (by decide) rfl rfl (Nat.le_of_ble_eq_true rfl) (c_hasPage) ?_
  refine x_if_eq (tgt := 26) dX6_copy_15 (by decide) (fun h => False.elim (ite_ne (inl_n hi16 (by decide)) h)) (fun _ => ?_)
  refine x_aload_n dX6_copy_18 rfl rfl ?_
  refine x_iload_n dX6_copy_19 rfl rfl ?_
  refine x_callV (ci := 5) (as := [.int (nI i2)]) dX6_copy_20 mk_X6_hasPage in_X6_hasPage se_X6_hasPage ml_RX6_143 rfl h0 (by decide) rfl rfl (Nat.le_of_ble_eq_true rfl) (c_hasPage) ?_
  refine x_if_ne (tgt := 29) dX6_copy_23 (by decide) (fun _ => ?_) (fun h => False.elim (ite_ne (inl_n hi162 (by decide)) h))
  refine x_aload_n dX6_copy_29 rfl rfl ?_
  refine x_getf (ci := 5) (kf := 2) dX6_copy_30 rfl uX6 (by decide) fl_RX6_30 h0 rfl ?_
  refine x_aload_n dX6_copy_33 rfl rfl ?_
  refine x_getf (ci := 5) (kf := 3) dX6_copy_34 rfl uX6 (by decide) fl_RX6_36 h0 rfl ?_
  refine x_iload_n dX6_copy_37 rfl rfl ?_
  refine x_ald (j := i) dX6_copy_38 h21 rfl (by omega) (by decide) (pgs_at hi16 hgi) ?_
  refine x_callV (ci := 2) (as := [.ref (g)]) dX6_copy_39 mk_X3_mend in_X3_mend se_X3_mend ml_RX6_180 rfl hm (by decide) rfl rfl (Nat.le_of_ble_eq_true rfl) (c_mend (s := s) hm hf hp hq hF hm4 ht8 hd8 hr8 hn8 hn1 hh hl hw ho hrs hwf hsy hlc hea hsp hlg hwr (by omega) hg hB hb hK hk) ?_
  refine x_casti (y := nI o) (by rw [hmd]; rfl) ?_
  refine x_bipush (y := -4) dX6_copy_42 rfl ?_
  refine x_icmp_ne (tgt := 50) dX6_copy_44 (by decide) (fun _ => ?_) (fun h => False.elim (nI_nm4 (by omega) h))
  refine x_aload_n dX6_copy_50 rfl rfl ?_
  refine x_aload_n dX6_copy_51 rfl rfl ?_
  refine x_getf (ci := 5) (kf := 3) dX6_copy_52 rfl uX6 (by decide) fl_RX6_36 (gn (gn (gn (gn (gn (gn (gn (gn (gn h0 (by decide)) (by decide)) (by decide)) (by decide)) (by decide)) (by decide)) (by decide)) (by decide)) (by decide)) rfl ?_
  refine x_iload_n dX6_copy_55 rfl rfl ?_
  refine x_ald (j := i2) dX6_copy_56 (gn (gn (gn (gn (gn (gn (gn (gn (gn h21 (by decide)) (by decide)) (by decide)) (by decide)) (by decide)) (by decide)) (by decide)) (by decide)) (by decide)) rfl (by omega) (by decide) (pgs_at hi162 hqi) ?_
  refine x_callV (ci := 5) (as := [.ref (q)]) dX6_copy_57 mk_X6_rewrite in_X6_rewrite se_X6_rewrite ml_RX6_206 rfl (gn (gn (gn (gn (gn (gn (gn (gn (gn h0 (by decide)) (by decide)) (by decide)) (by decide)) (by decide)) (by decide)) (by decide)) (by decide)) (by decide)) (by decide) rfl rfl (Nat.le_of_ble_eq_true rfl) (c_rewrite (s := (mmd ((m, t, d, r, n, hs, ls) : Mp) s bf kf).1) hi162 hqi (gn (gn (gn (gn (gn (gn (gn (gn (gn h0 (by decide)) (by decide)) (by decide)) (by decide)) (by decide)) (by decide)) (by decide)) (by decide)) (by decide)) (gn (gn (gn (gn (gn (gn (gn (gn (gs ho) (by decide)) (by decide)) (by decide)) (by decide)) (by decide)) (by decide)) (by decide)) (by decide)) (gn (gn (gn (gn (gn (gn (gn (gn (gn hR (by decide)) (by decide)) (by decide)) (by decide)) (by decide)) (by decide)) (by decide)) (by decide)) (by decide)) (gn (gn (gn (gn (gn (gn (gn (gn (gn hon (by decide)) (by decide)) (by decide)) (by decide)) (by decide)) (by decide)) (by decide)) (by decide)) (by decide)) (gn (gn (gn (gn (gn (gn (gn (gn (gn hm (by decide)) (by decide)) (by decide)) (by decide)) (by decide)) (by decide)) (by decide)) (by decide)) (by decide)) (gn (gn (gn (gn (gn (gn (gn (gn (gn hw (by decide)) (by decide)) (by decide)) (by decide)) (by decide)) (by decide)) (by decide)) (by decide)) (by decide)) (gn (gn (gn (gn (gn (gn (gs (gn (gn hwf (by decide)) (by decide))) (by decide)) (by decide)) (by decide)) (by decide)) (by decide)) (by decide)) (gn (gn (gn (gn (gn (gn (gn (gn (gn hg2 (by omega)) (by omega)) (by omega)) (by omega)) (by omega)) (by omega)) (by omega)) (by omega)) (by omega)) (gn (gn (gn (gn (gn (gn (gn (gn (gn hB2 (by omega)) (by omega)) (by omega)) (by omega)) (by omega)) (by omega)) (by omega)) (by omega)) (by omega)) (gn (gn (gn (gn (gn (gn (gn (gn (gn hb2 (by omega)) (by omega)) (by omega)) (by omega)) (by omega)) (by omega)) (by omega)) (by omega)) (by omega)) (gn (gn (gn (gn (gn (gn (gn (gn (gn hS2 (by omega)) (by omega)) (by omega)) (by omega)) (by omega)) (by omega)) (by omega)) (by omega)) (by omega)) (gn (gn (gn (gn (gn (gn (gn (gn (gn hs_2 (by omega)) (by omega)) (by omega)) (by omega)) (by omega)) (by omega)) (by omega)) (by omega)) (by omega)) (gn (gn (gn (gn (gn (gn (gn (gn (gn hK2 (by omega)) (by omega)) (by omega)) (by omega)) (by omega)) (by omega)) (by omega)) (by omega)) (by omega)) (gn (gn (gn (gn (gn (gn (gn (gn (gn hk2 (by omega)) (by omega)) (by omega)) (by omega)) (by omega)) (by omega)) (by omega)) (by omega)) (by omega))) ?_
  exact x_ireturn_eq dX6_copy_60 rfl rfl
theorem c_told0_ {X : Ev} {M : Hp} {t d r n : Nat} {s : Ms} {g i : Nat} (hi16 : i < 16) (hgi : 22 + 7 * i = g) {ra rr rl : Int32} (h0 : M[0]? = some (.inr (5, [.ref (1), .ref (5), .ref (12), .ref (21), .ref (134), .ref (136), .int (1), .int (ra), .int (rr), .int (rl)])))  (ho : M[5]? = some (.inr (0, [.ref (1), .ref (6), .ref (7), .ref (8), .ref (9), .ref (10), .int (nI t), .int (nI d), .int (nI r), .int (nI n), .long (s.1.1), .long (s.1.2)])))  (h21 : M[21]? = some (.inl (3, 16, .inr (.inr (.inr (.inr (pgs 16))))))) {wr : Int32} (hg : M[g]? = some (.inr (3, [.ref (g + 1), .ref (g + 3), .ref (g + 5), .int (wr)])))  (hB : M[g + 1]? = some (.inr (4, [.ref (g + 2)]))) {bf : Nat → Int64} (hb : M[g + 2]? = some (.inl (1, 34, .inr (.inl (bf)))))  (hS : M[g + 3]? = some (.inr (4, [.ref (g + 4)]))) {sf : Nat → Int64} (hs_ : M[g + 4]? = some (.inl (1, 34, .inr (.inl (sf)))))  (hK : M[g + 5]? = some (.inr (4, [.ref (g + 6)]))) {kf : Nat → Int64} (hk : M[g + 6]? = some (.inl (1, 34, .inr (.inl (kf))))) {z : Int32} (hz : z.toInt = 0) : Cl X 9 jX6_told [.ref (0), .int (nI i), .int (z)] M (some (.int (wr))) M := by
  refine Cl.of (ls := [some (.ref (0)), some (.int (nI i)), some (.int (z)), none]) (by decide) rfl (Nat.le_of_ble_eq_true rfl) ?_
  refine x_aload_n dX6_told_0 rfl rfl ?_
  refine x_getf (ci := 5) (kf := 6) dX6_told_1 rfl uX6 (by decide) fl_RX6_84 h0 rfl ?_
  refine x_if_ne (tgt := 10) dX6_told_4 (by decide) (fun _ => ?_) (fun h => False.elim (absurd h (by decide)))
  refine x_aload_n dX6_told_10 rfl rfl ?_
  refine x_iload_n dX6_told_11 rfl rfl ?_
  refine x_callV (ci := 5) (as := [.int (nI i)]) dX6_told_12 mk_X6_hasPage in_X6_hasPage se_X6_hasPage ml_RX6_143 rfl h0 (by decide) rfl rfl (Nat.le_of_ble_eq_true rfl) (c_hasPage) ?_
  refine x_if_eq (tgt := 28) dX6_told_15 (by decide) (fun h => False.elim (ite_ne (inl_n hi16 (by decide)) h)) (fun _ => ?_)
  refine x_iload_n dX6_told_18 rfl rfl ?_
  refine x_if_lt (tgt := 28) dX6_told_19 (by decide) (fun h => False.elim (absurd ((i32_neg_iff z).mp h) (by omega))) (fun _ => ?_)
  refine x_iload_n dX6_told_22 rfl rfl ?_
  refine x_bipush (y := nI 19) dX6_told_23 rfl ?_
  refine x_icmp_le (tgt := 31) dX6_told_25 (by decide) (fun _ => ?_) (fun h => False.elim (h (Int32.le_iff_toInt_le.mpr (by rw [nI_toInt (by decide)]; omega))))
  refine x_aload_n dX6_told_31 rfl rfl ?_
  refine x_getf (ci := 5) (kf := 3) dX6_told_32 rfl uX6 (by decide) fl_RX6_36 h0 rfl ?_
  refine x_iload_n dX6_told_35 rfl rfl ?_
  refine x_ald (j := i) dX6_told_36 h21 rfl (by omega) (by decide) (pgs_at hi16 hgi) ?_
  refine x_astore_n (ls' := [some (.ref (0)), some (.int (nI i)), some (.int (z)), some (.ref (g))]) dX6_told_37 rfl (by decide) rfl rfl ?_
  refine x_iload_n dX6_told_38 rfl rfl ?_
  refine x_tabIn (tgt := 68) dX6_told_39 (by omega) (by omega) (by rw [hz]; rfl) (by decide) ?_
  refine x_aload_n dX6_told_68 rfl rfl ?_
  refine x_getf (ci := 3) (kf := 3) dX6_told_69 rfl uX4 (by decide) fl_RX6_153 hg rfl ?_
  exact x_ireturn_eq dX6_told_72 rfl rfl
theorem c_told1_ {X : Ev} {M : Hp} {t d r n : Nat} {s : Ms} {g i : Nat} (hi16 : i < 16) (hgi : 22 + 7 * i = g) {ra rr rl : Int32} (h0 : M[0]? = some (.inr (5, [.ref (1), .ref (5), .ref (12), .ref (21), .ref (134), .ref (136), .int (1), .int (ra), .int (rr), .int (rl)])))  (ho : M[5]? = some (.inr (0, [.ref (1), .ref (6), .ref (7), .ref (8), .ref (9), .ref (10), .int (nI t), .int (nI d), .int (nI r), .int (nI n), .long (s.1.1), .long (s.1.2)])))  (h21 : M[21]? = some (.inl (3, 16, .inr (.inr (.inr (.inr (pgs 16))))))) {wr : Int32} (hg : M[g]? = some (.inr (3, [.ref (g + 1), .ref (g + 3), .ref (g + 5), .int (wr)])))  (hB : M[g + 1]? = some (.inr (4, [.ref (g + 2)]))) {bf : Nat → Int64} (hb : M[g + 2]? = some (.inl (1, 34, .inr (.inl (bf)))))  (hS : M[g + 3]? = some (.inr (4, [.ref (g + 4)]))) {sf : Nat → Int64} (hs_ : M[g + 4]? = some (.inl (1, 34, .inr (.inl (sf)))))  (hK : M[g + 5]? = some (.inr (4, [.ref (g + 6)]))) {kf : Nat → Int64} (hk : M[g + 6]? = some (.inl (1, 34, .inr (.inl (kf))))) {z : Int32} (hz : z.toInt = 1) : Cl X 9 jX6_told [.ref (0), .int (nI i), .int (z)] M (some (.int (nI (rones kf 34)))) M := by
  refine Cl.of (ls := [some (.ref (0)), some (.int (nI i)), some (.int (z)), none]) (by decide) rfl (Nat.le_of_ble_eq_true rfl) ?_
  refine x_aload_n dX6_told_0 rfl rfl ?_
  refine x_getf (ci := 5) (kf := 6) dX6_told_1 rfl uX6 (by decide) fl_RX6_84 h0 rfl ?_
  refine x_if_ne (tgt := 10) dX6_told_4 (by decide) (fun _ => ?_) (fun h => False.elim (absurd h (by decide)))
  refine x_aload_n dX6_told_10 rfl rfl ?_
  refine x_iload_n dX6_told_11 rfl rfl ?_
  refine x_callV (ci := 5) (as := [.int (nI i)]) dX6_told_12 mk_X6_hasPage in_X6_hasPage se_X6_hasPage ml_RX6_143 rfl h0 (by decide) rfl rfl (Nat.le_of_ble_eq_true rfl) (c_hasPage) ?_
  refine x_if_eq (tgt := 28) dX6_told_15 (by decide) (fun h => False.elim (ite_ne (inl_n hi16 (by decide)) h)) (fun _ => ?_)
  refine x_iload_n dX6_told_18 rfl rfl ?_
  refine x_if_lt (tgt := 28) dX6_told_19 (by decide) (fun h => False.elim (absurd ((i32_neg_iff z).mp h) (by omega))) (fun _ => ?_)
  refine x_iload_n dX6_told_22 rfl rfl ?_
  refine x_bipush (y := nI 19) dX6_told_23 rfl ?_
  refine x_icmp_le (tgt := 31) dX6_told_25 (by decide) (fun _ => ?_) (fun h => False.elim (h (Int32.le_iff_toInt_le.mpr (by rw [nI_toInt (by decide)]; omega))))
  refine x_aload_n dX6_told_31 rfl rfl ?_
  refine x_getf (ci := 5) (kf := 3) dX6_told_32 rfl uX6 (by decide) fl_RX6_36 h0 rfl ?_
  refine x_iload_n dX6_told_35 rfl rfl ?_
  refine x_ald (j := i) dX6_told_36 h21 rfl (by omega) (by decide) (pgs_at hi16 hgi) ?_
  refine x_astore_n (ls' := [some (.ref (0)), some (.int (nI i)), some (.int (z)), some (.ref (g))]) dX6_told_37 rfl (by decide) rfl rfl ?_
  refine x_iload_n dX6_told_38 rfl rfl ?_
  refine x_tabIn (tgt := 73) dX6_told_39 (by omega) (by omega) (by rw [hz]; rfl) (by decide) ?_
  refine x_aload_n dX6_told_73 rfl rfl ?_
  refine x_getf (ci := 3) (kf := 2) dX6_told_74 rfl uX4 (by decide) fl_RX6_171 hg rfl ?_
  refine x_callV (ci := 4) (as := []) dX6_told_77 mk_X5_ones in_X5_ones se_X5_ones ml_RX6_168 rfl hK (by decide) rfl rfl (Nat.le_of_ble_eq_true rfl) (c_ones hK hk) ?_
  exact x_ireturn_eq dX6_told_80 rfl rfl
theorem c_told2_ {X : Ev} {M : Hp} {t d r n : Nat} {s : Ms} {g i : Nat} (hi16 : i < 16) (hgi : 22 + 7 * i = g) {ra rr rl : Int32} (h0 : M[0]? = some (.inr (5, [.ref (1), .ref (5), .ref (12), .ref (21), .ref (134), .ref (136), .int (1), .int (ra), .int (rr), .int (rl)])))  (ho : M[5]? = some (.inr (0, [.ref (1), .ref (6), .ref (7), .ref (8), .ref (9), .ref (10), .int (nI t), .int (nI d), .int (nI r), .int (nI n), .long (s.1.1), .long (s.1.2)])))  (h21 : M[21]? = some (.inl (3, 16, .inr (.inr (.inr (.inr (pgs 16))))))) {wr : Int32} (hg : M[g]? = some (.inr (3, [.ref (g + 1), .ref (g + 3), .ref (g + 5), .int (wr)])))  (hB : M[g + 1]? = some (.inr (4, [.ref (g + 2)]))) {bf : Nat → Int64} (hb : M[g + 2]? = some (.inl (1, 34, .inr (.inl (bf)))))  (hS : M[g + 3]? = some (.inr (4, [.ref (g + 4)]))) {sf : Nat → Int64} (hs_ : M[g + 4]? = some (.inl (1, 34, .inr (.inl (sf)))))  (hK : M[g + 5]? = some (.inr (4, [.ref (g + 6)]))) {kf : Nat → Int64} (hk : M[g + 6]? = some (.inl (1, 34, .inr (.inl (kf))))) {z : Int32} (hz : z.toInt = 2) : Cl X 9 jX6_told [.ref (0), .int (nI i), .int (z)] M (some (.int (nI (rones sf 34)))) M := by
  refine Cl.of (ls := [some (.ref (0)), some (.int (nI i)), some (.int (z)), none]) (by decide) rfl (Nat.le_of_ble_eq_true rfl) ?_
  refine x_aload_n dX6_told_0 rfl rfl ?_
  refine x_getf (ci := 5) (kf := 6) dX6_told_1 rfl uX6 (by decide) fl_RX6_84 h0 rfl ?_
  refine x_if_ne (tgt := 10) dX6_told_4 (by decide) (fun _ => ?_) (fun h => False.elim (absurd h (by decide)))
  refine x_aload_n dX6_told_10 rfl rfl ?_
  refine x_iload_n dX6_told_11 rfl rfl ?_
  refine x_callV (ci := 5) (as := [.int (nI i)]) dX6_told_12 mk_X6_hasPage in_X6_hasPage se_X6_hasPage ml_RX6_143 rfl h0 (by decide) rfl rfl (Nat.le_of_ble_eq_true rfl) (c_hasPage) ?_
  refine x_if_eq (tgt := 28) dX6_told_15 (by decide) (fun h => False.elim (ite_ne (inl_n hi16 (by decide)) h)) (fun _ => ?_)
  refine x_iload_n dX6_told_18 rfl rfl ?_
  refine x_if_lt (tgt := 28) dX6_told_19 (by decide) (fun h => False.elim (absurd ((i32_neg_iff z).mp h) (by omega))) (fun _ => ?_)
  refine x_iload_n dX6_told_22 rfl rfl ?_
  refine x_bipush (y := nI 19) dX6_told_23 rfl ?_
  refine x_icmp_le (tgt := 31) dX6_told_25 (by decide) (fun _ => ?_) (fun h => False.elim (h (Int32.le_iff_toInt_le.mpr (by rw [nI_toInt (by decide)]; omega))))
  refine x_aload_n dX6_told_31 rfl rfl ?_
  refine x_getf (ci := 5) (kf := 3) dX6_told_32 rfl uX6 (by decide) fl_RX6_36 h0 rfl ?_
  refine x_iload_n dX6_told_35 rfl rfl ?_
  refine x_ald (j := i) dX6_told_36 h21 rfl (by omega) (by decide) (pgs_at hi16 hgi) ?_
  refine x_astore_n (ls' := [some (.ref (0)), some (.int (nI i)), some (.int (z)), some (.ref (g))]) dX6_told_37 rfl (by decide) rfl rfl ?_
  refine x_iload_n dX6_told_38 rfl rfl ?_
  refine x_tabIn (tgt := 81) dX6_told_39 (by omega) (by omega) (by rw [hz]; rfl) (by decide) ?_
  refine x_aload_n dX6_told_81 rfl rfl ?_
  refine x_getf (ci := 3) (kf := 1) dX6_told_82 rfl uX4 (by decide) fl_RX6_165 hg rfl ?_
  refine x_callV (ci := 4) (as := []) dX6_told_85 mk_X5_ones in_X5_ones se_X5_ones ml_RX6_168 rfl hS (by decide) rfl rfl (Nat.le_of_ble_eq_true rfl) (c_ones hS hs_) ?_
  exact x_ireturn_eq dX6_told_88 rfl rfl
theorem c_told3_ {X : Ev} {M : Hp} {t d r n : Nat} {s : Ms} {g i : Nat} (hi16 : i < 16) (hgi : 22 + 7 * i = g) {ra rr rl : Int32} (h0 : M[0]? = some (.inr (5, [.ref (1), .ref (5), .ref (12), .ref (21), .ref (134), .ref (136), .int (1), .int (ra), .int (rr), .int (rl)])))  (ho : M[5]? = some (.inr (0, [.ref (1), .ref (6), .ref (7), .ref (8), .ref (9), .ref (10), .int (nI t), .int (nI d), .int (nI r), .int (nI n), .long (s.1.1), .long (s.1.2)])))  (h21 : M[21]? = some (.inl (3, 16, .inr (.inr (.inr (.inr (pgs 16))))))) {wr : Int32} (hg : M[g]? = some (.inr (3, [.ref (g + 1), .ref (g + 3), .ref (g + 5), .int (wr)])))  (hB : M[g + 1]? = some (.inr (4, [.ref (g + 2)]))) {bf : Nat → Int64} (hb : M[g + 2]? = some (.inl (1, 34, .inr (.inl (bf)))))  (hS : M[g + 3]? = some (.inr (4, [.ref (g + 4)]))) {sf : Nat → Int64} (hs_ : M[g + 4]? = some (.inl (1, 34, .inr (.inl (sf)))))  (hK : M[g + 5]? = some (.inr (4, [.ref (g + 6)]))) {kf : Nat → Int64} (hk : M[g + 6]? = some (.inl (1, 34, .inr (.inl (kf))))) {z : Int32} (hz : z.toInt = 3) : Cl X 9 jX6_told [.ref (0), .int (nI i), .int (z)] M (some (.int (nI n - nI (rones bf 34)))) M := by
  refine Cl.of (ls := [some (.ref (0)), some (.int (nI i)), some (.int (z)), none]) (by decide) rfl (Nat.le_of_ble_eq_true rfl) ?_
  refine x_aload_n dX6_told_0 rfl rfl ?_
  refine x_getf (ci := 5) (kf := 6) dX6_told_1 rfl uX6 (by decide) fl_RX6_84 h0 rfl ?_
  refine x_if_ne (tgt := 10) dX6_told_4 (by decide) (fun _ => ?_) (fun h => False.elim (absurd h (by decide)))
  refine x_aload_n dX6_told_10 rfl rfl ?_
  refine x_iload_n dX6_told_11 rfl rfl ?_
  refine x_callV (ci := 5) (as := [.int (nI i)]) dX6_told_12 mk_X6_hasPage in_X6_hasPage se_X6_hasPage ml_RX6_143 rfl h0 (by decide) rfl rfl (Nat.le_of_ble_eq_true rfl) (c_hasPage) ?_
  refine x_if_eq (tgt := 28) dX6_told_15 (by decide) (fun h => False.elim (ite_ne (inl_n hi16 (by decide)) h)) (fun _ => ?_)
  refine x_iload_n dX6_told_18 rfl rfl ?_
  refine x_if_lt (tgt := 28) dX6_told_19 (by decide) (fun h => False.elim (absurd ((i32_neg_iff z).mp h) (by omega))) (fun _ => ?_)
  refine x_iload_n dX6_told_22 rfl rfl ?_
  refine x_bipush (y := nI 19) dX6_told_23 rfl ?_
  refine x_icmp_le (tgt := 31) dX6_told_25 (by decide) (fun _ => ?_) (fun h => False.elim (h (Int32.le_iff_toInt_le.mpr (by rw [nI_toInt (by decide)]; omega))))
  refine x_aload_n dX6_told_31 rfl rfl ?_
  refine x_getf (ci := 5) (kf := 3) dX6_told_32 rfl uX6 (by decide) fl_RX6_36 h0 rfl ?_
  refine x_iload_n dX6_told_35 rfl rfl ?_
  refine x_ald (j := i) dX6_told_36 h21 rfl (by omega) (by decide) (pgs_at hi16 hgi) ?_
  refine x_astore_n (ls' := [some (.ref (0)), some (.int (nI i)), some (.int (z)), some (.ref (g))]) dX6_told_37 rfl (by decide) rfl rfl ?_
  refine x_iload_n dX6_told_38 rfl rfl ?_
  refine x_tabIn (tgt := 89) dX6_told_39 (by omega) (by omega) (by rw [hz]; rfl) (by decide) ?_
  refine x_aload_n dX6_told_89 rfl rfl ?_
  refine x_getf (ci := 5) (kf := 1) dX6_told_90 rfl uX6 (by decide) fl_RX6_21 h0 rfl ?_
  refine x_getf (ci := 0) (kf := 9) dX6_told_93 rfl uX0 (by decide) fl_RX6_193 ho rfl ?_
  refine x_aload_n dX6_told_96 rfl rfl ?_
  refine x_getf (ci := 3) (kf := 0) dX6_told_97 rfl uX4 (by decide) fl_RX6_177 hg rfl ?_
  refine x_callV (ci := 4) (as := []) dX6_told_100 mk_X5_ones in_X5_ones se_X5_ones ml_RX6_168 rfl hB (by decide) rfl rfl (Nat.le_of_ble_eq_true rfl) (c_ones hB hb) ?_
  refine x_isub dX6_told_103 ?_
  exact x_ireturn_eq dX6_told_104 rfl rfl
theorem c_told4_ {X : Ev} {M : Hp} {t d r n : Nat} {s : Ms} {g i : Nat} (hi16 : i < 16) (hgi : 22 + 7 * i = g) {q i2 : Nat} (hi162 : i2 < 16) (hqi : 22 + 7 * i2 = q) {ra rr rl : Int32} (h0 : M[0]? = some (.inr (5, [.ref (1), .ref (5), .ref (12), .ref (21), .ref (134), .ref (136), .int (1), .int (ra), .int (rr), .int (rl)])))  (ho : M[5]? = some (.inr (0, [.ref (1), .ref (6), .ref (7), .ref (8), .ref (9), .ref (10), .int (nI t), .int (nI d), .int (nI r), .int (nI n), .long (s.1.1), .long (s.1.2)])))  (h21 : M[21]? = some (.inl (3, 16, .inr (.inr (.inr (.inr (pgs 16))))))) {wr : Int32} (hg : M[g]? = some (.inr (3, [.ref (g + 1), .ref (g + 3), .ref (g + 5), .int (wr)])))  (hB : M[g + 1]? = some (.inr (4, [.ref (g + 2)]))) {bf : Nat → Int64} (hb : M[g + 2]? = some (.inl (1, 34, .inr (.inl (bf)))))  (hS : M[g + 3]? = some (.inr (4, [.ref (g + 4)]))) {sf : Nat → Int64} (hs_ : M[g + 4]? = some (.inl (1, 34, .inr (.inl (sf)))))  (hK : M[g + 5]? = some (.inr (4, [.ref (g + 6)]))) {kf : Nat → Int64} (hk : M[g + 6]? = some (.inl (1, 34, .inr (.inl (kf))))) {wr2 : Int32} (hg2 : M[q]? = some (.inr (3, [.ref (q + 1), .ref (q + 3), .ref (q + 5), .int (wr2)])))  (hB2 : M[q + 1]? = some (.inr (4, [.ref (q + 2)]))) {bf2 : Nat → Int64} (hb2 : M[q + 2]? = some (.inl (1, 34, .inr (.inl (bf2)))))  (hS2 : M[q + 3]? = some (.inr (4, [.ref (q + 4)]))) {sf2 : Nat → Int64} (hs_2 : M[q + 4]? = some (.inl (1, 34, .inr (.inl (sf2)))))  (hK2 : M[q + 5]? = some (.inr (4, [.ref (q + 6)]))) {kf2 : Nat → Int64} (hk2 : M[q + 6]? = some (.inl (1, 34, .inr (.inl (kf2))))) {a : Nat} (ha4 : 4 ≤ a) (ha20 : a < 20) (hia : i2 = (i + a - 4) % 16) : Cl X 9 jX6_told [.ref (0), .int (nI i), .int (nI a)] M (some (.int (nI (rones (fun j => bf j ^^^ bf2 j) 34)))) M := by
  have hz := nI_toInt (n := a) (by omega)
  refine Cl.of (ls := [some (.ref (0)), some (.int (nI i)), some (.int (nI a)), none]) (by decide) rfl (Nat.le_of_ble_eq_true rfl) ?_
  refine x_aload_n dX6_told_0 rfl rfl ?_
  refine x_getf (ci := 5) (kf := 6) dX6_told_1 rfl uX6 (by decide) fl_RX6_84 h0 rfl ?_
  refine x_if_ne (tgt := 10) dX6_told_4 (by decide) (fun _ => ?_) (fun h => False.elim (absurd h (by decide)))
  refine x_aload_n dX6_told_10 rfl rfl ?_
  refine x_iload_n dX6_told_11 rfl rfl ?_
  refine x_callV (ci := 5) (as := [.int (nI i)]) dX6_told_12 mk_X6_hasPage in_X6_hasPage se_X6_hasPage ml_RX6_143 rfl h0 (by decide) rfl rfl (Nat.le_of_ble_eq_true rfl) (c_hasPage) ?_
  refine x_if_eq (tgt := 28) dX6_told_15 (by decide) (fun h => False.elim (ite_ne (inl_n hi16 (by decide)) h)) (fun _ => ?_)
  refine x_iload_n dX6_told_18 rfl rfl ?_
  refine x_if_lt (tgt := 28) dX6_told_19 (by decide) (fun h => False.elim (absurd h (nI_pos (by omega)))) (fun _ => ?_)
  refine x_iload_n dX6_told_22 rfl rfl ?_
  refine x_bipush (y := nI 19) dX6_told_23 rfl ?_
  refine x_icmp_le (tgt := 31) dX6_told_25 (by decide) (fun _ => ?_) (fun h => False.elim (h ((nI_leI (by omega) (by decide)).mpr (by omega))))
  refine x_aload_n dX6_told_31 rfl rfl ?_
  refine x_getf (ci := 5) (kf := 3) dX6_told_32 rfl uX6 (by decide) fl_RX6_36 h0 rfl ?_
  refine x_iload_n dX6_told_35 rfl rfl ?_
  refine x_ald (j := i) dX6_told_36 h21 rfl (by omega) (by decide) (pgs_at hi16 hgi) ?_
  refine x_astore_n (ls' := [some (.ref (0)), some (.int (nI i)), some (.int (nI a)), some (.ref (g))]) dX6_told_37 rfl (by decide) rfl rfl ?_
  refine x_iload_n dX6_told_38 rfl rfl ?_
  refine x_tabOut (tgt := 105) dX6_told_39 (Or.inr (by omega)) (by decide) ?_
  refine x_aload_n dX6_told_105 rfl rfl ?_
  refine x_getf (ci := 3) (kf := 0) dX6_told_106 rfl uX4 (by decide) fl_RX6_177 hg rfl ?_
  refine x_aload_n dX6_told_109 rfl rfl ?_
  refine x_getf (ci := 5) (kf := 3) dX6_told_110 rfl uX6 (by decide) fl_RX6_36 h0 rfl ?_
  refine x_iload_n dX6_told_113 rfl rfl ?_
  refine x_iload_n dX6_told_114 rfl rfl ?_
  refine x_iadd dX6_told_115 ?_
  refine x_casti (y := nI (i + a)) (nI_add _ _) ?_
  refine x_iconst (y := nI 4) dX6_told_116 rfl ?_
  refine x_isub dX6_told_117 ?_
  refine x_casti (y := nI (i + a - 4)) (pk_sub (by omega)) ?_
  refine x_bipush (y := nI 15) dX6_told_118 rfl ?_
  refine x_iand dX6_told_120 ?_
  refine x_casti (y := nI i2) (by rw [pk_andN (by omega) 4 (by decide), hia]) ?_
  refine x_ald (j := i2) dX6_told_121 h21 rfl (by omega) (by decide) (pgs_at hi162 hqi) ?_
  refine x_getf (ci := 3) (kf := 0) dX6_told_122 rfl uX4 (by decide) fl_RX6_177 hg2 rfl ?_
  refine x_callV (ci := 4) (as := [.ref (q + 1)]) dX6_told_125 mk_X5_apart in_X5_apart se_X5_apart ml_RX6_209 rfl hB (by decide) rfl rfl (Nat.le_of_ble_eq_true rfl) (c_apart hB hb hB2 hb2) ?_
  exact x_ireturn_eq dX6_told_128 rfl rfl
theorem c_about0_ {X : Ev} {M : Hp} {t d r n : Nat} {s : Ms} {ra rr rl : Int32} (h0 : M[0]? = some (.inr (5, [.ref (1), .ref (5), .ref (12), .ref (21), .ref (134), .ref (136), .int (1), .int (ra), .int (rr), .int (rl)]))) {m : Nat} (hf : M[1]? = some (.inr (1, [.ref (2), .ref (3), .ref (4), .int (nI m), .int (nI (2 ^ m - 1))])))  (ho : M[5]? = some (.inr (0, [.ref (1), .ref (6), .ref (7), .ref (8), .ref (9), .ref (10), .int (nI t), .int (nI d), .int (nI r), .int (nI n), .long (s.1.1), .long (s.1.2)]))) {z : Int32} (hz : z.toInt = 0) : Cl X 9 jX6_about [.ref (0), .int (z)] M (some (.int (nI m))) M := by
  refine Cl.of (ls := [some (.ref (0)), some (.int (z))]) (by decide) rfl (Nat.le_of_ble_eq_true rfl) ?_
  refine x_aload_n dX6_about_0 rfl rfl ?_
  refine x_getf (ci := 5) (kf := 6) dX6_about_1 rfl uX6 (by decide) fl_RX6_84 h0 rfl ?_
  refine x_if_ne (tgt := 10) dX6_about_4 (by decide) (fun _ => ?_) (fun h => False.elim (absurd h (by decide)))
  refine x_iload_n dX6_about_10 rfl rfl ?_
  refine x_tabIn (tgt := 56) dX6_about_11 (by omega) (by omega) (by rw [hz]; rfl) (by decide) ?_
  refine x_aload_n dX6_about_56 rfl rfl ?_
  refine x_getf (ci := 5) (kf := 0) dX6_about_57 rfl uX6 (by decide) fl_RX6_12 h0 rfl ?_
  refine x_getf (ci := 1) (kf := 3) dX6_about_60 rfl uX2 (by decide) fl_RX6_212 hf rfl ?_
  exact x_ireturn_eq dX6_about_63 rfl rfl
theorem c_about1_ {X : Ev} {M : Hp} {t d r n : Nat} {s : Ms} {ra rr rl : Int32} (h0 : M[0]? = some (.inr (5, [.ref (1), .ref (5), .ref (12), .ref (21), .ref (134), .ref (136), .int (1), .int (ra), .int (rr), .int (rl)]))) {m : Nat} (hf : M[1]? = some (.inr (1, [.ref (2), .ref (3), .ref (4), .int (nI m), .int (nI (2 ^ m - 1))])))  (ho : M[5]? = some (.inr (0, [.ref (1), .ref (6), .ref (7), .ref (8), .ref (9), .ref (10), .int (nI t), .int (nI d), .int (nI r), .int (nI n), .long (s.1.1), .long (s.1.2)]))) {z : Int32} (hz : z.toInt = 1) : Cl X 9 jX6_about [.ref (0), .int (z)] M (some (.int (nI t))) M := by
  refine Cl.of (ls := [some (.ref (0)), some (.int (z))]) (by decide) rfl (Nat.le_of_ble_eq_true rfl) ?_
  refine x_aload_n dX6_about_0 rfl rfl ?_
  refine x_getf (ci := 5) (kf := 6) dX6_about_1 rfl uX6 (by decide) fl_RX6_84 h0 rfl ?_
  refine x_if_ne (tgt := 10) dX6_about_4 (by decide) (fun _ => ?_) (fun h => False.elim (absurd h (by decide)))
  refine x_iload_n dX6_about_10 rfl rfl ?_
  refine x_tabIn (tgt := 64) dX6_about_11 (by omega) (by omega) (by rw [hz]; rfl) (by decide) ?_
  refine x_aload_n dX6_about_64 rfl rfl ?_
  refine x_getf (ci := 5) (kf := 1) dX6_about_65 rfl uX6 (by decide) fl_RX6_21 h0 rfl ?_
  refine x_getf (ci := 0) (kf := 6) dX6_about_68 rfl uX0 (by decide) fl_RX6_196 ho rfl ?_
  exact x_ireturn_eq dX6_about_71 rfl rfl
theorem c_about2_ {X : Ev} {M : Hp} {t d r n : Nat} {s : Ms} {ra rr rl : Int32} (h0 : M[0]? = some (.inr (5, [.ref (1), .ref (5), .ref (12), .ref (21), .ref (134), .ref (136), .int (1), .int (ra), .int (rr), .int (rl)]))) {m : Nat} (hf : M[1]? = some (.inr (1, [.ref (2), .ref (3), .ref (4), .int (nI m), .int (nI (2 ^ m - 1))])))  (ho : M[5]? = some (.inr (0, [.ref (1), .ref (6), .ref (7), .ref (8), .ref (9), .ref (10), .int (nI t), .int (nI d), .int (nI r), .int (nI n), .long (s.1.1), .long (s.1.2)]))) {z : Int32} (hz : z.toInt = 2) : Cl X 9 jX6_about [.ref (0), .int (z)] M (some (.int (nI d))) M := by
  refine Cl.of (ls := [some (.ref (0)), some (.int (z))]) (by decide) rfl (Nat.le_of_ble_eq_true rfl) ?_
  refine x_aload_n dX6_about_0 rfl rfl ?_
  refine x_getf (ci := 5) (kf := 6) dX6_about_1 rfl uX6 (by decide) fl_RX6_84 h0 rfl ?_
  refine x_if_ne (tgt := 10) dX6_about_4 (by decide) (fun _ => ?_) (fun h => False.elim (absurd h (by decide)))
  refine x_iload_n dX6_about_10 rfl rfl ?_
  refine x_tabIn (tgt := 72) dX6_about_11 (by omega) (by omega) (by rw [hz]; rfl) (by decide) ?_
  refine x_aload_n dX6_about_72 rfl rfl ?_
  refine x_getf (ci := 5) (kf := 1) dX6_about_73 rfl uX6 (by decide) fl_RX6_21 h0 rfl ?_
  refine x_getf (ci := 0) (kf := 7) dX6_about_76 rfl uX0 (by decide) fl_RX6_129 ho rfl ?_
  exact x_ireturn_eq dX6_about_79 rfl rfl
theorem c_about3_ {X : Ev} {M : Hp} {t d r n : Nat} {s : Ms} {ra rr rl : Int32} (h0 : M[0]? = some (.inr (5, [.ref (1), .ref (5), .ref (12), .ref (21), .ref (134), .ref (136), .int (1), .int (ra), .int (rr), .int (rl)]))) {m : Nat} (hf : M[1]? = some (.inr (1, [.ref (2), .ref (3), .ref (4), .int (nI m), .int (nI (2 ^ m - 1))])))  (ho : M[5]? = some (.inr (0, [.ref (1), .ref (6), .ref (7), .ref (8), .ref (9), .ref (10), .int (nI t), .int (nI d), .int (nI r), .int (nI n), .long (s.1.1), .long (s.1.2)]))) {z : Int32} (hz : z.toInt = 3) : Cl X 9 jX6_about [.ref (0), .int (z)] M (some (.int (nI r))) M := by
  refine Cl.of (ls := [some (.ref (0)), some (.int (z))]) (by decide) rfl (Nat.le_of_ble_eq_true rfl) ?_
  refine x_aload_n dX6_about_0 rfl rfl ?_
  refine x_getf (ci := 5) (kf := 6) dX6_about_1 rfl uX6 (by decide) fl_RX6_84 h0 rfl ?_
  refine x_if_ne (tgt := 10) dX6_about_4 (by decide) (fun _ => ?_) (fun h => False.elim (absurd h (by decide)))
  refine x_iload_n dX6_about_10 rfl rfl ?_
  refine x_tabIn (tgt := 80) dX6_about_11 (by omega) (by omega) (by rw [hz]; rfl) (by decide) ?_
  refine x_aload_n dX6_about_80 rfl rfl ?_
  refine x_getf (ci := 5) (kf := 1) dX6_about_81 rfl uX6 (by decide) fl_RX6_21 h0 rfl ?_
  refine x_getf (ci := 0) (kf := 8) dX6_about_84 rfl uX0 (by decide) fl_RX6_114 ho rfl ?_
  exact x_ireturn_eq dX6_about_87 rfl rfl
theorem c_about4_ {X : Ev} {M : Hp} {t d r n : Nat} {s : Ms} {ra rr rl : Int32} (h0 : M[0]? = some (.inr (5, [.ref (1), .ref (5), .ref (12), .ref (21), .ref (134), .ref (136), .int (1), .int (ra), .int (rr), .int (rl)]))) {m : Nat} (hf : M[1]? = some (.inr (1, [.ref (2), .ref (3), .ref (4), .int (nI m), .int (nI (2 ^ m - 1))])))  (ho : M[5]? = some (.inr (0, [.ref (1), .ref (6), .ref (7), .ref (8), .ref (9), .ref (10), .int (nI t), .int (nI d), .int (nI r), .int (nI n), .long (s.1.1), .long (s.1.2)]))) {z : Int32} (hz : z.toInt = 4) : Cl X 9 jX6_about [.ref (0), .int (z)] M (some (.int (nI n))) M := by
  refine Cl.of (ls := [some (.ref (0)), some (.int (z))]) (by decide) rfl (Nat.le_of_ble_eq_true rfl) ?_
  refine x_aload_n dX6_about_0 rfl rfl ?_
  refine x_getf (ci := 5) (kf := 6) dX6_about_1 rfl uX6 (by decide) fl_RX6_84 h0 rfl ?_
  refine x_if_ne (tgt := 10) dX6_about_4 (by decide) (fun _ => ?_) (fun h => False.elim (absurd h (by decide)))
  refine x_iload_n dX6_about_10 rfl rfl ?_
  refine x_tabIn (tgt := 88) dX6_about_11 (by omega) (by omega) (by rw [hz]; rfl) (by decide) ?_
  refine x_aload_n dX6_about_88 rfl rfl ?_
  refine x_getf (ci := 5) (kf := 1) dX6_about_89 rfl uX6 (by decide) fl_RX6_21 h0 rfl ?_
  refine x_getf (ci := 0) (kf := 9) dX6_about_92 rfl uX0 (by decide) fl_RX6_193 ho rfl ?_
  exact x_ireturn_eq dX6_about_95 rfl rfl
theorem c_about5_ {X : Ev} {M : Hp} {t d r n : Nat} {s : Ms} {ra rr rl : Int32} (h0 : M[0]? = some (.inr (5, [.ref (1), .ref (5), .ref (12), .ref (21), .ref (134), .ref (136), .int (1), .int (ra), .int (rr), .int (rl)]))) {m : Nat} (hf : M[1]? = some (.inr (1, [.ref (2), .ref (3), .ref (4), .int (nI m), .int (nI (2 ^ m - 1))])))  (ho : M[5]? = some (.inr (0, [.ref (1), .ref (6), .ref (7), .ref (8), .ref (9), .ref (10), .int (nI t), .int (nI d), .int (nI r), .int (nI n), .long (s.1.1), .long (s.1.2)]))) {z : Int32} (hz : z.toInt = 5) : Cl X 9 jX6_about [.ref (0), .int (z)] M (some (.int (ra))) M := by
  refine Cl.of (ls := [some (.ref (0)), some (.int (z))]) (by decide) rfl (Nat.le_of_ble_eq_true rfl) ?_
  refine x_aload_n dX6_about_0 rfl rfl ?_
  refine x_getf (ci := 5) (kf := 6) dX6_about_1 rfl uX6 (by decide) fl_RX6_84 h0 rfl ?_
  refine x_if_ne (tgt := 10) dX6_about_4 (by decide) (fun _ => ?_) (fun h => False.elim (absurd h (by decide)))
  refine x_iload_n dX6_about_10 rfl rfl ?_
  refine x_tabIn (tgt := 96) dX6_about_11 (by omega) (by omega) (by rw [hz]; rfl) (by decide) ?_
  refine x_aload_n dX6_about_96 rfl rfl ?_
  refine x_getf (ci := 5) (kf := 7) dX6_about_97 rfl uX6 (by decide) fl_RX6_74 h0 rfl ?_
  exact x_ireturn_eq dX6_about_100 rfl rfl
theorem c_about6_ {X : Ev} {M : Hp} {t d r n : Nat} {s : Ms} {ra rr rl : Int32} (h0 : M[0]? = some (.inr (5, [.ref (1), .ref (5), .ref (12), .ref (21), .ref (134), .ref (136), .int (1), .int (ra), .int (rr), .int (rl)]))) {m : Nat} (hf : M[1]? = some (.inr (1, [.ref (2), .ref (3), .ref (4), .int (nI m), .int (nI (2 ^ m - 1))])))  (ho : M[5]? = some (.inr (0, [.ref (1), .ref (6), .ref (7), .ref (8), .ref (9), .ref (10), .int (nI t), .int (nI d), .int (nI r), .int (nI n), .long (s.1.1), .long (s.1.2)]))) {z : Int32} (hz : z.toInt = 6) : Cl X 9 jX6_about [.ref (0), .int (z)] M (some (.int (rr))) M := by
  refine Cl.of (ls := [some (.ref (0)), some (.int (z))]) (by decide) rfl (Nat.le_of_ble_eq_true rfl) ?_
  refine x_aload_n dX6_about_0 rfl rfl ?_
  refine x_getf (ci := 5) (kf := 6) dX6_about_1 rfl uX6 (by decide) fl_RX6_84 h0 rfl ?_
  refine x_if_ne (tgt := 10) dX6_about_4 (by decide) (fun _ => ?_) (fun h => False.elim (absurd h (by decide)))
  refine x_iload_n dX6_about_10 rfl rfl ?_
  refine x_tabIn (tgt := 101) dX6_about_11 (by omega) (by omega) (by rw [hz]; rfl) (by decide) ?_
  refine x_aload_n dX6_about_101 rfl rfl ?_
  refine x_getf (ci := 5) (kf := 8) dX6_about_102 rfl uX6 (by decide) fl_RX6_78 h0 rfl ?_
  exact x_ireturn_eq dX6_about_105 rfl rfl
theorem c_about7_ {X : Ev} {M : Hp} {t d r n : Nat} {s : Ms} {ra rr rl : Int32} (h0 : M[0]? = some (.inr (5, [.ref (1), .ref (5), .ref (12), .ref (21), .ref (134), .ref (136), .int (1), .int (ra), .int (rr), .int (rl)]))) {m : Nat} (hf : M[1]? = some (.inr (1, [.ref (2), .ref (3), .ref (4), .int (nI m), .int (nI (2 ^ m - 1))])))  (ho : M[5]? = some (.inr (0, [.ref (1), .ref (6), .ref (7), .ref (8), .ref (9), .ref (10), .int (nI t), .int (nI d), .int (nI r), .int (nI n), .long (s.1.1), .long (s.1.2)]))) {z : Int32} (hz : z.toInt = 7) : Cl X 9 jX6_about [.ref (0), .int (z)] M (some (.int (rl))) M := by
  refine Cl.of (ls := [some (.ref (0)), some (.int (z))]) (by decide) rfl (Nat.le_of_ble_eq_true rfl) ?_
  refine x_aload_n dX6_about_0 rfl rfl ?_
  refine x_getf (ci := 5) (kf := 6) dX6_about_1 rfl uX6 (by decide) fl_RX6_84 h0 rfl ?_
  refine x_if_ne (tgt := 10) dX6_about_4 (by decide) (fun _ => ?_) (fun h => False.elim (absurd h (by decide)))
  refine x_iload_n dX6_about_10 rfl rfl ?_
  refine x_tabIn (tgt := 106) dX6_about_11 (by omega) (by omega) (by rw [hz]; rfl) (by decide) ?_
  refine x_aload_n dX6_about_106 rfl rfl ?_
  refine x_getf (ci := 5) (kf := 9) dX6_about_107 rfl uX6 (by decide) fl_RX6_81 h0 rfl ?_
  exact x_ireturn_eq dX6_about_110 rfl rfl
theorem c_about8_ {X : Ev} {M : Hp}  {ra rr rl : Int32} (h0 : M[0]? = some (.inr (5, [.ref (1), .ref (5), .ref (12), .ref (21), .ref (134), .ref (136), .int (1), .int (ra), .int (rr), .int (rl)]))) {z : Int32} (hz : z.toInt < 0 ∨ 7 < z.toInt) : Cl X 9 jX6_about [.ref (0), .int (z)] M (some (.int (-2))) M := by
  refine Cl.of (ls := [some (.ref (0)), some (.int (z))]) (by decide) rfl (Nat.le_of_ble_eq_true rfl) ?_
  refine x_aload_n dX6_about_0 rfl rfl ?_
  refine x_getf (ci := 5) (kf := 6) dX6_about_1 rfl uX6 (by decide) fl_RX6_84 h0 rfl ?_
  refine x_if_ne (tgt := 10) dX6_about_4 (by decide) (fun _ => ?_) (fun h => False.elim (absurd h (by decide)))
  refine x_iload_n dX6_about_10 rfl rfl ?_
  refine x_tabOut (tgt := 111) dX6_about_11 (by omega) (by decide) ?_
  refine x_bipush (y := -2) dX6_about_111 rfl ?_
  exact x_ireturn_eq dX6_about_113 rfl rfl
