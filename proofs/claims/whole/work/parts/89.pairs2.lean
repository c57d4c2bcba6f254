/-! PAIRS: calls that change something -/
theorem q_minimal {X : Ev} {M : Hp} (hR : Rop M) {z0 : Int32} : Pr X M jX6_minimal jX7_minimal [.int (z0)] := by
  have hR0 := hR
  obtain ⟨ra, rr, rl, m, t, d, r, n, pw, lg, cf, gp, hs, ls, on, s, pg, uf, tf, tn, pv, lh, gg, bu, bb, ss, kk, we, tu, md, sp, le, sv, hX, hM, hlen, hC, hF, hF2, hgg, hon, hB, hPA, hT⟩ := hR
  obtain ⟨x0, x1, x2, x3, x4, x5, x6, x7, x8, x9, x10, x11, x12, x13, x14, x15, x16, x17, x18, x19, x20, x21, hP, x134, x135, x136, x137⟩ := id hX
  obtain ⟨m138, m139, m140, m141, m142, m143, m144, m145, m146, m147, m148, m149, m150, m151, m152, m153, m154⟩ := id hM
  obtain ⟨h3, h13, ht1, ht8, hd1, hd8, hr_, hn8, hnm, hgp, _⟩ := id hC
  obtain ⟨hr1, hr8, hn9, hn52, hm4⟩ := hC.b
  by_cases hbad : inl_ z0 (2 ^ m - 1) = false
  · exact pr_same (c_minimalB x0 x1 (by omega) (by omega) hbad) (c_mminimalB m138 (by omega) hbad) (Or.inr hR0)
  rw [Bool.not_eq_false] at hbad
  obtain ⟨i, hi, rfl⟩ := inl_ex hbad
  have h1 := (c_minimal (X := X) x0 x1 x2 x3 x4 hF hi)
  have hH := hi_of h1 ((Hi.rf _).st (by omega))
  have hM1 := hM.ag hH
  obtain ⟨m138, m139, m140, m141, m142, m143, m144, m145, m146, m147, m148, m149, m150, m151, m152, m153, m154⟩ := id hM1
  have h2 := (c_mminimal (X := X) m138 m139 m140 m148 hF2 hi)
  have hL := lo_of h2 ((Lo.rf _).st (by decide))
  refine pr_of h1 hH h2 hL rfl hlen (fun hl => Or.inr ⟨_, _, _, _, _, _, _, _, _, _, _, _, _, _, _, _, _, _, _, _, _, _, _, _, _, _, _, _, _, _, _, _, _, (hX.s4).ag hL, hM1.s148, hl, hC, hF, hF2, hgg, hon, hB, hPA, hT⟩)
theorem q_put {X : Ev} {M : Hp} (hR : Rop M) {z0 : Int32} {z1 : Int32} : Pr X M jX6_put jX7_put [.int (z0), .int (z1)] := by
  have hR0 := hR
  obtain ⟨ra, rr, rl, m, t, d, r, n, pw, lg, cf, gp, hs, ls, on, s, pg, uf, tf, tn, pv, lh, gg, bu, bb, ss, kk, we, tu, md, sp, le, sv, hX, hM, hlen, hC, hF, hF2, hgg, hon, hB, hPA, hT⟩ := hR
  obtain ⟨x0, x1, x2, x3, x4, x5, x6, x7, x8, x9, x10, x11, x12, x13, x14, x15, x16, x17, x18, x19, x20, x21, hP, x134, x135, x136, x137⟩ := id hX
  obtain ⟨m138, m139, m140, m141, m142, m143, m144, m145, m146, m147, m148, m149, m150, m151, m152, m153, m154⟩ := id hM
  obtain ⟨h3, h13, ht1, ht8, hd1, hd8, hr_, hn8, hnm, hgp, _⟩ := id hC
  obtain ⟨hr1, hr8, hn9, hn52, hm4⟩ := hC.b
  by_cases hbad : inl_ z0 d = false
  · exact pr_same (c_putB x0 x5 (by omega) hbad) (c_mputB m138 (by omega) hbad) (Or.inr hR0)
  rw [Bool.not_eq_false] at hbad
  obtain ⟨i, hi, rfl⟩ := inl_ex hbad
  have h1 := (c_put (X := X) (z := z1) x0 x5 x134 x135 (by omega) hi)
  have hH := hi_of h1 ((Hi.rf _).st (by omega))
  have hM1 := hM.ag hH
  obtain ⟨m138, m139, m140, m141, m142, m143, m144, m145, m146, m147, m148, m149, m150, m151, m152, m153, m154⟩ := id hM1
  have h2 := (c_mput (X := X) (z := z1) m138 m142 (by omega) hi)
  have hL := lo_of h2 ((Lo.rf _).st (by decide))
  refine pr_of h1 hH h2 hL (by rw [hB.by_ hd8 hi]) hlen (fun hl => Or.inr ⟨_, _, _, _, _, _, _, _, _, _, _, _, _, _, _, _, _, _, _, _, _, _, _, _, _, _, _, _, _, _, _, _, _, (hX.s135).ag hL, hM1.s142, hl, hC, hF, hF2, hgg, hon, hB.st (by omega) hi (b255_lt z1), hPA, hT⟩)
theorem q_fill {X : Ev} {M : Hp} (hR : Rop M) {z0 : Int32} {z1 : Int64} : Pr X M jX6_fill jX7_fill [.int (z0), .long (z1)] := by
  have hR0 := hR
  obtain ⟨ra, rr, rl, m, t, d, r, n, pw, lg, cf, gp, hs, ls, on, s, pg, uf, tf, tn, pv, lh, gg, bu, bb, ss, kk, we, tu, md, sp, le, sv, hX, hM, hlen, hC, hF, hF2, hgg, hon, hB, hPA, hT⟩ := hR
  obtain ⟨x0, x1, x2, x3, x4, x5, x6, x7, x8, x9, x10, x11, x12, x13, x14, x15, x16, x17, x18, x19, x20, x21, hP, x134, x135, x136, x137⟩ := id hX
  obtain ⟨m138, m139, m140, m141, m142, m143, m144, m145, m146, m147, m148, m149, m150, m151, m152, m153, m154⟩ := id hM
  obtain ⟨h3, h13, ht1, ht8, hd1, hd8, hr_, hn8, hnm, hgp, _⟩ := id hC
  obtain ⟨hr1, hr8, hn9, hn52, hm4⟩ := hC.b
  by_cases hbad : inl_ z0 d = false
  · exact pr_same (c_fillB x0 x5 (by omega) hbad) (c_mfillB m138 (by omega) hbad) (Or.inr hR0)
  rw [Bool.not_eq_false] at hbad
  obtain ⟨i, hi, rfl⟩ := inl_ex hbad
  have h1 := (c_fill (X := X) (lv := z1) x0 x5 x134 x135 (by omega) hi)
  have hH := hi_of h1 ((Hi.rf _).st (by omega))
  have hM1 := hM.ag hH
  obtain ⟨m138, m139, m140, m141, m142, m143, m144, m145, m146, m147, m148, m149, m150, m151, m152, m153, m154⟩ := id hM1
  have h2 := (c_mfill (X := X) (lv := z1) m138 m142 (by omega) hi)
  have hL := lo_of h2 ((Lo.rf _).st (by decide))
  refine pr_of h1 hH h2 hL rfl hlen (fun hl => Or.inr ⟨_, _, _, _, _, _, _, _, _, _, _, _, _, _, _, _, _, _, _, _, _, _, _, _, _, _, _, _, _, _, _, _, _, (hX.s135).ag hL, hM1.s142, hl, hC, hF, hF2, hgg, hon, hB.fil (by omega) _ (by omega), hPA, hT⟩)
theorem q_tail {X : Ev} {M : Hp} (hR : Rop M) {z0 : Int32} : Pr X M jX6_tail jX7_tail [.int (z0)] := by
  have hR0 := hR
  obtain ⟨ra, rr, rl, m, t, d, r, n, pw, lg, cf, gp, hs, ls, on, s, pg, uf, tf, tn, pv, lh, gg, bu, bb, ss, kk, we, tu, md, sp, le, sv, hX, hM, hlen, hC, hF, hF2, hgg, hon, hB, hPA, hT⟩ := hR
  obtain ⟨x0, x1, x2, x3, x4, x5, x6, x7, x8, x9, x10, x11, x12, x13, x14, x15, x16, x17, x18, x19, x20, x21, hP, x134, x135, x136, x137⟩ := id hX
  obtain ⟨m138, m139, m140, m141, m142, m143, m144, m145, m146, m147, m148, m149, m150, m151, m152, m153, m154⟩ := id hM
  obtain ⟨h3, h13, ht1, ht8, hd1, hd8, hr_, hn8, hnm, hgp, _⟩ := id hC
  obtain ⟨hr1, hr8, hn9, hn52, hm4⟩ := hC.b
  by_cases hbad : inl_ z0 r = false
  · exact pr_same (c_tailB x0 x5 (by omega) hbad) (c_mtailB m138 (by omega) hbad) (Or.inr hR0)
  rw [Bool.not_eq_false] at hbad
  obtain ⟨i, hi, rfl⟩ := inl_ex hbad
  have h1 := (c_tail (X := X) x0 x5 x7 x8 x134 x135 (by omega) (by omega) hi)
  have hH := hi_of h1 (((Hi.rf _).st (by omega)).st (by omega))
  have hM1 := hM.ag hH
  obtain ⟨m138, m139, m140, m141, m142, m143, m144, m145, m146, m147, m148, m149, m150, m151, m152, m153, m154⟩ := id hM1
  have h2 := (c_mtail (X := X) m138 m141 m142 m150 m151 (by omega) (by omega) (by omega) (fun j hj => hB.1 j (by omega)) hi)
  have hL := lo_of h2 (((Lo.rf _).st (by decide)).st (by decide))
  refine pr_of h1 hH h2 hL (by rw [tail_eq hC hgg hB (wd := sv.1) (le := le) (k := 8 * d + i) (by omega), decide_eq_true (show 8 * d + i < n by omega), Bool.true_and]) hlen (fun hl => Or.inr ⟨_, _, _, _, _, _, _, _, _, _, _, _, _, _, _, _, _, _, _, _, _, _, _, _, _, _, _, _, _, _, _, _, _, (hX.s5.s135).ag hL, hM1.s150.s151, hl, hC, hF, hF2, hgg, hon, hB.tl (gg := gg) hC, hPA, hT⟩)
theorem q_write {X : Ev} {M : Hp} (hR : Rop M) {z0 : Int32} : Pr X M jX6_write jX7_write [.int (z0)] := by
  have hR0 := hR
  obtain ⟨ra, rr, rl, m, t, d, r, n, pw, lg, cf, gp, hs, ls, on, s, pg, uf, tf, tn, pv, lh, gg, bu, bb, ss, kk, we, tu, md, sp, le, sv, hX, hM, hlen, hC, hF, hF2, hgg, hon, hB, hPA, hT⟩ := hR
  obtain ⟨x0, x1, x2, x3, x4, x5, x6, x7, x8, x9, x10, x11, x12, x13, x14, x15, x16, x17, x18, x19, x20, x21, hP, x134, x135, x136, x137⟩ := id hX
  obtain ⟨m138, m139, m140, m141, m142, m143, m144, m145, m146, m147, m148, m149, m150, m151, m152, m153, m154⟩ := id hM
  obtain ⟨h3, h13, ht1, ht8, hd1, hd8, hr_, hn8, hnm, hgp, _⟩ := id hC
  obtain ⟨hr1, hr8, hn9, hn52, hm4⟩ := hC.b
  by_cases hbad : inl_ z0 16 = false
  · exact pr_same (c_writeB x0 hbad) (c_mwriteB m138 hbad) (Or.inr hR0)
  rw [Bool.not_eq_false] at hbad
  obtain ⟨i, hi, rfl⟩ := inl_ex hbad
  obtain ⟨g, hgi⟩ : ∃ g, 22 + 7 * i = g := ⟨_, rfl⟩
  have Pg := hP i hi
  rw [hgi] at Pg
  have hpr := (hPA i hi).2.prog (by omega) (W := cmp uf (tkd hs ls uf d).1 (tkd hs ls uf d).2 d r) (w := (ctl (cwd bu sv.1 (8 * d)) (cle bu gg le r (8 * d)) d r r)) (fun k hk => tail_eq hC hgg hB hk)
  have h1 := (c_write (X := X) hi hgi x0 x5 x7 x8 x21 x134 x135 Pg.1 Pg.2.1 Pg.2.2.1 Pg.2.2.2.1 Pg.2.2.2.2.1 Pg.2.2.2.2.2.1 Pg.2.2.2.2.2.2 (by omega) (by omega))
  have hH := hi_of h1 ((((Hi.rf _).st (by omega)).st (by omega)).st (by omega))
  have hM1 := hM.ag hH
  obtain ⟨m138, m139, m140, m141, m142, m143, m144, m145, m146, m147, m148, m149, m150, m151, m152, m153, m154⟩ := id hM1
  have h2 := (c_mwrite (X := X) m138 m141 m142 m150 m151 m143 m144 (by omega) (by omega) (by omega) (fun j hj => hB.1 j (by omega)) (by omega) hi)
  have hL := lo_of h2 ((((Lo.rf _).st (by decide)).st (by decide)).st (by decide))
  refine pr_of h1 hH h2 hL (by rw [hpr.2]) hlen (fun hl => Or.inr ⟨_, _, _, _, _, _, _, _, _, _, _, _, _, _, _, _, _, _, _, _, _, _, _, _, _, _, _, _, _, _, _, _, _, (hX.s5.s135.pb hi hgi).ag hL, hM1.s150.s151.s143, hl, hC, hF, hF2, hgg, hon, hB.tl (gg := gg) hC, PA.up hPA (hPA i hi).1 hpr.1 (fun _ _ => rfl) (fun j k hj hk => pgb_o (by omega) hk (fun z => hj z.symm)) (fun _ _ _ _ => rfl) (fun _ _ _ _ => rfl), hT⟩)
theorem q_erase {X : Ev} {M : Hp} (hR : Rop M) {z0 : Int32} : Pr X M jX6_erase jX7_erase [.int (z0)] := by
  have hR0 := hR
  obtain ⟨ra, rr, rl, m, t, d, r, n, pw, lg, cf, gp, hs, ls, on, s, pg, uf, tf, tn, pv, lh, gg, bu, bb, ss, kk, we, tu, md, sp, le, sv, hX, hM, hlen, hC, hF, hF2, hgg, hon, hB, hPA, hT⟩ := hR
  obtain ⟨x0, x1, x2, x3, x4, x5, x6, x7, x8, x9, x10, x11, x12, x13, x14, x15, x16, x17, x18, x19, x20, x21, hP, x134, x135, x136, x137⟩ := id hX
  obtain ⟨m138, m139, m140, m141, m142, m143, m144, m145, m146, m147, m148, m149, m150, m151, m152, m153, m154⟩ := id hM
  obtain ⟨h3, h13, ht1, ht8, hd1, hd8, hr_, hn8, hnm, hgp, _⟩ := id hC
  obtain ⟨hr1, hr8, hn9, hn52, hm4⟩ := hC.b
  by_cases hbad : inl_ z0 16 = false
  · exact pr_same (c_eraseB x0 hbad) (c_meraseB m138 hbad) (Or.inr hR0)
  rw [Bool.not_eq_false] at hbad
  obtain ⟨i, hi, rfl⟩ := inl_ex hbad
  obtain ⟨g, hgi⟩ : ∃ g, 22 + 7 * i = g := ⟨_, rfl⟩
  have Pg := hP i hi
  rw [hgi] at Pg
  have hpw := (hPA i hi).2.wipe
  rw [← hon] at hpw
  have h1 := (c_erase (X := X) hi hgi x0 x5 x10 x11 x21 Pg.1 Pg.2.1 Pg.2.2.1 Pg.2.2.2.1 Pg.2.2.2.2.1 Pg.2.2.2.2.2.1 Pg.2.2.2.2.2.2)
  have hH := hi_of h1 ((((Hi.rf _).st (by omega)).st (by omega)).st (by omega))
  have hM1 := hM.ag hH
  obtain ⟨m138, m139, m140, m141, m142, m143, m144, m145, m146, m147, m148, m149, m150, m151, m152, m153, m154⟩ := id hM1
  have h2 := (c_merase (X := X) m138 m143 m144 m145 m146 (by omega) hi)
  have hL := lo_of h2 ((((Lo.rf _).st (by decide)).st (by decide)).st (by decide))
  refine pr_of h1 hH h2 hL (by rw [(hPA i hi).1]) hlen (fun hl => Or.inr ⟨_, _, _, _, _, _, _, _, _, _, _, _, _, _, _, _, _, _, _, _, _, _, _, _, _, _, _, _, _, _, _, _, _, (hX.pwp hi hgi).ag hL, hM1.s143.s145.s146, hl, hC, hF, hF2, hgg, hon, hB, PA.up hPA (by show (pg i).1 + nI 1 = upd we i (we i + nI 1) i; unfold upd; rw [if_pos rfl, (hPA i hi).1]) hpw (fun j hj => by unfold upd; rw [if_neg hj]) (fun j k hj hk => wpb_o (by omega) hk (fun z => hj z.symm)) (fun _ _ _ _ => rfl) (fun j k hj hk => wpk_o (by omega) hk (fun z => hj z.symm)), hT⟩)
theorem q_flip {X : Ev} {M : Hp} (hR : Rop M) {z0 : Int32} {z1 : Int32} : Pr X M jX6_flip jX7_flip [.int (z0), .int (z1)] := by
  have hR0 := hR
  obtain ⟨ra, rr, rl, m, t, d, r, n, pw, lg, cf, gp, hs, ls, on, s, pg, uf, tf, tn, pv, lh, gg, bu, bb, ss, kk, we, tu, md, sp, le, sv, hX, hM, hlen, hC, hF, hF2, hgg, hon, hB, hPA, hT⟩ := hR
  obtain ⟨x0, x1, x2, x3, x4, x5, x6, x7, x8, x9, x10, x11, x12, x13, x14, x15, x16, x17, x18, x19, x20, x21, hP, x134, x135, x136, x137⟩ := id hX
  obtain ⟨m138, m139, m140, m141, m142, m143, m144, m145, m146, m147, m148, m149, m150, m151, m152, m153, m154⟩ := id hM
  obtain ⟨h3, h13, ht1, ht8, hd1, hd8, hr_, hn8, hnm, hgp, _⟩ := id hC
  obtain ⟨hr1, hr8, hn9, hn52, hm4⟩ := hC.b
  by_cases hbad : (inl_ z0 16 && inl_ z1 n) = false
  · exact pr_same (c_flipB x0 x5 (by omega) hbad) (c_mflipB m138 (by omega) hbad) (Or.inr hR0)
  rw [Bool.not_eq_false] at hbad
  rw [Bool.and_eq_true] at hbad
  obtain ⟨i, hi, rfl⟩ := inl_ex hbad.1
  obtain ⟨k, hk, rfl⟩ := inl_ex hbad.2
  obtain ⟨g, hgi⟩ : ∃ g, 22 + 7 * i = g := ⟨_, rfl⟩
  have Pg := hP i hi
  rw [hgi] at Pg
  have hpf := (hPA i hi).2.flip (by omega) hk
  have h1 := (c_flip (X := X) hi hgi x0 x5 x21 Pg.1 Pg.2.1 Pg.2.2.1 Pg.2.2.2.1 Pg.2.2.2.2.1 Pg.2.2.2.2.2.1 Pg.2.2.2.2.2.2 (by omega) (by omega) (by omega) hk)
  have hH := hi_of h1 ((Hi.rf _).st (by omega))
  have hM1 := hM.ag hH
  obtain ⟨m138, m139, m140, m141, m142, m143, m144, m145, m146, m147, m148, m149, m150, m151, m152, m153, m154⟩ := id hM1
  have h2 := (c_mflip (X := X) m138 m143 m144 (by omega) hi hk)
  have hL := lo_of h2 ((Lo.rf _).st (by decide))
  refine pr_of h1 hH h2 hL (by rw [(hpf k (by omega)).1, decide_eq_true hk, Bool.true_and]) hlen (fun hl => Or.inr ⟨_, _, _, _, _, _, _, _, _, _, _, _, _, _, _, _, _, _, _, _, _, _, _, _, _, _, _, _, _, _, _, _, _, (hX.pb hi hgi).ag hL, hM1.s143, hl, hC, hF, hF2, hgg, hon, hB, PA.up hPA (hPA i hi).1 hpf (fun _ _ => rfl) (fun j q hj hq => bup_o (by omega) hq (fun z => hj z.symm)) (fun _ _ _ _ => rfl) (fun _ _ _ _ => rfl), hT⟩)
theorem q_mark {X : Ev} {M : Hp} (hR : Rop M) {z0 : Int32} {z1 : Int32} {z2 : Int32} (hz2 : z2 = 0 ∨ z2 = 1) : Pr X M jX6_mark jX7_mark [.int (z0), .int (z1), .int (z2)] := by
  have hR0 := hR
  obtain ⟨ra, rr, rl, m, t, d, r, n, pw, lg, cf, gp, hs, ls, on, s, pg, uf, tf, tn, pv, lh, gg, bu, bb, ss, kk, we, tu, md, sp, le, sv, hX, hM, hlen, hC, hF, hF2, hgg, hon, hB, hPA, hT⟩ := hR
  obtain ⟨x0, x1, x2, x3, x4, x5, x6, x7, x8, x9, x10, x11, x12, x13, x14, x15, x16, x17, x18, x19, x20, x21, hP, x134, x135, x136, x137⟩ := id hX
  obtain ⟨m138, m139, m140, m141, m142, m143, m144, m145, m146, m147, m148, m149, m150, m151, m152, m153, m154⟩ := id hM
  obtain ⟨h3, h13, ht1, ht8, hd1, hd8, hr_, hn8, hnm, hgp, _⟩ := id hC
  obtain ⟨hr1, hr8, hn9, hn52, hm4⟩ := hC.b
  by_cases hbad : (inl_ z0 16 && inl_ z1 n) = false
  · exact pr_same (c_markB x0 x5 (by omega) hbad) (c_mmarkB m138 (by omega) hbad) (Or.inr hR0)
  rw [Bool.not_eq_false] at hbad
  rw [Bool.and_eq_true] at hbad
  obtain ⟨i, hi, rfl⟩ := inl_ex hbad.1
  obtain ⟨k, hk, rfl⟩ := inl_ex hbad.2
  obtain ⟨g, hgi⟩ : ∃ g, 22 + 7 * i = g := ⟨_, rfl⟩
  have Pg := hP i hi
  rw [hgi] at Pg
  have hpf := (hPA i hi).2.mark hk (x := decide (z2 ≠ 0))
  have h1 := (c_mark (X := X) (z := z2) hi hgi x0 x5 x21 Pg.1 Pg.2.1 Pg.2.2.1 Pg.2.2.2.1 Pg.2.2.2.2.1 Pg.2.2.2.2.2.1 Pg.2.2.2.2.2.2 (by omega) (by omega) (by omega) hk)
  have hH := hi_of h1 ((Hi.rf _).st (by omega))
  have hM1 := hM.ag hH
  obtain ⟨m138, m139, m140, m141, m142, m143, m144, m145, m146, m147, m148, m149, m150, m151, m152, m153, m154⟩ := id hM1
  have h2 := (c_mmark (X := X) (z := z2) m138 m145 (by omega) hi hk hz2)
  have hL := lo_of h2 ((Lo.rf _).st (by decide))
  refine pr_of h1 hH h2 hL (by rw [rones_n (n := n) (E := fun q => bup kk (2200 * i + k) (decide (z2 ≠ 0)) (2200 * i + q)) (by omega) (fun j hj => (hpf j hj).2.2)]) hlen (fun hl => Or.inr ⟨_, _, _, _, _, _, _, _, _, _, _, _, _, _, _, _, _, _, _, _, _, _, _, _, _, _, _, _, _, _, _, _, _, (hX.pk hi hgi).ag hL, hM1.s145, hl, hC, hF, hF2, hgg, hon, hB, PA.up hPA (hPA i hi).1 hpf (fun _ _ => rfl) (fun _ _ _ _ => rfl) (fun _ _ _ _ => rfl) (fun j q hj hq => bup_o (by omega) hq (fun z => hj z.symm)), hT⟩)
theorem q_stick {X : Ev} {M : Hp} (hR : Rop M) {z0 : Int32} {z1 : Int32} {z2 : Int32} : Pr X M jX6_stick jX7_stick [.int (z0), .int (z1), .int (z2)] := by
  have hR0 := hR
  obtain ⟨ra, rr, rl, m, t, d, r, n, pw, lg, cf, gp, hs, ls, on, s, pg, uf, tf, tn, pv, lh, gg, bu, bb, ss, kk, we, tu, md, sp, le, sv, hX, hM, hlen, hC, hF, hF2, hgg, hon, hB, hPA, hT⟩ := hR
  obtain ⟨x0, x1, x2, x3, x4, x5, x6, x7, x8, x9, x10, x11, x12, x13, x14, x15, x16, x17, x18, x19, x20, x21, hP, x134, x135, x136, x137⟩ := id hX
  obtain ⟨m138, m139, m140, m141, m142, m143, m144, m145, m146, m147, m148, m149, m150, m151, m152, m153, m154⟩ := id hM
  obtain ⟨h3, h13, ht1, ht8, hd1, hd8, hr_, hn8, hnm, hgp, _⟩ := id hC
  obtain ⟨hr1, hr8, hn9, hn52, hm4⟩ := hC.b
  by_cases hbad : (inl_ z0 16 && inl_ z1 n && decide (-1 ≤ z2.toInt ∧ z2.toInt ≤ 1)) = false
  · exact pr_same (c_stickB x0 x5 (by omega) hbad) (c_mstickB m138 (by omega) hbad) (Or.inr hR0)
  rw [Bool.not_eq_false] at hbad
  rw [Bool.and_eq_true, Bool.and_eq_true, decide_eq_true_iff] at hbad
  obtain ⟨i, hi, rfl⟩ := inl_ex hbad.1.1
  obtain ⟨k, hk, rfl⟩ := inl_ex hbad.1.2
  obtain ⟨g, hgi⟩ : ∃ g, 22 + 7 * i = g := ⟨_, rfl⟩
  have Pg := hP i hi
  rw [hgi] at Pg
  by_cases hm1 : z2.toInt = -1
  · have e : z2 = -1 := Int32.toInt_inj.mp hm1
    subst e
    have hpf : PB n (pg i).2.1 (rset (pg i).2.2.1 k false) (pg i).2.2.2 (bup bb (2200 * i + k) (if (-1 : Int32) = -1 then bb (2200 * i + k) else decide ((-1 : Int32) = 1))) (upd ss (2200 * i + k) (-1)) kk i := by rw [if_pos rfl]; exact (hPA i hi).2.stN hk
    have h1 := (c_stickN (X := X) hi hgi x0 x5 x21 Pg.1 Pg.2.1 Pg.2.2.1 Pg.2.2.2.1 Pg.2.2.2.2.1 Pg.2.2.2.2.2.1 Pg.2.2.2.2.2.2 (by omega) (by omega) (by omega) hk)
    have hH := hi_of h1 ((Hi.rf _).st (by omega))
    have hM1 := hM.ag hH
    obtain ⟨m138, m139, m140, m141, m142, m143, m144, m145, m146, m147, m148, m149, m150, m151, m152, m153, m154⟩ := id hM1
    have h2 := (c_mstick (X := X) (z := -1) m138 m143 m144 (by omega) hi hk (by decide) (by decide))
    have hL := lo_of h2 (((Lo.rf _).st (by decide)).st (by decide))
    refine pr_of h1 hH h2 hL (by rw [rones_n (n := n) (E := fun q => decide (upd ss (2200 * i + k) (-1) (2200 * i + q) ≠ -1)) (by omega) (fun j hj => (hpf j hj).2.1)]) hlen (fun hl => Or.inr ⟨_, _, _, _, _, _, _, _, _, _, _, _, _, _, _, _, _, _, _, _, _, _, _, _, _, _, _, _, _, _, _, _, _, (hX.ps hi hgi).ag hL, hM1.s144.s143, hl, hC, hF, hF2, hgg, hon, hB, PA.up hPA (hPA i hi).1 hpf (fun _ _ => rfl) (fun j q hj hq => bup_o (by omega) hq (fun z => hj z.symm)) (fun j q hj hq => upd_o (by omega) hq (fun z => hj z.symm)) (fun _ _ _ _ => rfl), hT⟩)
  · obtain ⟨z, hz', rfl⟩ := inl_ex (show inl_ z2 2 = true from decide_eq_true ⟨by omega, by omega⟩)
    have hz : z ≤ 1 := by omega
    have hpf : PB n (rset (pg i).2.1 k (z == 1)) (rset (pg i).2.2.1 k true) (pg i).2.2.2 (bup bb (2200 * i + k) (if nI z = -1 then bb (2200 * i + k) else decide (nI z = 1))) (upd ss (2200 * i + k) (nI z)) kk i := by
      rw [if_neg (fun e => hm1 (by rw [e]; rfl))]
      exact (hPA i hi).2.stV hk hz
    have h1 := (c_stickV (X := X) hi hgi x0 x5 x21 Pg.1 Pg.2.1 Pg.2.2.1 Pg.2.2.2.1 Pg.2.2.2.2.1 Pg.2.2.2.2.2.1 Pg.2.2.2.2.2.2 (by omega) (by omega) (by omega) hk hz)
    have hH := hi_of h1 (((Hi.rf _).st (by omega)).st (by omega))
    have hM1 := hM.ag hH
    obtain ⟨m138, m139, m140, m141, m142, m143, m144, m145, m146, m147, m148, m149, m150, m151, m152, m153, m154⟩ := id hM1
    have h2 := (c_mstick (X := X) (z := nI z) m138 m143 m144 (by omega) hi hk (by rw [nI_toInt (by omega)]; omega) (by rw [nI_toInt (by omega)]; omega))
    have hL := lo_of h2 (((Lo.rf _).st (by decide)).st (by decide))
    refine pr_of h1 hH h2 hL (by rw [rones_n (n := n) (E := fun q => decide (upd ss (2200 * i + k) (nI z) (2200 * i + q) ≠ -1)) (by omega) (fun j hj => (hpf j hj).2.1)]) hlen (fun hl => Or.inr ⟨_, _, _, _, _, _, _, _, _, _, _, _, _, _, _, _, _, _, _, _, _, _, _, _, _, _, _, _, _, _, _, _, _, (hX.psb hi hgi).ag hL, hM1.s144.s143, hl, hC, hF, hF2, hgg, hon, hB, PA.up hPA (hPA i hi).1 hpf (fun _ _ => rfl) (fun j q hj hq => bup_o (by omega) hq (fun z => hj z.symm)) (fun j q hj hq => upd_o (by omega) hq (fun z => hj z.symm)) (fun _ _ _ _ => rfl), hT⟩)
theorem q_syndrome {X : Ev} {M : Hp} (hR : Rop M) {z0 : Int32} {z1 : Int32} : Pr X M jX6_syndrome jX7_syndrome [.int (z0), .int (z1)] := by
  have hR0 := hR
  obtain ⟨ra, rr, rl, m, t, d, r, n, pw, lg, cf, gp, hs, ls, on, s, pg, uf, tf, tn, pv, lh, gg, bu, bb, ss, kk, we, tu, md, sp, le, sv, hX, hM, hlen, hC, hF, hF2, hgg, hon, hB, hPA, hT⟩ := hR
  obtain ⟨x0, x1, x2, x3, x4, x5, x6, x7, x8, x9, x10, x11, x12, x13, x14, x15, x16, x17, x18, x19, x20, x21, hP, x134, x135, x136, x137⟩ := id hX
  obtain ⟨m138, m139, m140, m141, m142, m143, m144, m145, m146, m147, m148, m149, m150, m151, m152, m153, m154⟩ := id hM
  obtain ⟨h3, h13, ht1, ht8, hd1, hd8, hr_, hn8, hnm, hgp, _⟩ := id hC
  obtain ⟨hr1, hr8, hn9, hn52, hm4⟩ := hC.b
  by_cases hbad : (inl_ z0 16 && decide (1 ≤ z1.toInt ∧ z1.toInt ≤ 2 * (t : Int))) = false
  · exact pr_same (c_syndromeB x0 x5 (by omega) hbad) (c_msyndromeB m138 (by omega) hbad) (Or.inr hR0)
  rw [Bool.not_eq_false] at hbad
  rw [Bool.and_eq_true, decide_eq_true_iff] at hbad
  obtain ⟨i, hi, rfl⟩ := inl_ex hbad.1
  have h22 := Int32.toInt_lt z1
  obtain ⟨a, ha', rfl⟩ := inl_ex (show inl_ z1 (2 ^ 31) = true from decide_eq_true ⟨by omega, by omega⟩)
  have hai : (nI a).toInt = (a : Int) := nI_toInt ha'
  have ha1 : 1 ≤ a := by omega
  have ha : a ≤ 2 * t := by omega
  obtain ⟨g, hgi⟩ : ∃ g, 22 + 7 * i = g := ⟨_, rfl⟩
  have Pg := hP i hi
  rw [hgi] at Pg
  have h1 := (c_syndrome (X := X) hi hgi x0 x1 x2 x3 x5 x7 x8 x9 x21 Pg.1 Pg.2.1 Pg.2.2.1 Pg.2.2.2.1 Pg.2.2.2.2.1 Pg.2.2.2.2.2.1 Pg.2.2.2.2.2.2 hF (by omega) (by omega) (by omega) ha1 ha)
  have hH := hi_of h1 (((Hi.rf _).st (by omega)).st (by omega))
  have hM1 := hM.ag hH
  obtain ⟨m138, m139, m140, m141, m142, m143, m144, m145, m146, m147, m148, m149, m150, m151, m152, m153, m154⟩ := id hM1
  have h2 := (c_msyndrome (X := X) m138 m139 m143 m150 m152 hF2 (by omega) (by omega) (by omega) hi ha1 ha)
  have hL := lo_of h2 (((Lo.rf _).st (by decide)).st (by decide))
  refine pr_of h1 hH h2 hL (by rw [hC.syn (pg i).2.1 ha1 ha]; exact congrArg nI (wsm_cg n (fun j hj => by rw [((hPA i hi).2 j (by omega)).1, decide_eq_true hj, Bool.true_and]; unfold wcp; rw [if_pos hj]))) hlen (fun hl => Or.inr ⟨_, _, _, _, _, _, _, _, _, _, _, _, _, _, _, _, _, _, _, _, _, _, _, _, _, _, _, _, _, _, _, _, _, (hX.s5.s9).ag hL, hM1.s150.s152, hl, hC, hF, hF2, hgg, hon, hB, hPA, hT⟩)
