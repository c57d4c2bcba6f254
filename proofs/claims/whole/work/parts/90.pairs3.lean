/-! PAIRS: read, copy, refresh -/
theorem BU.rd {m t d r n : Nat} {gp : Nat → Bool} {hs ls : Nat → Int64} (h : CK m t d r n gp hs ls) {bu : Nat → Nat} (hb : ∀ i, i < 256 → bu i < 256) {W : Nat → Int64} {w : Nat → Bool} (hW : ∀ k, k < 2176 → rb W k = (decide (k < n) && w k)) : BU d n W (brd (nst 0 bu d) w d n) := by
  have hbb := h.b
  have hn8 : n = 8 * d + r := h.2.2.2.2.2.2.2.1
  refine ⟨fun i hi => brd_lt (fun j hj => by unfold nst; split; exact (by decide : 0 < 256); exact hb j hj) n i hi, fun k hk => ?_, fun k h1 h2 => ?_⟩
  · rw [hW k (by omega), brd_bit (fun i hi => by unfold nst; rw [if_pos hi]) hk]
  · rw [hW k h2, decide_eq_false (by omega), Bool.false_and]
theorem TU.rd {n : Nat} (hn : n ≤ 2176) {W bf : Nat → Int64} {w b : Nat → Bool} {tu : Nat → Nat} (hW : ∀ k, k < 2176 → rb W k = (decide (k < n) && w k)) (hb : ∀ k, k < 2176 → rb bf k = (decide (k < n) && b k)) : TU n (fun j => W j ^^^ bf j) (trd tu w b n).1 (trd tu w b n).2 := by
  obtain ⟨h1, h2⟩ := trd_ok (tu := tu) (w := w) (b := b) n
  have he : ∀ k, k < n → rb (fun j => W j ^^^ bf j) k = (w k ^^ b k) := fun k hk => by
    rw [rb_xor, hW k (by omega), hb k (by omega), decide_eq_true hk, Bool.true_and, Bool.true_and]
  refine ⟨h1.trans (cnt_congr n he).symm, fun l hl => ?_⟩
  rw [h2 l (by omega), nth_cg n l he]
theorem q_read {X : Ev} {M : Hp} (hR : Rop M) {z0 : Int32} : Pr X M jX6_read jX7_read [.int (z0)] := by
  have hR0 := hR
  obtain ⟨ra, rr, rl, m, t, d, r, n, pw, lg, cf, gp, hs, ls, on, s, pg, uf, tf, tn, pv, lh, gg, bu, bb, ss, kk, we, tu, md, sp, le, sv, hX, hM, hlen, hC, hF, hF2, hgg, hon, hB, hPA, hT⟩ := hR
  obtain ⟨x0, x1, x2, x3, x4, x5, x6, x7, x8, x9, x10, x11, x12, x13, x14, x15, x16, x17, x18, x19, x20, x21, hP, x134, x135, x136, x137⟩ := id hX
  obtain ⟨m138, m139, m140, m141, m142, m143, m144, m145, m146, m147, m148, m149, m150, m151, m152, m153, m154⟩ := id hM
  obtain ⟨h3, h13, ht1, ht8, hd1, hd8, hr_, hn8, hnm, hgp, _⟩ := id hC
  obtain ⟨hr1, hr8, hn9, hn52, hm4⟩ := hC.b
  by_cases hbad : inl_ z0 16 = false
  · exact pr_same (c_readB x0 hbad) (c_mreadB m138 hbad) (Or.inr hR0)
  rw [Bool.not_eq_false] at hbad
  obtain ⟨i, hi, rfl⟩ := inl_ex hbad
  obtain ⟨g, hgi⟩ : ∃ g, 22 + 7 * i = g := ⟨_, rfl⟩
  have Pg := hP i hi
  rw [hgi] at Pg
  obtain ⟨hme, hmw⟩ := mend_eq hC (hPA i hi).2 s sv
  cases hm1 : (mmd ((m, t, d, r, n, hs, ls) : Mp) s (pg i).2.1 (pg i).2.2.2).2 with
  | none =>
    have hm2 := hme.symm.trans hm1
    have h1 := (c_readL (X := X) hi hgi x0 x21 Pg.1 Pg.2.1 Pg.2.2.1 Pg.2.2.2.1 Pg.2.2.2.2.1 Pg.2.2.2.2.2.1 Pg.2.2.2.2.2.2 x1 x2 x3 x7 x8 x12 x13 x5 x9 x14 x15 x16 x17 x18 x19 x20 hF (by omega) (by omega) (by omega) (by omega) (by omega) (by omega) hm1)
    have hH := hi_of h1 (((((((((((Hi.rf _).st (by omega)).st (by omega)).st (by omega)).st (by omega)).st (by omega)).st (by omega)).st (by omega)).st (by omega)).st (by omega)).st (by omega))
    have hM1 := hM.ag hH
    obtain ⟨m138, m139, m140, m141, m142, m143, m144, m145, m146, m147, m148, m149, m150, m151, m152, m153, m154⟩ := id hM1
    have h2 := (c_mreadL (X := X) m138 m139 m140 m143 m145 m150 m152 m153 m154 hF2 (by omega) (by omega) (by omega) (by omega) hi hm2)
    have hL := lo_of h2 ((((((Lo.rf _).st (by decide)).st (by decide)).st (by decide)).st (by decide)).st (by decide))
    refine pr_of h1 hH h2 hL rfl hlen (fun hl => Or.inr ⟨_, _, _, _, _, _, _, _, _, _, _, _, _, _, _, _, _, _, _, _, _, _, _, _, _, _, _, _, _, _, _, _, _, ((hX.ms _).s0).ag hL, hM1.s150.s152.s153.s154.s138, hl, hC, hF, hF2, hgg, hon, hB, hPA, hT⟩)
  | some o =>
    have hm2 := hme.symm.trans hm1
    have hw_ := hmw o hm1
    have ho := mmr_le hm2
    cases o with
    | zero =>
      have h1 := (c_readR (X := X) hi hgi x0 x21 Pg.1 Pg.2.1 Pg.2.2.1 Pg.2.2.2.1 Pg.2.2.2.2.1 Pg.2.2.2.2.2.1 Pg.2.2.2.2.2.2 x1 x2 x3 x7 x8 x12 x13 x5 x9 x14 x15 x16 x17 x18 x19 x20 x134 x135 x136 x137 hF (by omega) (by omega) (by omega) (by omega) (by omega) (by omega) hm1)
      have hH := hi_of h1 (((((((((((((Hi.rf _).st (by omega)).st (by omega)).st (by omega)).st (by omega)).st (by omega)).st (by omega)).st (by omega)).st (by omega)).st (by omega)).st (by omega)).st (by omega)).st (by omega))
      have hM1 := hM.ag hH
      obtain ⟨m138, m139, m140, m141, m142, m143, m144, m145, m146, m147, m148, m149, m150, m151, m152, m153, m154⟩ := id hM1
      have h2 := (c_mreadR (X := X) m138 m139 m140 m142 m143 m145 m147 m150 m152 m153 m154 hF2 (by omega) (by omega) (by omega) (by omega) hi (by omega) (by omega) hm2)
      have hL := lo_of h2 (((((((((Lo.rf _).st (by decide)).st (by decide)).st (by decide)).st (by decide)).st (by decide)).st (by decide)).st (by decide)).st (by decide))
      refine pr_of h1 hH h2 hL rfl hlen (fun hl => Or.inr ⟨_, _, _, _, _, _, _, _, _, _, _, _, _, _, _, _, _, _, _, _, _, _, _, _, _, _, _, _, _, _, _, _, _, (((hX.ms _).s0).s135.s137).ag hL, hM1.s150.s152.s153.s154.s138.s138.s142.s147, hl, hC, hF, hF2, hgg, hon, BU.rd hC hB.1 hw_, hPA, TU.rd (by omega) hw_ (fun k hk => ((hPA i hi).2 k hk).1)⟩)
    | succ o =>
      have h1 := (c_readM (X := X) hi hgi x0 x21 Pg.1 Pg.2.1 Pg.2.2.1 Pg.2.2.2.1 Pg.2.2.2.2.1 Pg.2.2.2.2.2.1 Pg.2.2.2.2.2.2 x1 x2 x3 x7 x8 x12 x13 x5 x9 x14 x15 x16 x17 x18 x19 x20 x134 x135 x136 x137 hF (by omega) (by omega) (by omega) (by omega) (by omega) (by omega) (by omega) hm1)
      have hH := hi_of h1 (((((((((((((Hi.rf _).st (by omega)).st (by omega)).st (by omega)).st (by omega)).st (by omega)).st (by omega)).st (by omega)).st (by omega)).st (by omega)).st (by omega)).st (by omega)).st (by omega))
      have hM1 := hM.ag hH
      obtain ⟨m138, m139, m140, m141, m142, m143, m144, m145, m146, m147, m148, m149, m150, m151, m152, m153, m154⟩ := id hM1
      have h2 := (c_mreadM (X := X) m138 m139 m140 m142 m143 m145 m147 m150 m152 m153 m154 hF2 (by omega) (by omega) (by omega) (by omega) hi (by omega) (by omega) (by omega) hm2)
      have hL := lo_of h2 (((((((((Lo.rf _).st (by decide)).st (by decide)).st (by decide)).st (by decide)).st (by decide)).st (by decide)).st (by decide)).st (by decide))
      refine pr_of h1 hH h2 hL rfl hlen (fun hl => Or.inr ⟨_, _, _, _, _, _, _, _, _, _, _, _, _, _, _, _, _, _, _, _, _, _, _, _, _, _, _, _, _, _, _, _, _, (((hX.ms _).s0).s135.s137).ag hL, hM1.s150.s152.s153.s154.s138.s138.s142.s147, hl, hC, hF, hF2, hgg, hon, BU.rd hC hB.1 hw_, hPA, TU.rd (by omega) hw_ (fun k hk => ((hPA i hi).2 k hk).1)⟩)
theorem q_copy {X : Ev} {M : Hp} (hR : Rop M) {z0 : Int32} {z1 : Int32} : Pr X M jX6_copy jX7_copy [.int (z0), .int (z1)] := by
  have hR0 := hR
  obtain ⟨ra, rr, rl, m, t, d, r, n, pw, lg, cf, gp, hs, ls, on, s, pg, uf, tf, tn, pv, lh, gg, bu, bb, ss, kk, we, tu, md, sp, le, sv, hX, hM, hlen, hC, hF, hF2, hgg, hon, hB, hPA, hT⟩ := hR
  obtain ⟨x0, x1, x2, x3, x4, x5, x6, x7, x8, x9, x10, x11, x12, x13, x14, x15, x16, x17, x18, x19, x20, x21, hP, x134, x135, x136, x137⟩ := id hX
  obtain ⟨m138, m139, m140, m141, m142, m143, m144, m145, m146, m147, m148, m149, m150, m151, m152, m153, m154⟩ := id hM
  obtain ⟨h3, h13, ht1, ht8, hd1, hd8, hr_, hn8, hnm, hgp, _⟩ := id hC
  obtain ⟨hr1, hr8, hn9, hn52, hm4⟩ := hC.b
  by_cases hbad : (inl_ z0 16 && inl_ z1 16) = false
  · exact pr_same (c_copyB x0 hbad) (c_mcopyB m138 hbad) (Or.inr hR0)
  rw [Bool.not_eq_false] at hbad
  rw [Bool.and_eq_true] at hbad
  have hbad2 := hbad.2
  obtain ⟨i, hi, rfl⟩ := inl_ex hbad.1
  obtain ⟨e, he, rfl⟩ := inl_ex hbad.2
  obtain ⟨g, hgi⟩ : ∃ g, 22 + 7 * i = g := ⟨_, rfl⟩
  have Pg := hP i hi
  rw [hgi] at Pg
  obtain ⟨q, hqi⟩ : ∃ q, 22 + 7 * e = q := ⟨_, rfl⟩
  have Pq := hP e he
  rw [hqi] at Pq
  obtain ⟨hme, hmw⟩ := mend_eq hC (hPA i hi).2 s sv
  cases hm1 : (mmd ((m, t, d, r, n, hs, ls) : Mp) s (pg i).2.1 (pg i).2.2.2).2 with
  | none =>
    have hm2 := hme.symm.trans hm1
    have h1 := (c_copyL (X := X) hi hgi x0 x21 Pg.1 Pg.2.1 Pg.2.2.1 Pg.2.2.2.1 Pg.2.2.2.2.1 Pg.2.2.2.2.2.1 Pg.2.2.2.2.2.2 x1 x2 x3 x7 x8 x12 x13 x5 x9 x14 x15 x16 x17 x18 x19 x20 hF (by omega) (by omega) (by omega) (by omega) (by omega) (by omega) hm1 hbad2)
    have hH := hi_of h1 ((((((((((Hi.rf _).st (by omega)).st (by omega)).st (by omega)).st (by omega)).st (by omega)).st (by omega)).st (by omega)).st (by omega)).st (by omega))
    have hM1 := hM.ag hH
    obtain ⟨m138, m139, m140, m141, m142, m143, m144, m145, m146, m147, m148, m149, m150, m151, m152, m153, m154⟩ := id hM1
    have h2 := (c_mcopyL (X := X) m138 m139 m140 m143 m145 m150 m152 m153 m154 hF2 (by omega) (by omega) (by omega) (by omega) hi hm2 hbad2)
    have hL := lo_of h2 (((((Lo.rf _).st (by decide)).st (by decide)).st (by decide)).st (by decide))
    refine pr_of h1 hH h2 hL rfl hlen (fun hl => Or.inr ⟨_, _, _, _, _, _, _, _, _, _, _, _, _, _, _, _, _, _, _, _, _, _, _, _, _, _, _, _, _, _, _, _, _, (hX.ms _).ag hL, hM1.s150.s152.s153.s154, hl, hC, hF, hF2, hgg, hon, hB, hPA, hT⟩)
  | some o =>
    have hm2 := hme.symm.trans hm1
    have hw_ := hmw o hm1
    have ho := mmr_le hm2
    have hpw := (hPA e he).2.wipe
    rw [← hon] at hpw
    have hpr := hpw.prog (by omega) hw_
    have h1 := (c_copy (X := X) hi hgi he hqi x0 x21 Pg.1 Pg.2.1 Pg.2.2.1 Pg.2.2.2.1 Pg.2.2.2.2.1 Pg.2.2.2.2.2.1 Pg.2.2.2.2.2.2 x1 x2 x3 x7 x8 x12 x13 x5 x9 x14 x15 x16 x17 x18 x19 x20 Pq.1 Pq.2.1 Pq.2.2.1 Pq.2.2.2.1 Pq.2.2.2.2.1 Pq.2.2.2.2.2.1 Pq.2.2.2.2.2.2 x10 x11 hF (by omega) (by omega) (by omega) (by omega) (by omega) (by omega) (by omega) hm1)
    have hH := hi_of h1 (((((((((((((Hi.rf _).st (by omega)).st (by omega)).st (by omega)).st (by omega)).st (by omega)).st (by omega)).st (by omega)).st (by omega)).st (by omega)).st (by omega)).st (by omega)).st (by omega))
    have hM1 := hM.ag hH
    obtain ⟨m138, m139, m140, m141, m142, m143, m144, m145, m146, m147, m148, m149, m150, m151, m152, m153, m154⟩ := id hM1
    have h2 := (c_mcopy (X := X) m138 m139 m140 m143 m144 m145 m146 m150 m152 m153 m154 hF2 (by omega) (by omega) (by omega) (by omega) hi he (by omega) hm2)
    have hL := lo_of h2 ((((((((Lo.rf _).st (by decide)).st (by decide)).st (by decide)).st (by decide)).st (by decide)).st (by decide)).st (by decide))
    refine pr_of h1 hH h2 hL (by rw [hpr.2]) hlen (fun hl => Or.inr ⟨_, _, _, _, _, _, _, _, _, _, _, _, _, _, _, _, _, _, _, _, _, _, _, _, _, _, _, _, _, _, _, _, _, ((hX.ms _).pwp he hqi).ag hL, hM1.s150.s152.s153.s154.s143.s145.s146, hl, hC, hF, hF2, hgg, hon, hB, PA.up hPA (by show (pg e).1 + nI 1 = upd we e (we e + nI 1) e; unfold upd; rw [if_pos rfl, (hPA e he).1]) hpr.1 (fun j hj => by unfold upd; rw [if_neg hj]) (fun j k hj hk => (pgb_o (by omega) hk (fun z => hj z.symm)).trans (wpb_o (by omega) hk (fun z => hj z.symm))) (fun _ _ _ _ => rfl) (fun j k hj hk => wpk_o (by omega) hk (fun z => hj z.symm)), hT⟩)
theorem refresh_eq {m t d r n : Nat} {gp : Nat → Bool} {hs ls : Nat → Int64} (h : CK m t d r n gp hs ls) {ss : Nat → Int32} {most : Nat} : ∀ (z i : Nat) (x : Ms × (Nat → Pg) × Nat) (y : Mi × (Nat → Bool) × (Nat → Bool) × (Nat → Int32) × Nat), i + z = 16 → PA n x.2.1 y.2.1 ss y.2.2.1 y.2.2.2.1 → x.2.2 = y.2.2.2.2 → PA n (rfgo ((m, t, d, r, n, hs, ls) : Mp) (rfirst (fun _ => 0) n) most z i x).2.1 (rmgo m t n ss most z i y).2.1 ss (rmgo m t n ss most z i y).2.2.1 (rmgo m t n ss most z i y).2.2.2.1 ∧ (rfgo ((m, t, d, r, n, hs, ls) : Mp) (rfirst (fun _ => 0) n) most z i x).2.2 = (rmgo m t n ss most z i y).2.2.2.2
  | 0, i, x, y, _, h1, h2 => ⟨h1, h2⟩
  | z + 1, i, x, y, hz, h1, h2 => by
    have hb := h.b
    have hi : i < 16 := by omega
    obtain ⟨hme, hmw⟩ := mend_eq h (h1 i hi).2 x.1 y.1
    refine refresh_eq h z (i + 1) (rfst ((m, t, d, r, n, hs, ls) : Mp) (rfirst (fun _ => 0) n) most i x) (rmst m t n ss most i y) (by omega) ?_ ?_
    all_goals (
      unfold rfst rmst
      rw [← hme]
      cases hm1 : (mmd ((m, t, d, r, n, hs, ls) : Mp) x.1 (x.2.1 i).2.1 (x.2.1 i).2.2.2).2 with
      | none => first | exact h1 | exact h2
      | some o =>
        by_cases ho : most ≤ o
        · show _
          simp only [if_pos ho]
          have hpr := (h1 i hi).2.wipe.prog (by omega) (hmw o hm1)
          first
          | exact PA.up h1 (by show (x.2.1 i).1 + nI 1 = upd y.2.2.2.1 i (y.2.2.2.1 i + nI 1) i; unfold upd; rw [if_pos rfl, (h1 i hi).1]) hpr.1 (fun j hj => by unfold upd; rw [if_neg hj]) (fun j k hj hk => (pgb_o (by omega) hk (fun z => hj z.symm)).trans (wpb_o (by omega) hk (fun z => hj z.symm))) (fun _ _ _ _ => rfl) (fun j k hj hk => wpk_o (by omega) hk (fun z => hj z.symm))
          | exact congrArg (· + 1) h2
        · simp only [if_neg ho]
          first | exact h1 | exact h2)
theorem q_refresh {X : Ev} {M : Hp} (hR : Rop M) {z0 : Int32} : Pr X M jX6_refresh jX7_refresh [.int (z0)] := by
  have hR0 := hR
  obtain ⟨ra, rr, rl, m, t, d, r, n, pw, lg, cf, gp, hs, ls, on, s, pg, uf, tf, tn, pv, lh, gg, bu, bb, ss, kk, we, tu, md, sp, le, sv, hX, hM, hlen, hC, hF, hF2, hgg, hon, hB, hPA, hT⟩ := hR
  obtain ⟨x0, x1, x2, x3, x4, x5, x6, x7, x8, x9, x10, x11, x12, x13, x14, x15, x16, x17, x18, x19, x20, x21, hP, x134, x135, x136, x137⟩ := id hX
  obtain ⟨m138, m139, m140, m141, m142, m143, m144, m145, m146, m147, m148, m149, m150, m151, m152, m153, m154⟩ := id hM
  obtain ⟨h3, h13, ht1, ht8, hd1, hd8, hr_, hn8, hnm, hgp, _⟩ := id hC
  obtain ⟨hr1, hr8, hn9, hn52, hm4⟩ := hC.b
  by_cases hbad : inl_ z0 65 = false
  · exact pr_same (c_refreshB x0 hbad) (c_mrefreshB m138 hbad) (Or.inr hR0)
  rw [Bool.not_eq_false] at hbad
  obtain ⟨most, hmo', rfl⟩ := inl_ex hbad
  have hmo : most ≤ 64 := by omega
  obtain ⟨M1, h1, hX1, hH⟩ := c_refresh (X := X) hF (by omega) ht8 hd8 hr8 hn8 (by omega) hmo hX
  have hM1 := hM.ag hH
  obtain ⟨M2, h2, hM2, hL⟩ := c_mrefresh (X := X) hF2 ht1 ht8 (by omega) (by omega) hmo hM1
  obtain ⟨e1, e2⟩ := refresh_eq hC (ss := ss) (most := most) 16 0 (s, pg, 0) (sv, bb, kk, we, 0) rfl hPA rfl
  rw [← hon] at e1 e2
  exact pr_of h1 hH h2 hL (congrArg nI e2.symm) hlen (fun hl => Or.inr ⟨_, _, _, _, _, _, _, _, _, _, _, _, _, _, _, _, _, _, _, _, _, _, _, _, _, _, _, _, _, _, _, _, _, hX1.ag hL, hM2, hl, hC, hF, hF2, hgg, hon, hB, e1, hT⟩)
