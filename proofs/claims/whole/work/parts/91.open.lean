/-! PAIR: open -/
theorem stp_0 {hs : Nat → Int64} {hP lP : Int64} : ∀ k, stpH hs hP lP k 0 = hs 0 ∧ stpL hs hP lP k 0 = hs 0
  | 0 => ⟨rfl, rfl⟩
  | k + 1 => by
    have hp := Nat.two_pow_pos k
    refine ⟨?_, ?_⟩
    · show hin (stpH hs hP lP k) (2 ^ k) _ (2 ^ k) 0 = _
      rw [hin_at _ (Nat.le_refl _), if_neg (by omega)]; exact (stp_0 k).1
    · show hin (stpL hs hP lP k) (2 ^ k) _ (2 ^ k) 0 = _
      rw [hin_at _ (Nat.le_refl _), if_neg (by omega)]; exact (stp_0 k).2
/-- what the class holds when it has been opened -/
theorem CK.new {m t d : Nat} {cf : Nat → Int32} {hs ls : Nat → Int64} (h3 : 3 ≤ m) (h13 : m ≤ 13) (h1 : 1 ≤ t) (h8 : t ≤ 8) (h1d : 1 ≤ d) (hd : d ≤ 256) (hbig : 8 * d + (gst m t).2 ≤ 2 ^ m - 1) (hs0 : hs 0 = 0) (hl0 : ls 0 = 0) : CK m t d (gst m t).2 (8 * d + (gst m t).2) (gen m t cf).1 (stpH hs (ldH (gen m t cf).1 (gst m t).2 (gst m t).2) (ldL (gen m t cf).1 (gst m t).2 (gst m t).2) 8) (stpL ls (ldH (gen m t cf).1 (gst m t).2 (gst m t).2) (ldL (gen m t cf).1 (gst m t).2 (gst m t).2) 8) :=
  ⟨h3, h13, h1, h8, h1d, hd, rfl, rfl, hbig, (gen_ok h3 h13 h8).1, hs, ls, hs0, hl0, rfl, rfl⟩
theorem BU.new {d n : Nat} (hd : d ≤ 256) {bu : Nat → Nat} : BU d n (fun _ => 0) (nst 0 bu 256) :=
  ⟨fun i hi => by unfold nst; rw [if_pos hi]; decide, fun k hk => by rw [rb_zero]; unfold dbit nst; rw [if_pos (by omega), Nat.zero_testBit], fun k _ _ => rb_zero k⟩
theorem PA.new {n : Nat} {pg : Nat → Pg} {bb kk : Nat → Bool} {ss we : Nat → Int32} : PA n (rnw pg (rfirst (fun _ => 0) n) 16) (bst true bb 35200) (ist (-1) ss 35200) (bst false kk 35200) (ist (nI 0) we 16) := fun i hi => by
  have e : rnw pg (rfirst (fun _ => 0) n) 16 i = (nI 0, rfirst (fun _ => 0) n, fun _ => 0, fun _ => 0) := if_pos hi
  rw [e]
  refine ⟨by unfold ist; rw [if_pos hi], fun k hk => ⟨?_, ?_, ?_⟩⟩
  · rw [rb_rfirst, rb_zero, Bool.or_false]
    unfold bst
    rw [if_pos (by omega), Bool.and_true]
  · rw [rb_zero]
    unfold ist
    rw [if_pos (by omega), decide_eq_false (show ¬ (-1 : Int32) ≠ -1 from fun z => z rfl), Bool.and_false]
  · rw [rb_zero]
    unfold bst
    rw [if_pos (by omega), Bool.and_false]
theorem TU.new {n : Nat} {tu : Nat → Nat} : TU n (fun _ => 0) tu 0 :=
  ⟨by
    have : ∀ n, cnt (rb (fun _ => 0)) n = 0 := fun n => by
      induction n with
      | zero => rfl
      | succ n ih => rw [cnt_f (rb_zero n)]; exact ih
    exact (this n).symm, fun l hl => absurd hl (Nat.not_lt_zero _)⟩
theorem q_open0 {X : Ev} {M : Hp} (hR : Rcl M) {z0 z1 z2 : Int32} : Pr X M jX6_open jX7_open [.int (z0), .int (z1), .int (z2)] := by
  have HR : RE M := Or.inl hR
  obtain ⟨ra, rr, rl, t, d, r, pw, lg, cf, gp, hs, ls, on, s, pg, uf, tf, m', t', d', r', n', me, ri, lt, pv, lh, gg, bu, bb, ss, kk, we, tu, md, sp, le, sv, hX, hM, hlen, hs0, hl0⟩ := id hR
  obtain ⟨x0, x1, x2, x3, x4, x5, x6, x7, x8, x9, x10, x11, x12, x13, x14, x15, x16, x17, x18, x19, x20, x21, hP, x134, x135, x136, x137⟩ := id hX
  obtain ⟨m138, m139, m140, m141, m142, m143, m144, m145, m146, m147, m148, m149, m150, m151, m152, m153, m154⟩ := id hM
  by_cases hbad : (decide (3 ≤ z0.toInt ∧ z0.toInt ≤ 13) && decide (1 ≤ z1.toInt ∧ z1.toInt ≤ 8) && decide (1 ≤ z2.toInt ∧ z2.toInt ≤ 256)) = false
  · exact pr_same (c_openB hbad) (c_mopenB hbad) HR
  rw [Bool.not_eq_false, Bool.and_eq_true, Bool.and_eq_true, decide_eq_true_iff, decide_eq_true_iff, decide_eq_true_iff] at hbad
  obtain ⟨m1, hm1, rfl⟩ := inl_ex (show inl_ z0 14 = true from decide_eq_true ⟨by omega, by omega⟩)
  obtain ⟨t1, ht1', rfl⟩ := inl_ex (show inl_ z1 9 = true from decide_eq_true ⟨by omega, by omega⟩)
  obtain ⟨d1, hd1', rfl⟩ := inl_ex (show inl_ z2 257 = true from decide_eq_true ⟨by omega, by omega⟩)
  have e0 : (nI m1).toInt = (m1 : Int) := nI_toInt (by omega)
  have e1 : (nI t1).toInt = (t1 : Int) := nI_toInt (by omega)
  have e2 : (nI d1).toInt = (d1 : Int) := nI_toInt (by omega)
  have g3 : 3 ≤ m1 := by omega
  have g13 : m1 ≤ 13 := by omega
  have g1t : 1 ≤ t1 := by omega
  have g8t : t1 ≤ 8 := by omega
  have g1d : 1 ≤ d1 := by omega
  have g8d : d1 ≤ 256 := by omega
  have hct : ctail m1 t1 = (gst m1 t1).2 := ctail_gst
  by_cases hbig : 2 ^ m1 - 1 < 8 * d1 + ctail m1 t1
  · have hgo := mgo_ok (m := m1) (t := t1) (md := md) (sp := sp) g3 g13 g8t
    have h1 := c_openC (X := X) (M := M) g3 g13 g1t g8t g1d g8d hbig
    have h2 := c_mopenN (X := X) m138 m139 m140 m141 m148 m149 g3 g13 g1t g8t g1d g8d (show 2 ^ m1 - 1 < 8 * d1 + (mgo m1 (2 * t1) 1 (g0, 0, md, sp)).2.1 by rw [hgo.2]; omega)
    have hL := lo_of h2 (((((((Lo.rf _).st (by decide)).st (by decide)).st (by decide)).st (by decide)).st (by decide)).st (by decide))
    exact pr_of h1 (Hi.rf _) h2 hL rfl hlen (fun hl => Or.inl ⟨_, _, _, _, _, _, _, _, _, _, _, _, _, _, _, _, _, _, _, _, _, _, _, _, _, _, _, _, _, _, _, _, _, _, _, _, _, _, hX.ag hL, hM.s138.s139.s140.s141.s148.s149, hl, hs0, hl0⟩)
  · obtain ⟨M1, h1, hX1, hH⟩ := c_openM (X := X) hX (m := m1) (t := t1) (d := d1) (fun z => absurd ((nI_eq (by omega) (by decide)).mp z) (by omega)) g3 g13 g1t g8t g1d g8d (by omega)
    have hM1 := hM.ag hH
    obtain ⟨m138, m139, m140, m141, m142, m143, m144, m145, m146, m147, m148, m149, m150, m151, m152, m153, m154⟩ := id hM1
    have hgo := mgo_ok (m := m1) (t := t1) (md := md) (sp := sp) g3 g13 g8t
    have h2 := c_mopen (X := X) m138 m139 m140 m141 m148 m149 m142 m143 m144 m145 m146 g3 g13 g1t g8t g1d g8d (show 8 * d1 + (mgo m1 (2 * t1) 1 (g0, 0, md, sp)).2.1 ≤ 2 ^ m1 - 1 by rw [hgo.2]; omega)
    have hL := lo_of h2 ((((((((((((Lo.rf _).st (by decide)).st (by decide)).st (by decide)).st (by decide)).st (by decide)).st (by decide)).st (by decide)).st (by decide)).st (by decide)).st (by decide)).st (by decide))
    have hX2 := hX1.ag hL
    rw [(gen_ok (m := m1) (t := t1) (cf := cf) g3 g13 g8t).2] at hX2
    refine pr_of h1 hH h2 hL (by rw [hgo.2, hct]) hlen (fun hl => Or.inr ⟨nI 0, nI 0, nI 0, m1, t1, d1, (gst m1 t1).2, 8 * d1 + (gst m1 t1).2, _, _, _, _, _, _, _, _, _, _, _, 0, tpw pv m1 (2 ^ m1 - 1), tlg lh m1 (2 ^ m1 - 1), (mgo m1 (2 * t1) 1 (g0, 0, md, sp)).1, nst 0 bu 256, bst true bb 35200, ist (-1) ss 35200, bst false kk 35200, ist (nI 0) we 16, tu, (mgo m1 (2 * t1) 1 (g0, 0, md, sp)).2.2.1, (mgo m1 (2 * t1) 1 (g0, 0, md, sp)).2.2.2, le, sv, hX2, ?_, hl, CK.new g3 g13 g1t g8t g1d g8d (by omega) hs0 hl0, FT.made g3 g13, FT.made g3 g13, fun j _ => hgo.1 j, rfl, BU.new g8d, PA.new, TU.new⟩)
    rw [← hgo.2]
    exact hM1.s138.s139.s140.s141.s148.s149.s142.s143.s144.s145.s146
theorem q_open {X : Ev} {M : Hp} (hR : Rop M) {z0 z1 z2 : Int32} : Pr X M jX6_open jX7_open [.int (z0), .int (z1), .int (z2)] := by
  have HR : RE M := Or.inr hR
  obtain ⟨ra, rr, rl, m, t, d, r, n, pw, lg, cf, gp, hs, ls, on, s, pg, uf, tf, tn, pv, lh, gg, bu, bb, ss, kk, we, tu, md, sp, le, sv, hX, hM, hlen, hC, hF, hF2, hgg, hon, hB, hPA, hT⟩ := hR
  obtain ⟨x0, x1, x2, x3, x4, x5, x6, x7, x8, x9, x10, x11, x12, x13, x14, x15, x16, x17, x18, x19, x20, x21, hP, x134, x135, x136, x137⟩ := id hX
  obtain ⟨m138, m139, m140, m141, m142, m143, m144, m145, m146, m147, m148, m149, m150, m151, m152, m153, m154⟩ := id hM
  obtain ⟨h3, h13, ht1, ht8, hd1, hd8, hr_, hn8, hnm, hgp, _⟩ := id hC
  obtain ⟨hr1, hr8, hn9, hn52, hm4⟩ := hC.b
  by_cases hbad : (decide (3 ≤ z0.toInt ∧ z0.toInt ≤ 13) && decide (1 ≤ z1.toInt ∧ z1.toInt ≤ 8) && decide (1 ≤ z2.toInt ∧ z2.toInt ≤ 256)) = false
  · exact pr_same (c_openB hbad) (c_mopenB hbad) HR
  rw [Bool.not_eq_false, Bool.and_eq_true, Bool.and_eq_true, decide_eq_true_iff, decide_eq_true_iff, decide_eq_true_iff] at hbad
  obtain ⟨m1, hm1, rfl⟩ := inl_ex (show inl_ z0 14 = true from decide_eq_true ⟨by omega, by omega⟩)
  obtain ⟨t1, ht1', rfl⟩ := inl_ex (show inl_ z1 9 = true from decide_eq_true ⟨by omega, by omega⟩)
  obtain ⟨d1, hd1', rfl⟩ := inl_ex (show inl_ z2 257 = true from decide_eq_true ⟨by omega, by omega⟩)
  have e0 : (nI m1).toInt = (m1 : Int) := nI_toInt (by omega)
  have e1 : (nI t1).toInt = (t1 : Int) := nI_toInt (by omega)
  have e2 : (nI d1).toInt = (d1 : Int) := nI_toInt (by omega)
  have g3 : 3 ≤ m1 := by omega
  have g13 : m1 ≤ 13 := by omega
  have g1t : 1 ≤ t1 := by omega
  have g8t : t1 ≤ 8 := by omega
  have g1d : 1 ≤ d1 := by omega
  have g8d : d1 ≤ 256 := by omega
  have hct : ctail m1 t1 = (gst m1 t1).2 := ctail_gst
  have hs0 : hs 0 = 0 ∧ ls 0 = 0 := by
    obtain ⟨_, _, _, _, _, _, _, _, _, _, hsA, lsA, a1, a2, a3, a4⟩ := hC
    rw [a3, a4]
    exact ⟨(stp_0 8).1.trans a1, (stp_0 8).2.trans a2⟩
  by_cases hbig : 2 ^ m1 - 1 < 8 * d1 + ctail m1 t1
  · have hgo := mgo_ok (m := m1) (t := t1) (md := md) (sp := sp) g3 g13 g8t
    have h1 := c_openC (X := X) (M := M) g3 g13 g1t g8t g1d g8d hbig
    have h2 := c_mopenR (X := X) m138 m139 m140 m141 m148 m149 hF2 ht8 g3 g13 g1t g8t g1d g8d (show 2 ^ m1 - 1 < 8 * d1 + (mgo m1 (2 * t1) 1 (g0, 0, md, sp)).2.1 by rw [hgo.2]; omega)
    have hL := lo_of h2 (((((((Lo.rf _).st (by decide)).st (by decide)).st (by decide)).st (by decide)).st (by decide)).st (by decide))
    exact pr_of h1 (Hi.rf _) h2 hL rfl hlen (fun hl => Or.inr ⟨_, _, _, _, _, _, _, _, _, _, _, _, _, _, _, _, _, _, _, _, _, _, _, _, _, _, _, _, _, _, _, _, _, hX.ag hL, hM.s138.s139.s140.s141.s148.s149, hl, hC, hF, FT.made h3 h13, fun j _ => (mgo_ok h3 h13 ht8).1 j, hon, hB, hPA, hT⟩)
  · by_cases hmm : m1 = m
    · subst hmm
      obtain ⟨M1, h1, hX1, hH⟩ := c_openS (X := X) hX hF (t := t1) (d := d1) g3 g13 g1t g8t g1d g8d (by omega)
      have hM1 := hM.ag hH
      obtain ⟨m138, m139, m140, m141, m142, m143, m144, m145, m146, m147, m148, m149, m150, m151, m152, m153, m154⟩ := id hM1
      have hgo := mgo_ok (m := m1) (t := t1) (md := md) (sp := sp) g3 g13 g8t
      have h2 := c_mopen (X := X) m138 m139 m140 m141 m148 m149 m142 m143 m144 m145 m146 g3 g13 g1t g8t g1d g8d (show 8 * d1 + (mgo m1 (2 * t1) 1 (g0, 0, md, sp)).2.1 ≤ 2 ^ m1 - 1 by rw [hgo.2]; omega)
      have hL := lo_of h2 ((((((((((((Lo.rf _).st (by decide)).st (by decide)).st (by decide)).st (by decide)).st (by decide)).st (by decide)).st (by decide)).st (by decide)).st (by decide)).st (by decide)).st (by decide))
      have hX2 := hX1.ag hL
      rw [(gen_ok (m := m1) (t := t1) (cf := cf) g3 g13 g8t).2] at hX2
      refine pr_of h1 hH h2 hL (by rw [hgo.2, hct]) hlen (fun hl => Or.inr ⟨nI 0, nI 0, nI 0, m1, t1, d1, (gst m1 t1).2, 8 * d1 + (gst m1 t1).2, _, _, _, _, _, _, _, _, _, _, _, 0, tpw pv m1 (2 ^ m1 - 1), tlg lh m1 (2 ^ m1 - 1), (mgo m1 (2 * t1) 1 (g0, 0, md, sp)).1, nst 0 bu 256, bst true bb 35200, ist (-1) ss 35200, bst false kk 35200, ist (nI 0) we 16, tu, (mgo m1 (2 * t1) 1 (g0, 0, md, sp)).2.2.1, (mgo m1 (2 * t1) 1 (g0, 0, md, sp)).2.2.2, le, sv, hX2, ?_, hl, CK.new g3 g13 g1t g8t g1d g8d (by omega) hs0.1 hs0.2, hF, FT.made g3 g13, fun j _ => hgo.1 j, rfl, BU.new g8d, PA.new, TU.new⟩)
      rw [← hgo.2]
      exact hM1.s138.s139.s140.s141.s148.s149.s142.s143.s144.s145.s146
    · obtain ⟨M1, h1, hX1, hH⟩ := c_openM (X := X) hX (m := m1) (t := t1) (d := d1) (fun z => hmm ((nI_eq (by omega) (by omega)).mp z)) g3 g13 g1t g8t g1d g8d (by omega)
      have hM1 := hM.ag hH
      obtain ⟨m138, m139, m140, m141, m142, m143, m144, m145, m146, m147, m148, m149, m150, m151, m152, m153, m154⟩ := id hM1
      have hgo := mgo_ok (m := m1) (t := t1) (md := md) (sp := sp) g3 g13 g8t
      have h2 := c_mopen (X := X) m138 m139 m140 m141 m148 m149 m142 m143 m144 m145 m146 g3 g13 g1t g8t g1d g8d (show 8 * d1 + (mgo m1 (2 * t1) 1 (g0, 0, md, sp)).2.1 ≤ 2 ^ m1 - 1 by rw [hgo.2]; omega)
      have hL := lo_of h2 ((((((((((((Lo.rf _).st (by decide)).st (by decide)).st (by decide)).st (by decide)).st (by decide)).st (by decide)).st (by decide)).st (by decide)).st (by decide)).st (by decide)).st (by decide))
      have hX2 := hX1.ag hL
      rw [(gen_ok (m := m1) (t := t1) (cf := cf) g3 g13 g8t).2] at hX2
      refine pr_of h1 hH h2 hL (by rw [hgo.2, hct]) hlen (fun hl => Or.inr ⟨nI 0, nI 0, nI 0, m1, t1, d1, (gst m1 t1).2, 8 * d1 + (gst m1 t1).2, _, _, _, _, _, _, _, _, _, _, _, 0, tpw pv m1 (2 ^ m1 - 1), tlg lh m1 (2 ^ m1 - 1), (mgo m1 (2 * t1) 1 (g0, 0, md, sp)).1, nst 0 bu 256, bst true bb 35200, ist (-1) ss 35200, bst false kk 35200, ist (nI 0) we 16, tu, (mgo m1 (2 * t1) 1 (g0, 0, md, sp)).2.2.1, (mgo m1 (2 * t1) 1 (g0, 0, md, sp)).2.2.2, le, sv, hX2, ?_, hl, CK.new g3 g13 g1t g8t g1d g8d (by omega) hs0.1 hs0.2, FT.made g3 g13, FT.made g3 g13, fun j _ => hgo.1 j, rfl, BU.new g8d, PA.new, TU.new⟩)
      rw [← hgo.2]
      exact hM1.s138.s139.s140.s141.s148.s149.s142.s143.s144.s145.s146
