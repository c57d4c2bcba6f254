/-! PAIRS: both calls answer the same -/
theorem c_turned0 {X : Ev} {M : Hp} {t d r : Nat} {s : Ms} {ra rr rl : Int32} (h0 : M[0]? = some (.inr (5, [.ref (1), .ref (5), .ref (12), .ref (21), .ref (134), .ref (136), .int (0), .int (ra), .int (rr), .int (rl)]))) (ho : M[5]? = some (.inr (0, [.ref (1), .ref (6), .ref (7), .ref (8), .ref (9), .ref (10), .int (nI t), .int (nI d), .int (nI r), .int (nI 0), .long (s.1.1), .long (s.1.2)]))) {z : Int32} : Cl X 9 jX6_turned [.ref (0), .int (z)] M (some (.int (-1))) M := by
  refine Cl.of (ls := [some (.ref (0)), some (.int (z)), none, none]) (by decide) rfl (Nat.le_of_ble_eq_true rfl) ?_
  refine x_iconst (y := nI 0) dX6_turned_0 rfl ?_
  refine x_istore_n (ls' := [some (.ref (0)), some (.int (z)), some (.int (nI 0)), none]) dX6_turned_1 rfl (by decide) rfl rfl ?_
  refine x_iconst (y := nI 0) dX6_turned_2 rfl ?_
  refine x_istore_n (ls' := [some (.ref (0)), some (.int (z)), some (.int (nI 0)), some (.int (nI 0))]) dX6_turned_3 rfl (by decide) rfl rfl ?_
  refine x_iload_n dX6_turned_4 rfl rfl ?_
  refine x_aload_n dX6_turned_5 rfl rfl ?_
  refine x_getf (ci := 5) (kf := 1) dX6_turned_6 rfl uX6 (by decide) fl_RX6_21 h0 rfl ?_
  refine x_getf (ci := 0) (kf := 9) dX6_turned_9 rfl uX0 (by decide) fl_RX6_193 ho rfl ?_
  refine x_icmp_ge (tgt := 43) dX6_turned_12 (by decide) (fun _ => ?_) (fun h => False.elim (h (by decide)))
  refine x_iconst (y := -1) dX6_turned_43 rfl ?_
  exact x_ireturn_eq dX6_turned_44 rfl rfl
theorem q_times0 {X : Ev} {M : Hp} (hR : Rcl M) {z0 : Int32} {z1 : Int32} : Pr X M jX6_times jX7_times [.int (z0), .int (z1)] := by
  obtain ⟨ra, rr, rl, t, d, r, pw, lg, cf, gp, hs, ls, on, s, pg, uf, tf, m', t', d', r', n', me, ri, lt, pv, lh, gg, bu, bb, ss, kk, we, tu, md, sp, le, sv, hX, hM, hlen, hs0, hl0⟩ := id hR
  obtain ⟨x0, x1, x2, x3, x4, x5, x6, x7, x8, x9, x10, x11, x12, x13, x14, x15, x16, x17, x18, x19, x20, x21, hP, x134, x135, x136, x137⟩ := id hX
  obtain ⟨m138, m139, m140, m141, m142, m143, m144, m145, m146, m147, m148, m149, m150, m151, m152, m153, m154⟩ := id hM
  exact pr_same (c_times0 x0) (c_mtimes0 m138) (Or.inl hR)
theorem q_inverse0 {X : Ev} {M : Hp} (hR : Rcl M) {z0 : Int32} : Pr X M jX6_inverse jX7_inverse [.int (z0)] := by
  obtain ⟨ra, rr, rl, t, d, r, pw, lg, cf, gp, hs, ls, on, s, pg, uf, tf, m', t', d', r', n', me, ri, lt, pv, lh, gg, bu, bb, ss, kk, we, tu, md, sp, le, sv, hX, hM, hlen, hs0, hl0⟩ := id hR
  obtain ⟨x0, x1, x2, x3, x4, x5, x6, x7, x8, x9, x10, x11, x12, x13, x14, x15, x16, x17, x18, x19, x20, x21, hP, x134, x135, x136, x137⟩ := id hX
  obtain ⟨m138, m139, m140, m141, m142, m143, m144, m145, m146, m147, m148, m149, m150, m151, m152, m153, m154⟩ := id hM
  exact pr_same (c_inverse0 x0) (c_minverse0 m138) (Or.inl hR)
theorem q_power0 {X : Ev} {M : Hp} (hR : Rcl M) {z0 : Int32} : Pr X M jX6_power jX7_power [.int (z0)] := by
  obtain ⟨ra, rr, rl, t, d, r, pw, lg, cf, gp, hs, ls, on, s, pg, uf, tf, m', t', d', r', n', me, ri, lt, pv, lh, gg, bu, bb, ss, kk, we, tu, md, sp, le, sv, hX, hM, hlen, hs0, hl0⟩ := id hR
  obtain ⟨x0, x1, x2, x3, x4, x5, x6, x7, x8, x9, x10, x11, x12, x13, x14, x15, x16, x17, x18, x19, x20, x21, hP, x134, x135, x136, x137⟩ := id hX
  obtain ⟨m138, m139, m140, m141, m142, m143, m144, m145, m146, m147, m148, m149, m150, m151, m152, m153, m154⟩ := id hM
  exact pr_same (c_power0 x0) (c_mpower0 m138) (Or.inl hR)
theorem q_log0 {X : Ev} {M : Hp} (hR : Rcl M) {z0 : Int32} : Pr X M jX6_log jX7_log [.int (z0)] := by
  obtain ⟨ra, rr, rl, t, d, r, pw, lg, cf, gp, hs, ls, on, s, pg, uf, tf, m', t', d', r', n', me, ri, lt, pv, lh, gg, bu, bb, ss, kk, we, tu, md, sp, le, sv, hX, hM, hlen, hs0, hl0⟩ := id hR
  obtain ⟨x0, x1, x2, x3, x4, x5, x6, x7, x8, x9, x10, x11, x12, x13, x14, x15, x16, x17, x18, x19, x20, x21, hP, x134, x135, x136, x137⟩ := id hX
  obtain ⟨m138, m139, m140, m141, m142, m143, m144, m145, m146, m147, m148, m149, m150, m151, m152, m153, m154⟩ := id hM
  exact pr_same (c_log0 x0) (c_mlog0 m138) (Or.inl hR)
theorem q_minimal0 {X : Ev} {M : Hp} (hR : Rcl M) {z0 : Int32} : Pr X M jX6_minimal jX7_minimal [.int (z0)] := by
  obtain ⟨ra, rr, rl, t, d, r, pw, lg, cf, gp, hs, ls, on, s, pg, uf, tf, m', t', d', r', n', me, ri, lt, pv, lh, gg, bu, bb, ss, kk, we, tu, md, sp, le, sv, hX, hM, hlen, hs0, hl0⟩ := id hR
  obtain ⟨x0, x1, x2, x3, x4, x5, x6, x7, x8, x9, x10, x11, x12, x13, x14, x15, x16, x17, x18, x19, x20, x21, hP, x134, x135, x136, x137⟩ := id hX
  obtain ⟨m138, m139, m140, m141, m142, m143, m144, m145, m146, m147, m148, m149, m150, m151, m152, m153, m154⟩ := id hM
  exact pr_same (c_minimal0 x0) (c_mminimal0 m138) (Or.inl hR)
theorem q_generator0 {X : Ev} {M : Hp} (hR : Rcl M) {z0 : Int32} : Pr X M jX6_generator jX7_generator [.int (z0)] := by
  obtain ⟨ra, rr, rl, t, d, r, pw, lg, cf, gp, hs, ls, on, s, pg, uf, tf, m', t', d', r', n', me, ri, lt, pv, lh, gg, bu, bb, ss, kk, we, tu, md, sp, le, sv, hX, hM, hlen, hs0, hl0⟩ := id hR
  obtain ⟨x0, x1, x2, x3, x4, x5, x6, x7, x8, x9, x10, x11, x12, x13, x14, x15, x16, x17, x18, x19, x20, x21, hP, x134, x135, x136, x137⟩ := id hX
  obtain ⟨m138, m139, m140, m141, m142, m143, m144, m145, m146, m147, m148, m149, m150, m151, m152, m153, m154⟩ := id hM
  exact pr_same (c_generator0 x0) (c_mgenerator0 m138) (Or.inl hR)
theorem q_put0 {X : Ev} {M : Hp} (hR : Rcl M) {z0 : Int32} {z1 : Int32} : Pr X M jX6_put jX7_put [.int (z0), .int (z1)] := by
  obtain ⟨ra, rr, rl, t, d, r, pw, lg, cf, gp, hs, ls, on, s, pg, uf, tf, m', t', d', r', n', me, ri, lt, pv, lh, gg, bu, bb, ss, kk, we, tu, md, sp, le, sv, hX, hM, hlen, hs0, hl0⟩ := id hR
  obtain ⟨x0, x1, x2, x3, x4, x5, x6, x7, x8, x9, x10, x11, x12, x13, x14, x15, x16, x17, x18, x19, x20, x21, hP, x134, x135, x136, x137⟩ := id hX
  obtain ⟨m138, m139, m140, m141, m142, m143, m144, m145, m146, m147, m148, m149, m150, m151, m152, m153, m154⟩ := id hM
  exact pr_same (c_put0 x0) (c_mput0 m138) (Or.inl hR)
theorem q_fill0 {X : Ev} {M : Hp} (hR : Rcl M) {z0 : Int32} {z1 : Int64} : Pr X M jX6_fill jX7_fill [.int (z0), .long (z1)] := by
  obtain ⟨ra, rr, rl, t, d, r, pw, lg, cf, gp, hs, ls, on, s, pg, uf, tf, m', t', d', r', n', me, ri, lt, pv, lh, gg, bu, bb, ss, kk, we, tu, md, sp, le, sv, hX, hM, hlen, hs0, hl0⟩ := id hR
  obtain ⟨x0, x1, x2, x3, x4, x5, x6, x7, x8, x9, x10, x11, x12, x13, x14, x15, x16, x17, x18, x19, x20, x21, hP, x134, x135, x136, x137⟩ := id hX
  obtain ⟨m138, m139, m140, m141, m142, m143, m144, m145, m146, m147, m148, m149, m150, m151, m152, m153, m154⟩ := id hM
  exact pr_same (c_fill0 x0) (c_mfill0 m138) (Or.inl hR)
theorem q_get0 {X : Ev} {M : Hp} (hR : Rcl M) {z0 : Int32} : Pr X M jX6_get jX7_get [.int (z0)] := by
  obtain ⟨ra, rr, rl, t, d, r, pw, lg, cf, gp, hs, ls, on, s, pg, uf, tf, m', t', d', r', n', me, ri, lt, pv, lh, gg, bu, bb, ss, kk, we, tu, md, sp, le, sv, hX, hM, hlen, hs0, hl0⟩ := id hR
  obtain ⟨x0, x1, x2, x3, x4, x5, x6, x7, x8, x9, x10, x11, x12, x13, x14, x15, x16, x17, x18, x19, x20, x21, hP, x134, x135, x136, x137⟩ := id hX
  obtain ⟨m138, m139, m140, m141, m142, m143, m144, m145, m146, m147, m148, m149, m150, m151, m152, m153, m154⟩ := id hM
  exact pr_same (c_get0 x0) (c_mget0 m138) (Or.inl hR)
theorem q_tail0 {X : Ev} {M : Hp} (hR : Rcl M) {z0 : Int32} : Pr X M jX6_tail jX7_tail [.int (z0)] := by
  obtain ⟨ra, rr, rl, t, d, r, pw, lg, cf, gp, hs, ls, on, s, pg, uf, tf, m', t', d', r', n', me, ri, lt, pv, lh, gg, bu, bb, ss, kk, we, tu, md, sp, le, sv, hX, hM, hlen, hs0, hl0⟩ := id hR
  obtain ⟨x0, x1, x2, x3, x4, x5, x6, x7, x8, x9, x10, x11, x12, x13, x14, x15, x16, x17, x18, x19, x20, x21, hP, x134, x135, x136, x137⟩ := id hX
  obtain ⟨m138, m139, m140, m141, m142, m143, m144, m145, m146, m147, m148, m149, m150, m151, m152, m153, m154⟩ := id hM
  exact pr_same (c_tail0 x0) (c_mtail0 m138) (Or.inl hR)
theorem q_write0 {X : Ev} {M : Hp} (hR : Rcl M) {z0 : Int32} : Pr X M jX6_write jX7_write [.int (z0)] := by
  obtain ⟨ra, rr, rl, t, d, r, pw, lg, cf, gp, hs, ls, on, s, pg, uf, tf, m', t', d', r', n', me, ri, lt, pv, lh, gg, bu, bb, ss, kk, we, tu, md, sp, le, sv, hX, hM, hlen, hs0, hl0⟩ := id hR
  obtain ⟨x0, x1, x2, x3, x4, x5, x6, x7, x8, x9, x10, x11, x12, x13, x14, x15, x16, x17, x18, x19, x20, x21, hP, x134, x135, x136, x137⟩ := id hX
  obtain ⟨m138, m139, m140, m141, m142, m143, m144, m145, m146, m147, m148, m149, m150, m151, m152, m153, m154⟩ := id hM
  exact pr_same (c_write0 x0) (c_mwrite0 m138) (Or.inl hR)
theorem q_erase0 {X : Ev} {M : Hp} (hR : Rcl M) {z0 : Int32} : Pr X M jX6_erase jX7_erase [.int (z0)] := by
  obtain ⟨ra, rr, rl, t, d, r, pw, lg, cf, gp, hs, ls, on, s, pg, uf, tf, m', t', d', r', n', me, ri, lt, pv, lh, gg, bu, bb, ss, kk, we, tu, md, sp, le, sv, hX, hM, hlen, hs0, hl0⟩ := id hR
  obtain ⟨x0, x1, x2, x3, x4, x5, x6, x7, x8, x9, x10, x11, x12, x13, x14, x15, x16, x17, x18, x19, x20, x21, hP, x134, x135, x136, x137⟩ := id hX
  obtain ⟨m138, m139, m140, m141, m142, m143, m144, m145, m146, m147, m148, m149, m150, m151, m152, m153, m154⟩ := id hM
  exact pr_same (c_erase0 x0) (c_merase0 m138) (Or.inl hR)
theorem q_flip0 {X : Ev} {M : Hp} (hR : Rcl M) {z0 : Int32} {z1 : Int32} : Pr X M jX6_flip jX7_flip [.int (z0), .int (z1)] := by
  obtain ⟨ra, rr, rl, t, d, r, pw, lg, cf, gp, hs, ls, on, s, pg, uf, tf, m', t', d', r', n', me, ri, lt, pv, lh, gg, bu, bb, ss, kk, we, tu, md, sp, le, sv, hX, hM, hlen, hs0, hl0⟩ := id hR
  obtain ⟨x0, x1, x2, x3, x4, x5, x6, x7, x8, x9, x10, x11, x12, x13, x14, x15, x16, x17, x18, x19, x20, x21, hP, x134, x135, x136, x137⟩ := id hX
  obtain ⟨m138, m139, m140, m141, m142, m143, m144, m145, m146, m147, m148, m149, m150, m151, m152, m153, m154⟩ := id hM
  exact pr_same (c_flip0 x0) (c_mflip0 m138) (Or.inl hR)
theorem q_stick0 {X : Ev} {M : Hp} (hR : Rcl M) {z0 : Int32} {z1 : Int32} {z2 : Int32} : Pr X M jX6_stick jX7_stick [.int (z0), .int (z1), .int (z2)] := by
  obtain ⟨ra, rr, rl, t, d, r, pw, lg, cf, gp, hs, ls, on, s, pg, uf, tf, m', t', d', r', n', me, ri, lt, pv, lh, gg, bu, bb, ss, kk, we, tu, md, sp, le, sv, hX, hM, hlen, hs0, hl0⟩ := id hR
  obtain ⟨x0, x1, x2, x3, x4, x5, x6, x7, x8, x9, x10, x11, x12, x13, x14, x15, x16, x17, x18, x19, x20, x21, hP, x134, x135, x136, x137⟩ := id hX
  obtain ⟨m138, m139, m140, m141, m142, m143, m144, m145, m146, m147, m148, m149, m150, m151, m152, m153, m154⟩ := id hM
  exact pr_same (c_stick0 x0) (c_mstick0 m138) (Or.inl hR)
theorem q_mark0 {X : Ev} {M : Hp} (hR : Rcl M) {z0 : Int32} {z1 : Int32} {z2 : Int32} : Pr X M jX6_mark jX7_mark [.int (z0), .int (z1), .int (z2)] := by
  obtain ⟨ra, rr, rl, t, d, r, pw, lg, cf, gp, hs, ls, on, s, pg, uf, tf, m', t', d', r', n', me, ri, lt, pv, lh, gg, bu, bb, ss, kk, we, tu, md, sp, le, sv, hX, hM, hlen, hs0, hl0⟩ := id hR
  obtain ⟨x0, x1, x2, x3, x4, x5, x6, x7, x8, x9, x10, x11, x12, x13, x14, x15, x16, x17, x18, x19, x20, x21, hP, x134, x135, x136, x137⟩ := id hX
  obtain ⟨m138, m139, m140, m141, m142, m143, m144, m145, m146, m147, m148, m149, m150, m151, m152, m153, m154⟩ := id hM
  exact pr_same (c_mark0 x0) (c_mmark0 m138) (Or.inl hR)
theorem q_bit0 {X : Ev} {M : Hp} (hR : Rcl M) {z0 : Int32} {z1 : Int32} : Pr X M jX6_bit jX7_bit [.int (z0), .int (z1)] := by
  obtain ⟨ra, rr, rl, t, d, r, pw, lg, cf, gp, hs, ls, on, s, pg, uf, tf, m', t', d', r', n', me, ri, lt, pv, lh, gg, bu, bb, ss, kk, we, tu, md, sp, le, sv, hX, hM, hlen, hs0, hl0⟩ := id hR
  obtain ⟨x0, x1, x2, x3, x4, x5, x6, x7, x8, x9, x10, x11, x12, x13, x14, x15, x16, x17, x18, x19, x20, x21, hP, x134, x135, x136, x137⟩ := id hX
  obtain ⟨m138, m139, m140, m141, m142, m143, m144, m145, m146, m147, m148, m149, m150, m151, m152, m153, m154⟩ := id hM
  exact pr_same (c_bit0 x0) (c_mbit0 m138) (Or.inl hR)
theorem q_read0 {X : Ev} {M : Hp} (hR : Rcl M) {z0 : Int32} : Pr X M jX6_read jX7_read [.int (z0)] := by
  obtain ⟨ra, rr, rl, t, d, r, pw, lg, cf, gp, hs, ls, on, s, pg, uf, tf, m', t', d', r', n', me, ri, lt, pv, lh, gg, bu, bb, ss, kk, we, tu, md, sp, le, sv, hX, hM, hlen, hs0, hl0⟩ := id hR
  obtain ⟨x0, x1, x2, x3, x4, x5, x6, x7, x8, x9, x10, x11, x12, x13, x14, x15, x16, x17, x18, x19, x20, x21, hP, x134, x135, x136, x137⟩ := id hX
  obtain ⟨m138, m139, m140, m141, m142, m143, m144, m145, m146, m147, m148, m149, m150, m151, m152, m153, m154⟩ := id hM
  exact pr_same (c_read0 x0) (c_mread0 m138) (Or.inl hR)
theorem q_syndrome0 {X : Ev} {M : Hp} (hR : Rcl M) {z0 : Int32} {z1 : Int32} : Pr X M jX6_syndrome jX7_syndrome [.int (z0), .int (z1)] := by
  obtain ⟨ra, rr, rl, t, d, r, pw, lg, cf, gp, hs, ls, on, s, pg, uf, tf, m', t', d', r', n', me, ri, lt, pv, lh, gg, bu, bb, ss, kk, we, tu, md, sp, le, sv, hX, hM, hlen, hs0, hl0⟩ := id hR
  obtain ⟨x0, x1, x2, x3, x4, x5, x6, x7, x8, x9, x10, x11, x12, x13, x14, x15, x16, x17, x18, x19, x20, x21, hP, x134, x135, x136, x137⟩ := id hX
  obtain ⟨m138, m139, m140, m141, m142, m143, m144, m145, m146, m147, m148, m149, m150, m151, m152, m153, m154⟩ := id hM
  exact pr_same (c_syndrome0 x0) (c_msyndrome0 m138) (Or.inl hR)
theorem q_copy0 {X : Ev} {M : Hp} (hR : Rcl M) {z0 : Int32} {z1 : Int32} : Pr X M jX6_copy jX7_copy [.int (z0), .int (z1)] := by
  obtain ⟨ra, rr, rl, t, d, r, pw, lg, cf, gp, hs, ls, on, s, pg, uf, tf, m', t', d', r', n', me, ri, lt, pv, lh, gg, bu, bb, ss, kk, we, tu, md, sp, le, sv, hX, hM, hlen, hs0, hl0⟩ := id hR
  obtain ⟨x0, x1, x2, x3, x4, x5, x6, x7, x8, x9, x10, x11, x12, x13, x14, x15, x16, x17, x18, x19, x20, x21, hP, x134, x135, x136, x137⟩ := id hX
  obtain ⟨m138, m139, m140, m141, m142, m143, m144, m145, m146, m147, m148, m149, m150, m151, m152, m153, m154⟩ := id hM
  exact pr_same (c_copy0 x0) (c_mcopy0 m138) (Or.inl hR)
theorem q_refresh0 {X : Ev} {M : Hp} (hR : Rcl M) {z0 : Int32} : Pr X M jX6_refresh jX7_refresh [.int (z0)] := by
  obtain ⟨ra, rr, rl, t, d, r, pw, lg, cf, gp, hs, ls, on, s, pg, uf, tf, m', t', d', r', n', me, ri, lt, pv, lh, gg, bu, bb, ss, kk, we, tu, md, sp, le, sv, hX, hM, hlen, hs0, hl0⟩ := id hR
  obtain ⟨x0, x1, x2, x3, x4, x5, x6, x7, x8, x9, x10, x11, x12, x13, x14, x15, x16, x17, x18, x19, x20, x21, hP, x134, x135, x136, x137⟩ := id hX
  obtain ⟨m138, m139, m140, m141, m142, m143, m144, m145, m146, m147, m148, m149, m150, m151, m152, m153, m154⟩ := id hM
  exact pr_same (c_refresh0 x0) (c_mrefresh0 m138) (Or.inl hR)
theorem q_told0 {X : Ev} {M : Hp} (hR : Rcl M) {z0 : Int32} {z1 : Int32} : Pr X M jX6_told jX7_told [.int (z0), .int (z1)] := by
  obtain ⟨ra, rr, rl, t, d, r, pw, lg, cf, gp, hs, ls, on, s, pg, uf, tf, m', t', d', r', n', me, ri, lt, pv, lh, gg, bu, bb, ss, kk, we, tu, md, sp, le, sv, hX, hM, hlen, hs0, hl0⟩ := id hR
  obtain ⟨x0, x1, x2, x3, x4, x5, x6, x7, x8, x9, x10, x11, x12, x13, x14, x15, x16, x17, x18, x19, x20, x21, hP, x134, x135, x136, x137⟩ := id hX
  obtain ⟨m138, m139, m140, m141, m142, m143, m144, m145, m146, m147, m148, m149, m150, m151, m152, m153, m154⟩ := id hM
  exact pr_same (c_told0 x0) (c_mtold0 m138) (Or.inl hR)
theorem q_about0 {X : Ev} {M : Hp} (hR : Rcl M) {z0 : Int32} : Pr X M jX6_about jX7_about [.int (z0)] := by
  obtain ⟨ra, rr, rl, t, d, r, pw, lg, cf, gp, hs, ls, on, s, pg, uf, tf, m', t', d', r', n', me, ri, lt, pv, lh, gg, bu, bb, ss, kk, we, tu, md, sp, le, sv, hX, hM, hlen, hs0, hl0⟩ := id hR
  obtain ⟨x0, x1, x2, x3, x4, x5, x6, x7, x8, x9, x10, x11, x12, x13, x14, x15, x16, x17, x18, x19, x20, x21, hP, x134, x135, x136, x137⟩ := id hX
  obtain ⟨m138, m139, m140, m141, m142, m143, m144, m145, m146, m147, m148, m149, m150, m151, m152, m153, m154⟩ := id hM
  exact pr_same (c_about0 x0) (c_mabout0 m138) (Or.inl hR)
theorem q_turned0 {X : Ev} {M : Hp} (hR : Rcl M) {z0 : Int32} : Pr X M jX6_turned jX7_turned [.int z0] := by
  obtain ⟨ra, rr, rl, t, d, r, pw, lg, cf, gp, hs, ls, on, s, pg, uf, tf, m', t', d', r', n', me, ri, lt, pv, lh, gg, bu, bb, ss, kk, we, tu, md, sp, le, sv, hX, hM, hlen, hs0, hl0⟩ := id hR
  obtain ⟨x0, x1, x2, x3, x4, x5, x6, x7, x8, x9, x10, x11, x12, x13, x14, x15, x16, x17, x18, x19, x20, x21, hP, x134, x135, x136, x137⟩ := id hX
  obtain ⟨m138, m139, m140, m141, m142, m143, m144, m145, m146, m147, m148, m149, m150, m151, m152, m153, m154⟩ := id hM
  exact pr_same (c_turned0 x0 x5) (c_mturnedN m138 (by decide) (by unfold inl_; exact decide_eq_false (by omega))) (Or.inl hR)

theorem q_times {X : Ev} {M : Hp} (hR : Rop M) {z0 : Int32} {z1 : Int32} : Pr X M jX6_times jX7_times [.int (z0), .int (z1)] := by
  have hR0 := hR
  obtain ⟨ra, rr, rl, m, t, d, r, n, pw, lg, cf, gp, hs, ls, on, s, pg, uf, tf, tn, pv, lh, gg, bu, bb, ss, kk, we, tu, md, sp, le, sv, hX, hM, hlen, hC, hF, hF2, hgg, hon, hB, hPA, hT⟩ := hR
  obtain ⟨x0, x1, x2, x3, x4, x5, x6, x7, x8, x9, x10, x11, x12, x13, x14, x15, x16, x17, x18, x19, x20, x21, hP, x134, x135, x136, x137⟩ := id hX
  obtain ⟨m138, m139, m140, m141, m142, m143, m144, m145, m146, m147, m148, m149, m150, m151, m152, m153, m154⟩ := id hM
  obtain ⟨h3, h13, ht1, ht8, hd1, hd8, hr_, hn8, hnm, hgp, _⟩ := id hC
  obtain ⟨hr1, hr8, hn9, hn52, hm4⟩ := hC.b
  by_cases hbad : (inr_ z0 (2 ^ m - 1) && inr_ z1 (2 ^ m - 1)) = false
  · exact pr_same (c_timesB x0 x1 x2 x3 hF hbad) (c_mtimesB m138 (by omega) hbad) (Or.inr hR0)
  rw [Bool.not_eq_false] at hbad
  rw [Bool.and_eq_true] at hbad
  have ht := two_le h3 h13
  obtain ⟨a, ha', rfl⟩ := inr_ex hbad.1
  obtain ⟨b, hb', rfl⟩ := inr_ex hbad.2
  have ha : a < 2 ^ m := by omega
  have hb : b < 2 ^ m := by omega
  exact pr_of (c_times x0 x1 x2 x3 hF ha hb) (Hi.rf _) (c_mtimes m138 (by omega) (by omega) ha hb) (Lo.rf _) (by rw [prh_eq h3 h13 ha hb]) hlen (fun _ => Or.inr hR0)
theorem q_inverse {X : Ev} {M : Hp} (hR : Rop M) {z0 : Int32} : Pr X M jX6_inverse jX7_inverse [.int (z0)] := by
  have hR0 := hR
  obtain ⟨ra, rr, rl, m, t, d, r, n, pw, lg, cf, gp, hs, ls, on, s, pg, uf, tf, tn, pv, lh, gg, bu, bb, ss, kk, we, tu, md, sp, le, sv, hX, hM, hlen, hC, hF, hF2, hgg, hon, hB, hPA, hT⟩ := hR
  obtain ⟨x0, x1, x2, x3, x4, x5, x6, x7, x8, x9, x10, x11, x12, x13, x14, x15, x16, x17, x18, x19, x20, x21, hP, x134, x135, x136, x137⟩ := id hX
  obtain ⟨m138, m139, m140, m141, m142, m143, m144, m145, m146, m147, m148, m149, m150, m151, m152, m153, m154⟩ := id hM
  obtain ⟨h3, h13, ht1, ht8, hd1, hd8, hr_, hn8, hnm, hgp, _⟩ := id hC
  obtain ⟨hr1, hr8, hn9, hn52, hm4⟩ := hC.b
  by_cases hbad : (inr_ z0 (2 ^ m - 1) && decide (z0 ≠ 0)) = false
  · exact pr_same (c_inverseB x0 x1 x2 x3 hF hbad) (c_minverseB m138 (by omega) hbad) (Or.inr hR0)
  rw [Bool.not_eq_false] at hbad
  rw [Bool.and_eq_true, decide_eq_true_iff] at hbad
  have ht := two_le h3 h13
  obtain ⟨a, ha', rfl⟩ := inr_ex hbad.1
  have ha : a < 2 ^ m := by omega
  have ha0 : a ≠ 0 := fun z => hbad.2 (by rw [z]; rfl)
  exact pr_of (c_inverse x0 x1 x2 x3 hF ha0 ha) (Hi.rf _) (c_minverse m138 m139 m140 hF2 ha0 ha) (Lo.rf _) rfl hlen (fun _ => Or.inr hR0)
theorem q_log {X : Ev} {M : Hp} (hR : Rop M) {z0 : Int32} : Pr X M jX6_log jX7_log [.int (z0)] := by
  have hR0 := hR
  obtain ⟨ra, rr, rl, m, t, d, r, n, pw, lg, cf, gp, hs, ls, on, s, pg, uf, tf, tn, pv, lh, gg, bu, bb, ss, kk, we, tu, md, sp, le, sv, hX, hM, hlen, hC, hF, hF2, hgg, hon, hB, hPA, hT⟩ := hR
  obtain ⟨x0, x1, x2, x3, x4, x5, x6, x7, x8, x9, x10, x11, x12, x13, x14, x15, x16, x17, x18, x19, x20, x21, hP, x134, x135, x136, x137⟩ := id hX
  obtain ⟨m138, m139, m140, m141, m142, m143, m144, m145, m146, m147, m148, m149, m150, m151, m152, m153, m154⟩ := id hM
  obtain ⟨h3, h13, ht1, ht8, hd1, hd8, hr_, hn8, hnm, hgp, _⟩ := id hC
  obtain ⟨hr1, hr8, hn9, hn52, hm4⟩ := hC.b
  by_cases hbad : (inr_ z0 (2 ^ m - 1) && decide (z0 ≠ 0)) = false
  · exact pr_same (c_logB x0 x1 x2 x3 hF hbad) (c_mlogB m138 (by omega) hbad) (Or.inr hR0)
  rw [Bool.not_eq_false] at hbad
  rw [Bool.and_eq_true, decide_eq_true_iff] at hbad
  have ht := two_le h3 h13
  obtain ⟨a, ha', rfl⟩ := inr_ex hbad.1
  have ha : a < 2 ^ m := by omega
  have ha0 : a ≠ 0 := fun z => hbad.2 (by rw [z]; rfl)
  exact pr_of (c_log x0 x1 x2 x3 hF ha0 ha) (Hi.rf _) (c_mlog m138 m139 m140 hF2 ha0 ha) (Lo.rf _) rfl hlen (fun _ => Or.inr hR0)
theorem q_power {X : Ev} {M : Hp} (hR : Rop M) {z0 : Int32} : Pr X M jX6_power jX7_power [.int (z0)] := by
  have hR0 := hR
  obtain ⟨ra, rr, rl, m, t, d, r, n, pw, lg, cf, gp, hs, ls, on, s, pg, uf, tf, tn, pv, lh, gg, bu, bb, ss, kk, we, tu, md, sp, le, sv, hX, hM, hlen, hC, hF, hF2, hgg, hon, hB, hPA, hT⟩ := hR
  obtain ⟨x0, x1, x2, x3, x4, x5, x6, x7, x8, x9, x10, x11, x12, x13, x14, x15, x16, x17, x18, x19, x20, x21, hP, x134, x135, x136, x137⟩ := id hX
  obtain ⟨m138, m139, m140, m141, m142, m143, m144, m145, m146, m147, m148, m149, m150, m151, m152, m153, m154⟩ := id hM
  obtain ⟨h3, h13, ht1, ht8, hd1, hd8, hr_, hn8, hnm, hgp, _⟩ := id hC
  obtain ⟨hr1, hr8, hn9, hn52, hm4⟩ := hC.b
  by_cases hbad : decide (-100000 ≤ z0.toInt ∧ z0.toInt ≤ 100000) = false
  · exact pr_same (c_powerB x0 hbad) (c_mpowerB m138 hbad) (Or.inr hR0)
  rw [Bool.not_eq_false] at hbad
  rw [decide_eq_true_iff] at hbad
  obtain ⟨hz1, hz2⟩ := hbad
  exact pr_of (c_power x0 x1 x2 x3 hF hz1 hz2) (Hi.rf _) (c_mpower m138 m139 hF2 hz1 hz2) (Lo.rf _) rfl hlen (fun _ => Or.inr hR0)
theorem q_generator {X : Ev} {M : Hp} (hR : Rop M) {z0 : Int32} : Pr X M jX6_generator jX7_generator [.int (z0)] := by
  have hR0 := hR
  obtain ⟨ra, rr, rl, m, t, d, r, n, pw, lg, cf, gp, hs, ls, on, s, pg, uf, tf, tn, pv, lh, gg, bu, bb, ss, kk, we, tu, md, sp, le, sv, hX, hM, hlen, hC, hF, hF2, hgg, hon, hB, hPA, hT⟩ := hR
  obtain ⟨x0, x1, x2, x3, x4, x5, x6, x7, x8, x9, x10, x11, x12, x13, x14, x15, x16, x17, x18, x19, x20, x21, hP, x134, x135, x136, x137⟩ := id hX
  obtain ⟨m138, m139, m140, m141, m142, m143, m144, m145, m146, m147, m148, m149, m150, m151, m152, m153, m154⟩ := id hM
  obtain ⟨h3, h13, ht1, ht8, hd1, hd8, hr_, hn8, hnm, hgp, _⟩ := id hC
  obtain ⟨hr1, hr8, hn9, hn52, hm4⟩ := hC.b
  by_cases hbad : decide (0 ≤ z0.toInt) = false
  · exact pr_same (c_generatorB x0 hbad) (c_mgeneratorB m138 hbad) (Or.inr hR0)
  rw [Bool.not_eq_false] at hbad
  rw [decide_eq_true_iff] at hbad
  by_cases hz : (r : Int) < z0.toInt
  · exact pr_of (c_generatorZ x0 x5 (by omega) hz) (Hi.rf _) (c_mgeneratorZ m138 (by omega) hz) (Lo.rf _) rfl hlen (fun _ => Or.inr hR0)
  · obtain ⟨i, hi', rfl⟩ := inr_ex (show inr_ z0 r = true from decide_eq_true ⟨hbad, by omega⟩)
    have hi : i ≤ r := by omega
    exact pr_of (c_generator x0 x5 x6 (by omega) hi) (Hi.rf _) (c_mgenerator m138 m141 (by omega) hi) (Lo.rf _) (by rw [hgg i (by omega), hgp]) hlen (fun _ => Or.inr hR0)
theorem q_get {X : Ev} {M : Hp} (hR : Rop M) {z0 : Int32} : Pr X M jX6_get jX7_get [.int (z0)] := by
  have hR0 := hR
  obtain ⟨ra, rr, rl, m, t, d, r, n, pw, lg, cf, gp, hs, ls, on, s, pg, uf, tf, tn, pv, lh, gg, bu, bb, ss, kk, we, tu, md, sp, le, sv, hX, hM, hlen, hC, hF, hF2, hgg, hon, hB, hPA, hT⟩ := hR
  obtain ⟨x0, x1, x2, x3, x4, x5, x6, x7, x8, x9, x10, x11, x12, x13, x14, x15, x16, x17, x18, x19, x20, x21, hP, x134, x135, x136, x137⟩ := id hX
  obtain ⟨m138, m139, m140, m141, m142, m143, m144, m145, m146, m147, m148, m149, m150, m151, m152, m153, m154⟩ := id hM
  obtain ⟨h3, h13, ht1, ht8, hd1, hd8, hr_, hn8, hnm, hgp, _⟩ := id hC
  obtain ⟨hr1, hr8, hn9, hn52, hm4⟩ := hC.b
  by_cases hbad : inl_ z0 d = false
  · exact pr_same (c_getB x0 x5 (by omega) hbad) (c_mgetB m138 (by omega) hbad) (Or.inr hR0)
  rw [Bool.not_eq_false] at hbad
  obtain ⟨i, hi, rfl⟩ := inl_ex hbad
  exact pr_of (c_get x0 x5 x134 x135 (by omega) hi) (Hi.rf _) (c_mget m138 m142 (by omega) hi) (Lo.rf _) (by rw [hB.by_ hd8 hi]) hlen (fun _ => Or.inr hR0)
theorem q_bit {X : Ev} {M : Hp} (hR : Rop M) {z0 : Int32} {z1 : Int32} : Pr X M jX6_bit jX7_bit [.int (z0), .int (z1)] := by
  have hR0 := hR
  obtain ⟨ra, rr, rl, m, t, d, r, n, pw, lg, cf, gp, hs, ls, on, s, pg, uf, tf, tn, pv, lh, gg, bu, bb, ss, kk, we, tu, md, sp, le, sv, hX, hM, hlen, hC, hF, hF2, hgg, hon, hB, hPA, hT⟩ := hR
  obtain ⟨x0, x1, x2, x3, x4, x5, x6, x7, x8, x9, x10, x11, x12, x13, x14, x15, x16, x17, x18, x19, x20, x21, hP, x134, x135, x136, x137⟩ := id hX
  obtain ⟨m138, m139, m140, m141, m142, m143, m144, m145, m146, m147, m148, m149, m150, m151, m152, m153, m154⟩ := id hM
  obtain ⟨h3, h13, ht1, ht8, hd1, hd8, hr_, hn8, hnm, hgp, _⟩ := id hC
  obtain ⟨hr1, hr8, hn9, hn52, hm4⟩ := hC.b
  by_cases hbad : (inl_ z0 16 && inl_ z1 n) = false
  · exact pr_same (c_bitB x0 x5 (by omega) hbad) (c_mbitB m138 (by omega) hbad) (Or.inr hR0)
  rw [Bool.not_eq_false] at hbad
  rw [Bool.and_eq_true] at hbad
  obtain ⟨i, hi, rfl⟩ := inl_ex hbad.1
  obtain ⟨k, hk, rfl⟩ := inl_ex hbad.2
  obtain ⟨g, hgi⟩ : ∃ g, 22 + 7 * i = g := ⟨_, rfl⟩
  have Pg := hP i hi
  rw [hgi] at Pg
  exact pr_of (c_bit hi hgi x0 x5 x21 Pg.1 Pg.2.1 Pg.2.2.1 Pg.2.2.2.1 Pg.2.2.2.2.1 Pg.2.2.2.2.2.1 Pg.2.2.2.2.2.2 (by omega) (by omega) (by omega) hk) (Hi.rf _) (c_mbit m138 m143 (by omega) hi hk) (Lo.rf _) (by rw [((hPA i hi).2 k (by omega)).1, decide_eq_true hk, Bool.true_and]) hlen (fun _ => Or.inr hR0)
theorem cnt_not {f : Nat → Bool} : ∀ n, cnt (fun q => !(f q)) n = n - cnt f n
  | 0 => rfl
  | n + 1 => by
    have h := cnt_le f n
    have ih := cnt_not (f := f) n
    cases hf : f n with
    | true => rw [cnt_t hf, cnt_f (E := fun q => !(f q)) (by show (!(f n)) = false; rw [hf]; rfl), ih]; omega
    | false => rw [cnt_f hf, cnt_t (E := fun q => !(f q)) (by show (!(f n)) = true; rw [hf]; rfl), ih]; omega
theorem q_told {X : Ev} {M : Hp} (hR : Rop M) {z0 : Int32} {z1 : Int32} : Pr X M jX6_told jX7_told [.int (z0), .int (z1)] := by
  have hR0 := hR
  obtain ⟨ra, rr, rl, m, t, d, r, n, pw, lg, cf, gp, hs, ls, on, s, pg, uf, tf, tn, pv, lh, gg, bu, bb, ss, kk, we, tu, md, sp, le, sv, hX, hM, hlen, hC, hF, hF2, hgg, hon, hB, hPA, hT⟩ := hR
  obtain ⟨x0, x1, x2, x3, x4, x5, x6, x7, x8, x9, x10, x11, x12, x13, x14, x15, x16, x17, x18, x19, x20, x21, hP, x134, x135, x136, x137⟩ := id hX
  obtain ⟨m138, m139, m140, m141, m142, m143, m144, m145, m146, m147, m148, m149, m150, m151, m152, m153, m154⟩ := id hM
  obtain ⟨h3, h13, ht1, ht8, hd1, hd8, hr_, hn8, hnm, hgp, _⟩ := id hC
  obtain ⟨hr1, hr8, hn9, hn52, hm4⟩ := hC.b
  by_cases hbad : (inl_ z0 16 && inl_ z1 20) = false
  · exact pr_same (c_toldB x0 hbad) (c_mtoldB m138 hbad) (Or.inr hR0)
  rw [Bool.not_eq_false] at hbad
  rw [Bool.and_eq_true] at hbad
  obtain ⟨i, hi, rfl⟩ := inl_ex hbad.1
  obtain ⟨a, ha20, rfl⟩ := inl_ex hbad.2
  obtain ⟨g, hgi⟩ : ∃ g, 22 + 7 * i = g := ⟨_, rfl⟩
  have Pg := hP i hi
  rw [hgi] at Pg
  have hzi : (nI a).toInt = (a : Int) := nI_toInt (by omega)
  by_cases hz4 : 4 ≤ a
  · obtain ⟨i2, hia⟩ : ∃ i2, i2 = (i + a - 4) % 16 := ⟨_, rfl⟩
    have hi2 : i2 < 16 := by omega
    obtain ⟨q, hqi⟩ : ∃ q, 22 + 7 * i2 = q := ⟨_, rfl⟩
    have Pq := hP i2 hi2
    rw [hqi] at Pq
    exact pr_of (c_told4_ hi hgi hi2 hqi x0 x5 x21 Pg.1 Pg.2.1 Pg.2.2.1 Pg.2.2.2.1 Pg.2.2.2.2.1 Pg.2.2.2.2.2.1 Pg.2.2.2.2.2.2 Pq.1 Pq.2.1 Pq.2.2.1 Pq.2.2.2.1 Pq.2.2.2.2.1 Pq.2.2.2.2.2.1 Pq.2.2.2.2.2.2 hz4 ha20 hia) (Hi.rf _) (c_mtold4_ m138 m143 (by omega) hi hz4 ha20 hia) (Lo.rf _) (by rw [rones_n (n := n) (E := fun q => bb (2200 * i + q) ^^ bb (2200 * i2 + q)) (by omega) (fun k hk => by rw [rb_xor, ((hPA i hi).2 k hk).1, ((hPA i2 hi2).2 k hk).1]; cases decide (k < n) <;> cases bb (2200 * i + k) <;> cases bb (2200 * i2 + k) <;> rfl)]) hlen (fun _ => Or.inr hR0)
  · by_cases hz0 : a = 0
    · have hz : (nI a).toInt = 0 := by omega
      exact pr_of (c_told0_ hi hgi x0 x5 x21 Pg.1 Pg.2.1 Pg.2.2.1 Pg.2.2.2.1 Pg.2.2.2.2.1 Pg.2.2.2.2.2.1 Pg.2.2.2.2.2.2 hz) (Hi.rf _) (c_mtold0_ m138 m146 (by omega) hi hz) (Lo.rf _) (hPA i hi).1.symm hlen (fun _ => Or.inr hR0)
    · by_cases hz1 : a = 1
      · have hz : (nI a).toInt = 1 := by omega
        exact pr_of (c_told1_ hi hgi x0 x5 x21 Pg.1 Pg.2.1 Pg.2.2.1 Pg.2.2.2.1 Pg.2.2.2.2.1 Pg.2.2.2.2.2.1 Pg.2.2.2.2.2.2 hz) (Hi.rf _) (c_mtold1_ m138 m145 (by omega) hi hz) (Lo.rf _) (by rw [rones_n (n := n) (E := fun q => kk (2200 * i + q)) (by omega) (fun k hk => ((hPA i hi).2 k hk).2.2)]) hlen (fun _ => Or.inr hR0)
      · by_cases hz2 : a = 2
        · have hz : (nI a).toInt = 2 := by omega
          exact pr_of (c_told2_ hi hgi x0 x5 x21 Pg.1 Pg.2.1 Pg.2.2.1 Pg.2.2.2.1 Pg.2.2.2.2.1 Pg.2.2.2.2.2.1 Pg.2.2.2.2.2.2 hz) (Hi.rf _) (c_mtold2_ m138 m144 (by omega) hi hz) (Lo.rf _) (by rw [rones_n (n := n) (E := fun q => decide (ss (2200 * i + q) ≠ -1)) (by omega) (fun k hk => ((hPA i hi).2 k hk).2.1)]) hlen (fun _ => Or.inr hR0)
        · have hz : (nI a).toInt = 3 := by omega
          exact pr_of (c_told3_ hi hgi x0 x5 x21 Pg.1 Pg.2.1 Pg.2.2.1 Pg.2.2.2.1 Pg.2.2.2.2.1 Pg.2.2.2.2.2.1 Pg.2.2.2.2.2.2 hz) (Hi.rf _) (c_mtold3_ m138 m143 (by omega) hi hz) (Lo.rf _) (by rw [rones_n (n := n) (E := fun q => bb (2200 * i + q)) (by omega) (fun k hk => ((hPA i hi).2 k hk).1), pk_sub (cnt_le _ n)]; exact congrArg nI (cnt_not n)) hlen (fun _ => Or.inr hR0)
theorem q_about {X : Ev} {M : Hp} (hR : Rop M) {z0 : Int32} : Pr X M jX6_about jX7_about [.int (z0)] := by
  have hR0 := hR
  obtain ⟨ra, rr, rl, m, t, d, r, n, pw, lg, cf, gp, hs, ls, on, s, pg, uf, tf, tn, pv, lh, gg, bu, bb, ss, kk, we, tu, md, sp, le, sv, hX, hM, hlen, hC, hF, hF2, hgg, hon, hB, hPA, hT⟩ := hR
  obtain ⟨x0, x1, x2, x3, x4, x5, x6, x7, x8, x9, x10, x11, x12, x13, x14, x15, x16, x17, x18, x19, x20, x21, hP, x134, x135, x136, x137⟩ := id hX
  obtain ⟨m138, m139, m140, m141, m142, m143, m144, m145, m146, m147, m148, m149, m150, m151, m152, m153, m154⟩ := id hM
  obtain ⟨h3, h13, ht1, ht8, hd1, hd8, hr_, hn8, hnm, hgp, _⟩ := id hC
  obtain ⟨hr1, hr8, hn9, hn52, hm4⟩ := hC.b
  by_cases hz : z0.toInt < 0 ∨ 7 < z0.toInt
  · exact pr_of (c_about8_ x0 hz) (Hi.rf _) (c_mabout8_ m138 hz) (Lo.rf _) rfl hlen (fun _ => Or.inr hR0)
  by_cases hz0 : z0.toInt = 0
  · exact pr_of (c_about0_ x0 x1 x5 hz0) (Hi.rf _) (c_mabout0_ m138 hz0) (Lo.rf _) rfl hlen (fun _ => Or.inr hR0)
  by_cases hz1 : z0.toInt = 1
  · exact pr_of (c_about1_ x0 x1 x5 hz1) (Hi.rf _) (c_mabout1_ m138 hz1) (Lo.rf _) rfl hlen (fun _ => Or.inr hR0)
  by_cases hz2 : z0.toInt = 2
  · exact pr_of (c_about2_ x0 x1 x5 hz2) (Hi.rf _) (c_mabout2_ m138 hz2) (Lo.rf _) rfl hlen (fun _ => Or.inr hR0)
  by_cases hz3 : z0.toInt = 3
  · exact pr_of (c_about3_ x0 x1 x5 hz3) (Hi.rf _) (c_mabout3_ m138 hz3) (Lo.rf _) rfl hlen (fun _ => Or.inr hR0)
  by_cases hz4 : z0.toInt = 4
  · exact pr_of (c_about4_ x0 x1 x5 hz4) (Hi.rf _) (c_mabout4_ m138 hz4) (Lo.rf _) rfl hlen (fun _ => Or.inr hR0)
  by_cases hz5 : z0.toInt = 5
  · exact pr_of (c_about5_ x0 x1 x5 hz5) (Hi.rf _) (c_mabout5_ m138 hz5) (Lo.rf _) rfl hlen (fun _ => Or.inr hR0)
  by_cases hz6 : z0.toInt = 6
  · exact pr_of (c_about6_ x0 x1 x5 hz6) (Hi.rf _) (c_mabout6_ m138 hz6) (Lo.rf _) rfl hlen (fun _ => Or.inr hR0)
  by_cases hz7 : z0.toInt = 7
  · exact pr_of (c_about7_ x0 x1 x5 hz7) (Hi.rf _) (c_mabout7_ m138 hz7) (Lo.rf _) rfl hlen (fun _ => Or.inr hR0)
  omega
theorem q_turned {X : Ev} {M : Hp} (hR : Rop M) {z0 : Int32} : Pr X M jX6_turned jX7_turned [.int (z0)] := by
  have hR0 := hR
  obtain ⟨ra, rr, rl, m, t, d, r, n, pw, lg, cf, gp, hs, ls, on, s, pg, uf, tf, tn, pv, lh, gg, bu, bb, ss, kk, we, tu, md, sp, le, sv, hX, hM, hlen, hC, hF, hF2, hgg, hon, hB, hPA, hT⟩ := hR
  obtain ⟨x0, x1, x2, x3, x4, x5, x6, x7, x8, x9, x10, x11, x12, x13, x14, x15, x16, x17, x18, x19, x20, x21, hP, x134, x135, x136, x137⟩ := id hX
  obtain ⟨m138, m139, m140, m141, m142, m143, m144, m145, m146, m147, m148, m149, m150, m151, m152, m153, m154⟩ := id hM
  obtain ⟨h3, h13, ht1, ht8, hd1, hd8, hr_, hn8, hnm, hgp, _⟩ := id hC
  obtain ⟨hr1, hr8, hn9, hn52, hm4⟩ := hC.b
  have hcl := cnt_le (rb tf) n
  by_cases hz : inl_ z0 tn = true
  · obtain ⟨i, hi, rfl⟩ := inl_ex hz
    exact pr_of (c_turned (z := nI i) x0 x5 x136 x137 (by omega)) (Hi.rf _) (c_mturned m138 m147 (by have := hT.1; omega) hi) (Lo.rf _) (by have e := trn_ok (f := tf) (n := n) (l := i) (by omega) (by have := hT.1; omega) n 0 (by omega) (Nat.zero_le _); rw [if_pos (by have := hT.1; omega)] at e; rw [hT.2 i hi]; exact e.symm) hlen (fun _ => Or.inr hR0)
  · have hz' : inl_ z0 tn = false := Bool.eq_false_iff.mpr hz
    refine pr_of (c_turned (z := z0) x0 x5 x136 x137 (by omega)) (Hi.rf _) (c_mturnedN m138 (by have := hT.1; omega) hz') (Lo.rf _) ?_ hlen (fun _ => Or.inr hR0)
    by_cases hn0 : 0 ≤ z0.toInt
    · have h2 := Int32.toInt_lt z0
      obtain ⟨l, hl, rfl⟩ := inl_ex (show inl_ z0 (2 ^ 31) = true from decide_eq_true ⟨hn0, by omega⟩)
      have e := trn_ok (f := tf) (n := n) (l := l) (by omega) hl n 0 (by omega) (Nat.zero_le _)
      rw [if_neg (fun z => hz (by unfold inl_; rw [nI_toInt (by omega)]; exact decide_eq_true (by have := hT.1; omega)))] at e
      exact e.symm
    · exact (trn_neg (fun w hw z => hn0 (by rw [← z, nI_toInt hw]; omega)) n 0 0 (by omega)).symm
