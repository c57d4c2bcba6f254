/-! THE LAW -/
theorem Q_open {X : Ev} {M : Hp} (hR : RE M) {z0 : Int32} {z1 : Int32} {z2 : Int32} : Pr X M jX6_open jX7_open [.int (z0), .int (z1), .int (z2)] := hR.elim (fun h => q_open0 h) (fun h => q_open h)
theorem Q_times {X : Ev} {M : Hp} (hR : RE M) {z0 : Int32} {z1 : Int32} : Pr X M jX6_times jX7_times [.int (z0), .int (z1)] := hR.elim (fun h => q_times0 h) (fun h => q_times h)
theorem Q_inverse {X : Ev} {M : Hp} (hR : RE M) {z0 : Int32} : Pr X M jX6_inverse jX7_inverse [.int (z0)] := hR.elim (fun h => q_inverse0 h) (fun h => q_inverse h)
theorem Q_power {X : Ev} {M : Hp} (hR : RE M) {z0 : Int32} : Pr X M jX6_power jX7_power [.int (z0)] := hR.elim (fun h => q_power0 h) (fun h => q_power h)
theorem Q_log {X : Ev} {M : Hp} (hR : RE M) {z0 : Int32} : Pr X M jX6_log jX7_log [.int (z0)] := hR.elim (fun h => q_log0 h) (fun h => q_log h)
theorem Q_minimal {X : Ev} {M : Hp} (hR : RE M) {z0 : Int32} : Pr X M jX6_minimal jX7_minimal [.int (z0)] := hR.elim (fun h => q_minimal0 h) (fun h => q_minimal h)
theorem Q_generator {X : Ev} {M : Hp} (hR : RE M) {z0 : Int32} : Pr X M jX6_generator jX7_generator [.int (z0)] := hR.elim (fun h => q_generator0 h) (fun h => q_generator h)
theorem Q_put {X : Ev} {M : Hp} (hR : RE M) {z0 : Int32} {z1 : Int32} : Pr X M jX6_put jX7_put [.int (z0), .int (z1)] := hR.elim (fun h => q_put0 h) (fun h => q_put h)
theorem Q_fill {X : Ev} {M : Hp} (hR : RE M) {z0 : Int32} {z1 : Int64} : Pr X M jX6_fill jX7_fill [.int (z0), .long (z1)] := hR.elim (fun h => q_fill0 h) (fun h => q_fill h)
theorem Q_get {X : Ev} {M : Hp} (hR : RE M) {z0 : Int32} : Pr X M jX6_get jX7_get [.int (z0)] := hR.elim (fun h => q_get0 h) (fun h => q_get h)
theorem Q_tail {X : Ev} {M : Hp} (hR : RE M) {z0 : Int32} : Pr X M jX6_tail jX7_tail [.int (z0)] := hR.elim (fun h => q_tail0 h) (fun h => q_tail h)
theorem Q_write {X : Ev} {M : Hp} (hR : RE M) {z0 : Int32} : Pr X M jX6_write jX7_write [.int (z0)] := hR.elim (fun h => q_write0 h) (fun h => q_write h)
theorem Q_erase {X : Ev} {M : Hp} (hR : RE M) {z0 : Int32} : Pr X M jX6_erase jX7_erase [.int (z0)] := hR.elim (fun h => q_erase0 h) (fun h => q_erase h)
theorem Q_flip {X : Ev} {M : Hp} (hR : RE M) {z0 : Int32} {z1 : Int32} : Pr X M jX6_flip jX7_flip [.int (z0), .int (z1)] := hR.elim (fun h => q_flip0 h) (fun h => q_flip h)
theorem Q_stick {X : Ev} {M : Hp} (hR : RE M) {z0 : Int32} {z1 : Int32} {z2 : Int32} : Pr X M jX6_stick jX7_stick [.int (z0), .int (z1), .int (z2)] := hR.elim (fun h => q_stick0 h) (fun h => q_stick h)
theorem Q_mark {X : Ev} {M : Hp} (hR : RE M) {z0 : Int32} {z1 : Int32} {z2 : Int32} (hz2 : z2 = 0 ∨ z2 = 1) : Pr X M jX6_mark jX7_mark [.int (z0), .int (z1), .int (z2)] := hR.elim (fun h => q_mark0 h) (fun h => q_mark h hz2)
theorem Q_bit {X : Ev} {M : Hp} (hR : RE M) {z0 : Int32} {z1 : Int32} : Pr X M jX6_bit jX7_bit [.int (z0), .int (z1)] := hR.elim (fun h => q_bit0 h) (fun h => q_bit h)
theorem Q_read {X : Ev} {M : Hp} (hR : RE M) {z0 : Int32} : Pr X M jX6_read jX7_read [.int (z0)] := hR.elim (fun h => q_read0 h) (fun h => q_read h)
theorem Q_turned {X : Ev} {M : Hp} (hR : RE M) {z0 : Int32} : Pr X M jX6_turned jX7_turned [.int (z0)] := hR.elim (fun h => q_turned0 h) (fun h => q_turned h)
theorem Q_syndrome {X : Ev} {M : Hp} (hR : RE M) {z0 : Int32} {z1 : Int32} : Pr X M jX6_syndrome jX7_syndrome [.int (z0), .int (z1)] := hR.elim (fun h => q_syndrome0 h) (fun h => q_syndrome h)
theorem Q_copy {X : Ev} {M : Hp} (hR : RE M) {z0 : Int32} {z1 : Int32} : Pr X M jX6_copy jX7_copy [.int (z0), .int (z1)] := hR.elim (fun h => q_copy0 h) (fun h => q_copy h)
theorem Q_refresh {X : Ev} {M : Hp} (hR : RE M) {z0 : Int32} : Pr X M jX6_refresh jX7_refresh [.int (z0)] := hR.elim (fun h => q_refresh0 h) (fun h => q_refresh h)
theorem Q_told {X : Ev} {M : Hp} (hR : RE M) {z0 : Int32} {z1 : Int32} : Pr X M jX6_told jX7_told [.int (z0), .int (z1)] := hR.elim (fun h => q_told0 h) (fun h => q_told h)
theorem Q_about {X : Ev} {M : Hp} (hR : RE M) {z0 : Int32} : Pr X M jX6_about jX7_about [.int (z0)] := hR.elim (fun h => q_about0 h) (fun h => q_about h)
theorem RE.o0 {M : Hp} (h : RE M) : (∃ fs, M[0]? = some (.inr (5, fs))) ∧ ∃ fs, M[138]? = some (.inr (6, fs)) := by
  rcases h with hR | hR
  · obtain ⟨ra, rr, rl, t, d, r, pw, lg, cf, gp, hs, ls, on, s, pg, uf, tf, m', t', d', r', n', me, ri, lt, pv, lh, gg, bu, bb, ss, kk, we, tu, md, sp, le, sv, hX, hM, hlen, hs0, hl0⟩ := hR
    obtain ⟨x0, x1, x2, x3, x4, x5, x6, x7, x8, x9, x10, x11, x12, x13, x14, x15, x16, x17, x18, x19, x20, x21, hP, x134, x135, x136, x137⟩ := id hX
    obtain ⟨m138, m139, m140, m141, m142, m143, m144, m145, m146, m147, m148, m149, m150, m151, m152, m153, m154⟩ := id hM
    exact ⟨⟨_, x0⟩, ⟨_, m138⟩⟩
  · obtain ⟨ra, rr, rl, m, t, d, r, n, pw, lg, cf, gp, hs, ls, on, s, pg, uf, tf, tn, pv, lh, gg, bu, bb, ss, kk, we, tu, md, sp, le, sv, hX, hM, hlen, hC, hF, hF2, hgg, hon, hB, hPA, hT⟩ := hR
    obtain ⟨x0, x1, x2, x3, x4, x5, x6, x7, x8, x9, x10, x11, x12, x13, x14, x15, x16, x17, x18, x19, x20, x21, hP, x134, x135, x136, x137⟩ := id hX
    obtain ⟨m138, m139, m140, m141, m142, m143, m144, m145, m146, m147, m148, m149, m150, m151, m152, m153, m154⟩ := id hM
    exact ⟨⟨_, x0⟩, ⟨_, m138⟩⟩
theorem and31 (x : Int32) : ∃ c, c < 32 ∧ x &&& nI 31 = nI c := by
  refine ⟨x.toBitVec.toNat % 32, Nat.mod_lt _ (by decide), ?_⟩
  have e : x = nI x.toBitVec.toNat := by
    apply Int32.toBitVec_inj.mp
    apply BitVec.eq_of_toNat_eq
    show _ = (BitVec.ofNat 32 x.toBitVec.toNat).toNat
    rw [BitVec.toNat_ofNat, Nat.mod_eq_of_lt x.toBitVec.isLt]
  conv => lhs; rw [e]
  exact pk_andN x.toBitVec.isLt 5 (by decide +kernel)
theorem lw_c {i L : Nat} (hL : L ≤ 2048) (hi : i ≤ 2 ^ 20) : (nI L - nI 4 < nI i) ↔ L < i + 4 := by
  rw [Int32.lt_iff_toInt_lt, Int32.toInt_sub, nI_toInt (by omega), nI_toInt (by decide), nI_toInt (by omega), Int.bmod_eq_of_le (by omega) (by omega)]
  omega
theorem lp_law {X : Ev} (hL : ev_L X ≤ 2048) : ∀ (zz i : Nat) (M : Hp), ev_L X ≤ i + zz → i ≤ 2 ^ 18 + 4 * (2048 - zz) → zz ≤ 2048 → RE M → ∃ M', G X 10 jL_law [] 18 [some (.retAddr 0), some (.ref (0)), some (.ref (138)), some (.int (nI i))] [] M (some (.int 1)) M' ∧ RE M' := by
  have hL31 : ev_L X < 2 ^ 31 := by omega
  have hend : ∀ (i : Nat) (M : Hp), ev_L X < i + 4 → i ≤ 2 ^ 20 → RE M → ∃ M', G X 10 jL_law [] 18 [some (.retAddr 0), some (.ref (0)), some (.ref (138)), some (.int (nI i))] [] M (some (.int 1)) M' ∧ RE M' := fun i M h1 h2 hR => by
    refine ⟨M, ?_, hR⟩
    refine x_iload_n dL_law_18 rfl rfl ?_
    refine x_aload_s dL_law_19 rfl rfl ?_
    refine x_slen dL_law_20 ?_
    refine x_iconst (y := nI 4) dL_law_21 rfl ?_
    refine x_isub dL_law_22 ?_
    refine x_icmp_gt (tgt := 888) dL_law_23 (by decide) (fun _ => ?_) (fun h => False.elim (h ((lw_c hL h2).mpr h1)))
    refine x_iconst (y := nI 1) dL_law_888 rfl ?_
    exact x_zreturn_eq (b := true) dL_law_889 rfl rfl
  intro zz
  induction zz with
  | zero => intro i M h1 h2 h3 hR; exact hend i M (by omega) (by omega) hR
  | succ zz ih =>
    intro i M h1 h2 h3 hR
    by_cases hi4 : ev_L X < i + 4
    · exact hend i M hi4 (by omega) hR
    · obtain ⟨c, hc32, hc⟩ := and31 (ev_x X i)
      obtain ⟨⟨fs0, hO0⟩, ⟨fs1, hO1⟩⟩ := hR.o0
      by_cases e0 : c = 0
      · subst e0
        obtain ⟨v, M1, M2, h1, h2, hR2, h138⟩ := Q_open (X := X) hR (z0 := ev_x X (i + 1)) (z1 := ev_x X (i + 2)) (z2 := ev_x X (i + 3))
        have hO1_ := h138.trans hO1
        obtain ⟨M', hk, hRE⟩ := ih (i + 4) M2 (by omega) (by omega) (by omega) hR2
        refine ⟨M', ?_, hRE⟩
        refine x_iload_n dL_law_18 rfl rfl ?_
        refine x_aload_s dL_law_19 rfl rfl ?_
        refine x_slen dL_law_20 ?_
        refine x_iconst (y := nI 4) dL_law_21 rfl ?_
        refine x_isub dL_law_22 ?_
        refine x_icmp_gt (tgt := 888) dL_law_23 (by decide) (fun h => False.elim (absurd ((lw_c hL (by omega)).mp h) (by omega))) (fun _ => ?_)
        refine x_aload_s dL_law_26 rfl rfl ?_
        refine x_iload_n dL_law_27 rfl rfl ?_
        refine x_sald (j := i) dL_law_28 rfl (by omega) hL31 ?_
        refine x_bipush (y := nI 31) dL_law_29 rfl ?_
        refine x_iand dL_law_31 ?_
        refine x_casti (y := nI 0) hc ?_
        refine x_tabIn (off := 112) (tgt := 144) dL_law_32 (by decide) (by decide) (by decide) (by decide) ?_
        refine x_aload_n dL_law_144 rfl rfl ?_
        refine x_aload_s dL_law_145 rfl rfl ?_
        refine x_iload_n dL_law_146 rfl rfl ?_
        refine x_iconst (y := nI 1) dL_law_147 rfl ?_
        refine x_iadd dL_law_148 ?_
        refine x_casti (y := nI (i + 1)) (nI_add _ _) ?_
        refine x_sald (j := i + 1) dL_law_149 rfl (by omega) hL31 ?_
        refine x_aload_s dL_law_150 rfl rfl ?_
        refine x_iload_n dL_law_151 rfl rfl ?_
        refine x_iconst (y := nI 2) dL_law_152 rfl ?_
        refine x_iadd dL_law_153 ?_
        refine x_casti (y := nI (i + 2)) (nI_add _ _) ?_
        refine x_sald (j := i + 2) dL_law_154 rfl (by omega) hL31 ?_
        refine x_aload_s dL_law_155 rfl rfl ?_
        refine x_iload_n dL_law_156 rfl rfl ?_
        refine x_iconst (y := nI 3) dL_law_157 rfl ?_
        refine x_iadd dL_law_158 ?_
        refine x_casti (y := nI (i + 3)) (nI_add _ _) ?_
        refine x_sald (j := i + 3) dL_law_159 rfl (by omega) hL31 ?_
        refine x_callV (ci := 5) (as := [.int (ev_x X (i + 1)), .int (ev_x X (i + 2)), .int (ev_x X (i + 3))]) dL_law_160 mk_X6_open in_X6_open se_X6_open ml_RL_13 rfl hO0 (by decide) rfl rfl (Nat.le_of_ble_eq_true rfl) h1 ?_
        refine x_aload_n dL_law_163 rfl rfl ?_
        refine x_aload_s dL_law_164 rfl rfl ?_
        refine x_iload_n dL_law_165 rfl rfl ?_
        refine x_iconst (y := nI 1) dL_law_166 rfl ?_
        refine x_iadd dL_law_167 ?_
        refine x_casti (y := nI (i + 1)) (nI_add _ _) ?_
        refine x_sald (j := i + 1) dL_law_168 rfl (by omega) hL31 ?_
        refine x_aload_s dL_law_169 rfl rfl ?_
        refine x_iload_n dL_law_170 rfl rfl ?_
        refine x_iconst (y := nI 2) dL_law_171 rfl ?_
        refine x_iadd dL_law_172 ?_
        refine x_casti (y := nI (i + 2)) (nI_add _ _) ?_
        refine x_sald (j := i + 2) dL_law_173 rfl (by omega) hL31 ?_
        refine x_aload_s dL_law_174 rfl rfl ?_
        refine x_iload_n dL_law_175 rfl rfl ?_
        refine x_iconst (y := nI 3) dL_law_176 rfl ?_
        refine x_iadd dL_law_177 ?_
        refine x_casti (y := nI (i + 3)) (nI_add _ _) ?_
        refine x_sald (j := i + 3) dL_law_178 rfl (by omega) hL31 ?_
        refine x_callV (ci := 6) (as := [.int (ev_x X (i + 1)), .int (ev_x X (i + 2)), .int (ev_x X (i + 3))]) dL_law_179 mk_X7_open in_X7_open se_X7_open ml_RL_17 rfl hO1_ (by decide) rfl rfl (Nat.le_of_ble_eq_true rfl) h2 ?_
        refine x_icmp_eq (tgt := 882) dL_law_182 (by decide) (fun _ => ?_) (fun h => False.elim (h rfl))
        refine x_iinc (y := nI (i + 4)) (ls' := [some (.retAddr 0), some (.ref (0)), some (.ref (138)), some (.int (nI (i + 4)))]) dL_law_882 (by decide) rfl rfl (ii_add _ 4) rfl ?_
        refine x_goto (tgt := 18) dL_law_885 (by decide) ?_
        exact hk
      by_cases e1 : c = 1
      · subst e1
        obtain ⟨v, M1, M2, h1, h2, hR2, h138⟩ := Q_times (X := X) hR (z0 := ev_x X (i + 1)) (z1 := ev_x X (i + 2))
        have hO1_ := h138.trans hO1
        obtain ⟨M', hk, hRE⟩ := ih (i + 4) M2 (by omega) (by omega) (by omega) hR2
        refine ⟨M', ?_, hRE⟩
        refine x_iload_n dL_law_18 rfl rfl ?_
        refine x_aload_s dL_law_19 rfl rfl ?_
        refine x_slen dL_law_20 ?_
        refine x_iconst (y := nI 4) dL_law_21 rfl ?_
        refine x_isub dL_law_22 ?_
        refine x_icmp_gt (tgt := 888) dL_law_23 (by decide) (fun h => False.elim (absurd ((lw_c hL (by omega)).mp h) (by omega))) (fun _ => ?_)
        refine x_aload_s dL_law_26 rfl rfl ?_
        refine x_iload_n dL_law_27 rfl rfl ?_
        refine x_sald (j := i) dL_law_28 rfl (by omega) hL31 ?_
        refine x_bipush (y := nI 31) dL_law_29 rfl ?_
        refine x_iand dL_law_31 ?_
        refine x_casti (y := nI 1) hc ?_
        refine x_tabIn (off := 155) (tgt := 187) dL_law_32 (by decide) (by decide) (by decide) (by decide) ?_
        refine x_aload_n dL_law_187 rfl rfl ?_
        refine x_aload_s dL_law_188 rfl rfl ?_
        refine x_iload_n dL_law_189 rfl rfl ?_
        refine x_iconst (y := nI 1) dL_law_190 rfl ?_
        refine x_iadd dL_law_191 ?_
        refine x_casti (y := nI (i + 1)) (nI_add _ _) ?_
        refine x_sald (j := i + 1) dL_law_192 rfl (by omega) hL31 ?_
        refine x_aload_s dL_law_193 rfl rfl ?_
        refine x_iload_n dL_law_194 rfl rfl ?_
        refine x_iconst (y := nI 2) dL_law_195 rfl ?_
        refine x_iadd dL_law_196 ?_
        refine x_casti (y := nI (i + 2)) (nI_add _ _) ?_
        refine x_sald (j := i + 2) dL_law_197 rfl (by omega) hL31 ?_
        refine x_callV (ci := 5) (as := [.int (ev_x X (i + 1)), .int (ev_x X (i + 2))]) dL_law_198 mk_X6_times in_X6_times se_X6_times ml_RL_18 rfl hO0 (by decide) rfl rfl (Nat.le_of_ble_eq_true rfl) h1 ?_
        refine x_aload_n dL_law_201 rfl rfl ?_
        refine x_aload_s dL_law_202 rfl rfl ?_
        refine x_iload_n dL_law_203 rfl rfl ?_
        refine x_iconst (y := nI 1) dL_law_204 rfl ?_
        refine x_iadd dL_law_205 ?_
        refine x_casti (y := nI (i + 1)) (nI_add _ _) ?_
        refine x_sald (j := i + 1) dL_law_206 rfl (by omega) hL31 ?_
        refine x_aload_s dL_law_207 rfl rfl ?_
        refine x_iload_n dL_law_208 rfl rfl ?_
        refine x_iconst (y := nI 2) dL_law_209 rfl ?_
        refine x_iadd dL_law_210 ?_
        refine x_casti (y := nI (i + 2)) (nI_add _ _) ?_
        refine x_sald (j := i + 2) dL_law_211 rfl (by omega) hL31 ?_
        refine x_callV (ci := 6) (as := [.int (ev_x X (i + 1)), .int (ev_x X (i + 2))]) dL_law_212 mk_X7_times in_X7_times se_X7_times ml_RL_22 rfl hO1_ (by decide) rfl rfl (Nat.le_of_ble_eq_true rfl) h2 ?_
        refine x_icmp_eq (tgt := 882) dL_law_215 (by decide) (fun _ => ?_) (fun h => False.elim (h rfl))
        refine x_iinc (y := nI (i + 4)) (ls' := [some (.retAddr 0), some (.ref (0)), some (.ref (138)), some (.int (nI (i + 4)))]) dL_law_882 (by decide) rfl rfl (ii_add _ 4) rfl ?_
        refine x_goto (tgt := 18) dL_law_885 (by decide) ?_
        exact hk
      by_cases e2 : c = 2
      · subst e2
        obtain ⟨v, M1, M2, h1, h2, hR2, h138⟩ := Q_inverse (X := X) hR (z0 := ev_x X (i + 1))
        have hO1_ := h138.trans hO1
        obtain ⟨M', hk, hRE⟩ := ih (i + 4) M2 (by omega) (by omega) (by omega) hR2
        refine ⟨M', ?_, hRE⟩
        refine x_iload_n dL_law_18 rfl rfl ?_
        refine x_aload_s dL_law_19 rfl rfl ?_
        refine x_slen dL_law_20 ?_
        refine x_iconst (y := nI 4) dL_law_21 rfl ?_
        refine x_isub dL_law_22 ?_
        refine x_icmp_gt (tgt := 888) dL_law_23 (by decide) (fun h => False.elim (absurd ((lw_c hL (by omega)).mp h) (by omega))) (fun _ => ?_)
        refine x_aload_s dL_law_26 rfl rfl ?_
        refine x_iload_n dL_law_27 rfl rfl ?_
        refine x_sald (j := i) dL_law_28 rfl (by omega) hL31 ?_
        refine x_bipush (y := nI 31) dL_law_29 rfl ?_
        refine x_iand dL_law_31 ?_
        refine x_casti (y := nI 2) hc ?_
        refine x_tabIn (off := 188) (tgt := 220) dL_law_32 (by decide) (by decide) (by decide) (by decide) ?_
        refine x_aload_n dL_law_220 rfl rfl ?_
        refine x_aload_s dL_law_221 rfl rfl ?_
        refine x_iload_n dL_law_222 rfl rfl ?_
        refine x_iconst (y := nI 1) dL_law_223 rfl ?_
        refine x_iadd dL_law_224 ?_
        refine x_casti (y := nI (i + 1)) (nI_add _ _) ?_
        refine x_sald (j := i + 1) dL_law_225 rfl (by omega) hL31 ?_
        refine x_callV (ci := 5) (as := [.int (ev_x X (i + 1))]) dL_law_226 mk_X6_inverse in_X6_inverse se_X6_inverse ml_RL_23 rfl hO0 (by decide) rfl rfl (Nat.le_of_ble_eq_true rfl) h1 ?_
        refine x_aload_n dL_law_229 rfl rfl ?_
        refine x_aload_s dL_law_230 rfl rfl ?_
        refine x_iload_n dL_law_231 rfl rfl ?_
        refine x_iconst (y := nI 1) dL_law_232 rfl ?_
        refine x_iadd dL_law_233 ?_
        refine x_casti (y := nI (i + 1)) (nI_add _ _) ?_
        refine x_sald (j := i + 1) dL_law_234 rfl (by omega) hL31 ?_
        refine x_callV (ci := 6) (as := [.int (ev_x X (i + 1))]) dL_law_235 mk_X7_inverse in_X7_inverse se_X7_inverse ml_RL_27 rfl hO1_ (by decide) rfl rfl (Nat.le_of_ble_eq_true rfl) h2 ?_
        refine x_icmp_eq (tgt := 882) dL_law_238 (by decide) (fun _ => ?_) (fun h => False.elim (h rfl))
        refine x_iinc (y := nI (i + 4)) (ls' := [some (.retAddr 0), some (.ref (0)), some (.ref (138)), some (.int (nI (i + 4)))]) dL_law_882 (by decide) rfl rfl (ii_add _ 4) rfl ?_
        refine x_goto (tgt := 18) dL_law_885 (by decide) ?_
        exact hk
      by_cases e3 : c = 3
      · subst e3
        obtain ⟨v, M1, M2, h1, h2, hR2, h138⟩ := Q_power (X := X) hR (z0 := ev_x X (i + 1))
        have hO1_ := h138.trans hO1
        obtain ⟨M', hk, hRE⟩ := ih (i + 4) M2 (by omega) (by omega) (by omega) hR2
        refine ⟨M', ?_, hRE⟩
        refine x_iload_n dL_law_18 rfl rfl ?_
        refine x_aload_s dL_law_19 rfl rfl ?_
        refine x_slen dL_law_20 ?_
        refine x_iconst (y := nI 4) dL_law_21 rfl ?_
        refine x_isub dL_law_22 ?_
        refine x_icmp_gt (tgt := 888) dL_law_23 (by decide) (fun h => False.elim (absurd ((lw_c hL (by omega)).mp h) (by omega))) (fun _ => ?_)
        refine x_aload_s dL_law_26 rfl rfl ?_
        refine x_iload_n dL_law_27 rfl rfl ?_
        refine x_sald (j := i) dL_law_28 rfl (by omega) hL31 ?_
        refine x_bipush (y := nI 31) dL_law_29 rfl ?_
        refine x_iand dL_law_31 ?_
        refine x_casti (y := nI 3) hc ?_
        refine x_tabIn (off := 211) (tgt := 243) dL_law_32 (by decide) (by decide) (by decide) (by decide) ?_
        refine x_aload_n dL_law_243 rfl rfl ?_
        refine x_aload_s dL_law_244 rfl rfl ?_
        refine x_iload_n dL_law_245 rfl rfl ?_
        refine x_iconst (y := nI 1) dL_law_246 rfl ?_
        refine x_iadd dL_law_247 ?_
        refine x_casti (y := nI (i + 1)) (nI_add _ _) ?_
        refine x_sald (j := i + 1) dL_law_248 rfl (by omega) hL31 ?_
        refine x_callV (ci := 5) (as := [.int (ev_x X (i + 1))]) dL_law_249 mk_X6_power in_X6_power se_X6_power ml_RL_28 rfl hO0 (by decide) rfl rfl (Nat.le_of_ble_eq_true rfl) h1 ?_
        refine x_aload_n dL_law_252 rfl rfl ?_
        refine x_aload_s dL_law_253 rfl rfl ?_
        refine x_iload_n dL_law_254 rfl rfl ?_
        refine x_iconst (y := nI 1) dL_law_255 rfl ?_
        refine x_iadd dL_law_256 ?_
        refine x_casti (y := nI (i + 1)) (nI_add _ _) ?_
        refine x_sald (j := i + 1) dL_law_257 rfl (by omega) hL31 ?_
        refine x_callV (ci := 6) (as := [.int (ev_x X (i + 1))]) dL_law_258 mk_X7_power in_X7_power se_X7_power ml_RL_31 rfl hO1_ (by decide) rfl rfl (Nat.le_of_ble_eq_true rfl) h2 ?_
        refine x_icmp_eq (tgt := 882) dL_law_261 (by decide) (fun _ => ?_) (fun h => False.elim (h rfl))
        refine x_iinc (y := nI (i + 4)) (ls' := [some (.retAddr 0), some (.ref (0)), some (.ref (138)), some (.int (nI (i + 4)))]) dL_law_882 (by decide) rfl rfl (ii_add _ 4) rfl ?_
        refine x_goto (tgt := 18) dL_law_885 (by decide) ?_
        exact hk
      by_cases e4 : c = 4
      · subst e4
        obtain ⟨v, M1, M2, h1, h2, hR2, h138⟩ := Q_log (X := X) hR (z0 := ev_x X (i + 1))
        have hO1_ := h138.trans hO1
        obtain ⟨M', hk, hRE⟩ := ih (i + 4) M2 (by omega) (by omega) (by omega) hR2
        refine ⟨M', ?_, hRE⟩
        refine x_iload_n dL_law_18 rfl rfl ?_
        refine x_aload_s dL_law_19 rfl rfl ?_
        refine x_slen dL_law_20 ?_
        refine x_iconst (y := nI 4) dL_law_21 rfl ?_
        refine x_isub dL_law_22 ?_
        refine x_icmp_gt (tgt := 888) dL_law_23 (by decide) (fun h => False.elim (absurd ((lw_c hL (by omega)).mp h) (by omega))) (fun _ => ?_)
        refine x_aload_s dL_law_26 rfl rfl ?_
        refine x_iload_n dL_law_27 rfl rfl ?_
        refine x_sald (j := i) dL_law_28 rfl (by omega) hL31 ?_
        refine x_bipush (y := nI 31) dL_law_29 rfl ?_
        refine x_iand dL_law_31 ?_
        refine x_casti (y := nI 4) hc ?_
        refine x_tabIn (off := 234) (tgt := 266) dL_law_32 (by decide) (by decide) (by decide) (by decide) ?_
        refine x_aload_n dL_law_266 rfl rfl ?_
        refine x_aload_s dL_law_267 rfl rfl ?_
        refine x_iload_n dL_law_268 rfl rfl ?_
        refine x_iconst (y := nI 1) dL_law_269 rfl ?_
        refine x_iadd dL_law_270 ?_
        refine x_casti (y := nI (i + 1)) (nI_add _ _) ?_
        refine x_sald (j := i + 1) dL_law_271 rfl (by omega) hL31 ?_
        refine x_callV (ci := 5) (as := [.int (ev_x X (i + 1))]) dL_law_272 mk_X6_log in_X6_log se_X6_log ml_RL_32 rfl hO0 (by decide) rfl rfl (Nat.le_of_ble_eq_true rfl) h1 ?_
        refine x_aload_n dL_law_275 rfl rfl ?_
        refine x_aload_s dL_law_276 rfl rfl ?_
        refine x_iload_n dL_law_277 rfl rfl ?_
        refine x_iconst (y := nI 1) dL_law_278 rfl ?_
        refine x_iadd dL_law_279 ?_
        refine x_casti (y := nI (i + 1)) (nI_add _ _) ?_
        refine x_sald (j := i + 1) dL_law_280 rfl (by omega) hL31 ?_
        refine x_callV (ci := 6) (as := [.int (ev_x X (i + 1))]) dL_law_281 mk_X7_log in_X7_log se_X7_log ml_RL_35 rfl hO1_ (by decide) rfl rfl (Nat.le_of_ble_eq_true rfl) h2 ?_
        refine x_icmp_eq (tgt := 882) dL_law_284 (by decide) (fun _ => ?_) (fun h => False.elim (h rfl))
        refine x_iinc (y := nI (i + 4)) (ls' := [some (.retAddr 0), some (.ref (0)), some (.ref (138)), some (.int (nI (i + 4)))]) dL_law_882 (by decide) rfl rfl (ii_add _ 4) rfl ?_
        refine x_goto (tgt := 18) dL_law_885 (by decide) ?_
        exact hk
      by_cases e5 : c = 5
      · subst e5
        obtain ⟨v, M1, M2, h1, h2, hR2, h138⟩ := Q_minimal (X := X) hR (z0 := ev_x X (i + 1))
        have hO1_ := h138.trans hO1
        obtain ⟨M', hk, hRE⟩ := ih (i + 4) M2 (by omega) (by omega) (by omega) hR2
        refine ⟨M', ?_, hRE⟩
        refine x_iload_n dL_law_18 rfl rfl ?_
        refine x_aload_s dL_law_19 rfl rfl ?_
        refine x_slen dL_law_20 ?_
        refine x_iconst (y := nI 4) dL_law_21 rfl ?_
        refine x_isub dL_law_22 ?_
        refine x_icmp_gt (tgt := 888) dL_law_23 (by decide) (fun h => False.elim (absurd ((lw_c hL (by omega)).mp h) (by omega))) (fun _ => ?_)
        refine x_aload_s dL_law_26 rfl rfl ?_
        refine x_iload_n dL_law_27 rfl rfl ?_
        refine x_sald (j := i) dL_law_28 rfl (by omega) hL31 ?_
        refine x_bipush (y := nI 31) dL_law_29 rfl ?_
        refine x_iand dL_law_31 ?_
        refine x_casti (y := nI 5) hc ?_
        refine x_tabIn (off := 257) (tgt := 289) dL_law_32 (by decide) (by decide) (by decide) (by decide) ?_
        refine x_aload_n dL_law_289 rfl rfl ?_
        refine x_aload_s dL_law_290 rfl rfl ?_
        refine x_iload_n dL_law_291 rfl rfl ?_
        refine x_iconst (y := nI 1) dL_law_292 rfl ?_
        refine x_iadd dL_law_293 ?_
        refine x_casti (y := nI (i + 1)) (nI_add _ _) ?_
        refine x_sald (j := i + 1) dL_law_294 rfl (by omega) hL31 ?_
        refine x_callV (ci := 5) (as := [.int (ev_x X (i + 1))]) dL_law_295 mk_X6_minimal in_X6_minimal se_X6_minimal ml_RL_36 rfl hO0 (by decide) rfl rfl (Nat.le_of_ble_eq_true rfl) h1 ?_
        refine x_aload_n dL_law_298 rfl rfl ?_
        refine x_aload_s dL_law_299 rfl rfl ?_
        refine x_iload_n dL_law_300 rfl rfl ?_
        refine x_iconst (y := nI 1) dL_law_301 rfl ?_
        refine x_iadd dL_law_302 ?_
        refine x_casti (y := nI (i + 1)) (nI_add _ _) ?_
        refine x_sald (j := i + 1) dL_law_303 rfl (by omega) hL31 ?_
        refine x_callV (ci := 6) (as := [.int (ev_x X (i + 1))]) dL_law_304 mk_X7_minimal in_X7_minimal se_X7_minimal ml_RL_39 rfl hO1_ (by decide) rfl rfl (Nat.le_of_ble_eq_true rfl) h2 ?_
        refine x_icmp_eq (tgt := 882) dL_law_307 (by decide) (fun _ => ?_) (fun h => False.elim (h rfl))
        refine x_iinc (y := nI (i + 4)) (ls' := [some (.retAddr 0), some (.ref (0)), some (.ref (138)), some (.int (nI (i + 4)))]) dL_law_882 (by decide) rfl rfl (ii_add _ 4) rfl ?_
        refine x_goto (tgt := 18) dL_law_885 (by decide) ?_
        exact hk
      by_cases e6 : c = 6
      · subst e6
        obtain ⟨v, M1, M2, h1, h2, hR2, h138⟩ := Q_generator (X := X) hR (z0 := ev_x X (i + 1))
        have hO1_ := h138.trans hO1
        obtain ⟨M', hk, hRE⟩ := ih (i + 4) M2 (by omega) (by omega) (by omega) hR2
        refine ⟨M', ?_, hRE⟩
        refine x_iload_n dL_law_18 rfl rfl ?_
        refine x_aload_s dL_law_19 rfl rfl ?_
        refine x_slen dL_law_20 ?_
        refine x_iconst (y := nI 4) dL_law_21 rfl ?_
        refine x_isub dL_law_22 ?_
        refine x_icmp_gt (tgt := 888) dL_law_23 (by decide) (fun h => False.elim (absurd ((lw_c hL (by omega)).mp h) (by omega))) (fun _ => ?_)
        refine x_aload_s dL_law_26 rfl rfl ?_
        refine x_iload_n dL_law_27 rfl rfl ?_
        refine x_sald (j := i) dL_law_28 rfl (by omega) hL31 ?_
        refine x_bipush (y := nI 31) dL_law_29 rfl ?_
        refine x_iand dL_law_31 ?_
        refine x_casti (y := nI 6) hc ?_
        refine x_tabIn (off := 280) (tgt := 312) dL_law_32 (by decide) (by decide) (by decide) (by decide) ?_
        refine x_aload_n dL_law_312 rfl rfl ?_
        refine x_aload_s dL_law_313 rfl rfl ?_
        refine x_iload_n dL_law_314 rfl rfl ?_
        refine x_iconst (y := nI 1) dL_law_315 rfl ?_
        refine x_iadd dL_law_316 ?_
        refine x_casti (y := nI (i + 1)) (nI_add _ _) ?_
        refine x_sald (j := i + 1) dL_law_317 rfl (by omega) hL31 ?_
        refine x_callV (ci := 5) (as := [.int (ev_x X (i + 1))]) dL_law_318 mk_X6_generator in_X6_generator se_X6_generator ml_RL_40 rfl hO0 (by decide) rfl rfl (Nat.le_of_ble_eq_true rfl) h1 ?_
        refine x_aload_n dL_law_321 rfl rfl ?_
        refine x_aload_s dL_law_322 rfl rfl ?_
        refine x_iload_n dL_law_323 rfl rfl ?_
        refine x_iconst (y := nI 1) dL_law_324 rfl ?_
        refine x_iadd dL_law_325 ?_
        refine x_casti (y := nI (i + 1)) (nI_add _ _) ?_
        refine x_sald (j := i + 1) dL_law_326 rfl (by omega) hL31 ?_
        refine x_callV (ci := 6) (as := [.int (ev_x X (i + 1))]) dL_law_327 mk_X7_generator in_X7_generator se_X7_generator ml_RL_43 rfl hO1_ (by decide) rfl rfl (Nat.le_of_ble_eq_true rfl) h2 ?_
        refine x_icmp_eq (tgt := 882) dL_law_330 (by decide) (fun _ => ?_) (fun h => False.elim (h rfl))
        refine x_iinc (y := nI (i + 4)) (ls' := [some (.retAddr 0), some (.ref (0)), some (.ref (138)), some (.int (nI (i + 4)))]) dL_law_882 (by decide) rfl rfl (ii_add _ 4) rfl ?_
        refine x_goto (tgt := 18) dL_law_885 (by decide) ?_
        exact hk
      by_cases e7 : c = 7
      · subst e7
        obtain ⟨v, M1, M2, h1, h2, hR2, h138⟩ := Q_put (X := X) hR (z0 := ev_x X (i + 1)) (z1 := ev_x X (i + 2))
        have hO1_ := h138.trans hO1
        obtain ⟨M', hk, hRE⟩ := ih (i + 4) M2 (by omega) (by omega) (by omega) hR2
        refine ⟨M', ?_, hRE⟩
        refine x_iload_n dL_law_18 rfl rfl ?_
        refine x_aload_s dL_law_19 rfl rfl ?_
        refine x_slen dL_law_20 ?_
        refine x_iconst (y := nI 4) dL_law_21 rfl ?_
        refine x_isub dL_law_22 ?_
        refine x_icmp_gt (tgt := 888) dL_law_23 (by decide) (fun h => False.elim (absurd ((lw_c hL (by omega)).mp h) (by omega))) (fun _ => ?_)
        refine x_aload_s dL_law_26 rfl rfl ?_
        refine x_iload_n dL_law_27 rfl rfl ?_
        refine x_sald (j := i) dL_law_28 rfl (by omega) hL31 ?_
        refine x_bipush (y := nI 31) dL_law_29 rfl ?_
        refine x_iand dL_law_31 ?_
        refine x_casti (y := nI 7) hc ?_
        refine x_tabIn (off := 303) (tgt := 335) dL_law_32 (by decide) (by decide) (by decide) (by decide) ?_
        refine x_aload_n dL_law_335 rfl rfl ?_
        refine x_aload_s dL_law_336 rfl rfl ?_
        refine x_iload_n dL_law_337 rfl rfl ?_
        refine x_iconst (y := nI 1) dL_law_338 rfl ?_
        refine x_iadd dL_law_339 ?_
        refine x_casti (y := nI (i + 1)) (nI_add _ _) ?_
        refine x_sald (j := i + 1) dL_law_340 rfl (by omega) hL31 ?_
        refine x_aload_s dL_law_341 rfl rfl ?_
        refine x_iload_n dL_law_342 rfl rfl ?_
        refine x_iconst (y := nI 2) dL_law_343 rfl ?_
        refine x_iadd dL_law_344 ?_
        refine x_casti (y := nI (i + 2)) (nI_add _ _) ?_
        refine x_sald (j := i + 2) dL_law_345 rfl (by omega) hL31 ?_
        refine x_callV (ci := 5) (as := [.int (ev_x X (i + 1)), .int (ev_x X (i + 2))]) dL_law_346 mk_X6_put in_X6_put se_X6_put ml_RL_44 rfl hO0 (by decide) rfl rfl (Nat.le_of_ble_eq_true rfl) h1 ?_
        refine x_aload_n dL_law_349 rfl rfl ?_
        refine x_aload_s dL_law_350 rfl rfl ?_
        refine x_iload_n dL_law_351 rfl rfl ?_
        refine x_iconst (y := nI 1) dL_law_352 rfl ?_
        refine x_iadd dL_law_353 ?_
        refine x_casti (y := nI (i + 1)) (nI_add _ _) ?_
        refine x_sald (j := i + 1) dL_law_354 rfl (by omega) hL31 ?_
        refine x_aload_s dL_law_355 rfl rfl ?_
        refine x_iload_n dL_law_356 rfl rfl ?_
        refine x_iconst (y := nI 2) dL_law_357 rfl ?_
        refine x_iadd dL_law_358 ?_
        refine x_casti (y := nI (i + 2)) (nI_add _ _) ?_
        refine x_sald (j := i + 2) dL_law_359 rfl (by omega) hL31 ?_
        refine x_callV (ci := 6) (as := [.int (ev_x X (i + 1)), .int (ev_x X (i + 2))]) dL_law_360 mk_X7_put in_X7_put se_X7_put ml_RL_47 rfl hO1_ (by decide) rfl rfl (Nat.le_of_ble_eq_true rfl) h2 ?_
        refine x_icmp_eq (tgt := 882) dL_law_363 (by decide) (fun _ => ?_) (fun h => False.elim (h rfl))
        refine x_iinc (y := nI (i + 4)) (ls' := [some (.retAddr 0), some (.ref (0)), some (.ref (138)), some (.int (nI (i + 4)))]) dL_law_882 (by decide) rfl rfl (ii_add _ 4) rfl ?_
        refine x_goto (tgt := 18) dL_law_885 (by decide) ?_
        exact hk
      by_cases e8 : c = 8
      · subst e8
        obtain ⟨v, M1, M2, h1, h2, hR2, h138⟩ := Q_fill (X := X) hR (z0 := ev_x X (i + 1)) (z1 := ((ev_x X (i + 2)).toInt64) <<< ((nI 32).toInt64 &&& 63) ||| ((ev_x X (i + 3)).toInt64 &&& 4294967295))
        have hO1_ := h138.trans hO1
        obtain ⟨M', hk, hRE⟩ := ih (i + 4) M2 (by omega) (by omega) (by omega) hR2
        refine ⟨M', ?_, hRE⟩
        refine x_iload_n dL_law_18 rfl rfl ?_
        refine x_aload_s dL_law_19 rfl rfl ?_
        refine x_slen dL_law_20 ?_
        refine x_iconst (y := nI 4) dL_law_21 rfl ?_
        refine x_isub dL_law_22 ?_
        refine x_icmp_gt (tgt := 888) dL_law_23 (by decide) (fun h => False.elim (absurd ((lw_c hL (by omega)).mp h) (by omega))) (fun _ => ?_)
        refine x_aload_s dL_law_26 rfl rfl ?_
        refine x_iload_n dL_law_27 rfl rfl ?_
        refine x_sald (j := i) dL_law_28 rfl (by omega) hL31 ?_
        refine x_bipush (y := nI 31) dL_law_29 rfl ?_
        refine x_iand dL_law_31 ?_
        refine x_casti (y := nI 8) hc ?_
        refine x_tabIn (off := 336) (tgt := 368) dL_law_32 (by decide) (by decide) (by decide) (by decide) ?_
        refine x_aload_n dL_law_368 rfl rfl ?_
        refine x_aload_s dL_law_369 rfl rfl ?_
        refine x_iload_n dL_law_370 rfl rfl ?_
        refine x_iconst (y := nI 1) dL_law_371 rfl ?_
        refine x_iadd dL_law_372 ?_
        refine x_casti (y := nI (i + 1)) (nI_add _ _) ?_
        refine x_sald (j := i + 1) dL_law_373 rfl (by omega) hL31 ?_
        refine x_aload_s dL_law_374 rfl rfl ?_
        refine x_iload_n dL_law_375 rfl rfl ?_
        refine x_iconst (y := nI 2) dL_law_376 rfl ?_
        refine x_iadd dL_law_377 ?_
        refine x_casti (y := nI (i + 2)) (nI_add _ _) ?_
        refine x_sald (j := i + 2) dL_law_378 rfl (by omega) hL31 ?_
        refine x_i2l dL_law_379 ?_
        refine x_bipush (y := nI 32) dL_law_380 rfl ?_
        refine x_lshl dL_law_382 ?_
        refine x_aload_s dL_law_383 rfl rfl ?_
        refine x_iload_n dL_law_384 rfl rfl ?_
        refine x_iconst (y := nI 3) dL_law_385 rfl ?_
        refine x_iadd dL_law_386 ?_
        refine x_casti (y := nI (i + 3)) (nI_add _ _) ?_
        refine x_sald (j := i + 3) dL_law_387 rfl (by omega) hL31 ?_
        refine x_i2l dL_law_388 ?_
        refine x_ldc2 (y := (4294967295)) dL_law_389 kl_RL_48 ?_
        refine x_land dL_law_392 ?_
        refine x_lor dL_law_393 ?_
        refine x_callV (ci := 5) (as := [.int (ev_x X (i + 1)), .long ((((ev_x X (i + 2)).toInt64) <<< ((nI 32).toInt64 &&& 63)) ||| (((ev_x X (i + 3)).toInt64) &&& ((4294967295))))]) dL_law_394 mk_X6_fill in_X6_fill se_X6_fill ml_RL_50 rfl hO0 (by decide) rfl rfl (Nat.le_of_ble_eq_true rfl) h1 ?_
        refine x_aload_n dL_law_397 rfl rfl ?_
        refine x_aload_s dL_law_398 rfl rfl ?_
        refine x_iload_n dL_law_399 rfl rfl ?_
        refine x_iconst (y := nI 1) dL_law_400 rfl ?_
        refine x_iadd dL_law_401 ?_
        refine x_casti (y := nI (i + 1)) (nI_add _ _) ?_
        refine x_sald (j := i + 1) dL_law_402 rfl (by omega) hL31 ?_
        refine x_aload_s dL_law_403 rfl rfl ?_
        refine x_iload_n dL_law_404 rfl rfl ?_
        refine x_iconst (y := nI 2) dL_law_405 rfl ?_
        refine x_iadd dL_law_406 ?_
        refine x_casti (y := nI (i + 2)) (nI_add _ _) ?_
        refine x_sald (j := i + 2) dL_law_407 rfl (by omega) hL31 ?_
        refine x_i2l dL_law_408 ?_
        refine x_bipush (y := nI 32) dL_law_409 rfl ?_
        refine x_lshl dL_law_411 ?_
        refine x_aload_s dL_law_412 rfl rfl ?_
        refine x_iload_n dL_law_413 rfl rfl ?_
        refine x_iconst (y := nI 3) dL_law_414 rfl ?_
        refine x_iadd dL_law_415 ?_
        refine x_casti (y := nI (i + 3)) (nI_add _ _) ?_
        refine x_sald (j := i + 3) dL_law_416 rfl (by omega) hL31 ?_
        refine x_i2l dL_law_417 ?_
        refine x_ldc2 (y := (4294967295)) dL_law_418 kl_RL_48 ?_
        refine x_land dL_law_421 ?_
        refine x_lor dL_law_422 ?_
        refine x_callV (ci := 6) (as := [.int (ev_x X (i + 1)), .long ((((ev_x X (i + 2)).toInt64) <<< ((nI 32).toInt64 &&& 63)) ||| (((ev_x X (i + 3)).toInt64) &&& ((4294967295))))]) dL_law_423 mk_X7_fill in_X7_fill se_X7_fill ml_RL_54 rfl hO1_ (by decide) rfl rfl (Nat.le_of_ble_eq_true rfl) h2 ?_
        refine x_icmp_eq (tgt := 882) dL_law_426 (by decide) (fun _ => ?_) (fun h => False.elim (h rfl))
        refine x_iinc (y := nI (i + 4)) (ls' := [some (.retAddr 0), some (.ref (0)), some (.ref (138)), some (.int (nI (i + 4)))]) dL_law_882 (by decide) rfl rfl (ii_add _ 4) rfl ?_
        refine x_goto (tgt := 18) dL_law_885 (by decide) ?_
        exact hk
      by_cases e9 : c = 9
      · subst e9
        obtain ⟨v, M1, M2, h1, h2, hR2, h138⟩ := Q_get (X := X) hR (z0 := ev_x X (i + 1))
        have hO1_ := h138.trans hO1
        obtain ⟨M', hk, hRE⟩ := ih (i + 4) M2 (by omega) (by omega) (by omega) hR2
        refine ⟨M', ?_, hRE⟩
        refine x_iload_n dL_law_18 rfl rfl ?_
        refine x_aload_s dL_law_19 rfl rfl ?_
        refine x_slen dL_law_20 ?_
        refine x_iconst (y := nI 4) dL_law_21 rfl ?_
        refine x_isub dL_law_22 ?_
        refine x_icmp_gt (tgt := 888) dL_law_23 (by decide) (fun h => False.elim (absurd ((lw_c hL (by omega)).mp h) (by omega))) (fun _ => ?_)
        refine x_aload_s dL_law_26 rfl rfl ?_
        refine x_iload_n dL_law_27 rfl rfl ?_
        refine x_sald (j := i) dL_law_28 rfl (by omega) hL31 ?_
        refine x_bipush (y := nI 31) dL_law_29 rfl ?_
        refine x_iand dL_law_31 ?_
        refine x_casti (y := nI 9) hc ?_
        refine x_tabIn (off := 399) (tgt := 431) dL_law_32 (by decide) (by decide) (by decide) (by decide) ?_
        refine x_aload_n dL_law_431 rfl rfl ?_
        refine x_aload_s dL_law_432 rfl rfl ?_
        refine x_iload_n dL_law_433 rfl rfl ?_
        refine x_iconst (y := nI 1) dL_law_434 rfl ?_
        refine x_iadd dL_law_435 ?_
        refine x_casti (y := nI (i + 1)) (nI_add _ _) ?_
        refine x_sald (j := i + 1) dL_law_436 rfl (by omega) hL31 ?_
        refine x_callV (ci := 5) (as := [.int (ev_x X (i + 1))]) dL_law_437 mk_X6_get in_X6_get se_X6_get ml_RL_55 rfl hO0 (by decide) rfl rfl (Nat.le_of_ble_eq_true rfl) h1 ?_
        refine x_aload_n dL_law_440 rfl rfl ?_
        refine x_aload_s dL_law_441 rfl rfl ?_
        refine x_iload_n dL_law_442 rfl rfl ?_
        refine x_iconst (y := nI 1) dL_law_443 rfl ?_
        refine x_iadd dL_law_444 ?_
        refine x_casti (y := nI (i + 1)) (nI_add _ _) ?_
        refine x_sald (j := i + 1) dL_law_445 rfl (by omega) hL31 ?_
        refine x_callV (ci := 6) (as := [.int (ev_x X (i + 1))]) dL_law_446 mk_X7_get in_X7_get se_X7_get ml_RL_58 rfl hO1_ (by decide) rfl rfl (Nat.le_of_ble_eq_true rfl) h2 ?_
        refine x_icmp_eq (tgt := 882) dL_law_449 (by decide) (fun _ => ?_) (fun h => False.elim (h rfl))
        refine x_iinc (y := nI (i + 4)) (ls' := [some (.retAddr 0), some (.ref (0)), some (.ref (138)), some (.int (nI (i + 4)))]) dL_law_882 (by decide) rfl rfl (ii_add _ 4) rfl ?_
        refine x_goto (tgt := 18) dL_law_885 (by decide) ?_
        exact hk
      by_cases e10 : c = 10
      · subst e10
        obtain ⟨v, M1, M2, h1, h2, hR2, h138⟩ := Q_tail (X := X) hR (z0 := ev_x X (i + 1))
        have hO1_ := h138.trans hO1
        obtain ⟨M', hk, hRE⟩ := ih (i + 4) M2 (by omega) (by omega) (by omega) hR2
        refine ⟨M', ?_, hRE⟩
        refine x_iload_n dL_law_18 rfl rfl ?_
        refine x_aload_s dL_law_19 rfl rfl ?_
        refine x_slen dL_law_20 ?_
        refine x_iconst (y := nI 4) dL_law_21 rfl ?_
        refine x_isub dL_law_22 ?_
        refine x_icmp_gt (tgt := 888) dL_law_23 (by decide) (fun h => False.elim (absurd ((lw_c hL (by omega)).mp h) (by omega))) (fun _ => ?_)
        refine x_aload_s dL_law_26 rfl rfl ?_
        refine x_iload_n dL_law_27 rfl rfl ?_
        refine x_sald (j := i) dL_law_28 rfl (by omega) hL31 ?_
        refine x_bipush (y := nI 31) dL_law_29 rfl ?_
        refine x_iand dL_law_31 ?_
        refine x_casti (y := nI 10) hc ?_
        refine x_tabIn (off := 422) (tgt := 454) dL_law_32 (by decide) (by decide) (by decide) (by decide) ?_
        refine x_aload_n dL_law_454 rfl rfl ?_
        refine x_aload_s dL_law_455 rfl rfl ?_
        refine x_iload_n dL_law_456 rfl rfl ?_
        refine x_iconst (y := nI 1) dL_law_457 rfl ?_
        refine x_iadd dL_law_458 ?_
        refine x_casti (y := nI (i + 1)) (nI_add _ _) ?_
        refine x_sald (j := i + 1) dL_law_459 rfl (by omega) hL31 ?_
        refine x_callV (ci := 5) (as := [.int (ev_x X (i + 1))]) dL_law_460 mk_X6_tail in_X6_tail se_X6_tail ml_RL_59 rfl hO0 (by decide) rfl rfl (Nat.le_of_ble_eq_true rfl) h1 ?_
        refine x_aload_n dL_law_463 rfl rfl ?_
        refine x_aload_s dL_law_464 rfl rfl ?_
        refine x_iload_n dL_law_465 rfl rfl ?_
        refine x_iconst (y := nI 1) dL_law_466 rfl ?_
        refine x_iadd dL_law_467 ?_
        refine x_casti (y := nI (i + 1)) (nI_add _ _) ?_
        refine x_sald (j := i + 1) dL_law_468 rfl (by omega) hL31 ?_
        refine x_callV (ci := 6) (as := [.int (ev_x X (i + 1))]) dL_law_469 mk_X7_tail in_X7_tail se_X7_tail ml_RL_62 rfl hO1_ (by decide) rfl rfl (Nat.le_of_ble_eq_true rfl) h2 ?_
        refine x_icmp_eq (tgt := 882) dL_law_472 (by decide) (fun _ => ?_) (fun h => False.elim (h rfl))
        refine x_iinc (y := nI (i + 4)) (ls' := [some (.retAddr 0), some (.ref (0)), some (.ref (138)), some (.int (nI (i + 4)))]) dL_law_882 (by decide) rfl rfl (ii_add _ 4) rfl ?_
        refine x_goto (tgt := 18) dL_law_885 (by decide) ?_
        exact hk
      by_cases e11 : c = 11
      · subst e11
        obtain ⟨v, M1, M2, h1, h2, hR2, h138⟩ := Q_write (X := X) hR (z0 := ev_x X (i + 1))
        have hO1_ := h138.trans hO1
        obtain ⟨M', hk, hRE⟩ := ih (i + 4) M2 (by omega) (by omega) (by omega) hR2
        refine ⟨M', ?_, hRE⟩
        refine x_iload_n dL_law_18 rfl rfl ?_
        refine x_aload_s dL_law_19 rfl rfl ?_
        refine x_slen dL_law_20 ?_
        refine x_iconst (y := nI 4) dL_law_21 rfl ?_
        refine x_isub dL_law_22 ?_
        refine x_icmp_gt (tgt := 888) dL_law_23 (by decide) (fun h => False.elim (absurd ((lw_c hL (by omega)).mp h) (by omega))) (fun _ => ?_)
        refine x_aload_s dL_law_26 rfl rfl ?_
        refine x_iload_n dL_law_27 rfl rfl ?_
        refine x_sald (j := i) dL_law_28 rfl (by omega) hL31 ?_
        refine x_bipush (y := nI 31) dL_law_29 rfl ?_
        refine x_iand dL_law_31 ?_
        refine x_casti (y := nI 11) hc ?_
        refine x_tabIn (off := 445) (tgt := 477) dL_law_32 (by decide) (by decide) (by decide) (by decide) ?_
        refine x_aload_n dL_law_477 rfl rfl ?_
        refine x_aload_s dL_law_478 rfl rfl ?_
        refine x_iload_n dL_law_479 rfl rfl ?_
        refine x_iconst (y := nI 1) dL_law_480 rfl ?_
        refine x_iadd dL_law_481 ?_
        refine x_casti (y := nI (i + 1)) (nI_add _ _) ?_
        refine x_sald (j := i + 1) dL_law_482 rfl (by omega) hL31 ?_
        refine x_callV (ci := 5) (as := [.int (ev_x X (i + 1))]) dL_law_483 mk_X6_write in_X6_write se_X6_write ml_RL_63 rfl hO0 (by decide) rfl rfl (Nat.le_of_ble_eq_true rfl) h1 ?_
        refine x_aload_n dL_law_486 rfl rfl ?_
        refine x_aload_s dL_law_487 rfl rfl ?_
        refine x_iload_n dL_law_488 rfl rfl ?_
        refine x_iconst (y := nI 1) dL_law_489 rfl ?_
        refine x_iadd dL_law_490 ?_
        refine x_casti (y := nI (i + 1)) (nI_add _ _) ?_
        refine x_sald (j := i + 1) dL_law_491 rfl (by omega) hL31 ?_
        refine x_callV (ci := 6) (as := [.int (ev_x X (i + 1))]) dL_law_492 mk_X7_write in_X7_write se_X7_write ml_RL_66 rfl hO1_ (by decide) rfl rfl (Nat.le_of_ble_eq_true rfl) h2 ?_
        refine x_icmp_eq (tgt := 882) dL_law_495 (by decide) (fun _ => ?_) (fun h => False.elim (h rfl))
        refine x_iinc (y := nI (i + 4)) (ls' := [some (.retAddr 0), some (.ref (0)), some (.ref (138)), some (.int (nI (i + 4)))]) dL_law_882 (by decide) rfl rfl (ii_add _ 4) rfl ?_
        refine x_goto (tgt := 18) dL_law_885 (by decide) ?_
        exact hk
      by_cases e12 : c = 12
      · subst e12
        obtain ⟨v, M1, M2, h1, h2, hR2, h138⟩ := Q_erase (X := X) hR (z0 := ev_x X (i + 1))
        have hO1_ := h138.trans hO1
        obtain ⟨M', hk, hRE⟩ := ih (i + 4) M2 (by omega) (by omega) (by omega) hR2
        refine ⟨M', ?_, hRE⟩
        refine x_iload_n dL_law_18 rfl rfl ?_
        refine x_aload_s dL_law_19 rfl rfl ?_
        refine x_slen dL_law_20 ?_
        refine x_iconst (y := nI 4) dL_law_21 rfl ?_
        refine x_isub dL_law_22 ?_
        refine x_icmp_gt (tgt := 888) dL_law_23 (by decide) (fun h => False.elim (absurd ((lw_c hL (by omega)).mp h) (by omega))) (fun _ => ?_)
        refine x_aload_s dL_law_26 rfl rfl ?_
        refine x_iload_n dL_law_27 rfl rfl ?_
        refine x_sald (j := i) dL_law_28 rfl (by omega) hL31 ?_
        refine x_bipush (y := nI 31) dL_law_29 rfl ?_
        refine x_iand dL_law_31 ?_
        refine x_casti (y := nI 12) hc ?_
        refine x_tabIn (off := 468) (tgt := 500) dL_law_32 (by decide) (by decide) (by decide) (by decide) ?_
        refine x_aload_n dL_law_500 rfl rfl ?_
        refine x_aload_s dL_law_501 rfl rfl ?_
        refine x_iload_n dL_law_502 rfl rfl ?_
        refine x_iconst (y := nI 1) dL_law_503 rfl ?_
        refine x_iadd dL_law_504 ?_
        refine x_casti (y := nI (i + 1)) (nI_add _ _) ?_
        refine x_sald (j := i + 1) dL_law_505 rfl (by omega) hL31 ?_
        refine x_callV (ci := 5) (as := [.int (ev_x X (i + 1))]) dL_law_506 mk_X6_erase in_X6_erase se_X6_erase ml_RL_67 rfl hO0 (by decide) rfl rfl (Nat.le_of_ble_eq_true rfl) h1 ?_
        refine x_aload_n dL_law_509 rfl rfl ?_
        refine x_aload_s dL_law_510 rfl rfl ?_
        refine x_iload_n dL_law_511 rfl rfl ?_
        refine x_iconst (y := nI 1) dL_law_512 rfl ?_
        refine x_iadd dL_law_513 ?_
        refine x_casti (y := nI (i + 1)) (nI_add _ _) ?_
        refine x_sald (j := i + 1) dL_law_514 rfl (by omega) hL31 ?_
        refine x_callV (ci := 6) (as := [.int (ev_x X (i + 1))]) dL_law_515 mk_X7_erase in_X7_erase se_X7_erase ml_RL_70 rfl hO1_ (by decide) rfl rfl (Nat.le_of_ble_eq_true rfl) h2 ?_
        refine x_icmp_eq (tgt := 882) dL_law_518 (by decide) (fun _ => ?_) (fun h => False.elim (h rfl))
        refine x_iinc (y := nI (i + 4)) (ls' := [some (.retAddr 0), some (.ref (0)), some (.ref (138)), some (.int (nI (i + 4)))]) dL_law_882 (by decide) rfl rfl (ii_add _ 4) rfl ?_
        refine x_goto (tgt := 18) dL_law_885 (by decide) ?_
        exact hk
      by_cases e13 : c = 13
      · subst e13
        obtain ⟨v, M1, M2, h1, h2, hR2, h138⟩ := Q_flip (X := X) hR (z0 := ev_x X (i + 1)) (z1 := ev_x X (i + 2))
        have hO1_ := h138.trans hO1
        obtain ⟨M', hk, hRE⟩ := ih (i + 4) M2 (by omega) (by omega) (by omega) hR2
        refine ⟨M', ?_, hRE⟩
        refine x_iload_n dL_law_18 rfl rfl ?_
        refine x_aload_s dL_law_19 rfl rfl ?_
        refine x_slen dL_law_20 ?_
        refine x_iconst (y := nI 4) dL_law_21 rfl ?_
        refine x_isub dL_law_22 ?_
        refine x_icmp_gt (tgt := 888) dL_law_23 (by decide) (fun h => False.elim (absurd ((lw_c hL (by omega)).mp h) (by omega))) (fun _ => ?_)
        refine x_aload_s dL_law_26 rfl rfl ?_
        refine x_iload_n dL_law_27 rfl rfl ?_
        refine x_sald (j := i) dL_law_28 rfl (by omega) hL31 ?_
        refine x_bipush (y := nI 31) dL_law_29 rfl ?_
        refine x_iand dL_law_31 ?_
        refine x_casti (y := nI 13) hc ?_
        refine x_tabIn (off := 491) (tgt := 523) dL_law_32 (by decide) (by decide) (by decide) (by decide) ?_
        refine x_aload_n dL_law_523 rfl rfl ?_
        refine x_aload_s dL_law_524 rfl rfl ?_
        refine x_iload_n dL_law_525 rfl rfl ?_
        refine x_iconst (y := nI 1) dL_law_526 rfl ?_
        refine x_iadd dL_law_527 ?_
        refine x_casti (y := nI (i + 1)) (nI_add _ _) ?_
        refine x_sald (j := i + 1) dL_law_528 rfl (by omega) hL31 ?_
        refine x_aload_s dL_law_529 rfl rfl ?_
        refine x_iload_n dL_law_530 rfl rfl ?_
        refine x_iconst (y := nI 2) dL_law_531 rfl ?_
        refine x_iadd dL_law_532 ?_
        refine x_casti (y := nI (i + 2)) (nI_add _ _) ?_
        refine x_sald (j := i + 2) dL_law_533 rfl (by omega) hL31 ?_
        refine x_callV (ci := 5) (as := [.int (ev_x X (i + 1)), .int (ev_x X (i + 2))]) dL_law_534 mk_X6_flip in_X6_flip se_X6_flip ml_RL_71 rfl hO0 (by decide) rfl rfl (Nat.le_of_ble_eq_true rfl) h1 ?_
        refine x_aload_n dL_law_537 rfl rfl ?_
        refine x_aload_s dL_law_538 rfl rfl ?_
        refine x_iload_n dL_law_539 rfl rfl ?_
        refine x_iconst (y := nI 1) dL_law_540 rfl ?_
        refine x_iadd dL_law_541 ?_
        refine x_casti (y := nI (i + 1)) (nI_add _ _) ?_
        refine x_sald (j := i + 1) dL_law_542 rfl (by omega) hL31 ?_
        refine x_aload_s dL_law_543 rfl rfl ?_
        refine x_iload_n dL_law_544 rfl rfl ?_
        refine x_iconst (y := nI 2) dL_law_545 rfl ?_
        refine x_iadd dL_law_546 ?_
        refine x_casti (y := nI (i + 2)) (nI_add _ _) ?_
        refine x_sald (j := i + 2) dL_law_547 rfl (by omega) hL31 ?_
        refine x_callV (ci := 6) (as := [.int (ev_x X (i + 1)), .int (ev_x X (i + 2))]) dL_law_548 mk_X7_flip in_X7_flip se_X7_flip ml_RL_74 rfl hO1_ (by decide) rfl rfl (Nat.le_of_ble_eq_true rfl) h2 ?_
        refine x_icmp_eq (tgt := 882) dL_law_551 (by decide) (fun _ => ?_) (fun h => False.elim (h rfl))
        refine x_iinc (y := nI (i + 4)) (ls' := [some (.retAddr 0), some (.ref (0)), some (.ref (138)), some (.int (nI (i + 4)))]) dL_law_882 (by decide) rfl rfl (ii_add _ 4) rfl ?_
        refine x_goto (tgt := 18) dL_law_885 (by decide) ?_
        exact hk
      by_cases e14 : c = 14
      · subst e14
        obtain ⟨v, M1, M2, h1, h2, hR2, h138⟩ := Q_stick (X := X) hR (z0 := ev_x X (i + 1)) (z1 := ev_x X (i + 2)) (z2 := ev_x X (i + 3))
        have hO1_ := h138.trans hO1
        obtain ⟨M', hk, hRE⟩ := ih (i + 4) M2 (by omega) (by omega) (by omega) hR2
        refine ⟨M', ?_, hRE⟩
        refine x_iload_n dL_law_18 rfl rfl ?_
        refine x_aload_s dL_law_19 rfl rfl ?_
        refine x_slen dL_law_20 ?_
        refine x_iconst (y := nI 4) dL_law_21 rfl ?_
        refine x_isub dL_law_22 ?_
        refine x_icmp_gt (tgt := 888) dL_law_23 (by decide) (fun h => False.elim (absurd ((lw_c hL (by omega)).mp h) (by omega))) (fun _ => ?_)
        refine x_aload_s dL_law_26 rfl rfl ?_
        refine x_iload_n dL_law_27 rfl rfl ?_
        refine x_sald (j := i) dL_law_28 rfl (by omega) hL31 ?_
        refine x_bipush (y := nI 31) dL_law_29 rfl ?_
        refine x_iand dL_law_31 ?_
        refine x_casti (y := nI 14) hc ?_
        refine x_tabIn (off := 524) (tgt := 556) dL_law_32 (by decide) (by decide) (by decide) (by decide) ?_
        refine x_aload_n dL_law_556 rfl rfl ?_
        refine x_aload_s dL_law_557 rfl rfl ?_
        refine x_iload_n dL_law_558 rfl rfl ?_
        refine x_iconst (y := nI 1) dL_law_559 rfl ?_
        refine x_iadd dL_law_560 ?_
        refine x_casti (y := nI (i + 1)) (nI_add _ _) ?_
        refine x_sald (j := i + 1) dL_law_561 rfl (by omega) hL31 ?_
        refine x_aload_s dL_law_562 rfl rfl ?_
        refine x_iload_n dL_law_563 rfl rfl ?_
        refine x_iconst (y := nI 2) dL_law_564 rfl ?_
        refine x_iadd dL_law_565 ?_
        refine x_casti (y := nI (i + 2)) (nI_add _ _) ?_
        refine x_sald (j := i + 2) dL_law_566 rfl (by omega) hL31 ?_
        refine x_aload_s dL_law_567 rfl rfl ?_
        refine x_iload_n dL_law_568 rfl rfl ?_
        refine x_iconst (y := nI 3) dL_law_569 rfl ?_
        refine x_iadd dL_law_570 ?_
        refine x_casti (y := nI (i + 3)) (nI_add _ _) ?_
        refine x_sald (j := i + 3) dL_law_571 rfl (by omega) hL31 ?_
        refine x_callV (ci := 5) (as := [.int (ev_x X (i + 1)), .int (ev_x X (i + 2)), .int (ev_x X (i + 3))]) dL_law_572 mk_X6_stick in_X6_stick se_X6_stick ml_RL_75 rfl hO0 (by decide) rfl rfl (Nat.le_of_ble_eq_true rfl) h1 ?_
        refine x_aload_n dL_law_575 rfl rfl ?_
        refine x_aload_s dL_law_576 rfl rfl ?_
        refine x_iload_n dL_law_577 rfl rfl ?_
        refine x_iconst (y := nI 1) dL_law_578 rfl ?_
        refine x_iadd dL_law_579 ?_
        refine x_casti (y := nI (i + 1)) (nI_add _ _) ?_
        refine x_sald (j := i + 1) dL_law_580 rfl (by omega) hL31 ?_
        refine x_aload_s dL_law_581 rfl rfl ?_
        refine x_iload_n dL_law_582 rfl rfl ?_
        refine x_iconst (y := nI 2) dL_law_583 rfl ?_
        refine x_iadd dL_law_584 ?_
        refine x_casti (y := nI (i + 2)) (nI_add _ _) ?_
        refine x_sald (j := i + 2) dL_law_585 rfl (by omega) hL31 ?_
        refine x_aload_s dL_law_586 rfl rfl ?_
        refine x_iload_n dL_law_587 rfl rfl ?_
        refine x_iconst (y := nI 3) dL_law_588 rfl ?_
        refine x_iadd dL_law_589 ?_
        refine x_casti (y := nI (i + 3)) (nI_add _ _) ?_
        refine x_sald (j := i + 3) dL_law_590 rfl (by omega) hL31 ?_
        refine x_callV (ci := 6) (as := [.int (ev_x X (i + 1)), .int (ev_x X (i + 2)), .int (ev_x X (i + 3))]) dL_law_591 mk_X7_stick in_X7_stick se_X7_stick ml_RL_78 rfl hO1_ (by decide) rfl rfl (Nat.le_of_ble_eq_true rfl) h2 ?_
        refine x_icmp_eq (tgt := 882) dL_law_594 (by decide) (fun _ => ?_) (fun h => False.elim (h rfl))
        refine x_iinc (y := nI (i + 4)) (ls' := [some (.retAddr 0), some (.ref (0)), some (.ref (138)), some (.int (nI (i + 4)))]) dL_law_882 (by decide) rfl rfl (ii_add _ 4) rfl ?_
        refine x_goto (tgt := 18) dL_law_885 (by decide) ?_
        exact hk
      by_cases e15 : c = 15
      · subst e15
        by_cases hz : ev_x X (i + 3) = 0
        · obtain ⟨v, M1, M2, h1, h2, hR2, h138⟩ := Q_mark (X := X) hR (z0 := ev_x X (i + 1)) (z1 := ev_x X (i + 2)) (z2 := nI 0) (Or.inl rfl)
          have hO1_ := h138.trans hO1
          obtain ⟨M', hk, hRE⟩ := ih (i + 4) M2 (by omega) (by omega) (by omega) hR2
          refine ⟨M', ?_, hRE⟩
          refine x_iload_n dL_law_18 rfl rfl ?_
          refine x_aload_s dL_law_19 rfl rfl ?_
          refine x_slen dL_law_20 ?_
          refine x_iconst (y := nI 4) dL_law_21 rfl ?_
          refine x_isub dL_law_22 ?_
          refine x_icmp_gt (tgt := 888) dL_law_23 (by decide) (fun h => False.elim (absurd ((lw_c hL (by omega)).mp h) (by omega))) (fun _ => ?_)
          refine x_aload_s dL_law_26 rfl rfl ?_
          refine x_iload_n dL_law_27 rfl rfl ?_
          refine x_sald (j := i) dL_law_28 rfl (by omega) hL31 ?_
          refine x_bipush (y := nI 31) dL_law_29 rfl ?_
          refine x_iand dL_law_31 ?_
          refine x_casti (y := nI 15) hc ?_
          refine x_tabIn (off := 567) (tgt := 599) dL_law_32 (by decide) (by decide) (by decide) (by decide) ?_
          refine x_aload_n dL_law_599 rfl rfl ?_
          refine x_aload_s dL_law_600 rfl rfl ?_
          refine x_iload_n dL_law_601 rfl rfl ?_
          refine x_iconst (y := nI 1) dL_law_602 rfl ?_
          refine x_iadd dL_law_603 ?_
          refine x_casti (y := nI (i + 1)) (nI_add _ _) ?_
          refine x_sald (j := i + 1) dL_law_604 rfl (by omega) hL31 ?_
          refine x_aload_s dL_law_605 rfl rfl ?_
          refine x_iload_n dL_law_606 rfl rfl ?_
          refine x_iconst (y := nI 2) dL_law_607 rfl ?_
          refine x_iadd dL_law_608 ?_
          refine x_casti (y := nI (i + 2)) (nI_add _ _) ?_
          refine x_sald (j := i + 2) dL_law_609 rfl (by omega) hL31 ?_
          refine x_aload_s dL_law_610 rfl rfl ?_
          refine x_iload_n dL_law_611 rfl rfl ?_
          refine x_iconst (y := nI 3) dL_law_612 rfl ?_
          refine x_iadd dL_law_613 ?_
          refine x_casti (y := nI (i + 3)) (nI_add _ _) ?_
          refine x_sald (j := i + 3) dL_law_614 rfl (by omega) hL31 ?_
          refine x_if_eq (tgt := 622) dL_law_615 (by decide) (fun _ => ?_) (fun h => False.elim (h hz))
          refine x_iconst (y := nI 0) dL_law_622 rfl ?_
          refine x_callV (ci := 5) (as := [.int (ev_x X (i + 1)), .int (ev_x X (i + 2)), .int (nI 0)]) dL_law_623 mk_X6_mark in_X6_mark se_X6_mark ml_RL_79 rfl hO0 (by decide) rfl rfl (Nat.le_of_ble_eq_true rfl) h1 ?_
          refine x_aload_n dL_law_626 rfl rfl ?_
          refine x_aload_s dL_law_627 rfl rfl ?_
          refine x_iload_n dL_law_628 rfl rfl ?_
          refine x_iconst (y := nI 1) dL_law_629 rfl ?_
          refine x_iadd dL_law_630 ?_
          refine x_casti (y := nI (i + 1)) (nI_add _ _) ?_
          refine x_sald (j := i + 1) dL_law_631 rfl (by omega) hL31 ?_
          refine x_aload_s dL_law_632 rfl rfl ?_
          refine x_iload_n dL_law_633 rfl rfl ?_
          refine x_iconst (y := nI 2) dL_law_634 rfl ?_
          refine x_iadd dL_law_635 ?_
          refine x_casti (y := nI (i + 2)) (nI_add _ _) ?_
          refine x_sald (j := i + 2) dL_law_636 rfl (by omega) hL31 ?_
          refine x_aload_s dL_law_637 rfl rfl ?_
          refine x_iload_n dL_law_638 rfl rfl ?_
          refine x_iconst (y := nI 3) dL_law_639 rfl ?_
          refine x_iadd dL_law_640 ?_
          refine x_casti (y := nI (i + 3)) (nI_add _ _) ?_
          refine x_sald (j := i + 3) dL_law_641 rfl (by omega) hL31 ?_
          refine x_if_eq (tgt := 649) dL_law_642 (by decide) (fun _ => ?_) (fun h => False.elim (h hz))
          refine x_iconst (y := nI 0) dL_law_649 rfl ?_
          refine x_callV (ci := 6) (as := [.int (ev_x X (i + 1)), .int (ev_x X (i + 2)), .int (nI 0)]) dL_law_650 mk_X7_mark in_X7_mark se_X7_mark ml_RL_83 rfl hO1_ (by decide) rfl rfl (Nat.le_of_ble_eq_true rfl) h2 ?_
          refine x_icmp_eq (tgt := 882) dL_law_653 (by decide) (fun _ => ?_) (fun h => False.elim (h rfl))
          refine x_iinc (y := nI (i + 4)) (ls' := [some (.retAddr 0), some (.ref (0)), some (.ref (138)), some (.int (nI (i + 4)))]) dL_law_882 (by decide) rfl rfl (ii_add _ 4) rfl ?_
          refine x_goto (tgt := 18) dL_law_885 (by decide) ?_
          exact hk
        · obtain ⟨v, M1, M2, h1, h2, hR2, h138⟩ := Q_mark (X := X) hR (z0 := ev_x X (i + 1)) (z1 := ev_x X (i + 2)) (z2 := nI 1) (Or.inr rfl)
          have hO1_ := h138.trans hO1
          obtain ⟨M', hk, hRE⟩ := ih (i + 4) M2 (by omega) (by omega) (by omega) hR2
          refine ⟨M', ?_, hRE⟩
          refine x_iload_n dL_law_18 rfl rfl ?_
          refine x_aload_s dL_law_19 rfl rfl ?_
          refine x_slen dL_law_20 ?_
          refine x_iconst (y := nI 4) dL_law_21 rfl ?_
          refine x_isub dL_law_22 ?_
          refine x_icmp_gt (tgt := 888) dL_law_23 (by decide) (fun h => False.elim (absurd ((lw_c hL (by omega)).mp h) (by omega))) (fun _ => ?_)
          refine x_aload_s dL_law_26 rfl rfl ?_
          refine x_iload_n dL_law_27 rfl rfl ?_
          refine x_sald (j := i) dL_law_28 rfl (by omega) hL31 ?_
          refine x_bipush (y := nI 31) dL_law_29 rfl ?_
          refine x_iand dL_law_31 ?_
          refine x_casti (y := nI 15) hc ?_
          refine x_tabIn (off := 567) (tgt := 599) dL_law_32 (by decide) (by decide) (by decide) (by decide) ?_
          refine x_aload_n dL_law_599 rfl rfl ?_
          refine x_aload_s dL_law_600 rfl rfl ?_
          refine x_iload_n dL_law_601 rfl rfl ?_
          refine x_iconst (y := nI 1) dL_law_602 rfl ?_
          refine x_iadd dL_law_603 ?_
          refine x_casti (y := nI (i + 1)) (nI_add _ _) ?_
          refine x_sald (j := i + 1) dL_law_604 rfl (by omega) hL31 ?_
          refine x_aload_s dL_law_605 rfl rfl ?_
          refine x_iload_n dL_law_606 rfl rfl ?_
          refine x_iconst (y := nI 2) dL_law_607 rfl ?_
          refine x_iadd dL_law_608 ?_
          refine x_casti (y := nI (i + 2)) (nI_add _ _) ?_
          refine x_sald (j := i + 2) dL_law_609 rfl (by omega) hL31 ?_
          refine x_aload_s dL_law_610 rfl rfl ?_
          refine x_iload_n dL_law_611 rfl rfl ?_
          refine x_iconst (y := nI 3) dL_law_612 rfl ?_
          refine x_iadd dL_law_613 ?_
          refine x_casti (y := nI (i + 3)) (nI_add _ _) ?_
          refine x_sald (j := i + 3) dL_law_614 rfl (by omega) hL31 ?_
          refine x_if_eq (tgt := 622) dL_law_615 (by decide) (fun h => False.elim (hz h)) (fun _ => ?_)
          refine x_iconst (y := nI 1) dL_law_618 rfl ?_
          refine x_goto (tgt := 623) dL_law_619 (by decide) ?_
          refine x_callV (ci := 5) (as := [.int (ev_x X (i + 1)), .int (ev_x X (i + 2)), .int (nI 1)]) dL_law_623 mk_X6_mark in_X6_mark se_X6_mark ml_RL_79 rfl hO0 (by decide) rfl rfl (Nat.le_of_ble_eq_true rfl) h1 ?_
          refine x_aload_n dL_law_626 rfl rfl ?_
          refine x_aload_s dL_law_627 rfl rfl ?_
          refine x_iload_n dL_law_628 rfl rfl ?_
          refine x_iconst (y := nI 1) dL_law_629 rfl ?_
          refine x_iadd dL_law_630 ?_
          refine x_casti (y := nI (i + 1)) (nI_add _ _) ?_
          refine x_sald (j := i + 1) dL_law_631 rfl (by omega) hL31 ?_
          refine x_aload_s dL_law_632 rfl rfl ?_
          refine x_iload_n dL_law_633 rfl rfl ?_
          refine x_iconst (y := nI 2) dL_law_634 rfl ?_
          refine x_iadd dL_law_635 ?_
          refine x_casti (y := nI (i + 2)) (nI_add _ _) ?_
          refine x_sald (j := i + 2) dL_law_636 rfl (by omega) hL31 ?_
          refine x_aload_s dL_law_637 rfl rfl ?_
          refine x_iload_n dL_law_638 rfl rfl ?_
          refine x_iconst (y := nI 3) dL_law_639 rfl ?_
          refine x_iadd dL_law_640 ?_
          refine x_casti (y := nI (i + 3)) (nI_add _ _) ?_
          refine x_sald (j := i + 3) dL_law_641 rfl (by omega) hL31 ?_
          refine x_if_eq (tgt := 649) dL_law_642 (by decide) (fun h => False.elim (hz h)) (fun _ => ?_)
          refine x_iconst (y := nI 1) dL_law_645 rfl ?_
          refine x_goto (tgt := 650) dL_law_646 (by decide) ?_
          refine x_callV (ci := 6) (as := [.int (ev_x X (i + 1)), .int (ev_x X (i + 2)), .int (nI 1)]) dL_law_650 mk_X7_mark in_X7_mark se_X7_mark ml_RL_83 rfl hO1_ (by decide) rfl rfl (Nat.le_of_ble_eq_true rfl) h2 ?_
          refine x_icmp_eq (tgt := 882) dL_law_653 (by decide) (fun _ => ?_) (fun h => False.elim (h rfl))
          refine x_iinc (y := nI (i + 4)) (ls' := [some (.retAddr 0), some (.ref (0)), some (.ref (138)), some (.int (nI (i + 4)))]) dL_law_882 (by decide) rfl rfl (ii_add _ 4) rfl ?_
          refine x_goto (tgt := 18) dL_law_885 (by decide) ?_
          exact hk
      by_cases e16 : c = 16
      · subst e16
        obtain ⟨v, M1, M2, h1, h2, hR2, h138⟩ := Q_bit (X := X) hR (z0 := ev_x X (i + 1)) (z1 := ev_x X (i + 2))
        have hO1_ := h138.trans hO1
        obtain ⟨M', hk, hRE⟩ := ih (i + 4) M2 (by omega) (by omega) (by omega) hR2
        refine ⟨M', ?_, hRE⟩
        refine x_iload_n dL_law_18 rfl rfl ?_
        refine x_aload_s dL_law_19 rfl rfl ?_
        refine x_slen dL_law_20 ?_
        refine x_iconst (y := nI 4) dL_law_21 rfl ?_
        refine x_isub dL_law_22 ?_
        refine x_icmp_gt (tgt := 888) dL_law_23 (by decide) (fun h => False.elim (absurd ((lw_c hL (by omega)).mp h) (by omega))) (fun _ => ?_)
        refine x_aload_s dL_law_26 rfl rfl ?_
        refine x_iload_n dL_law_27 rfl rfl ?_
        refine x_sald (j := i) dL_law_28 rfl (by omega) hL31 ?_
        refine x_bipush (y := nI 31) dL_law_29 rfl ?_
        refine x_iand dL_law_31 ?_
        refine x_casti (y := nI 16) hc ?_
        refine x_tabIn (off := 626) (tgt := 658) dL_law_32 (by decide) (by decide) (by decide) (by decide) ?_
        refine x_aload_n dL_law_658 rfl rfl ?_
        refine x_aload_s dL_law_659 rfl rfl ?_
        refine x_iload_n dL_law_660 rfl rfl ?_
        refine x_iconst (y := nI 1) dL_law_661 rfl ?_
        refine x_iadd dL_law_662 ?_
        refine x_casti (y := nI (i + 1)) (nI_add _ _) ?_
        refine x_sald (j := i + 1) dL_law_663 rfl (by omega) hL31 ?_
        refine x_aload_s dL_law_664 rfl rfl ?_
        refine x_iload_n dL_law_665 rfl rfl ?_
        refine x_iconst (y := nI 2) dL_law_666 rfl ?_
        refine x_iadd dL_law_667 ?_
        refine x_casti (y := nI (i + 2)) (nI_add _ _) ?_
        refine x_sald (j := i + 2) dL_law_668 rfl (by omega) hL31 ?_
        refine x_callV (ci := 5) (as := [.int (ev_x X (i + 1)), .int (ev_x X (i + 2))]) dL_law_669 mk_X6_bit in_X6_bit se_X6_bit ml_RL_84 rfl hO0 (by decide) rfl rfl (Nat.le_of_ble_eq_true rfl) h1 ?_
        refine x_aload_n dL_law_672 rfl rfl ?_
        refine x_aload_s dL_law_673 rfl rfl ?_
        refine x_iload_n dL_law_674 rfl rfl ?_
        refine x_iconst (y := nI 1) dL_law_675 rfl ?_
        refine x_iadd dL_law_676 ?_
        refine x_casti (y := nI (i + 1)) (nI_add _ _) ?_
        refine x_sald (j := i + 1) dL_law_677 rfl (by omega) hL31 ?_
        refine x_aload_s dL_law_678 rfl rfl ?_
        refine x_iload_n dL_law_679 rfl rfl ?_
        refine x_iconst (y := nI 2) dL_law_680 rfl ?_
        refine x_iadd dL_law_681 ?_
        refine x_casti (y := nI (i + 2)) (nI_add _ _) ?_
        refine x_sald (j := i + 2) dL_law_682 rfl (by omega) hL31 ?_
        refine x_callV (ci := 6) (as := [.int (ev_x X (i + 1)), .int (ev_x X (i + 2))]) dL_law_683 mk_X7_bit in_X7_bit se_X7_bit ml_RL_87 rfl hO1_ (by decide) rfl rfl (Nat.le_of_ble_eq_true rfl) h2 ?_
        refine x_icmp_eq (tgt := 882) dL_law_686 (by decide) (fun _ => ?_) (fun h => False.elim (h rfl))
        refine x_iinc (y := nI (i + 4)) (ls' := [some (.retAddr 0), some (.ref (0)), some (.ref (138)), some (.int (nI (i + 4)))]) dL_law_882 (by decide) rfl rfl (ii_add _ 4) rfl ?_
        refine x_goto (tgt := 18) dL_law_885 (by decide) ?_
        exact hk
      by_cases e17 : c = 17
      · subst e17
        obtain ⟨v, M1, M2, h1, h2, hR2, h138⟩ := Q_read (X := X) hR (z0 := ev_x X (i + 1))
        have hO1_ := h138.trans hO1
        obtain ⟨M', hk, hRE⟩ := ih (i + 4) M2 (by omega) (by omega) (by omega) hR2
        refine ⟨M', ?_, hRE⟩
        refine x_iload_n dL_law_18 rfl rfl ?_
        refine x_aload_s dL_law_19 rfl rfl ?_
        refine x_slen dL_law_20 ?_
        refine x_iconst (y := nI 4) dL_law_21 rfl ?_
        refine x_isub dL_law_22 ?_
        refine x_icmp_gt (tgt := 888) dL_law_23 (by decide) (fun h => False.elim (absurd ((lw_c hL (by omega)).mp h) (by omega))) (fun _ => ?_)
        refine x_aload_s dL_law_26 rfl rfl ?_
        refine x_iload_n dL_law_27 rfl rfl ?_
        refine x_sald (j := i) dL_law_28 rfl (by omega) hL31 ?_
        refine x_bipush (y := nI 31) dL_law_29 rfl ?_
        refine x_iand dL_law_31 ?_
        refine x_casti (y := nI 17) hc ?_
        refine x_tabIn (off := 659) (tgt := 691) dL_law_32 (by decide) (by decide) (by decide) (by decide) ?_
        refine x_aload_n dL_law_691 rfl rfl ?_
        refine x_aload_s dL_law_692 rfl rfl ?_
        refine x_iload_n dL_law_693 rfl rfl ?_
        refine x_iconst (y := nI 1) dL_law_694 rfl ?_
        refine x_iadd dL_law_695 ?_
        refine x_casti (y := nI (i + 1)) (nI_add _ _) ?_
        refine x_sald (j := i + 1) dL_law_696 rfl (by omega) hL31 ?_
        refine x_callV (ci := 5) (as := [.int (ev_x X (i + 1))]) dL_law_697 mk_X6_read in_X6_read se_X6_read ml_RL_88 rfl hO0 (by decide) rfl rfl (Nat.le_of_ble_eq_true rfl) h1 ?_
        refine x_aload_n dL_law_700 rfl rfl ?_
        refine x_aload_s dL_law_701 rfl rfl ?_
        refine x_iload_n dL_law_702 rfl rfl ?_
        refine x_iconst (y := nI 1) dL_law_703 rfl ?_
        refine x_iadd dL_law_704 ?_
        refine x_casti (y := nI (i + 1)) (nI_add _ _) ?_
        refine x_sald (j := i + 1) dL_law_705 rfl (by omega) hL31 ?_
        refine x_callV (ci := 6) (as := [.int (ev_x X (i + 1))]) dL_law_706 mk_X7_read in_X7_read se_X7_read ml_RL_91 rfl hO1_ (by decide) rfl rfl (Nat.le_of_ble_eq_true rfl) h2 ?_
        refine x_icmp_eq (tgt := 882) dL_law_709 (by decide) (fun _ => ?_) (fun h => False.elim (h rfl))
        refine x_iinc (y := nI (i + 4)) (ls' := [some (.retAddr 0), some (.ref (0)), some (.ref (138)), some (.int (nI (i + 4)))]) dL_law_882 (by decide) rfl rfl (ii_add _ 4) rfl ?_
        refine x_goto (tgt := 18) dL_law_885 (by decide) ?_
        exact hk
      by_cases e18 : c = 18
      · subst e18
        obtain ⟨v, M1, M2, h1, h2, hR2, h138⟩ := Q_turned (X := X) hR (z0 := ev_x X (i + 1))
        have hO1_ := h138.trans hO1
        obtain ⟨M', hk, hRE⟩ := ih (i + 4) M2 (by omega) (by omega) (by omega) hR2
        refine ⟨M', ?_, hRE⟩
        refine x_iload_n dL_law_18 rfl rfl ?_
        refine x_aload_s dL_law_19 rfl rfl ?_
        refine x_slen dL_law_20 ?_
        refine x_iconst (y := nI 4) dL_law_21 rfl ?_
        refine x_isub dL_law_22 ?_
        refine x_icmp_gt (tgt := 888) dL_law_23 (by decide) (fun h => False.elim (absurd ((lw_c hL (by omega)).mp h) (by omega))) (fun _ => ?_)
        refine x_aload_s dL_law_26 rfl rfl ?_
        refine x_iload_n dL_law_27 rfl rfl ?_
        refine x_sald (j := i) dL_law_28 rfl (by omega) hL31 ?_
        refine x_bipush (y := nI 31) dL_law_29 rfl ?_
        refine x_iand dL_law_31 ?_
        refine x_casti (y := nI 18) hc ?_
        refine x_tabIn (off := 682) (tgt := 714) dL_law_32 (by decide) (by decide) (by decide) (by decide) ?_
        refine x_aload_n dL_law_714 rfl rfl ?_
        refine x_aload_s dL_law_715 rfl rfl ?_
        refine x_iload_n dL_law_716 rfl rfl ?_
        refine x_iconst (y := nI 1) dL_law_717 rfl ?_
        refine x_iadd dL_law_718 ?_
        refine x_casti (y := nI (i + 1)) (nI_add _ _) ?_
        refine x_sald (j := i + 1) dL_law_719 rfl (by omega) hL31 ?_
        refine x_callV (ci := 5) (as := [.int (ev_x X (i + 1))]) dL_law_720 mk_X6_turned in_X6_turned se_X6_turned ml_RL_92 rfl hO0 (by decide) rfl rfl (Nat.le_of_ble_eq_true rfl) h1 ?_
        refine x_aload_n dL_law_723 rfl rfl ?_
        refine x_aload_s dL_law_724 rfl rfl ?_
        refine x_iload_n dL_law_725 rfl rfl ?_
        refine x_iconst (y := nI 1) dL_law_726 rfl ?_
        refine x_iadd dL_law_727 ?_
        refine x_casti (y := nI (i + 1)) (nI_add _ _) ?_
        refine x_sald (j := i + 1) dL_law_728 rfl (by omega) hL31 ?_
        refine x_callV (ci := 6) (as := [.int (ev_x X (i + 1))]) dL_law_729 mk_X7_turned in_X7_turned se_X7_turned ml_RL_95 rfl hO1_ (by decide) rfl rfl (Nat.le_of_ble_eq_true rfl) h2 ?_
        refine x_icmp_eq (tgt := 882) dL_law_732 (by decide) (fun _ => ?_) (fun h => False.elim (h rfl))
        refine x_iinc (y := nI (i + 4)) (ls' := [some (.retAddr 0), some (.ref (0)), some (.ref (138)), some (.int (nI (i + 4)))]) dL_law_882 (by decide) rfl rfl (ii_add _ 4) rfl ?_
        refine x_goto (tgt := 18) dL_law_885 (by decide) ?_
        exact hk
      by_cases e19 : c = 19
      · subst e19
        obtain ⟨v, M1, M2, h1, h2, hR2, h138⟩ := Q_syndrome (X := X) hR (z0 := ev_x X (i + 1)) (z1 := ev_x X (i + 2))
        have hO1_ := h138.trans hO1
        obtain ⟨M', hk, hRE⟩ := ih (i + 4) M2 (by omega) (by omega) (by omega) hR2
        refine ⟨M', ?_, hRE⟩
        refine x_iload_n dL_law_18 rfl rfl ?_
        refine x_aload_s dL_law_19 rfl rfl ?_
        refine x_slen dL_law_20 ?_
        refine x_iconst (y := nI 4) dL_law_21 rfl ?_
        refine x_isub dL_law_22 ?_
        refine x_icmp_gt (tgt := 888) dL_law_23 (by decide) (fun h => False.elim (absurd ((lw_c hL (by omega)).mp h) (by omega))) (fun _ => ?_)
        refine x_aload_s dL_law_26 rfl rfl ?_
        refine x_iload_n dL_law_27 rfl rfl ?_
        refine x_sald (j := i) dL_law_28 rfl (by omega) hL31 ?_
        refine x_bipush (y := nI 31) dL_law_29 rfl ?_
        refine x_iand dL_law_31 ?_
        refine x_casti (y := nI 19) hc ?_
        refine x_tabIn (off := 705) (tgt := 737) dL_law_32 (by decide) (by decide) (by decide) (by decide) ?_
        refine x_aload_n dL_law_737 rfl rfl ?_
        refine x_aload_s dL_law_738 rfl rfl ?_
        refine x_iload_n dL_law_739 rfl rfl ?_
        refine x_iconst (y := nI 1) dL_law_740 rfl ?_
        refine x_iadd dL_law_741 ?_
        refine x_casti (y := nI (i + 1)) (nI_add _ _) ?_
        refine x_sald (j := i + 1) dL_law_742 rfl (by omega) hL31 ?_
        refine x_aload_s dL_law_743 rfl rfl ?_
        refine x_iload_n dL_law_744 rfl rfl ?_
        refine x_iconst (y := nI 2) dL_law_745 rfl ?_
        refine x_iadd dL_law_746 ?_
        refine x_casti (y := nI (i + 2)) (nI_add _ _) ?_
        refine x_sald (j := i + 2) dL_law_747 rfl (by omega) hL31 ?_
        refine x_callV (ci := 5) (as := [.int (ev_x X (i + 1)), .int (ev_x X (i + 2))]) dL_law_748 mk_X6_syndrome in_X6_syndrome se_X6_syndrome ml_RL_96 rfl hO0 (by decide) rfl rfl (Nat.le_of_ble_eq_true rfl) h1 ?_
        refine x_aload_n dL_law_751 rfl rfl ?_
        refine x_aload_s dL_law_752 rfl rfl ?_
        refine x_iload_n dL_law_753 rfl rfl ?_
        refine x_iconst (y := nI 1) dL_law_754 rfl ?_
        refine x_iadd dL_law_755 ?_
        refine x_casti (y := nI (i + 1)) (nI_add _ _) ?_
        refine x_sald (j := i + 1) dL_law_756 rfl (by omega) hL31 ?_
        refine x_aload_s dL_law_757 rfl rfl ?_
        refine x_iload_n dL_law_758 rfl rfl ?_
        refine x_iconst (y := nI 2) dL_law_759 rfl ?_
        refine x_iadd dL_law_760 ?_
        refine x_casti (y := nI (i + 2)) (nI_add _ _) ?_
        refine x_sald (j := i + 2) dL_law_761 rfl (by omega) hL31 ?_
        refine x_callV (ci := 6) (as := [.int (ev_x X (i + 1)), .int (ev_x X (i + 2))]) dL_law_762 mk_X7_syndrome in_X7_syndrome se_X7_syndrome ml_RL_99 rfl hO1_ (by decide) rfl rfl (Nat.le_of_ble_eq_true rfl) h2 ?_
        refine x_icmp_eq (tgt := 882) dL_law_765 (by decide) (fun _ => ?_) (fun h => False.elim (h rfl))
        refine x_iinc (y := nI (i + 4)) (ls' := [some (.retAddr 0), some (.ref (0)), some (.ref (138)), some (.int (nI (i + 4)))]) dL_law_882 (by decide) rfl rfl (ii_add _ 4) rfl ?_
        refine x_goto (tgt := 18) dL_law_885 (by decide) ?_
        exact hk
      by_cases e20 : c = 20
      · subst e20
        obtain ⟨v, M1, M2, h1, h2, hR2, h138⟩ := Q_copy (X := X) hR (z0 := ev_x X (i + 1)) (z1 := ev_x X (i + 2))
        have hO1_ := h138.trans hO1
        obtain ⟨M', hk, hRE⟩ := ih (i + 4) M2 (by omega) (by omega) (by omega) hR2
        refine ⟨M', ?_, hRE⟩
        refine x_iload_n dL_law_18 rfl rfl ?_
        refine x_aload_s dL_law_19 rfl rfl ?_
        refine x_slen dL_law_20 ?_
        refine x_iconst (y := nI 4) dL_law_21 rfl ?_
        refine x_isub dL_law_22 ?_
        refine x_icmp_gt (tgt := 888) dL_law_23 (by decide) (fun h => False.elim (absurd ((lw_c hL (by omega)).mp h) (by omega))) (fun _ => ?_)
        refine x_aload_s dL_law_26 rfl rfl ?_
        refine x_iload_n dL_law_27 rfl rfl ?_
        refine x_sald (j := i) dL_law_28 rfl (by omega) hL31 ?_
        refine x_bipush (y := nI 31) dL_law_29 rfl ?_
        refine x_iand dL_law_31 ?_
        refine x_casti (y := nI 20) hc ?_
        refine x_tabIn (off := 738) (tgt := 770) dL_law_32 (by decide) (by decide) (by decide) (by decide) ?_
        refine x_aload_n dL_law_770 rfl rfl ?_
        refine x_aload_s dL_law_771 rfl rfl ?_
        refine x_iload_n dL_law_772 rfl rfl ?_
        refine x_iconst (y := nI 1) dL_law_773 rfl ?_
        refine x_iadd dL_law_774 ?_
        refine x_casti (y := nI (i + 1)) (nI_add _ _) ?_
        refine x_sald (j := i + 1) dL_law_775 rfl (by omega) hL31 ?_
        refine x_aload_s dL_law_776 rfl rfl ?_
        refine x_iload_n dL_law_777 rfl rfl ?_
        refine x_iconst (y := nI 2) dL_law_778 rfl ?_
        refine x_iadd dL_law_779 ?_
        refine x_casti (y := nI (i + 2)) (nI_add _ _) ?_
        refine x_sald (j := i + 2) dL_law_780 rfl (by omega) hL31 ?_
        refine x_callV (ci := 5) (as := [.int (ev_x X (i + 1)), .int (ev_x X (i + 2))]) dL_law_781 mk_X6_copy in_X6_copy se_X6_copy ml_RL_100 rfl hO0 (by decide) rfl rfl (Nat.le_of_ble_eq_true rfl) h1 ?_
        refine x_aload_n dL_law_784 rfl rfl ?_
        refine x_aload_s dL_law_785 rfl rfl ?_
        refine x_iload_n dL_law_786 rfl rfl ?_
        refine x_iconst (y := nI 1) dL_law_787 rfl ?_
        refine x_iadd dL_law_788 ?_
        refine x_casti (y := nI (i + 1)) (nI_add _ _) ?_
        refine x_sald (j := i + 1) dL_law_789 rfl (by omega) hL31 ?_
        refine x_aload_s dL_law_790 rfl rfl ?_
        refine x_iload_n dL_law_791 rfl rfl ?_
        refine x_iconst (y := nI 2) dL_law_792 rfl ?_
        refine x_iadd dL_law_793 ?_
        refine x_casti (y := nI (i + 2)) (nI_add _ _) ?_
        refine x_sald (j := i + 2) dL_law_794 rfl (by omega) hL31 ?_
        refine x_callV (ci := 6) (as := [.int (ev_x X (i + 1)), .int (ev_x X (i + 2))]) dL_law_795 mk_X7_copy in_X7_copy se_X7_copy ml_RL_103 rfl hO1_ (by decide) rfl rfl (Nat.le_of_ble_eq_true rfl) h2 ?_
        refine x_icmp_eq (tgt := 882) dL_law_798 (by decide) (fun _ => ?_) (fun h => False.elim (h rfl))
        refine x_iinc (y := nI (i + 4)) (ls' := [some (.retAddr 0), some (.ref (0)), some (.ref (138)), some (.int (nI (i + 4)))]) dL_law_882 (by decide) rfl rfl (ii_add _ 4) rfl ?_
        refine x_goto (tgt := 18) dL_law_885 (by decide) ?_
        exact hk
      by_cases e21 : c = 21
      · subst e21
        obtain ⟨v, M1, M2, h1, h2, hR2, h138⟩ := Q_refresh (X := X) hR (z0 := ev_x X (i + 1))
        have hO1_ := h138.trans hO1
        obtain ⟨M', hk, hRE⟩ := ih (i + 4) M2 (by omega) (by omega) (by omega) hR2
        refine ⟨M', ?_, hRE⟩
        refine x_iload_n dL_law_18 rfl rfl ?_
        refine x_aload_s dL_law_19 rfl rfl ?_
        refine x_slen dL_law_20 ?_
        refine x_iconst (y := nI 4) dL_law_21 rfl ?_
        refine x_isub dL_law_22 ?_
        refine x_icmp_gt (tgt := 888) dL_law_23 (by decide) (fun h => False.elim (absurd ((lw_c hL (by omega)).mp h) (by omega))) (fun _ => ?_)
        refine x_aload_s dL_law_26 rfl rfl ?_
        refine x_iload_n dL_law_27 rfl rfl ?_
        refine x_sald (j := i) dL_law_28 rfl (by omega) hL31 ?_
        refine x_bipush (y := nI 31) dL_law_29 rfl ?_
        refine x_iand dL_law_31 ?_
        refine x_casti (y := nI 21) hc ?_
        refine x_tabIn (off := 771) (tgt := 803) dL_law_32 (by decide) (by decide) (by decide) (by decide) ?_
        refine x_aload_n dL_law_803 rfl rfl ?_
        refine x_aload_s dL_law_804 rfl rfl ?_
        refine x_iload_n dL_law_805 rfl rfl ?_
        refine x_iconst (y := nI 1) dL_law_806 rfl ?_
        refine x_iadd dL_law_807 ?_
        refine x_casti (y := nI (i + 1)) (nI_add _ _) ?_
        refine x_sald (j := i + 1) dL_law_808 rfl (by omega) hL31 ?_
        refine x_callV (ci := 5) (as := [.int (ev_x X (i + 1))]) dL_law_809 mk_X6_refresh in_X6_refresh se_X6_refresh ml_RL_104 rfl hO0 (by decide) rfl rfl (Nat.le_of_ble_eq_true rfl) h1 ?_
        refine x_aload_n dL_law_812 rfl rfl ?_
        refine x_aload_s dL_law_813 rfl rfl ?_
        refine x_iload_n dL_law_814 rfl rfl ?_
        refine x_iconst (y := nI 1) dL_law_815 rfl ?_
        refine x_iadd dL_law_816 ?_
        refine x_casti (y := nI (i + 1)) (nI_add _ _) ?_
        refine x_sald (j := i + 1) dL_law_817 rfl (by omega) hL31 ?_
        refine x_callV (ci := 6) (as := [.int (ev_x X (i + 1))]) dL_law_818 mk_X7_refresh in_X7_refresh se_X7_refresh ml_RL_107 rfl hO1_ (by decide) rfl rfl (Nat.le_of_ble_eq_true rfl) h2 ?_
        refine x_icmp_eq (tgt := 882) dL_law_821 (by decide) (fun _ => ?_) (fun h => False.elim (h rfl))
        refine x_iinc (y := nI (i + 4)) (ls' := [some (.retAddr 0), some (.ref (0)), some (.ref (138)), some (.int (nI (i + 4)))]) dL_law_882 (by decide) rfl rfl (ii_add _ 4) rfl ?_
        refine x_goto (tgt := 18) dL_law_885 (by decide) ?_
        exact hk
      by_cases e22 : c = 22
      · subst e22
        obtain ⟨v, M1, M2, h1, h2, hR2, h138⟩ := Q_told (X := X) hR (z0 := ev_x X (i + 1)) (z1 := ev_x X (i + 2))
        have hO1_ := h138.trans hO1
        obtain ⟨M', hk, hRE⟩ := ih (i + 4) M2 (by omega) (by omega) (by omega) hR2
        refine ⟨M', ?_, hRE⟩
        refine x_iload_n dL_law_18 rfl rfl ?_
        refine x_aload_s dL_law_19 rfl rfl ?_
        refine x_slen dL_law_20 ?_
        refine x_iconst (y := nI 4) dL_law_21 rfl ?_
        refine x_isub dL_law_22 ?_
        refine x_icmp_gt (tgt := 888) dL_law_23 (by decide) (fun h => False.elim (absurd ((lw_c hL (by omega)).mp h) (by omega))) (fun _ => ?_)
        refine x_aload_s dL_law_26 rfl rfl ?_
        refine x_iload_n dL_law_27 rfl rfl ?_
        refine x_sald (j := i) dL_law_28 rfl (by omega) hL31 ?_
        refine x_bipush (y := nI 31) dL_law_29 rfl ?_
        refine x_iand dL_law_31 ?_
        refine x_casti (y := nI 22) hc ?_
        refine x_tabIn (off := 794) (tgt := 826) dL_law_32 (by decide) (by decide) (by decide) (by decide) ?_
        refine x_aload_n dL_law_826 rfl rfl ?_
        refine x_aload_s dL_law_827 rfl rfl ?_
        refine x_iload_n dL_law_828 rfl rfl ?_
        refine x_iconst (y := nI 1) dL_law_829 rfl ?_
        refine x_iadd dL_law_830 ?_
        refine x_casti (y := nI (i + 1)) (nI_add _ _) ?_
        refine x_sald (j := i + 1) dL_law_831 rfl (by omega) hL31 ?_
        refine x_aload_s dL_law_832 rfl rfl ?_
        refine x_iload_n dL_law_833 rfl rfl ?_
        refine x_iconst (y := nI 2) dL_law_834 rfl ?_
        refine x_iadd dL_law_835 ?_
        refine x_casti (y := nI (i + 2)) (nI_add _ _) ?_
        refine x_sald (j := i + 2) dL_law_836 rfl (by omega) hL31 ?_
        refine x_callV (ci := 5) (as := [.int (ev_x X (i + 1)), .int (ev_x X (i + 2))]) dL_law_837 mk_X6_told in_X6_told se_X6_told ml_RL_108 rfl hO0 (by decide) rfl rfl (Nat.le_of_ble_eq_true rfl) h1 ?_
        refine x_aload_n dL_law_840 rfl rfl ?_
        refine x_aload_s dL_law_841 rfl rfl ?_
        refine x_iload_n dL_law_842 rfl rfl ?_
        refine x_iconst (y := nI 1) dL_law_843 rfl ?_
        refine x_iadd dL_law_844 ?_
        refine x_casti (y := nI (i + 1)) (nI_add _ _) ?_
        refine x_sald (j := i + 1) dL_law_845 rfl (by omega) hL31 ?_
        refine x_aload_s dL_law_846 rfl rfl ?_
        refine x_iload_n dL_law_847 rfl rfl ?_
        refine x_iconst (y := nI 2) dL_law_848 rfl ?_
        refine x_iadd dL_law_849 ?_
        refine x_casti (y := nI (i + 2)) (nI_add _ _) ?_
        refine x_sald (j := i + 2) dL_law_850 rfl (by omega) hL31 ?_
        refine x_callV (ci := 6) (as := [.int (ev_x X (i + 1)), .int (ev_x X (i + 2))]) dL_law_851 mk_X7_told in_X7_told se_X7_told ml_RL_111 rfl hO1_ (by decide) rfl rfl (Nat.le_of_ble_eq_true rfl) h2 ?_
        refine x_icmp_eq (tgt := 882) dL_law_854 (by decide) (fun _ => ?_) (fun h => False.elim (h rfl))
        refine x_iinc (y := nI (i + 4)) (ls' := [some (.retAddr 0), some (.ref (0)), some (.ref (138)), some (.int (nI (i + 4)))]) dL_law_882 (by decide) rfl rfl (ii_add _ 4) rfl ?_
        refine x_goto (tgt := 18) dL_law_885 (by decide) ?_
        exact hk
      by_cases e23 : c = 23
      · subst e23
        obtain ⟨v, M1, M2, h1, h2, hR2, h138⟩ := Q_about (X := X) hR (z0 := ev_x X (i + 1))
        have hO1_ := h138.trans hO1
        obtain ⟨M', hk, hRE⟩ := ih (i + 4) M2 (by omega) (by omega) (by omega) hR2
        refine ⟨M', ?_, hRE⟩
        refine x_iload_n dL_law_18 rfl rfl ?_
        refine x_aload_s dL_law_19 rfl rfl ?_
        refine x_slen dL_law_20 ?_
        refine x_iconst (y := nI 4) dL_law_21 rfl ?_
        refine x_isub dL_law_22 ?_
        refine x_icmp_gt (tgt := 888) dL_law_23 (by decide) (fun h => False.elim (absurd ((lw_c hL (by omega)).mp h) (by omega))) (fun _ => ?_)
        refine x_aload_s dL_law_26 rfl rfl ?_
        refine x_iload_n dL_law_27 rfl rfl ?_
        refine x_sald (j := i) dL_law_28 rfl (by omega) hL31 ?_
        refine x_bipush (y := nI 31) dL_law_29 rfl ?_
        refine x_iand dL_law_31 ?_
        refine x_casti (y := nI 23) hc ?_
        refine x_tabIn (off := 827) (tgt := 859) dL_law_32 (by decide) (by decide) (by decide) (by decide) ?_
        refine x_aload_n dL_law_859 rfl rfl ?_
        refine x_aload_s dL_law_860 rfl rfl ?_
        refine x_iload_n dL_law_861 rfl rfl ?_
        refine x_iconst (y := nI 1) dL_law_862 rfl ?_
        refine x_iadd dL_law_863 ?_
        refine x_casti (y := nI (i + 1)) (nI_add _ _) ?_
        refine x_sald (j := i + 1) dL_law_864 rfl (by omega) hL31 ?_
        refine x_callV (ci := 5) (as := [.int (ev_x X (i + 1))]) dL_law_865 mk_X6_about in_X6_about se_X6_about ml_RL_112 rfl hO0 (by decide) rfl rfl (Nat.le_of_ble_eq_true rfl) h1 ?_
        refine x_aload_n dL_law_868 rfl rfl ?_
        refine x_aload_s dL_law_869 rfl rfl ?_
        refine x_iload_n dL_law_870 rfl rfl ?_
        refine x_iconst (y := nI 1) dL_law_871 rfl ?_
        refine x_iadd dL_law_872 ?_
        refine x_casti (y := nI (i + 1)) (nI_add _ _) ?_
        refine x_sald (j := i + 1) dL_law_873 rfl (by omega) hL31 ?_
        refine x_callV (ci := 6) (as := [.int (ev_x X (i + 1))]) dL_law_874 mk_X7_about in_X7_about se_X7_about ml_RL_115 rfl hO1_ (by decide) rfl rfl (Nat.le_of_ble_eq_true rfl) h2 ?_
        refine x_icmp_eq (tgt := 882) dL_law_877 (by decide) (fun _ => ?_) (fun h => False.elim (h rfl))
        refine x_iinc (y := nI (i + 4)) (ls' := [some (.retAddr 0), some (.ref (0)), some (.ref (138)), some (.int (nI (i + 4)))]) dL_law_882 (by decide) rfl rfl (ii_add _ 4) rfl ?_
        refine x_goto (tgt := 18) dL_law_885 (by decide) ?_
        exact hk
      obtain ⟨M', hk, hRE⟩ := ih (i + 4) M (by omega) (by omega) (by omega) hR
      refine ⟨M', ?_, hRE⟩
      refine x_iload_n dL_law_18 rfl rfl ?_
      refine x_aload_s dL_law_19 rfl rfl ?_
      refine x_slen dL_law_20 ?_
      refine x_iconst (y := nI 4) dL_law_21 rfl ?_
      refine x_isub dL_law_22 ?_
      refine x_icmp_gt (tgt := 888) dL_law_23 (by decide) (fun h => False.elim (absurd ((lw_c hL (by omega)).mp h) (by omega))) (fun _ => ?_)
      refine x_aload_s dL_law_26 rfl rfl ?_
      refine x_iload_n dL_law_27 rfl rfl ?_
      refine x_sald (j := i) dL_law_28 rfl (by omega) hL31 ?_
      refine x_bipush (y := nI 31) dL_law_29 rfl ?_
      refine x_iand dL_law_31 ?_
      refine x_casti (y := nI c) hc ?_
      refine x_tabOut (tgt := 882) dL_law_32 (Or.inr (by rw [nI_toInt (by omega)]; omega)) (by decide) ?_
      refine x_iinc (y := nI (i + 4)) (ls' := [some (.retAddr 0), some (.ref (0)), some (.ref (138)), some (.int (nI (i + 4)))]) dL_law_882 (by decide) rfl rfl (ii_add _ 4) rfl ?_
      refine x_goto (tgt := 18) dL_law_885 (by decide) ?_
      exact hk
