/-! PAGEMENDER: all its places -/
/-- a page: its wear, bits, stuck, marks -/
abbrev Pg : Type := Int32 × (Nat → Int64) × (Nat → Int64) × (Nat → Int64)
def pgu (pg : Nat → Pg) (i : Nat) (x : Pg) : Nat → Pg := fun j => if j = i then x else pg j
def XL (op ra rr rl : Int32) (m t d r n : Nat) (pw lg cf : Nat → Int32) (gp : Nat → Bool) (hs ls on : Nat → Int64) (s : Ms) (pg : Nat → Pg) (uf tf : Nat → Int64) (M : Hp) : Prop := M[0]? = some (.inr (5, [.ref (1), .ref (5), .ref (12), .ref (21), .ref (134), .ref (136), .int (op), .int (ra), .int (rr), .int (rl)])) ∧ M[1]? = some (.inr (1, [.ref (2), .ref (3), .ref (4), .int (nI m), .int (nI (2 ^ m - 1))])) ∧ M[2]? = some (.inl (0, 8192, .inl (pw))) ∧ M[3]? = some (.inl (0, 8192, .inl (lg))) ∧ M[4]? = some (.inl (0, 14, .inl (cf))) ∧ M[5]? = some (.inr (0, [.ref (1), .ref (6), .ref (7), .ref (8), .ref (9), .ref (10), .int (nI t), .int (nI d), .int (nI r), .int (nI n), .long (s.1.1), .long (s.1.2)])) ∧ M[6]? = some (.inl (0, 105, .inl (fun j => nI ((gp) j).toNat))) ∧ M[7]? = some (.inl (1, 256, .inr (.inl (hs)))) ∧ M[8]? = some (.inl (1, 256, .inr (.inl (ls)))) ∧ M[9]? = some (.inl (0, 104, .inl (s.2.1))) ∧ M[10]? = some (.inr (4, [.ref (11)])) ∧ M[11]? = some (.inl (1, 34, .inr (.inl (on)))) ∧ M[12]? = some (.inr (2, [.ref (1), .ref (5), .ref (13), .ref (15), .ref (16), .ref (17), .ref (18), .ref (19), .ref (20)])) ∧ M[13]? = some (.inr (4, [.ref (14)])) ∧ M[14]? = some (.inl (1, 34, .inr (.inl (s.2.2.1)))) ∧ M[15]? = some (.inl (0, 17, .inl (fun j => nI ((s.2.2.2.1) j)))) ∧ M[16]? = some (.inl (0, 17, .inl (fun j => nI ((s.2.2.2.2.1) j)))) ∧ M[17]? = some (.inl (0, 17, .inl (fun j => nI ((s.2.2.2.2.2.1) j)))) ∧ M[18]? = some (.inl (0, 17, .inl (fun j => nI ((s.2.2.2.2.2.2.1) j)))) ∧ M[19]? = some (.inl (0, 9, .inl (fun j => lgv ((s.2.2.2.2.2.2.2.1) j)))) ∧ M[20]? = some (.inl (0, 8, .inl (fun j => nI ((s.2.2.2.2.2.2.2.2) j)))) ∧ M[21]? = some (.inl (3, 16, .inr (.inr (.inr (.inr (pgs 16)))))) ∧ (∀ i, i < 16 → PgC M (22 + 7 * i) (pg i).1 (pg i).2.1 (pg i).2.2.1 (pg i).2.2.2) ∧ M[134]? = some (.inr (4, [.ref (135)])) ∧ M[135]? = some (.inl (1, 34, .inr (.inl (uf)))) ∧ M[136]? = some (.inr (4, [.ref (137)])) ∧ M[137]? = some (.inl (1, 34, .inr (.inl (tf))))
/-- the places of the model are left as they were -/
def Hi (M M' : Hp) : Prop := M'.length = M.length ∧ ∀ p, 138 ≤ p → M'[p]? = M[p]?
theorem Hi.rf (M : Hp) : Hi M M := ⟨rfl, fun _ _ => rfl⟩
theorem Hi.tr {M M1 M2 : Hp} (h : Hi M M1) (h2 : Hi M1 M2) : Hi M M2 := ⟨h2.1.trans h.1, fun p hp => (h2.2 p hp).trans (h.2 p hp)⟩
theorem Hi.st {M M1 : Hp} {p : Nat} {c : Cel} (h : Hi M M1) (hp : p < 138) : Hi M (M1.set p c) := ⟨by rw [List.length_set]; exact h.1, fun q hq => by rw [List.getElem?_set_ne (by omega)]; exact h.2 q hq⟩
theorem PgC.ag {M M' : Hp} {g : Nat} {wr : Int32} {bf sf kf : Nat → Int64} (h : PgC M g wr bf sf kf) (hA : ∀ p, g ≤ p → p ≤ g + 6 → M'[p]? = M[p]?) : PgC M' g wr bf sf kf := ⟨(hA _ (by omega) (by omega)).trans h.1, (hA _ (by omega) (by omega)).trans h.2.1, (hA _ (by omega) (by omega)).trans h.2.2.1, (hA _ (by omega) (by omega)).trans h.2.2.2.1, (hA _ (by omega) (by omega)).trans h.2.2.2.2.1, (hA _ (by omega) (by omega)).trans h.2.2.2.2.2.1, (hA _ (by omega) (by omega)).trans h.2.2.2.2.2.2⟩
theorem XL.page {op ra rr rl : Int32} {m t d r n : Nat} {pw lg cf : Nat → Int32} {gp : Nat → Bool} {hs ls on : Nat → Int64} {s : Ms} {pg : Nat → Pg} {uf tf : Nat → Int64} {M M' : Hp} (h : XL op ra rr rl m t d r n pw lg cf gp hs ls on s pg uf tf M) {i : Nat} (hi : i < 16) {x : Pg} (hA : ∀ p, p < 22 + 7 * i ∨ 28 + 7 * i < p → M'[p]? = M[p]?) (hC : PgC M' (22 + 7 * i) x.1 x.2.1 x.2.2.1 x.2.2.2) : XL op ra rr rl m t d r n pw lg cf gp hs ls on s (pgu pg i x) uf tf M' := by
  obtain ⟨h0, hf, hp, hq, hc, ho, hpl, hh, hl, hrs, hR, hon, hm, hw, hwf, hsy, hlc, hea, hsp, hlg, hwr, h21, hP, hBu, hbu, hTu, htu⟩ := h
  have hcc : ∀ p, p < 22 ∨ 133 < p → M'[p]? = M[p]? := fun p hp => hA p (by omega)
  refine ⟨(hcc _ (by decide)).trans h0, (hcc _ (by decide)).trans hf, (hcc _ (by decide)).trans hp, (hcc _ (by decide)).trans hq, (hcc _ (by decide)).trans hc, (hcc _ (by decide)).trans ho, (hcc _ (by decide)).trans hpl, (hcc _ (by decide)).trans hh, (hcc _ (by decide)).trans hl, (hcc _ (by decide)).trans hrs, (hcc _ (by decide)).trans hR, (hcc _ (by decide)).trans hon, (hcc _ (by decide)).trans hm, (hcc _ (by decide)).trans hw, (hcc _ (by decide)).trans hwf, (hcc _ (by decide)).trans hsy, (hcc _ (by decide)).trans hlc, (hcc _ (by decide)).trans hea, (hcc _ (by decide)).trans hsp, (hcc _ (by decide)).trans hlg, (hcc _ (by decide)).trans hwr, (hcc _ (by decide)).trans h21, fun j hj => ?_, (hcc _ (by decide)).trans hBu, (hcc _ (by decide)).trans hbu, (hcc _ (by decide)).trans hTu, (hcc _ (by decide)).trans htu⟩
  by_cases hji : j = i
  · subst hji; unfold pgu; rw [if_pos rfl]; exact hC
  · unfold pgu; rw [if_neg hji]; exact (hP j hj).ag (fun p h1 h2 => hA p (by omega))
theorem XL.ms {op ra rr rl : Int32} {m t d r n : Nat} {pw lg cf : Nat → Int32} {gp : Nat → Bool} {hs ls on : Nat → Int64} {s : Ms} {pg : Nat → Pg} {uf tf : Nat → Int64} {M : Hp} (h : XL op ra rr rl m t d r n pw lg cf gp hs ls on s pg uf tf M) (s1 : Ms) : XL op ra rr rl m t d r n pw lg cf gp hs ls on s1 pg uf tf (((((((((M.set (5) (.inr (0, [.ref (1), .ref (6), .ref (7), .ref (8), .ref (9), .ref (10), .int (nI t), .int (nI d), .int (nI r), .int (nI n), .long (s1.1.1), .long (s1.1.2)]))).set (9) (.inl (0, 104, .inl (s1.2.1)))).set (14) (.inl (1, 34, .inr (.inl (s1.2.2.1))))).set (15) (.inl (0, 17, .inl (fun j => nI ((s1.2.2.2.1) j))))).set (16) (.inl (0, 17, .inl (fun j => nI ((s1.2.2.2.2.1) j))))).set (17) (.inl (0, 17, .inl (fun j => nI ((s1.2.2.2.2.2.1) j))))).set (18) (.inl (0, 17, .inl (fun j => nI ((s1.2.2.2.2.2.2.1) j))))).set (19) (.inl (0, 9, .inl (fun j => lgv ((s1.2.2.2.2.2.2.2.1) j))))).set (20) (.inl (0, 8, .inl (fun j => nI ((s1.2.2.2.2.2.2.2.2) j))))) := by
  obtain ⟨h0, hf, hp, hq, hc, ho, hpl, hh, hl, hrs, hR, hon, hm, hw, hwf, hsy, hlc, hea, hsp, hlg, hwr, h21, hP, hBu, hbu, hTu, htu⟩ := h
  exact ⟨(gn (gn (gn (gn (gn (gn (gn (gn (gn h0 (by decide)) (by decide)) (by decide)) (by decide)) (by decide)) (by decide)) (by decide)) (by decide)) (by decide)), (gn (gn (gn (gn (gn (gn (gn (gn (gn hf (by decide)) (by decide)) (by decide)) (by decide)) (by decide)) (by decide)) (by decide)) (by decide)) (by decide)), (gn (gn (gn (gn (gn (gn (gn (gn (gn hp (by decide)) (by decide)) (by decide)) (by decide)) (by decide)) (by decide)) (by decide)) (by decide)) (by decide)), (gn (gn (gn (gn (gn (gn (gn (gn (gn hq (by decide)) (by decide)) (by decide)) (by decide)) (by decide)) (by decide)) (by decide)) (by decide)) (by decide)), (gn (gn (gn (gn (gn (gn (gn (gn (gn hc (by decide)) (by decide)) (by decide)) (by decide)) (by decide)) (by decide)) (by decide)) (by decide)) (by decide)), (gn (gn (gn (gn (gn (gn (gn (gn (gs ho) (by decide)) (by decide)) (by decide)) (by decide)) (by decide)) (by decide)) (by decide)) (by decide)), (gn (gn (gn (gn (gn (gn (gn (gn (gn hpl (by decide)) (by decide)) (by decide)) (by decide)) (by decide)) (by decide)) (by decide)) (by decide)) (by decide)), (gn (gn (gn (gn (gn (gn (gn (gn (gn hh (by decide)) (by decide)) (by decide)) (by decide)) (by decide)) (by decide)) (by decide)) (by decide)) (by decide)), (gn (gn (gn (gn (gn (gn (gn (gn (gn hl (by decide)) (by decide)) (by decide)) (by decide)) (by decide)) (by decide)) (by decide)) (by decide)) (by decide)), (gn (gn (gn (gn (gn (gn (gn (gs (gn hrs (by decide))) (by decide)) (by decide)) (by decide)) (by decide)) (by decide)) (by decide)) (by decide)), (gn (gn (gn (gn (gn (gn (gn (gn (gn hR (by decide)) (by decide)) (by decide)) (by decide)) (by decide)) (by decide)) (by decide)) (by decide)) (by decide)), (gn (gn (gn (gn (gn (gn (gn (gn (gn hon (by decide)) (by decide)) (by decide)) (by decide)) (by decide)) (by decide)) (by decide)) (by decide)) (by decide)), (gn (gn (gn (gn (gn (gn (gn (gn (gn hm (by decide)) (by decide)) (by decide)) (by decide)) (by decide)) (by decide)) (by decide)) (by decide)) (by decide)), (gn (gn (gn (gn (gn (gn (gn (gn (gn hw (by decide)) (by decide)) (by decide)) (by decide)) (by decide)) (by decide)) (by decide)) (by decide)) (by decide)), (gn (gn (gn (gn (gn (gn (gs (gn (gn hwf (by decide)) (by decide))) (by decide)) (by decide)) (by decide)) (by decide)) (by decide)) (by decide)), (gn (gn (gn (gn (gn (gs (gn (gn (gn hsy (by decide)) (by decide)) (by decide))) (by decide)) (by decide)) (by decide)) (by decide)) (by decide)), (gn (gn (gn (gn (gs (gn (gn (gn (gn hlc (by decide)) (by decide)) (by decide)) (by decide))) (by decide)) (by decide)) (by decide)) (by decide)), (gn (gn (gn (gs (gn (gn (gn (gn (gn hea (by decide)) (by decide)) (by decide)) (by decide)) (by decide))) (by decide)) (by decide)) (by decide)), (gn (gn (gs (gn (gn (gn (gn (gn (gn hsp (by decide)) (by decide)) (by decide)) (by decide)) (by decide)) (by decide))) (by decide)) (by decide)), (gn (gs (gn (gn (gn (gn (gn (gn (gn hlg (by decide)) (by decide)) (by decide)) (by decide)) (by decide)) (by decide)) (by decide))) (by decide)), (gs (gn (gn (gn (gn (gn (gn (gn (gn hwr (by decide)) (by decide)) (by decide)) (by decide)) (by decide)) (by decide)) (by decide)) (by decide))), (gn (gn (gn (gn (gn (gn (gn (gn (gn h21 (by decide)) (by decide)) (by decide)) (by decide)) (by decide)) (by decide)) (by decide)) (by decide)) (by decide)), fun j hj => (((((((((hP j hj).lo (Or.inl (by omega))).lo (Or.inl (by omega))).lo (Or.inl (by omega))).lo (Or.inl (by omega))).lo (Or.inl (by omega))).lo (Or.inl (by omega))).lo (Or.inl (by omega))).lo (Or.inl (by omega))).lo (Or.inl (by omega)), (gn (gn (gn (gn (gn (gn (gn (gn (gn hBu (by decide)) (by decide)) (by decide)) (by decide)) (by decide)) (by decide)) (by decide)) (by decide)) (by decide)), (gn (gn (gn (gn (gn (gn (gn (gn (gn hbu (by decide)) (by decide)) (by decide)) (by decide)) (by decide)) (by decide)) (by decide)) (by decide)) (by decide)), (gn (gn (gn (gn (gn (gn (gn (gn (gn hTu (by decide)) (by decide)) (by decide)) (by decide)) (by decide)) (by decide)) (by decide)) (by decide)) (by decide)), (gn (gn (gn (gn (gn (gn (gn (gn (gn htu (by decide)) (by decide)) (by decide)) (by decide)) (by decide)) (by decide)) (by decide)) (by decide)) (by decide))⟩
theorem Hi.ms {t d r n : Nat} {M : Hp} (s1 : Ms) : Hi M (((((((((M.set (5) (.inr (0, [.ref (1), .ref (6), .ref (7), .ref (8), .ref (9), .ref (10), .int (nI t), .int (nI d), .int (nI r), .int (nI n), .long (s1.1.1), .long (s1.1.2)]))).set (9) (.inl (0, 104, .inl (s1.2.1)))).set (14) (.inl (1, 34, .inr (.inl (s1.2.2.1))))).set (15) (.inl (0, 17, .inl (fun j => nI ((s1.2.2.2.1) j))))).set (16) (.inl (0, 17, .inl (fun j => nI ((s1.2.2.2.2.1) j))))).set (17) (.inl (0, 17, .inl (fun j => nI ((s1.2.2.2.2.2.1) j))))).set (18) (.inl (0, 17, .inl (fun j => nI ((s1.2.2.2.2.2.2.1) j))))).set (19) (.inl (0, 9, .inl (fun j => lgv ((s1.2.2.2.2.2.2.2.1) j))))).set (20) (.inl (0, 8, .inl (fun j => nI ((s1.2.2.2.2.2.2.2.2) j))))) := (((((((((Hi.rf M).st (by decide)).st (by decide)).st (by decide)).st (by decide)).st (by decide)).st (by decide)).st (by decide)).st (by decide)).st (by decide)
theorem mmd_le {c : Mp} {s : Ms} {bf kf : Nat → Int64} {o : Nat} (h : (mmd c s bf kf).2 = some o) : o ≤ 2176 := by
  unfold mmd at h
  split at h
  · cases h
  · split at h
    · cases h; exact rones_le _ 34
    · split at h
      · cases h
      · split at h
        · cases h; exact rones_le _ 34
        · cases h
/-- what refresh does at page i: the mender's state, the pages, how many -/
def rfst (c : Mp) (on : Nat → Int64) (most i : Nat) (x : Ms × (Nat → Pg) × Nat) : Ms × (Nat → Pg) × Nat :=
  match (mmd c x.1 (x.2.1 i).2.1 (x.2.1 i).2.2.2).2 with
  | none => ((mmd c x.1 (x.2.1 i).2.1 (x.2.1 i).2.2.2).1, x.2.1, x.2.2)
  | some o => if most ≤ o then ((mmd c x.1 (x.2.1 i).2.1 (x.2.1 i).2.2.2).1, pgu x.2.1 i ((x.2.1 i).1 + nI 1, rpg (rwp (x.2.1 i).2.1 on (x.2.1 i).2.2.1 34) (mmd c x.1 (x.2.1 i).2.1 (x.2.1 i).2.2.2).1.2.2.1 (x.2.1 i).2.2.1 34, (x.2.1 i).2.2.1, fun _ => 0), x.2.2 + 1) else ((mmd c x.1 (x.2.1 i).2.1 (x.2.1 i).2.2.2).1, x.2.1, x.2.2)
def rfgo (c : Mp) (on : Nat → Int64) (most : Nat) : Nat → Nat → Ms × (Nat → Pg) × Nat → Ms × (Nat → Pg) × Nat
  | 0, _, x => x
  | z + 1, i, x => rfgo c on most z (i + 1) (rfst c on most i x)
theorem rf_fw {X : Ev} {d' : Nat} {M0 M M' : Hp} {v : Option Value} {pc : Nat} {a b c e j : Value} (kc : G X d' jX6_refresh M0 pc [some a, some b, some c, some e, none] [] M v M') : G X d' jX6_refresh M0 pc [some a, some b, some c, some e, some j] [] M v M' := x_fewer (fun q w h => by match q, h with | 0, h => exact h | 1, h => exact h | 2, h => exact h | 3, h => exact h | 4, h => cases h | q + 5, h => cases h) kc
theorem lp_refresh {X : Ev} {M0 : Hp} {ra rr rl : Int32} {m t d r n : Nat} {pw lg cf : Nat → Int32} {gp : Nat → Bool} {hs ls on : Nat → Int64} {uf tf : Nat → Int64} (hF : FT pw lg m) (hm4 : 4 ≤ m) (ht8 : t ≤ 8) (hd8 : d ≤ 256) (hr8 : r ≤ 104) (hn8 : n = 8 * d + r) (hn1 : 1 ≤ n) {most : Nat} (hmo : most ≤ 64) : ∀ (zz i : Nat) (x : Ms × (Nat → Pg) × Nat) (M : Hp), i + zz = 16 → XL 1 ra rr rl m t d r n pw lg cf gp hs ls on x.1 x.2.1 uf tf M → ∃ M', G X 9 jX6_refresh M0 27 [some (.ref (0)), some (.int (nI most)), some (.int (nI x.2.2)), some (.int (nI i)), none] [] M (some (.int (nI (rfgo ((m, t, d, r, n, hs, ls) : Mp) on most zz i x).2.2))) M' ∧ XL 1 ra rr rl m t d r n pw lg cf gp hs ls on (rfgo ((m, t, d, r, n, hs, ls) : Mp) on most zz i x).1 (rfgo ((m, t, d, r, n, hs, ls) : Mp) on most zz i x).2.1 uf tf M' ∧ Hi M M' := by
  intro zz
  induction zz with
  | zero =>
    intro i x M hi hX
    have hi : i = 16 := by omega
    subst hi
    refine ⟨M, ?_, hX, Hi.rf M⟩
    refine x_iload_n dX6_refresh_27 rfl rfl ?_
    refine x_bipush (y := nI 16) dX6_refresh_28 rfl ?_
    refine x_icmp_ge (tgt := 81) dX6_refresh_30 (by decide) (fun _ => ?_) (fun h => False.elim (h (nI_le (Nat.le_refl _) (by decide))))
    refine x_iload_n dX6_refresh_81 rfl rfl ?_
    exact x_ireturn_eq dX6_refresh_82 rfl rfl
  | succ zz ih =>
    intro i x M hi hX
    obtain ⟨h0, hf, hp, hq, hc, ho, hpl, hh, hl, hrs, hR, hon, hm, hw, hwf, hsy, hlc, hea, hsp, hlg, hwr, h21, hP, hBu, hbu, hTu, htu⟩ := id hX
    obtain ⟨g, hgi⟩ : ∃ g, 22 + 7 * i = g := ⟨_, rfl⟩
    have hi16 : i < 16 := by omega
    have hP_ := hP i hi16
    rw [hgi] at hP_
    show ∃ M', G X 9 jX6_refresh M0 27 [some (.ref (0)), some (.int (nI most)), some (.int (nI x.2.2)), some (.int (nI i)), none] [] M (some (.int (nI (rfgo ((m, t, d, r, n, hs, ls) : Mp) on most zz (i + 1) (rfst ((m, t, d, r, n, hs, ls) : Mp) on most i x)).2.2))) M' ∧ XL 1 ra rr rl m t d r n pw lg cf gp hs ls on (rfgo ((m, t, d, r, n, hs, ls) : Mp) on most zz (i + 1) (rfst ((m, t, d, r, n, hs, ls) : Mp) on most i x)).1 (rfgo ((m, t, d, r, n, hs, ls) : Mp) on most zz (i + 1) (rfst ((m, t, d, r, n, hs, ls) : Mp) on most i x)).2.1 uf tf M' ∧ Hi M M'
    cases hmd : (mmd ((m, t, d, r, n, hs, ls) : Mp) x.1 (x.2.1 i).2.1 (x.2.1 i).2.2.2).2 with
    | none =>
      have e : rfst ((m, t, d, r, n, hs, ls) : Mp) on most i x = ((mmd ((m, t, d, r, n, hs, ls) : Mp) x.1 (x.2.1 i).2.1 (x.2.1 i).2.2.2).1, x.2.1, x.2.2) := by unfold rfst; rw [hmd]
      rw [e]
      obtain ⟨M', hk, hX2, hH⟩ := ih (i + 1) ((mmd ((m, t, d, r, n, hs, ls) : Mp) x.1 (x.2.1 i).2.1 (x.2.1 i).2.2.2).1, x.2.1, x.2.2) _ (by omega) (hX.ms (mmd ((m, t, d, r, n, hs, ls) : Mp) x.1 (x.2.1 i).2.1 (x.2.1 i).2.2.2).1)
      refine ⟨M', ?_, hX2, (Hi.ms _).tr hH⟩
      refine x_iload_n dX6_refresh_27 rfl rfl ?_
      refine x_bipush (y := nI 16) dX6_refresh_28 rfl ?_
      refine x_icmp_ge (tgt := 81) dX6_refresh_30 (by decide) (fun h => False.elim (nI_ge (by omega : i < 16) (by decide) h)) (fun _ => ?_)
      refine x_aload_n dX6_refresh_33 rfl rfl ?_
      refine x_getf (ci := 5) (kf := 2) dX6_refresh_34 rfl uX6 (by decide) fl_RX6_30 h0 rfl ?_
      refine x_aload_n dX6_refresh_37 rfl rfl ?_
      refine x_getf (ci := 5) (kf := 3) dX6_refresh_38 rfl uX6 (by decide) fl_RX6_36 h0 rfl ?_
      refine x_iload_n dX6_refresh_41 rfl rfl ?_
      refine x_ald (j := i) dX6_refresh_42 h21 rfl (by omega) (by decide) (pgs_at hi16 hgi) ?_
      refine x_callV (ci := 2) (as := [.ref (g)]) dX6_refresh_43 mk_X3_mend in_X3_mend se_X3_mend ml_RX6_180 rfl hm (by decide) rfl rfl (Nat.le_of_ble_eq_true rfl) (c_mend (s := x.1) hm hf hp hq hF hm4 ht8 hd8 hr8 hn8 hn1 hh hl hw ho hrs hwf hsy hlc hea hsp hlg hwr (by omega) hP_.1 hP_.2.1 hP_.2.2.1 hP_.2.2.2.2.2.1 hP_.2.2.2.2.2.2) ?_
      refine x_casti (y := -4) (by rw [hmd]; rfl) ?_
      refine x_istore (ls' := [some (.ref (0)), some (.int (nI most)), some (.int (nI x.2.2)), some (.int (nI i)), some (.int (-4))]) dX6_refresh_46 (by decide) rfl rfl ?_
      refine x_iload dX6_refresh_48 rfl ?_
      refine x_bipush (y := -4) dX6_refresh_50 rfl ?_
      refine x_icmp_eq (tgt := 75) dX6_refresh_52 (by decide) (fun _ => ?_) (fun h => False.elim (h rfl))
      refine x_iinc (y := nI (i + 1)) (ls' := [some (.ref (0)), some (.int (nI most)), some (.int (nI x.2.2)), some (.int (nI (i + 1))), some (.int (-4))]) dX6_refresh_75 (by decide) rfl rfl (ii_add _ 1) rfl ?_
      refine x_goto (tgt := 27) dX6_refresh_78 (by decide) ?_
      refine rf_fw ?_
      exact hk
    | some o =>
      have ho21 := mmd_le hmd
      by_cases hm1 : most ≤ o
      · have e : rfst ((m, t, d, r, n, hs, ls) : Mp) on most i x = ((mmd ((m, t, d, r, n, hs, ls) : Mp) x.1 (x.2.1 i).2.1 (x.2.1 i).2.2.2).1, pgu x.2.1 i ((x.2.1 i).1 + nI 1, rpg (rwp (x.2.1 i).2.1 on (x.2.1 i).2.2.1 34) (mmd ((m, t, d, r, n, hs, ls) : Mp) x.1 (x.2.1 i).2.1 (x.2.1 i).2.2.2).1.2.2.1 (x.2.1 i).2.2.1 34, (x.2.1 i).2.2.1, fun _ => 0), x.2.2 + 1) := by unfold rfst; rw [hmd]; exact if_pos hm1
        rw [e]
        have hX1 := hX.ms (mmd ((m, t, d, r, n, hs, ls) : Mp) x.1 (x.2.1 i).2.1 (x.2.1 i).2.2.2).1
        have hP1 := hX1.2.2.2.2.2.2.2.2.2.2.2.2.2.2.2.2.2.2.2.2.2.2.1 i hi16
        rw [hgi] at hP1
        obtain ⟨M', hk, hX2, hH⟩ := ih (i + 1) ((mmd ((m, t, d, r, n, hs, ls) : Mp) x.1 (x.2.1 i).2.1 (x.2.1 i).2.2.2).1, pgu x.2.1 i ((x.2.1 i).1 + nI 1, rpg (rwp (x.2.1 i).2.1 on (x.2.1 i).2.2.1 34) (mmd ((m, t, d, r, n, hs, ls) : Mp) x.1 (x.2.1 i).2.1 (x.2.1 i).2.2.2).1.2.2.1 (x.2.1 i).2.2.1 34, (x.2.1 i).2.2.1, fun _ => 0), x.2.2 + 1) ((((((((((((M.set (5) (.inr (0, [.ref (1), .ref (6), .ref (7), .ref (8), .ref (9), .ref (10), .int (nI t), .int (nI d), .int (nI r), .int (nI n), .long ((mmd ((m, t, d, r, n, hs, ls) : Mp) x.1 (x.2.1 i).2.1 (x.2.1 i).2.2.2).1.1.1), .long ((mmd ((m, t, d, r, n, hs, ls) : Mp) x.1 (x.2.1 i).2.1 (x.2.1 i).2.2.2).1.1.2)]))).set (9) (.inl (0, 104, .inl ((mmd ((m, t, d, r, n, hs, ls) : Mp) x.1 (x.2.1 i).2.1 (x.2.1 i).2.2.2).1.2.1)))).set (14) (.inl (1, 34, .inr (.inl ((mmd ((m, t, d, r, n, hs, ls) : Mp) x.1 (x.2.1 i).2.1 (x.2.1 i).2.2.2).1.2.2.1))))).set (15) (.inl (0, 17, .inl (fun j => nI (((mmd ((m, t, d, r, n, hs, ls) : Mp) x.1 (x.2.1 i).2.1 (x.2.1 i).2.2.2).1.2.2.2.1) j))))).set (16) (.inl (0, 17, .inl (fun j => nI (((mmd ((m, t, d, r, n, hs, ls) : Mp) x.1 (x.2.1 i).2.1 (x.2.1 i).2.2.2).1.2.2.2.2.1) j))))).set (17) (.inl (0, 17, .inl (fun j => nI (((mmd ((m, t, d, r, n, hs, ls) : Mp) x.1 (x.2.1 i).2.1 (x.2.1 i).2.2.2).1.2.2.2.2.2.1) j))))).set (18) (.inl (0, 17, .inl (fun j => nI (((mmd ((m, t, d, r, n, hs, ls) : Mp) x.1 (x.2.1 i).2.1 (x.2.1 i).2.2.2).1.2.2.2.2.2.2.1) j))))).set (19) (.inl (0, 9, .inl (fun j => lgv (((mmd ((m, t, d, r, n, hs, ls) : Mp) x.1 (x.2.1 i).2.1 (x.2.1 i).2.2.2).1.2.2.2.2.2.2.2.1) j))))).set (20) (.inl (0, 8, .inl (fun j => nI (((mmd ((m, t, d, r, n, hs, ls) : Mp) x.1 (x.2.1 i).2.1 (x.2.1 i).2.2.2).1.2.2.2.2.2.2.2.2) j))))).set (g + 2) (.inl (1, 34, .inr (.inl (rpg (rwp (x.2.1 i).2.1 on (x.2.1 i).2.2.1 34) (mmd ((m, t, d, r, n, hs, ls) : Mp) x.1 (x.2.1 i).2.1 (x.2.1 i).2.2.2).1.2.2.1 (x.2.1 i).2.2.1 34))))).set (g + 6) (.inl (1, 34, .inr (.inl (fun _ => 0))))).set (g) (.inr (3, [.ref (g + 1), .ref (g + 3), .ref (g + 5), .int ((x.2.1 i).1 + nI 1)]))) (by omega) (hX1.page hi16 (fun p hp => by rw [List.getElem?_set_ne (by omega), List.getElem?_set_ne (by omega), List.getElem?_set_ne (by omega)]) (by rw [hgi]; exact ⟨gs (gn (gn hP1.1 (by omega)) (by omega)), gn (gn (gn hP1.2.1 (by omega)) (by omega)) (by omega), gn (gn (gs hP1.2.2.1) (by omega)) (by omega), gn (gn (gn hP1.2.2.2.1 (by omega)) (by omega)) (by omega), gn (gn (gn hP1.2.2.2.2.1 (by omega)) (by omega)) (by omega), gn (gn (gn hP1.2.2.2.2.2.1 (by omega)) (by omega)) (by omega), gn (gs (gn hP1.2.2.2.2.2.2 (by omega))) (by omega)⟩))
        refine ⟨M', ?_, hX2, ((((Hi.ms _).st (by omega)).st (by omega)).st (by omega)).tr hH⟩
        refine x_iload_n dX6_refresh_27 rfl rfl ?_
        refine x_bipush (y := nI 16) dX6_refresh_28 rfl ?_
        refine x_icmp_ge (tgt := 81) dX6_refresh_30 (by decide) (fun h => False.elim (nI_ge (by omega : i < 16) (by decide) h)) (fun _ => ?_)
        refine x_aload_n dX6_refresh_33 rfl rfl ?_
        refine x_getf (ci := 5) (kf := 2) dX6_refresh_34 rfl uX6 (by decide) fl_RX6_30 h0 rfl ?_
        refine x_aload_n dX6_refresh_37 rfl rfl ?_
        refine x_getf (ci := 5) (kf := 3) dX6_refresh_38 rfl uX6 (by decide) fl_RX6_36 h0 rfl ?_
        refine x_iload_n dX6_refresh_41 rfl rfl ?_
        refine x_ald (j := i) dX6_refresh_42 h21 rfl (by omega) (by decide) (pgs_at hi16 hgi) ?_
        refine x_callV (ci := 2) (as := [.ref (g)]) dX6_refresh_43 mk_X3_mend in_X3_mend se_X3_mend ml_RX6_180 rfl hm (by decide) rfl rfl (Nat.le_of_ble_eq_true rfl) (c_mend (s := x.1) hm hf hp hq hF hm4 ht8 hd8 hr8 hn8 hn1 hh hl hw ho hrs hwf hsy hlc hea hsp hlg hwr (by omega) hP_.1 hP_.2.1 hP_.2.2.1 hP_.2.2.2.2.2.1 hP_.2.2.2.2.2.2) ?_
        refine x_casti (y := nI o) (by rw [hmd]; rfl) ?_
        refine x_istore (ls' := [some (.ref (0)), some (.int (nI most)), some (.int (nI x.2.2)), some (.int (nI i)), some (.int (nI o))]) dX6_refresh_46 (by decide) rfl rfl ?_
        refine x_iload dX6_refresh_48 rfl ?_
        refine x_bipush (y := -4) dX6_refresh_50 rfl ?_
        refine x_icmp_eq (tgt := 75) dX6_refresh_52 (by decide) (fun h => False.elim (nI_nm4 (by omega) h)) (fun _ => ?_)
        refine x_iload dX6_refresh_55 rfl ?_
        refine x_iload_n dX6_refresh_57 rfl rfl ?_
        refine x_icmp_lt (tgt := 75) dX6_refresh_58 (by decide) (fun h => False.elim (absurd ((nI_ltI (by omega) (by omega)).mp h) (by omega))) (fun _ => ?_)
        refine x_aload_n dX6_refresh_61 rfl rfl ?_
        refine x_aload_n dX6_refresh_62 rfl rfl ?_
        refine x_getf (ci := 5) (kf := 3) dX6_refresh_63 rfl uX6 (by decide) fl_RX6_36 (gn (gn (gn (gn (gn (gn (gn (gn (gn h0 (by decide)) (by decide)) (by decide)) (by decide)) (by decide)) (by decide)) (by decide)) (by decide)) (by decide)) rfl ?_
        refine x_iload_n dX6_refresh_66 rfl rfl ?_
        refine x_ald (j := i) dX6_refresh_67 (gn (gn (gn (gn (gn (gn (gn (gn (gn h21 (by decide)) (by decide)) (by decide)) (by decide)) (by decide)) (by decide)) (by decide)) (by decide)) (by decide)) rfl (by omega) (by decide) (pgs_at hi16 hgi) ?_
        refine x_callV (ci := 5) (as := [.ref (g)]) dX6_refresh_68 mk_X6_rewrite in_X6_rewrite se_X6_rewrite ml_RX6_206 rfl (gn (gn (gn (gn (gn (gn (gn (gn (gn h0 (by decide)) (by decide)) (by decide)) (by decide)) (by decide)) (by decide)) (by decide)) (by decide)) (by decide)) (by decide) rfl rfl (Nat.le_of_ble_eq_true rfl) (c_rewrite (s := (mmd ((m, t, d, r, n, hs, ls) : Mp) x.1 (x.2.1 i).2.1 (x.2.1 i).2.2.2).1) hi16 hgi (gn (gn (gn (gn (gn (gn (gn (gn (gn h0 (by decide)) (by decide)) (by decide)) (by decide)) (by decide)) (by decide)) (by decide)) (by decide)) (by decide)) (gn (gn (gn (gn (gn (gn (gn (gn (gs ho) (by decide)) (by decide)) (by decide)) (by decide)) (by decide)) (by decide)) (by decide)) (by decide)) (gn (gn (gn (gn (gn (gn (gn (gn (gn hR (by decide)) (by decide)) (by decide)) (by decide)) (by decide)) (by decide)) (by decide)) (by decide)) (by decide)) (gn (gn (gn (gn (gn (gn (gn (gn (gn hon (by decide)) (by decide)) (by decide)) (by decide)) (by decide)) (by decide)) (by decide)) (by decide)) (by decide)) (gn (gn (gn (gn (gn (gn (gn (gn (gn hm (by decide)) (by decide)) (by decide)) (by decide)) (by decide)) (by decide)) (by decide)) (by decide)) (by decide)) (gn (gn (gn (gn (gn (gn (gn (gn (gn hw (by decide)) (by decide)) (by decide)) (by decide)) (by decide)) (by decide)) (by decide)) (by decide)) (by decide)) (gn (gn (gn (gn (gn (gn (gs (gn (gn hwf (by decide)) (by decide))) (by decide)) (by decide)) (by decide)) (by decide)) (by decide)) (by decide)) (gn (gn (gn (gn (gn (gn (gn (gn (gn hP_.1 (by omega)) (by omega)) (by omega)) (by omega)) (by omega)) (by omega)) (by omega)) (by omega)) (by omega)) (gn (gn (gn (gn (gn (gn (gn (gn (gn hP_.2.1 (by omega)) (by omega)) (by omega)) (by omega)) (by omega)) (by omega)) (by omega)) (by omega)) (by omega)) (gn (gn (gn (gn (gn (gn (gn (gn (gn hP_.2.2.1 (by omega)) (by omega)) (by omega)) (by omega)) (by omega)) (by omega)) (by omega)) (by omega)) (by omega)) (gn (gn (gn (gn (gn (gn (gn (gn (gn hP_.2.2.2.1 (by omega)) (by omega)) (by omega)) (by omega)) (by omega)) (by omega)) (by omega)) (by omega)) (by omega)) (gn (gn (gn (gn (gn (gn (gn (gn (gn hP_.2.2.2.2.1 (by omega)) (by omega)) (by omega)) (by omega)) (by omega)) (by omega)) (by omega)) (by omega)) (by omega)) (gn (gn (gn (gn (gn (gn (gn (gn (gn hP_.2.2.2.2.2.1 (by omega)) (by omega)) (by omega)) (by omega)) (by omega)) (by omega)) (by omega)) (by omega)) (by omega)) (gn (gn (gn (gn (gn (gn (gn (gn (gn hP_.2.2.2.2.2.2 (by omega)) (by omega)) (by omega)) (by omega)) (by omega)) (by omega)) (by omega)) (by omega)) (by omega))) ?_
        refine x_pop dX6_refresh_71 rfl ?_
        refine x_iinc (y := nI (x.2.2 + 1)) (ls' := [some (.ref (0)), some (.int (nI most)), some (.int (nI (x.2.2 + 1))), some (.int (nI i)), some (.int (nI o))]) dX6_refresh_72 (by decide) rfl rfl (ii_add _ 1) rfl ?_
        refine x_iinc (y := nI (i + 1)) (ls' := [some (.ref (0)), some (.int (nI most)), some (.int (nI (x.2.2 + 1))), some (.int (nI (i + 1))), some (.int (nI o))]) dX6_refresh_75 (by decide) rfl rfl (ii_add _ 1) rfl ?_
        refine x_goto (tgt := 27) dX6_refresh_78 (by decide) ?_
        refine rf_fw ?_
        exact hk
      · have e : rfst ((m, t, d, r, n, hs, ls) : Mp) on most i x = ((mmd ((m, t, d, r, n, hs, ls) : Mp) x.1 (x.2.1 i).2.1 (x.2.1 i).2.2.2).1, x.2.1, x.2.2) := by unfold rfst; rw [hmd]; exact if_neg hm1
        rw [e]
        obtain ⟨M', hk, hX2, hH⟩ := ih (i + 1) ((mmd ((m, t, d, r, n, hs, ls) : Mp) x.1 (x.2.1 i).2.1 (x.2.1 i).2.2.2).1, x.2.1, x.2.2) _ (by omega) (hX.ms (mmd ((m, t, d, r, n, hs, ls) : Mp) x.1 (x.2.1 i).2.1 (x.2.1 i).2.2.2).1)
        refine ⟨M', ?_, hX2, (Hi.ms _).tr hH⟩
        refine x_iload_n dX6_refresh_27 rfl rfl ?_
        refine x_bipush (y := nI 16) dX6_refresh_28 rfl ?_
        refine x_icmp_ge (tgt := 81) dX6_refresh_30 (by decide) (fun h => False.elim (nI_ge (by omega : i < 16) (by decide) h)) (fun _ => ?_)
        refine x_aload_n dX6_refresh_33 rfl rfl ?_
        refine x_getf (ci := 5) (kf := 2) dX6_refresh_34 rfl uX6 (by decide) fl_RX6_30 h0 rfl ?_
        refine x_aload_n dX6_refresh_37 rfl rfl ?_
        refine x_getf (ci := 5) (kf := 3) dX6_refresh_38 rfl uX6 (by decide) fl_RX6_36 h0 rfl ?_
        refine x_iload_n dX6_refresh_41 rfl rfl ?_
        refine x_ald (j := i) dX6_refresh_42 h21 rfl (by omega) (by decide) (pgs_at hi16 hgi) ?_
        refine x_callV (ci := 2) (as := [.ref (g)]) dX6_refresh_43 mk_X3_mend in_X3_mend se_X3_mend ml_RX6_180 rfl hm (by decide) rfl rfl (Nat.le_of_ble_eq_true rfl) (c_mend (s := x.1) hm hf hp hq hF hm4 ht8 hd8 hr8 hn8 hn1 hh hl hw ho hrs hwf hsy hlc hea hsp hlg hwr (by omega) hP_.1 hP_.2.1 hP_.2.2.1 hP_.2.2.2.2.2.1 hP_.2.2.2.2.2.2) ?_
        refine x_casti (y := nI o) (by rw [hmd]; rfl) ?_
        refine x_istore (ls' := [some (.ref (0)), some (.int (nI most)), some (.int (nI x.2.2)), some (.int (nI i)), some (.int (nI o))]) dX6_refresh_46 (by decide) rfl rfl ?_
        refine x_iload dX6_refresh_48 rfl ?_
        refine x_bipush (y := -4) dX6_refresh_50 rfl ?_
        refine x_icmp_eq (tgt := 75) dX6_refresh_52 (by decide) (fun h => False.elim (nI_nm4 (by omega) h)) (fun _ => ?_)
        refine x_iload dX6_refresh_55 rfl ?_
        refine x_iload_n dX6_refresh_57 rfl rfl ?_
        refine x_icmp_lt (tgt := 75) dX6_refresh_58 (by decide) (fun _ => ?_) (fun h => False.elim (h ((nI_ltI (by omega) (by omega)).mpr (by omega))))
        refine x_iinc (y := nI (i + 1)) (ls' := [some (.ref (0)), some (.int (nI most)), some (.int (nI x.2.2)), some (.int (nI (i + 1))), some (.int (nI o))]) dX6_refresh_75 (by decide) rfl rfl (ii_add _ 1) rfl ?_
        refine x_goto (tgt := 27) dX6_refresh_78 (by decide) ?_
        refine rf_fw ?_
        exact hk
theorem c_refresh {X : Ev} {M : Hp} {ra rr rl : Int32} {m t d r n : Nat} {pw lg cf : Nat → Int32} {gp : Nat → Bool} {hs ls on : Nat → Int64} {uf tf : Nat → Int64} {s : Ms} {pg : Nat → Pg} (hF : FT pw lg m) (hm4 : 4 ≤ m) (ht8 : t ≤ 8) (hd8 : d ≤ 256) (hr8 : r ≤ 104) (hn8 : n = 8 * d + r) (hn1 : 1 ≤ n) {most : Nat} (hmo : most ≤ 64) (hX : XL 1 ra rr rl m t d r n pw lg cf gp hs ls on s pg uf tf M) : ∃ M', Cl X 9 jX6_refresh [.ref (0), .int (nI most)] M (some (.int (nI (rfgo ((m, t, d, r, n, hs, ls) : Mp) on most 16 0 (s, pg, 0)).2.2))) M' ∧ XL 1 ra rr rl m t d r n pw lg cf gp hs ls on (rfgo ((m, t, d, r, n, hs, ls) : Mp) on most 16 0 (s, pg, 0)).1 (rfgo ((m, t, d, r, n, hs, ls) : Mp) on most 16 0 (s, pg, 0)).2.1 uf tf M' ∧ Hi M M' := by
  obtain ⟨M', hk, hX2, hH⟩ := lp_refresh (X := X) (M0 := M) hF hm4 ht8 hd8 hr8 hn8 hn1 hmo 16 0 (s, pg, 0) M rfl hX
  have h0 := hX.1
  refine ⟨M', ?_, hX2, hH⟩
  refine Cl.of (ls := [some (.ref (0)), some (.int (nI most)), none, none, none]) (by decide) rfl (Nat.le_of_ble_eq_true rfl) ?_
  refine x_aload_n dX6_refresh_0 rfl rfl ?_
  refine x_getf (ci := 5) (kf := 6) dX6_refresh_1 rfl uX6 (by decide) fl_RX6_84 h0 rfl ?_
  refine x_if_ne (tgt := 10) dX6_refresh_4 (by decide) (fun _ => ?_) (fun h => False.elim (absurd h (by decide)))
  refine x_iload_n dX6_refresh_10 rfl rfl ?_
  refine x_if_lt (tgt := 20) dX6_refresh_11 (by decide) (fun h => False.elim (absurd h (nI_pos (by omega)))) (fun _ => ?_)
  refine x_iload_n dX6_refresh_14 rfl rfl ?_
  refine x_bipush (y := nI 64) dX6_refresh_15 rfl ?_
  refine x_icmp_le (tgt := 23) dX6_refresh_17 (by decide) (fun _ => ?_) (fun h => False.elim (h ((nI_leI (by omega) (by decide)).mpr hmo)))
  refine x_iconst (y := nI 0) dX6_refresh_23 rfl ?_
  refine x_istore_n (ls' := [some (.ref (0)), some (.int (nI most)), some (.int (nI 0)), none, none]) dX6_refresh_24 rfl (by decide) rfl rfl ?_
  refine x_iconst (y := nI 0) dX6_refresh_25 rfl ?_
  refine x_istore_n (ls' := [some (.ref (0)), some (.int (nI most)), some (.int (nI 0)), some (.int (nI 0)), none]) dX6_refresh_26 rfl (by decide) rfl rfl ?_
  exact hk
