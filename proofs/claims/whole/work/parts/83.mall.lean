/-! THE MODEL: all its places -/
def ML (op : Int32) (m t d r n tn : Nat) (me ri lt : Int32) (pw lg : Nat → Int32) (gg : Nat → Bool) (bu : Nat → Nat) (bb : Nat → Bool) (ss : Nat → Int32) (kk : Nat → Bool) (we : Nat → Int32) (tu md : Nat → Nat) (sp le : Nat → Bool) (s : Mi) (M : Hp) : Prop := M[138]? = some (.inr (6, [.int (op), .int (nI m), .int (nI t), .int (nI d), .int (nI r), .int (nI n), .int (nI (2 ^ m - 1)), .ref (139), .ref (140), .ref (141), .ref (142), .ref (143), .ref (144), .ref (145), .ref (146), .ref (147), .int (nI tn), .int (me), .int (ri), .int (lt), .ref (148), .ref (149), .ref (150), .ref (151), .ref (152), .ref (153), .ref (154)])) ∧ M[139]? = some (.inl (0, 8192, .inl (pw))) ∧ M[140]? = some (.inl (0, 8192, .inl (lg))) ∧ M[141]? = some (.inl (0, 210, .inl (fun j => nI ((gg) j).toNat))) ∧ M[142]? = some (.inl (0, 256, .inl (fun j => nI ((bu) j)))) ∧ M[143]? = some (.inl (2, 35200, .inl (fun j => nI ((bb) j).toNat))) ∧ M[144]? = some (.inl (0, 35200, .inl (ss))) ∧ M[145]? = some (.inl (2, 35200, .inl (fun j => nI ((kk) j).toNat))) ∧ M[146]? = some (.inl (0, 16, .inl (we))) ∧ M[147]? = some (.inl (0, 2200, .inl (fun j => nI ((tu) j)))) ∧ M[148]? = some (.inl (0, 16, .inl (fun j => nI ((md) j)))) ∧ M[149]? = some (.inl (0, 210, .inl (fun j => nI ((sp) j).toNat))) ∧ M[150]? = some (.inl (2, 2200, .inl (fun j => nI ((s.1) j).toNat))) ∧ M[151]? = some (.inl (0, 110, .inl (fun j => nI ((le) j).toNat))) ∧ M[152]? = some (.inl (0, 17, .inl (fun j => nI ((s.2.1) j)))) ∧ M[153]? = some (.inl (0, 72, .inl (fun j => nI ((s.2.2.1) j)))) ∧ M[154]? = some (.inl (0, 9, .inl (fun j => nI ((s.2.2.2) j))))
/-- the places of the class are left as they were -/
def Lo (M M' : Hp) : Prop := M'.length = M.length ∧ ∀ p, p < 138 → M'[p]? = M[p]?
theorem Lo.rf (M : Hp) : Lo M M := ⟨rfl, fun _ _ => rfl⟩
theorem Lo.tr {M M1 M2 : Hp} (h : Lo M M1) (h2 : Lo M1 M2) : Lo M M2 := ⟨h2.1.trans h.1, fun p hp => (h2.2 p hp).trans (h.2 p hp)⟩
theorem Lo.st {M M1 : Hp} {p : Nat} {c : Cel} (h : Lo M M1) (hp : 138 ≤ p) : Lo M (M1.set p c) := ⟨by rw [List.length_set]; exact h.1, fun q hq => by rw [List.getElem?_set_ne (by omega)]; exact h.2 q hq⟩
theorem ML.ag {op : Int32} {m t d r n tn : Nat} {me ri lt : Int32} {pw lg : Nat → Int32} {gg : Nat → Bool} {bu : Nat → Nat} {bb : Nat → Bool} {ss : Nat → Int32} {kk : Nat → Bool} {we : Nat → Int32} {tu md : Nat → Nat} {sp le : Nat → Bool} {s : Mi} {M M' : Hp} (h : ML op m t d r n tn me ri lt pw lg gg bu bb ss kk we tu md sp le s M) (hA : Hi M M') : ML op m t d r n tn me ri lt pw lg gg bu bb ss kk we tu md sp le s M' := by
  obtain ⟨hO, hp, hq, hgg, hbu, hbb, hss, hkk, hwe, htu, hmd, hsp, hwd, hle, hsy, hli, hlo⟩ := h
  exact ⟨(hA.2 _ (by decide)).trans hO, (hA.2 _ (by decide)).trans hp, (hA.2 _ (by decide)).trans hq, (hA.2 _ (by decide)).trans hgg, (hA.2 _ (by decide)).trans hbu, (hA.2 _ (by decide)).trans hbb, (hA.2 _ (by decide)).trans hss, (hA.2 _ (by decide)).trans hkk, (hA.2 _ (by decide)).trans hwe, (hA.2 _ (by decide)).trans htu, (hA.2 _ (by decide)).trans hmd, (hA.2 _ (by decide)).trans hsp, (hA.2 _ (by decide)).trans hwd, (hA.2 _ (by decide)).trans hle, (hA.2 _ (by decide)).trans hsy, (hA.2 _ (by decide)).trans hli, (hA.2 _ (by decide)).trans hlo⟩
theorem XL.ag {op ra rr rl : Int32} {m t d r n : Nat} {pw lg cf : Nat → Int32} {gp : Nat → Bool} {hs ls on : Nat → Int64} {s : Ms} {pg : Nat → Pg} {uf tf : Nat → Int64} {M M' : Hp} (h : XL op ra rr rl m t d r n pw lg cf gp hs ls on s pg uf tf M) (hA : Lo M M') : XL op ra rr rl m t d r n pw lg cf gp hs ls on s pg uf tf M' := by
  obtain ⟨x0, x1, x2, x3, x4, x5, x6, x7, x8, x9, x10, x11, x12, x13, x14, x15, x16, x17, x18, x19, x20, x21, hP, y1, y2, y3, y4⟩ := h
  exact ⟨(hA.2 _ (by decide)).trans x0, (hA.2 _ (by decide)).trans x1, (hA.2 _ (by decide)).trans x2, (hA.2 _ (by decide)).trans x3, (hA.2 _ (by decide)).trans x4, (hA.2 _ (by decide)).trans x5, (hA.2 _ (by decide)).trans x6, (hA.2 _ (by decide)).trans x7, (hA.2 _ (by decide)).trans x8, (hA.2 _ (by decide)).trans x9, (hA.2 _ (by decide)).trans x10, (hA.2 _ (by decide)).trans x11, (hA.2 _ (by decide)).trans x12, (hA.2 _ (by decide)).trans x13, (hA.2 _ (by decide)).trans x14, (hA.2 _ (by decide)).trans x15, (hA.2 _ (by decide)).trans x16, (hA.2 _ (by decide)).trans x17, (hA.2 _ (by decide)).trans x18, (hA.2 _ (by decide)).trans x19, (hA.2 _ (by decide)).trans x20, (hA.2 _ (by decide)).trans x21, fun i hi => (hP i hi).ag (fun p h1 h2 => hA.2 p (by omega)), (hA.2 _ (by decide)).trans y1, (hA.2 _ (by decide)).trans y2, (hA.2 _ (by decide)).trans y3, (hA.2 _ (by decide)).trans y4⟩
theorem mmr_le {m t n : Nat} {s : Mi} {bb kk : Nat → Bool} {u kc o : Nat} (h : (mmr m t n s bb kk u kc).2 = some o) : o ≤ n := by
  unfold mmr at h
  split at h
  · cases h
  · split at h
    · cases h; exact cnt_le _ n
    · split at h
      · cases h
      · split at h
        · cases h; exact cnt_le _ n
        · cases h
def rmst (m t n : Nat) (ss : Nat → Int32) (most i : Nat) (x : Mi × (Nat → Bool) × (Nat → Bool) × (Nat → Int32) × Nat) : Mi × (Nat → Bool) × (Nat → Bool) × (Nat → Int32) × Nat :=
  match (mmr m t n x.1 x.2.1 x.2.2.1 i (cnt (fun q => x.2.2.1 (2200 * i + q)) n)).2 with
  | none => ((mmr m t n x.1 x.2.1 x.2.2.1 i (cnt (fun q => x.2.2.1 (2200 * i + q)) n)).1, x.2)
  | some o => if most ≤ o then ((mmr m t n x.1 x.2.1 x.2.2.1 i (cnt (fun q => x.2.2.1 (2200 * i + q)) n)).1, pgb (wpb x.2.1 ss i n) ss (mmr m t n x.1 x.2.1 x.2.2.1 i (cnt (fun q => x.2.2.1 (2200 * i + q)) n)).1.1 i n, wpk x.2.2.1 i n, upd x.2.2.2.1 i (x.2.2.2.1 i + nI 1), x.2.2.2.2 + 1) else ((mmr m t n x.1 x.2.1 x.2.2.1 i (cnt (fun q => x.2.2.1 (2200 * i + q)) n)).1, x.2)
def rmgo (m t n : Nat) (ss : Nat → Int32) (most : Nat) : Nat → Nat → (Mi × (Nat → Bool) × (Nat → Bool) × (Nat → Int32) × Nat) → Mi × (Nat → Bool) × (Nat → Bool) × (Nat → Int32) × Nat
  | 0, _, x => x
  | z + 1, i, x => rmgo m t n ss most z (i + 1) (rmst m t n ss most i x)
theorem mr_f4 {X : Ev} {d' : Nat} {M0 M M' : Hp} {v : Option Value} {pc : Nat} {a0 a1 a2 a3 : Value} {b4 b5 : Option Value} (kc : G X d' jX7_refresh M0 pc [some a0, some a1, some a2, some a3, none, none] [] M v M') : G X d' jX7_refresh M0 pc [some a0, some a1, some a2, some a3, b4, b5] [] M v M' := x_fewer (fun q w h => by match q, h with | 0, h => exact h | 1, h => exact h | 2, h => exact h | 3, h => exact h | 4, h => cases h | 5, h => cases h | q + 6, h => cases h) kc
theorem lp_mrefresh {X : Ev} {M0 : Hp} {m t d r n tn : Nat} {me ri lt : Int32} {pw lg : Nat → Int32} {gg : Nat → Bool} {bu : Nat → Nat} {ss : Nat → Int32} {tu md : Nat → Nat} {sp le : Nat → Bool} (hF : FT pw lg m) (ht1 : 1 ≤ t) (ht8 : t ≤ 8) (hn1 : 1 ≤ n) (hn22 : n ≤ 2176) {most : Nat} (hmo : most ≤ 64) : ∀ (zz i : Nat) (x : Mi × (Nat → Bool) × (Nat → Bool) × (Nat → Int32) × Nat) (M : Hp), i + zz = 16 → ML 1 m t d r n tn me ri lt pw lg gg bu x.2.1 ss x.2.2.1 x.2.2.2.1 tu md sp le x.1 M → ∃ M', G X 9 jX7_refresh M0 27 [some (.ref (138)), some (.int (nI most)), some (.int (nI x.2.2.2.2)), some (.int (nI i)), none, none] [] M (some (.int (nI (rmgo m t n ss most zz i x).2.2.2.2))) M' ∧ ML 1 m t d r n tn me ri lt pw lg gg bu (rmgo m t n ss most zz i x).2.1 ss (rmgo m t n ss most zz i x).2.2.1 (rmgo m t n ss most zz i x).2.2.2.1 tu md sp le (rmgo m t n ss most zz i x).1 M' ∧ Lo M M' := by
  intro zz
  induction zz with
  | zero =>
    intro i x M hi hX
    have hi : i = 16 := by omega
    subst hi
    refine ⟨M, ?_, hX, Lo.rf M⟩
    refine x_iload_n dX7_refresh_27 rfl rfl ?_
    refine x_bipush (y := nI 16) dX7_refresh_28 rfl ?_
    refine x_icmp_ge (tgt := 74) dX7_refresh_30 (by decide) (fun _ => ?_) (fun h => False.elim (h (nI_le (Nat.le_refl _) (by decide))))
    refine x_iload_n dX7_refresh_74 rfl rfl ?_
    exact x_ireturn_eq dX7_refresh_75 rfl rfl
  | succ zz ih =>
    intro i x M hi hX
    obtain ⟨hO, hp, hq, hgg, hbu, hbb, hss, hkk, hwe, htu, hmd, hsp, hwd, hle, hsy, hli, hlo⟩ := id hX
    have hi16 : i < 16 := by omega
    show ∃ M', G X 9 jX7_refresh M0 27 [some (.ref (138)), some (.int (nI most)), some (.int (nI x.2.2.2.2)), some (.int (nI i)), none, none] [] M (some (.int (nI (rmgo m t n ss most zz (i + 1) (rmst m t n ss most i x)).2.2.2.2))) M' ∧ ML 1 m t d r n tn me ri lt pw lg gg bu (rmgo m t n ss most zz (i + 1) (rmst m t n ss most i x)).2.1 ss (rmgo m t n ss most zz (i + 1) (rmst m t n ss most i x)).2.2.1 (rmgo m t n ss most zz (i + 1) (rmst m t n ss most i x)).2.2.2.1 tu md sp le (rmgo m t n ss most zz (i + 1) (rmst m t n ss most i x)).1 M' ∧ Lo M M'
    cases hmx : (mmr m t n x.1 x.2.1 x.2.2.1 i (cnt (fun q => x.2.2.1 (2200 * i + q)) n)).2 with
    | none =>
      have e : (rmst m t n ss most i x) = ((mmr m t n x.1 x.2.1 x.2.2.1 i (cnt (fun q => x.2.2.1 (2200 * i + q)) n)).1, x.2) := by unfold rmst; rw [hmx]
      rw [e]
      obtain ⟨M', hk, hX2, hH⟩ := ih (i + 1) ((mmr m t n x.1 x.2.1 x.2.2.1 i (cnt (fun q => x.2.2.1 (2200 * i + q)) n)).1, x.2) ((((M.set (150) (.inl (2, 2200, .inl (fun j => nI (((mmr m t n x.1 x.2.1 x.2.2.1 i (cnt (fun q => x.2.2.1 (2200 * i + q)) n)).1.1) j).toNat)))).set (152) (.inl (0, 17, .inl (fun j => nI (((mmr m t n x.1 x.2.1 x.2.2.1 i (cnt (fun q => x.2.2.1 (2200 * i + q)) n)).1.2.1) j))))).set (153) (.inl (0, 72, .inl (fun j => nI (((mmr m t n x.1 x.2.1 x.2.2.1 i (cnt (fun q => x.2.2.1 (2200 * i + q)) n)).1.2.2.1) j))))).set (154) (.inl (0, 9, .inl (fun j => nI (((mmr m t n x.1 x.2.1 x.2.2.1 i (cnt (fun q => x.2.2.1 (2200 * i + q)) n)).1.2.2.2) j))))) (by omega) ⟨(gn (gn (gn (gn hO (by decide)) (by decide)) (by decide)) (by decide)), (gn (gn (gn (gn hp (by decide)) (by decide)) (by decide)) (by decide)), (gn (gn (gn (gn hq (by decide)) (by decide)) (by decide)) (by decide)), (gn (gn (gn (gn hgg (by decide)) (by decide)) (by decide)) (by decide)), (gn (gn (gn (gn hbu (by decide)) (by decide)) (by decide)) (by decide)), (gn (gn (gn (gn hbb (by decide)) (by decide)) (by decide)) (by decide)), (gn (gn (gn (gn hss (by decide)) (by decide)) (by decide)) (by decide)), (gn (gn (gn (gn hkk (by decide)) (by decide)) (by decide)) (by decide)), (gn (gn (gn (gn hwe (by decide)) (by decide)) (by decide)) (by decide)), (gn (gn (gn (gn htu (by decide)) (by decide)) (by decide)) (by decide)), (gn (gn (gn (gn hmd (by decide)) (by decide)) (by decide)) (by decide)), (gn (gn (gn (gn hsp (by decide)) (by decide)) (by decide)) (by decide)), (gn (gn (gn (gs hwd) (by decide)) (by decide)) (by decide)), (gn (gn (gn (gn hle (by decide)) (by decide)) (by decide)) (by decide)), (gn (gn (gs (gn hsy (by decide))) (by decide)) (by decide)), (gn (gs (gn (gn hli (by decide)) (by decide))) (by decide)), (gs (gn (gn (gn hlo (by decide)) (by decide)) (by decide)))⟩
      refine ⟨M', ?_, hX2, (((((Lo.rf _).st (by decide)).st (by decide)).st (by decide)).st (by decide)).tr hH⟩
      refine x_iload_n dX7_refresh_27 rfl rfl ?_
      refine x_bipush (y := nI 16) dX7_refresh_28 rfl ?_
      refine x_icmp_ge (tgt := 74) dX7_refresh_30 (by decide) (fun h => False.elim (nI_ge (by omega : i < 16) (by decide) h)) (fun _ => ?_)
      refine x_aload_n dX7_refresh_33 rfl rfl ?_
      refine x_iload_n dX7_refresh_34 rfl rfl ?_
      refine x_callV (ci := 6) (as := [.int (nI i)]) dX7_refresh_35 mk_X7_mend in_X7_mend se_X7_mend ml_RX7_175 rfl hO (by decide) rfl rfl (Nat.le_of_ble_eq_true rfl) (c_mmend hO hp hq hbb hkk hwd hsy hli hlo hF ht1 ht8 hn1 hn22 hi16) ?_
      refine x_casti (y := -4) (by rw [hmx]; rfl) ?_
      refine x_istore (ls' := [some (.ref (138)), some (.int (nI most)), some (.int (nI x.2.2.2.2)), some (.int (nI i)), some (.int (-4)), none]) dX7_refresh_38 (by decide) rfl rfl ?_
      refine x_iload dX7_refresh_40 rfl ?_
      refine x_bipush (y := -4) dX7_refresh_42 rfl ?_
      refine x_icmp_eq (tgt := 68) dX7_refresh_44 (by decide) (fun _ => ?_) (fun h => False.elim (h rfl))
      refine x_iinc (y := nI (i + 1)) (ls' := [some (.ref (138)), some (.int (nI most)), some (.int (nI x.2.2.2.2)), some (.int (nI (i + 1))), some (.int (-4)), none]) dX7_refresh_68 (by decide) rfl rfl (ii_add _ 1) rfl ?_
      refine x_goto (tgt := 27) dX7_refresh_71 (by decide) ?_
      refine mr_f4 ?_
      exact hk
    | some o =>
      have ho := mmr_le hmx
      by_cases hm1 : most ≤ o
      · have e : (rmst m t n ss most i x) = ((mmr m t n x.1 x.2.1 x.2.2.1 i (cnt (fun q => x.2.2.1 (2200 * i + q)) n)).1, pgb (wpb x.2.1 ss i n) ss (mmr m t n x.1 x.2.1 x.2.2.1 i (cnt (fun q => x.2.2.1 (2200 * i + q)) n)).1.1 i n, wpk x.2.2.1 i n, upd x.2.2.2.1 i (x.2.2.2.1 i + nI 1), x.2.2.2.2 + 1) := by unfold rmst; rw [hmx]; exact if_pos hm1
        rw [e]
        obtain ⟨M', hk, hX2, hH⟩ := ih (i + 1) ((mmr m t n x.1 x.2.1 x.2.2.1 i (cnt (fun q => x.2.2.1 (2200 * i + q)) n)).1, pgb (wpb x.2.1 ss i n) ss (mmr m t n x.1 x.2.1 x.2.2.1 i (cnt (fun q => x.2.2.1 (2200 * i + q)) n)).1.1 i n, wpk x.2.2.1 i n, upd x.2.2.2.1 i (x.2.2.2.1 i + nI 1), x.2.2.2.2 + 1) (((((((M.set (150) (.inl (2, 2200, .inl (fun j => nI (((mmr m t n x.1 x.2.1 x.2.2.1 i (cnt (fun q => x.2.2.1 (2200 * i + q)) n)).1.1) j).toNat)))).set (152) (.inl (0, 17, .inl (fun j => nI (((mmr m t n x.1 x.2.1 x.2.2.1 i (cnt (fun q => x.2.2.1 (2200 * i + q)) n)).1.2.1) j))))).set (153) (.inl (0, 72, .inl (fun j => nI (((mmr m t n x.1 x.2.1 x.2.2.1 i (cnt (fun q => x.2.2.1 (2200 * i + q)) n)).1.2.2.1) j))))).set (154) (.inl (0, 9, .inl (fun j => nI (((mmr m t n x.1 x.2.1 x.2.2.1 i (cnt (fun q => x.2.2.1 (2200 * i + q)) n)).1.2.2.2) j))))).set (143) (.inl (2, 35200, .inl (fun j => nI ((pgb (wpb x.2.1 ss i n) ss (mmr m t n x.1 x.2.1 x.2.2.1 i (cnt (fun q => x.2.2.1 (2200 * i + q)) n)).1.1 i n) j).toNat)))).set (145) (.inl (2, 35200, .inl (fun j => nI ((wpk x.2.2.1 i n) j).toNat)))).set (146) (.inl (0, 16, .inl (upd x.2.2.2.1 i (x.2.2.2.1 i + nI 1))))) (by omega) ⟨(gn (gn (gn (gn (gn (gn (gn hO (by decide)) (by decide)) (by decide)) (by decide)) (by decide)) (by decide)) (by decide)), (gn (gn (gn (gn (gn (gn (gn hp (by decide)) (by decide)) (by decide)) (by decide)) (by decide)) (by decide)) (by decide)), (gn (gn (gn (gn (gn (gn (gn hq (by decide)) (by decide)) (by decide)) (by decide)) (by decide)) (by decide)) (by decide)), (gn (gn (gn (gn (gn (gn (gn hgg (by decide)) (by decide)) (by decide)) (by decide)) (by decide)) (by decide)) (by decide)), (gn (gn (gn (gn (gn (gn (gn hbu (by decide)) (by decide)) (by decide)) (by decide)) (by decide)) (by decide)) (by decide)), (gn (gn (gs (gn (gn (gn (gn hbb (by decide)) (by decide)) (by decide)) (by decide))) (by decide)) (by decide)), (gn (gn (gn (gn (gn (gn (gn hss (by decide)) (by decide)) (by decide)) (by decide)) (by decide)) (by decide)) (by decide)), (gn (gs (gn (gn (gn (gn (gn hkk (by decide)) (by decide)) (by decide)) (by decide)) (by decide))) (by decide)), (gs (gn (gn (gn (gn (gn (gn hwe (by decide)) (by decide)) (by decide)) (by decide)) (by decide)) (by decide))), (gn (gn (gn (gn (gn (gn (gn htu (by decide)) (by decide)) (by decide)) (by decide)) (by decide)) (by decide)) (by decide)), (gn (gn (gn (gn (gn (gn (gn hmd (by decide)) (by decide)) (by decide)) (by decide)) (by decide)) (by decide)) (by decide)), (gn (gn (gn (gn (gn (gn (gn hsp (by decide)) (by decide)) (by decide)) (by decide)) (by decide)) (by decide)) (by decide)), (gn (gn (gn (gn (gn (gn (gs hwd) (by decide)) (by decide)) (by decide)) (by decide)) (by decide)) (by decide)), (gn (gn (gn (gn (gn (gn (gn hle (by decide)) (by decide)) (by decide)) (by decide)) (by decide)) (by decide)) (by decide)), (gn (gn (gn (gn (gn (gs (gn hsy (by decide))) (by decide)) (by decide)) (by decide)) (by decide)) (by decide)), (gn (gn (gn (gn (gs (gn (gn hli (by decide)) (by decide))) (by decide)) (by decide)) (by decide)) (by decide)), (gn (gn (gn (gs (gn (gn (gn hlo (by decide)) (by decide)) (by decide))) (by decide)) (by decide)) (by decide))⟩
        refine ⟨M', ?_, hX2, ((((((((Lo.rf _).st (by decide)).st (by decide)).st (by decide)).st (by decide)).st (by decide)).st (by decide)).st (by decide)).tr hH⟩
        refine x_iload_n dX7_refresh_27 rfl rfl ?_
        refine x_bipush (y := nI 16) dX7_refresh_28 rfl ?_
        refine x_icmp_ge (tgt := 74) dX7_refresh_30 (by decide) (fun h => False.elim (nI_ge (by omega : i < 16) (by decide) h)) (fun _ => ?_)
        refine x_aload_n dX7_refresh_33 rfl rfl ?_
        refine x_iload_n dX7_refresh_34 rfl rfl ?_
        refine x_callV (ci := 6) (as := [.int (nI i)]) dX7_refresh_35 mk_X7_mend in_X7_mend se_X7_mend ml_RX7_175 rfl hO (by decide) rfl rfl (Nat.le_of_ble_eq_true rfl) (c_mmend hO hp hq hbb hkk hwd hsy hli hlo hF ht1 ht8 hn1 hn22 hi16) ?_
        refine x_casti (y := nI o) (by rw [hmx]; rfl) ?_
        refine x_istore (ls' := [some (.ref (138)), some (.int (nI most)), some (.int (nI x.2.2.2.2)), some (.int (nI i)), some (.int (nI o)), none]) dX7_refresh_38 (by decide) rfl rfl ?_
        refine x_iload dX7_refresh_40 rfl ?_
        refine x_bipush (y := -4) dX7_refresh_42 rfl ?_
        refine x_icmp_eq (tgt := 68) dX7_refresh_44 (by decide) (fun h => False.elim (lost_ne (by omega) h)) (fun _ => ?_)
        refine x_iload dX7_refresh_47 rfl ?_
        refine x_iload_n dX7_refresh_49 rfl rfl ?_
        refine x_icmp_lt (tgt := 68) dX7_refresh_50 (by decide) (fun h => False.elim (absurd ((nI_ltI (by omega) (by omega)).mp h) (by omega))) (fun _ => ?_)
        refine x_aload_n dX7_refresh_53 rfl rfl ?_
        refine x_iload_n dX7_refresh_54 rfl rfl ?_
        refine x_callV (ci := 6) (as := [.int (nI i)]) dX7_refresh_55 mk_X7_wipe in_X7_wipe se_X7_wipe ml_RX7_152 rfl (gn (gn (gn (gn hO (by decide)) (by decide)) (by decide)) (by decide)) (by decide) rfl rfl (Nat.le_of_ble_eq_true rfl) (c_mwipe (gn (gn (gn (gn hO (by decide)) (by decide)) (by decide)) (by decide)) (gn (gn (gn (gn hbb (by decide)) (by decide)) (by decide)) (by decide)) (gn (gn (gn (gn hss (by decide)) (by decide)) (by decide)) (by decide)) (gn (gn (gn (gn hkk (by decide)) (by decide)) (by decide)) (by decide)) (gn (gn (gn (gn hwe (by decide)) (by decide)) (by decide)) (by decide)) hn22 hi16) ?_
        refine x_aload_n dX7_refresh_58 rfl rfl ?_
        refine x_iload_n dX7_refresh_59 rfl rfl ?_
        refine x_callV (ci := 6) (as := [.int (nI i)]) dX7_refresh_60 mk_X7_program in_X7_program se_X7_program ml_RX7_149 rfl (gn (gn (gn (gn (gn (gn (gn hO (by decide)) (by decide)) (by decide)) (by decide)) (by decide)) (by decide)) (by decide)) (by decide) rfl rfl (Nat.le_of_ble_eq_true rfl) (c_mprogram (gn (gn (gn (gn (gn (gn (gn hO (by decide)) (by decide)) (by decide)) (by decide)) (by decide)) (by decide)) (by decide)) (gn (gn (gs (gn (gn (gn (gn hbb (by decide)) (by decide)) (by decide)) (by decide))) (by decide)) (by decide)) (gn (gn (gn (gn (gn (gn (gn hss (by decide)) (by decide)) (by decide)) (by decide)) (by decide)) (by decide)) (by decide)) (gn (gn (gn (gn (gn (gn (gs hwd) (by decide)) (by decide)) (by decide)) (by decide)) (by decide)) (by decide)) hn22 hi16) ?_
        refine G.hp (show ((((((((M.set (150) (.inl (2, 2200, .inl (fun j => nI (((mmr m t n x.1 x.2.1 x.2.2.1 i (cnt (fun q => x.2.2.1 (2200 * i + q)) n)).1.1) j).toNat)))).set (152) (.inl (0, 17, .inl (fun j => nI (((mmr m t n x.1 x.2.1 x.2.2.1 i (cnt (fun q => x.2.2.1 (2200 * i + q)) n)).1.2.1) j))))).set (153) (.inl (0, 72, .inl (fun j => nI (((mmr m t n x.1 x.2.1 x.2.2.1 i (cnt (fun q => x.2.2.1 (2200 * i + q)) n)).1.2.2.1) j))))).set (154) (.inl (0, 9, .inl (fun j => nI (((mmr m t n x.1 x.2.1 x.2.2.1 i (cnt (fun q => x.2.2.1 (2200 * i + q)) n)).1.2.2.2) j))))).set (143) (.inl (2, 35200, .inl (fun j => nI ((wpb x.2.1 ss i n) j).toNat)))).set (145) (.inl (2, 35200, .inl (fun j => nI ((wpk x.2.2.1 i n) j).toNat)))).set (146) (.inl (0, 16, .inl (upd x.2.2.2.1 i (x.2.2.2.1 i + nI 1))))).set (143) (.inl (2, 35200, .inl (fun j => nI ((pgb (wpb x.2.1 ss i n) ss (mmr m t n x.1 x.2.1 x.2.2.1 i (cnt (fun q => x.2.2.1 (2200 * i + q)) n)).1.1 i n) j).toNat))) : Hp) = (((((((M.set (150) (.inl (2, 2200, .inl (fun j => nI (((mmr m t n x.1 x.2.1 x.2.2.1 i (cnt (fun q => x.2.2.1 (2200 * i + q)) n)).1.1) j).toNat)))).set (152) (.inl (0, 17, .inl (fun j => nI (((mmr m t n x.1 x.2.1 x.2.2.1 i (cnt (fun q => x.2.2.1 (2200 * i + q)) n)).1.2.1) j))))).set (153) (.inl (0, 72, .inl (fun j => nI (((mmr m t n x.1 x.2.1 x.2.2.1 i (cnt (fun q => x.2.2.1 (2200 * i + q)) n)).1.2.2.1) j))))).set (154) (.inl (0, 9, .inl (fun j => nI (((mmr m t n x.1 x.2.1 x.2.2.1 i (cnt (fun q => x.2.2.1 (2200 * i + q)) n)).1.2.2.2) j))))).set (143) (.inl (2, 35200, .inl (fun j => nI ((pgb (wpb x.2.1 ss i n) ss (mmr m t n x.1 x.2.1 x.2.2.1 i (cnt (fun q => x.2.2.1 (2200 * i + q)) n)).1.1 i n) j).toNat)))).set (145) (.inl (2, 35200, .inl (fun j => nI ((wpk x.2.2.1 i n) j).toNat)))).set (146) (.inl (0, 16, .inl (upd x.2.2.2.1 i (x.2.2.2.1 i + nI 1))))) from (ss2 (by decide) (by decide))) ?_
        refine x_istore (ls' := [some (.ref (138)), some (.int (nI most)), some (.int (nI x.2.2.2.2)), some (.int (nI i)), some (.int (nI o)), some (.int (nI (cnt (fun q => pgv (wpb x.2.1 ss i n) ss (mmr m t n x.1 x.2.1 x.2.2.1 i (cnt (fun q => x.2.2.1 (2200 * i + q)) n)).1.1 i q ^^ (mmr m t n x.1 x.2.1 x.2.2.1 i (cnt (fun q => x.2.2.1 (2200 * i + q)) n)).1.1 q) n)))]) dX7_refresh_63 (by decide) rfl rfl ?_
        refine x_iinc (y := nI (x.2.2.2.2 + 1)) (ls' := [some (.ref (138)), some (.int (nI most)), some (.int (nI (x.2.2.2.2 + 1))), some (.int (nI i)), some (.int (nI o)), some (.int (nI (cnt (fun q => pgv (wpb x.2.1 ss i n) ss (mmr m t n x.1 x.2.1 x.2.2.1 i (cnt (fun q => x.2.2.1 (2200 * i + q)) n)).1.1 i q ^^ (mmr m t n x.1 x.2.1 x.2.2.1 i (cnt (fun q => x.2.2.1 (2200 * i + q)) n)).1.1 q) n)))]) dX7_refresh_65 (by decide) rfl rfl (ii_add _ 1) rfl ?_
        refine x_iinc (y := nI (i + 1)) (ls' := [some (.ref (138)), some (.int (nI most)), some (.int (nI (x.2.2.2.2 + 1))), some (.int (nI (i + 1))), some (.int (nI o)), some (.int (nI (cnt (fun q => pgv (wpb x.2.1 ss i n) ss (mmr m t n x.1 x.2.1 x.2.2.1 i (cnt (fun q => x.2.2.1 (2200 * i + q)) n)).1.1 i q ^^ (mmr m t n x.1 x.2.1 x.2.2.1 i (cnt (fun q => x.2.2.1 (2200 * i + q)) n)).1.1 q) n)))]) dX7_refresh_68 (by decide) rfl rfl (ii_add _ 1) rfl ?_
        refine x_goto (tgt := 27) dX7_refresh_71 (by decide) ?_
        refine mr_f4 ?_
        exact hk
      · have e : (rmst m t n ss most i x) = ((mmr m t n x.1 x.2.1 x.2.2.1 i (cnt (fun q => x.2.2.1 (2200 * i + q)) n)).1, x.2) := by unfold rmst; rw [hmx]; exact if_neg hm1
        rw [e]
        obtain ⟨M', hk, hX2, hH⟩ := ih (i + 1) ((mmr m t n x.1 x.2.1 x.2.2.1 i (cnt (fun q => x.2.2.1 (2200 * i + q)) n)).1, x.2) ((((M.set (150) (.inl (2, 2200, .inl (fun j => nI (((mmr m t n x.1 x.2.1 x.2.2.1 i (cnt (fun q => x.2.2.1 (2200 * i + q)) n)).1.1) j).toNat)))).set (152) (.inl (0, 17, .inl (fun j => nI (((mmr m t n x.1 x.2.1 x.2.2.1 i (cnt (fun q => x.2.2.1 (2200 * i + q)) n)).1.2.1) j))))).set (153) (.inl (0, 72, .inl (fun j => nI (((mmr m t n x.1 x.2.1 x.2.2.1 i (cnt (fun q => x.2.2.1 (2200 * i + q)) n)).1.2.2.1) j))))).set (154) (.inl (0, 9, .inl (fun j => nI (((mmr m t n x.1 x.2.1 x.2.2.1 i (cnt (fun q => x.2.2.1 (2200 * i + q)) n)).1.2.2.2) j))))) (by omega) ⟨(gn (gn (gn (gn hO (by decide)) (by decide)) (by decide)) (by decide)), (gn (gn (gn (gn hp (by decide)) (by decide)) (by decide)) (by decide)), (gn (gn (gn (gn hq (by decide)) (by decide)) (by decide)) (by decide)), (gn (gn (gn (gn hgg (by decide)) (by decide)) (by decide)) (by decide)), (gn (gn (gn (gn hbu (by decide)) (by decide)) (by decide)) (by decide)), (gn (gn (gn (gn hbb (by decide)) (by decide)) (by decide)) (by decide)), (gn (gn (gn (gn hss (by decide)) (by decide)) (by decide)) (by decide)), (gn (gn (gn (gn hkk (by decide)) (by decide)) (by decide)) (by decide)), (gn (gn (gn (gn hwe (by decide)) (by decide)) (by decide)) (by decide)), (gn (gn (gn (gn htu (by decide)) (by decide)) (by decide)) (by decide)), (gn (gn (gn (gn hmd (by decide)) (by decide)) (by decide)) (by decide)), (gn (gn (gn (gn hsp (by decide)) (by decide)) (by decide)) (by decide)), (gn (gn (gn (gs hwd) (by decide)) (by decide)) (by decide)), (gn (gn (gn (gn hle (by decide)) (by decide)) (by decide)) (by decide)), (gn (gn (gs (gn hsy (by decide))) (by decide)) (by decide)), (gn (gs (gn (gn hli (by decide)) (by decide))) (by decide)), (gs (gn (gn (gn hlo (by decide)) (by decide)) (by decide)))⟩
        refine ⟨M', ?_, hX2, (((((Lo.rf _).st (by decide)).st (by decide)).st (by decide)).st (by decide)).tr hH⟩
        refine x_iload_n dX7_refresh_27 rfl rfl ?_
        refine x_bipush (y := nI 16) dX7_refresh_28 rfl ?_
        refine x_icmp_ge (tgt := 74) dX7_refresh_30 (by decide) (fun h => False.elim (nI_ge (by omega : i < 16) (by decide) h)) (fun _ => ?_)
        refine x_aload_n dX7_refresh_33 rfl rfl ?_
        refine x_iload_n dX7_refresh_34 rfl rfl ?_
        refine x_callV (ci := 6) (as := [.int (nI i)]) dX7_refresh_35 mk_X7_mend in_X7_mend se_X7_mend ml_RX7_175 rfl hO (by decide) rfl rfl (Nat.le_of_ble_eq_true rfl) (c_mmend hO hp hq hbb hkk hwd hsy hli hlo hF ht1 ht8 hn1 hn22 hi16) ?_
        refine x_casti (y := nI o) (by rw [hmx]; rfl) ?_
        refine x_istore (ls' := [some (.ref (138)), some (.int (nI most)), some (.int (nI x.2.2.2.2)), some (.int (nI i)), some (.int (nI o)), none]) dX7_refresh_38 (by decide) rfl rfl ?_
        refine x_iload dX7_refresh_40 rfl ?_
        refine x_bipush (y := -4) dX7_refresh_42 rfl ?_
        refine x_icmp_eq (tgt := 68) dX7_refresh_44 (by decide) (fun h => False.elim (lost_ne (by omega) h)) (fun _ => ?_)
        refine x_iload dX7_refresh_47 rfl ?_
        refine x_iload_n dX7_refresh_49 rfl rfl ?_
        refine x_icmp_lt (tgt := 68) dX7_refresh_50 (by decide) (fun _ => ?_) (fun h => False.elim (h ((nI_ltI (by omega) (by omega)).mpr (by omega))))
        refine x_iinc (y := nI (i + 1)) (ls' := [some (.ref (138)), some (.int (nI most)), some (.int (nI x.2.2.2.2)), some (.int (nI (i + 1))), some (.int (nI o)), none]) dX7_refresh_68 (by decide) rfl rfl (ii_add _ 1) rfl ?_
        refine x_goto (tgt := 27) dX7_refresh_71 (by decide) ?_
        refine mr_f4 ?_
        exact hk
theorem c_mrefresh {X : Ev} {M : Hp} {m t d r n tn : Nat} {me ri lt : Int32} {pw lg : Nat → Int32} {gg : Nat → Bool} {bu : Nat → Nat} {ss : Nat → Int32} {tu md : Nat → Nat} {sp le : Nat → Bool} {s : Mi} {bb kk : Nat → Bool} {we : Nat → Int32} (hF : FT pw lg m) (ht1 : 1 ≤ t) (ht8 : t ≤ 8) (hn1 : 1 ≤ n) (hn22 : n ≤ 2176) {most : Nat} (hmo : most ≤ 64) (hX : ML 1 m t d r n tn me ri lt pw lg gg bu bb ss kk we tu md sp le s M) : ∃ M', Cl X 9 jX7_refresh [.ref (138), .int (nI most)] M (some (.int (nI (rmgo m t n ss most 16 0 (s, bb, kk, we, 0)).2.2.2.2))) M' ∧ ML 1 m t d r n tn me ri lt pw lg gg bu (rmgo m t n ss most 16 0 (s, bb, kk, we, 0)).2.1 ss (rmgo m t n ss most 16 0 (s, bb, kk, we, 0)).2.2.1 (rmgo m t n ss most 16 0 (s, bb, kk, we, 0)).2.2.2.1 tu md sp le (rmgo m t n ss most 16 0 (s, bb, kk, we, 0)).1 M' ∧ Lo M M' := by
  obtain ⟨M', hk, hX2, hH⟩ := lp_mrefresh (X := X) (M0 := M) hF ht1 ht8 hn1 hn22 hmo 16 0 (s, bb, kk, we, 0) M rfl hX
  have hO := hX.1
  refine ⟨M', ?_, hX2, hH⟩
  refine Cl.of (ls := [some (.ref (138)), some (.int (nI most)), none, none, none, none]) (by decide) rfl (Nat.le_of_ble_eq_true rfl) ?_
  refine x_aload_n dX7_refresh_0 rfl rfl ?_
  refine x_getf (ci := 6) (kf := 0) dX7_refresh_1 rfl uX7 (by decide) fl_RX7_100 hO rfl ?_
  refine x_if_ne (tgt := 10) dX7_refresh_4 (by decide) (fun _ => ?_) (fun h => False.elim (absurd h (by decide)))
  refine x_iload_n dX7_refresh_10 rfl rfl ?_
  refine x_iconst (y := nI 0) dX7_refresh_11 rfl ?_
  refine x_bipush (y := nI 64) dX7_refresh_12 rfl ?_
  refine x_callS (as := [.int (nI most), .int (nI 0), .int (nI 64)]) dX7_refresh_14 mk_X7_within st_X7_within ml_RX7_68 (by decide) rfl rfl (Nat.le_of_ble_eq_true rfl) (c_within) ?_
  refine x_if_ne (tgt := 23) dX7_refresh_17 (by decide) (fun _ => ?_) (fun h => False.elim (ite_ne (by rw [wi_k (n := 65) (by decide) (by decide)]; exact inl_n (by omega) (by decide)) h))
  refine x_iconst (y := nI 0) dX7_refresh_23 rfl ?_
  refine x_istore_n (ls' := [some (.ref (138)), some (.int (nI most)), some (.int (nI 0)), none, none, none]) dX7_refresh_24 rfl (by decide) rfl rfl ?_
  refine x_iconst (y := nI 0) dX7_refresh_25 rfl ?_
  refine x_istore_n (ls' := [some (.ref (138)), some (.int (nI most)), some (.int (nI 0)), some (.int (nI 0)), none, none]) dX7_refresh_26 rfl (by decide) rfl rfl ?_
  exact hk
