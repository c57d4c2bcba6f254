/-! A CODE that is open: what the class's rest, syndromes and mending are -/
def CK (m t d r n : Nat) (gp : Nat → Bool) (hs ls : Nat → Int64) : Prop := 3 ≤ m ∧ m ≤ 13 ∧ 1 ≤ t ∧ t ≤ 8 ∧ 1 ≤ d ∧ d ≤ 256 ∧ r = (gst m t).2 ∧ n = 8 * d + r ∧ n ≤ 2 ^ m - 1 ∧ (∀ j, gp j = (gst m t).1.testBit j) ∧ ∃ hs0 ls0 : Nat → Int64, hs0 0 = 0 ∧ ls0 0 = 0 ∧ hs = stpH hs0 (ldH gp r r) (ldL gp r r) 8 ∧ ls = stpL ls0 (ldH gp r r) (ldL gp r r) 8
theorem gst_r {m t : Nat} (h3 : 3 ≤ m) (h13 : m ≤ 13) (h1 : 1 ≤ t) (h8 : t ≤ 8) : 1 ≤ (gst m t).2 ∧ (gst m t).2 ≤ 104 := by
  refine ⟨?_, ?_⟩
  · obtain ⟨_, _, _, _, _, g6, _⟩ := GS_all h3 h13 (show t - 1 < 8 by omega)
    rwa [show t - 1 + 1 = t by omega] at g6
  · have h := gen_r (m := m) (t := t) (cf := fun _ => 0) (by omega) h13 h8
    rwa [(gen_ok h3 h13 h8).2] at h
theorem CK.b {m t d r n : Nat} {gp : Nat → Bool} {hs ls : Nat → Int64} (h : CK m t d r n gp hs ls) : 1 ≤ r ∧ r ≤ 104 ∧ 9 ≤ n ∧ n ≤ 2152 ∧ 4 ≤ m := by
  obtain ⟨h3, h13, h1, h8, d1, d8, hr, hn, hnm, _⟩ := h
  have := gst_r h3 h13 h1 h8
  refine ⟨by omega, by omega, by omega, by omega, ?_⟩
  rcases Nat.lt_or_ge m 4 with h | h
  · have e : m = 3 := by omega
    subst e
    omega
  · exact h
theorem CK.reg {m t d r n : Nat} {gp : Nat → Bool} {hs ls : Nat → Int64} (h : CK m t d r n gp hs ls) (f : Nat → Int64) : RG (tkd hs ls f d).1 (tkd hs ls f d).2 = brg (pqr gp r) (rb f) (8 * d) := by
  have hb := h.b
  obtain ⟨_, _, _, _, _, _, _, _, _, _, hs0, ls0, a1, a2, a3, a4⟩ := h
  rw [a3, a4]
  exact RG_tkd (P := pqr gp r) (RG_ld (by omega)) a1 a2 f d
theorem rgb_RG {hi lo : Int64} {q : Nat} (h : q < 128) : rgb hi lo q = RG hi lo q := by unfold RG; rw [decide_eq_true h, Bool.true_and]
theorem CK.lf_ {m t d r n : Nat} {gp : Nat → Bool} {hs ls : Nat → Int64} (h : CK m t d r n gp hs ls) (f : Nat → Int64) {q : Nat} (hq : q < r) : lft f (tkd hs ls f d).1 (tkd hs ls f d).2 d q = ((brg (pqr gp r) (rb f) (8 * d) q ^^ true) ^^ rb f (8 * d + q)) := by
  have hb := h.b
  rw [← h.reg f]
  show ((rgb _ _ q ^^ true) ^^ _) = _
  rw [rgb_RG (by omega)]
theorem sm_split {K : Type} [R : Lean.Grind.CommRing K] {f : Nat → K} {a : Nat} : ∀ b, sm f (a + b) = sm f a + sm (fun j => f (a + j)) b
  | 0 => by show sm f a = sm f a + 0; grind
  | b + 1 => by
    show sm f (a + b) + f (a + b) = sm f a + (sm (fun j => f (a + j)) b + f (a + b))
    rw [sm_split b]; grind
theorem CK.val {m t d r n : Nat} {gp : Nat → Bool} {hs ls : Nat → Int64} (h : CK m t d r n gp hs ls) {K : Type} [R : Lean.Grind.CommRing K] [Ch : Lean.Grind.IsCharP K 2] {p : Nat → K} (hp : Hm m p) (f : Nat → Int64) {i : Nat} (hi1 : 1 ≤ i) (hi2 : i ≤ 2 * t) : vK (fun j => lft f (tkd hs ls f d).1 (tkd hs ls f d).2 d (r - 1 - j)) (p (pwr m i)) r = p (wsm m (rb f) n i n) := by
  have hb := h.b
  have hl := fun q (hq : q < r) => h.lf_ f hq
  obtain ⟨h3, h13, h1, h8, _, _, hr, hn, _, hgp, _⟩ := h
  obtain ⟨x, hx⟩ : ∃ x, x = p (pwr m i) := ⟨_, rfl⟩
  have hg : gp = fun j => (gst m t).1.testBit j := funext hgp
  have hv : vK (fun j => (gst m t).1.testBit j) x (r + 1) = 0 := by rw [hx, hr]; exact van hp h3 h13 h1 h8 i hi1 hi2
  have e0 := brg_ev (G := (gst m t).1) (r := r) hb.1 (by rw [hr]; exact (gst_lt h3 h13 h8).2) hv (w := rb f) (8 * d)
  rw [← hg] at e0
  have e1 : vK (fun j => lft f (tkd hs ls f d).1 (tkd hs ls f d).2 d (r - 1 - j)) x r = vK (fun j => brg (pqr gp r) (rb f) (8 * d) (r - 1 - j)) x r + sm (fun j => if rb f (8 * d + (r - 1 - j)) then 0 else x ^ j) r := by
    unfold vK
    rw [← sm_add]
    refine sm_congr _ (fun j hj => ?_)
    show (if lft f (tkd hs ls f d).1 (tkd hs ls f d).2 d (r - 1 - j) then x ^ j else 0) = (if brg (pqr gp r) (rb f) (8 * d) (r - 1 - j) then x ^ j else 0) + (if rb f (8 * d + (r - 1 - j)) then 0 else x ^ j)
    rw [hl (r - 1 - j) (by omega)]
    generalize x ^ j = y
    cases brg (pqr gp r) (rb f) (8 * d) (r - 1 - j) <;> cases rb f (8 * d + (r - 1 - j))
    · exact (show y = 0 + y by grind)
    · exact (show (0 : K) = 0 + 0 by grind)
    · exact (ad_self y).symm
    · exact (show y = y + 0 by grind)
  have e2 : sm (fun j => if rb f (8 * d + (r - 1 - j)) then 0 else x ^ j) r = sm (fun q => if rb f (8 * d + q) then 0 else x ^ (r - 1 - q)) r := by
    rw [← sm_rev (f := fun q => if rb f (8 * d + q) then 0 else x ^ (r - 1 - q))]
    refine sm_congr _ (fun j hj => ?_)
    rw [show r - 1 - (r - 1 - j) = j by omega]
  rw [← hx, e1, e0, e2, fe_wsm hp h3 h13]
  have e3 : sm (fun k => if rb f k then 0 else p (pwr m (n - 1 - k)) ^ i) n = sm (fun k => if rb f k then 0 else x ^ (n - 1 - k)) n := sm_congr _ (fun k hk => by
    rw [hx, ← hp.pw h3 h13, ← hp.pw h3 h13, Nat.mul_comm])
  have e4 := sm_split (f := fun k => if rb f k then (0 : K) else x ^ (n - 1 - k)) (a := 8 * d) r
  rw [e3, show sm (fun k => if rb f k then (0 : K) else x ^ (n - 1 - k)) n = sm (fun k => if rb f k then (0 : K) else x ^ (n - 1 - k)) (8 * d + r) by rw [← hn], e4]
  congr 1
  · refine sm_congr _ (fun k hk => ?_)
    rw [show r + (8 * d - 1 - k) = n - 1 - k by omega]
  · refine sm_congr _ (fun k hk => ?_)
    rw [show n - 1 - (8 * d + k) = r - 1 - k by omega]
theorem CK.syn {m t d r n : Nat} {gp : Nat → Bool} {hs ls : Nat → Int64} (h : CK m t d r n gp hs ls) (f : Nat → Int64) {i : Nat} (hi1 : 1 ≤ i) (hi2 : i ≤ 2 * t) : rsum m (fun j => lft f (tkd hs ls f d).1 (tkd hs ls f d).2 d (r - 1 - j)) (i % (2 ^ m - 1)) r = wsm m (rb f) n i n := by
  have h3 := h.1
  have h13 := h.2.1
  letI := FF.ring h3 h13
  letI := FF.chr h3 h13
  have hp := FF.hm h3 h13
  refine hp.in_ (rsum_lt h3 h13 _) (wsm_lt h3 h13 n) ?_
  rw [fe_rsum hp h3 h13, pwr_mod h3 h13]
  exact h.val hp f hi1 hi2
theorem CK.ty_ {m t d r n : Nat} {gp : Nat → Bool} {hs ls : Nat → Int64} (h : CK m t d r n gp hs ls) (f : Nat → Int64) {s0 : Nat → Nat} : ∀ q, q ≤ 2 * t → ∀ j, 1 ≤ j → j ≤ q → tks m (fun j => lft f (tkd hs ls f d).1 (tkd hs ls f d).2 d (r - 1 - j)) r s0 q j = wsm m (rb f) n j n
  | 0, _, j, h1, h2 => absurd h1 (by omega)
  | q + 1, hq, j, h1, h2 => by
    have ih := CK.ty_ h f (s0 := s0) q (by omega)
    have h3 := h.1
    have h13 := h.2.1
    show (if j = q + 1 then (if (q + 1) % 2 = 1 then rsum m (fun j => lft f (tkd hs ls f d).1 (tkd hs ls f d).2 d (r - 1 - j)) ((q + 1) % (2 ^ m - 1)) r else fmul m (tks m (fun j => lft f (tkd hs ls f d).1 (tkd hs ls f d).2 d (r - 1 - j)) r s0 q ((q + 1) / 2)) (tks m (fun j => lft f (tkd hs ls f d).1 (tkd hs ls f d).2 d (r - 1 - j)) r s0 q ((q + 1) / 2))) else tks m (fun j => lft f (tkd hs ls f d).1 (tkd hs ls f d).2 d (r - 1 - j)) r s0 q j) = _
    by_cases hj : j = q + 1
    · rw [if_pos hj, hj]
      by_cases ho : (q + 1) % 2 = 1
      · rw [if_pos ho]
        exact h.syn f (by omega) hq
      · rw [if_neg ho, ih ((q + 1) / 2) (by omega) (by omega)]
        letI := FF.ring h3 h13
        letI := FF.chr h3 h13
        have hp := FF.hm h3 h13
        refine hp.in_ (fmul_lt h3 h13) (wsm_lt h3 h13 n) ?_
        rw [hp.2.1 _ _ (wsm_lt h3 h13 n) (wsm_lt h3 h13 n), ← wsm_sq hp h3 h13, show 2 * ((q + 1) / 2) = q + 1 by omega]
    · rw [if_neg hj]
      exact ih j h1 (by omega)
theorem nnl_iff {lf : Nat → Bool} : ∀ n, nnl lf n = true ↔ ∀ q, q < n → lf q = false
  | 0 => ⟨fun _ q hq => absurd hq (by omega), fun _ => rfl⟩
  | n + 1 => by
    show (nnl lf n && !(lf n)) = true ↔ _
    rw [Bool.and_eq_true, nnl_iff n]
    refine ⟨fun h q hq => ?_, fun h => ⟨fun q hq => h q (by omega), by rw [h n (by omega)]; rfl⟩⟩
    by_cases hn : q = n
    · rw [hn]; cases hl : lf n with
      | false => rfl
      | true => rw [hl] at h; exact absurd h.2 (by decide)
    · exact h.1 q (by omega)
theorem CK.nn_ {m t d r n : Nat} {gp : Nat → Bool} {hs ls : Nat → Int64} (h : CK m t d r n gp hs ls) (f : Nat → Int64) : nnl (lft f (tkd hs ls f d).1 (tkd hs ls f d).2 d) r = true ↔ Rt m t n (rb f) := by
  have h3 := h.1
  have h13 := h.2.1
  letI := FF.ring h3 h13
  letI := FF.chr h3 h13
  have hp := FF.hm h3 h13
  have hr : r = (gst m t).2 := h.2.2.2.2.2.2.1
  rw [nnl_iff]
  refine ⟨fun hz i h1 h2 => ?_, fun hz q hq => ?_⟩
  · refine hp.2.2.2.2 _ (wsm_lt h3 h13 n) ?_
    rw [← h.val hp f h1 h2]
    exact sm_zero _ (fun j hj => by
      show (if lft f (tkd hs ls f d).1 (tkd hs ls f d).2 d (r - 1 - j) then _ else _) = _
      rw [hz (r - 1 - j) (by omega)]; rfl)
  · have := rest_0 h3 h13 h.2.2.2.1 (FF.iv h3 h13) hp (g := fun j => lft f (tkd hs ls f d).1 (tkd hs ls f d).2 d (r - 1 - j)) (fun i h1 h2 => by
      rw [← hr, h.val hp f h1 h2, hz i h1 h2]
      exact hp.2.2.1) (r - 1 - q) (by omega)
    have h9 : lft f (tkd hs ls f d).1 (tkd hs ls f d).2 d (r - 1 - (r - 1 - q)) = false := this
    rwa [show r - 1 - (r - 1 - q) = q by omega] at h9
theorem mright_ok {m t d r n : Nat} {gp : Nat → Bool} {hs ls : Nat → Int64} (h : CK m t d r n gp hs ls) {s : Ms} {c : Mp} (hc : c = (m, t, d, r, n, hs, ls)) :
    ((mright c s).2 = true → Rt m t n (rb (mright c s).1.2.2.1) ∧ cnt (fun k => rb s.2.2.1 k ^^ rb (mright c s).1.2.2.1 k) n ≤ t) ∧
    (∀ v, Rt m t n v → cnt (fun k => rb s.2.2.1 k ^^ v k) n ≤ t → (mright c s).2 = true) ∧ ∀ k, n ≤ k → rb (mright c s).1.2.2.1 k = rb s.2.2.1 k := by
  subst hc
  have hb := h.b
  have hnn := h.nn_ s.2.2.1
  have hty := fun j h1 h2 => h.ty_ s.2.2.1 (s0 := s.2.2.2.1) (2 * t) (Nat.le_refl _) j h1 h2
  obtain ⟨h3, h13, h1, h8, _, _, hr, hn, hnm, _⟩ := h
  have hdec := cl_dec h3 h13 h8 (by omega) (by omega) hnm (sy := msy (m, t, d, r, n, hs, ls) s) (w := rb s.2.2.1) hty (sp := s.2.2.2.2.2.2.1) (w0 := s.2.2.2.2.2.2.2.2) (l0 := s.2.2.2.2.2.2.2.1) (s := mbm (m, t, d, r, n, hs, ls) s) rfl (F := mfw (m, t, d, r, n, hs, ls) s) rfl
  unfold mright
  by_cases hz : nnl (mlf (m, t, d, r, n, hs, ls) s.2.2.1) r = true
  · rw [if_pos hz]
    refine ⟨fun _ => ⟨hnn.mp hz, ?_⟩, fun _ _ _ => rfl, fun _ _ => rfl⟩
    exact Nat.le_trans (vfl_cnt (w := rb s.2.2.1) (Y := fun _ => false) (f := fun _ => 0) (n := n) 0) (Nat.zero_le _)
  · rw [if_neg hz]
    by_cases hL : t < (mbm (m, t, d, r, n, hs, ls) s).2.2.2.1
    · rw [if_pos hL]
      refine ⟨fun z => absurd z (by show ¬ false = true; decide), fun v hv hd => ?_, fun _ _ => rfl⟩
      have := (hdec.2 v hv hd).1
      omega
    · rw [if_neg hL]
      by_cases hF : (mfw (m, t, d, r, n, hs, ls) s).2.1 = (mbm (m, t, d, r, n, hs, ls) s).2.2.2.1
      · rw [if_pos (beq_iff_eq.mpr hF)]
        obtain ⟨v, hv, hd⟩ := hdec.1 (by omega) hF
        obtain ⟨c1, _, c3⟩ := hdec.2 v hv hd
        have hbit : ∀ j, rb (fbl s.2.2.1 (mfw (m, t, d, r, n, hs, ls) s).2.2 (mbm (m, t, d, r, n, hs, ls) s).2.2.2.1) j = (rb s.2.2.1 j ^^ (decide (j < n) && (rb s.2.2.1 j ^^ v j))) := fun j => by
          rw [c1]
          exact rb_fbl s.2.2.1 (E := fun k => rb s.2.2.1 k ^^ v k) n _ (fun l hl => c3 l (by omega)) j
        have hlo : ∀ j, j < n → v j = rb (fbl s.2.2.1 (mfw (m, t, d, r, n, hs, ls) s).2.2 (mbm (m, t, d, r, n, hs, ls) s).2.2.2.1) j := fun j hj => by
          rw [hbit, decide_eq_true hj]
          cases rb s.2.2.1 j <;> cases v j <;> rfl
        refine ⟨fun _ => ⟨hv.cg hlo, ?_⟩, fun _ _ _ => rfl, fun k hk => ?_⟩
        · rw [cnt_congr n (fun k hk => by
            show (rb s.2.2.1 k ^^ rb (fbl s.2.2.1 _ _) k) = (rb s.2.2.1 k ^^ v k)
            rw [← hlo k hk])]
          exact hd
        · show rb (fbl s.2.2.1 _ _) k = _
          rw [hbit, decide_eq_false (by omega), Bool.false_and, Bool.xor_false]
      · rw [if_neg (fun z => hF (beq_iff_eq.mp z))]
        refine ⟨fun z => absurd z (by show ¬ false = true; decide), fun v hv hd => ?_, fun _ _ => rfl⟩
        exact absurd (hdec.2 v hv hd).2.1 hF
