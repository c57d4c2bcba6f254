/-! MENDING a page: class and model agree -/
def PB (n : Nat) (bf sf kf : Nat → Int64) (bb : Nat → Bool) (ss : Nat → Int32) (kk : Nat → Bool) (u : Nat) : Prop := ∀ k, k < 2176 → rb bf k = (decide (k < n) && bb (2200 * u + k)) ∧ rb sf k = (decide (k < n) && decide (ss (2200 * u + k) ≠ -1)) ∧ rb kf k = (decide (k < n) && kk (2200 * u + k))
theorem rones_n {f : Nat → Int64} {E : Nat → Bool} {n : Nat} (hn : n ≤ 2176) (h : ∀ k, k < 2176 → rb f k = (decide (k < n) && E k)) : rones f 34 = cnt E n := by
  have e := cnt_add (rb f) n (2176 - n)
  rw [show n + (2176 - n) = 64 * 34 by omega] at e
  have h0 : cnt (fun j => rb f (n + j)) (2176 - n) = 0 := by
    have : ∀ q, q ≤ 2176 - n → cnt (fun j => rb f (n + j)) q = 0 := fun q => by
      induction q with
      | zero => intro _; rfl
      | succ q ih =>
        intro hq
        rw [cnt_f (by show rb f (n + q) = false; rw [h (n + q) (by omega), decide_eq_false (by omega), Bool.false_and])]
        exact ih (by omega)
    exact this _ (Nat.le_refl _)
  rw [rones_cnt, e, h0, Nat.add_zero]
  exact cnt_congr n (fun j hj => by rw [h j (by omega), decide_eq_true hj, Bool.true_and])
theorem cnt_sym {a b : Nat → Bool} (n : Nat) : cnt (fun k => a k ^^ b k) n = cnt (fun k => b k ^^ a k) n := cnt_congr n (fun k _ => Bool.xor_comm _ _)
theorem pass_eq {m t d r n : Nat} {gp : Nat → Bool} {hs ls : Nat → Int64} (h : CK m t d r n gp hs ls) {bf sf kf : Nat → Int64} {bb kk : Nat → Bool} {ss : Nat → Int32} {u : Nat} (hP : PB n bf sf kf bb ss kk u) {c : Mp} (hc : c = (m, t, d, r, n, hs, ls)) (s : Ms) (s' : Mi) (z : Bool) (kc : Nat) :
    (mm1 c s z bf kf kc).2 = (mm2 m t n s' z bb kk u kc).2 ∧ ((mm1 c s z bf kf kc).2 = true → ∀ k, k < 2176 → rb (mm1 c s z bf kf kc).1.2.2.1 k = (decide (k < n) && (mm2 m t n s' z bb kk u kc).1.1 k)) := by
  have hb := h.b
  obtain ⟨A1, A2, A3⟩ := mright_ok h hc (s := msw s (mfl z bf kf s.2.2.1 34))
  obtain ⟨B1, B2⟩ := mo_dec (t := t) h.1 h.2.1 h.2.2.2.2.2.2.2.2.1 (s := (wfl z bb kk u s'.1 n, s'.2))
  have hct : c.2.1 = t := by rw [hc]
  obtain ⟨W, hW⟩ : ∃ W : Nat → Bool, W = wfl z bb kk u s'.1 n := ⟨_, rfl⟩
  have hWn : ∀ k, k < n → rb (mfl z bf kf s.2.2.1 34) k = W k := fun k hk => by
    rw [rb_mfl z bf kf s.2.2.1 (by omega), (hP k (by omega)).1, (hP k (by omega)).2.2, decide_eq_true hk, Bool.true_and, Bool.true_and, hW]
    unfold wfl
    rw [if_pos hk]
  have hWo : ∀ k, n ≤ k → k < 2176 → rb (mfl z bf kf s.2.2.1 34) k = false := fun k hk h2 => by
    rw [rb_mfl z bf kf s.2.2.1 h2, (hP k h2).1, (hP k h2).2.2, decide_eq_false (by omega), Bool.false_and, Bool.false_and]
    rfl
  obtain ⟨I, hI⟩ : ∃ I, I = imd m t n (wfl z bb kk u s'.1 n, s'.2) := ⟨_, rfl⟩
  obtain ⟨Q, hQ⟩ : ∃ Q, Q = mright c (msw s (mfl z bf kf s.2.2.1 34)) := ⟨_, rfl⟩
  have m1 : mm1 c s z bf kf kc = (Q.1, Q.2 && decide (2 * rones (fun j => (Q.1.2.2.1 j ^^^ bf j) &&& (kf j ^^^ (-1))) 34 + kc ≤ 2 * c.2.1)) := by rw [hQ]; rfl
  have m2 : mm2 m t n s' z bb kk u kc = (I.1, I.2 && decide (2 * cnt (fun k => (I.1.1 k ^^ bb (2200 * u + k)) && !(kk (2200 * u + k))) n + kc ≤ 2 * t)) := by rw [hI]; rfl
  rw [← hQ] at A1 A2 A3
  rw [← hI] at B1 B2
  rw [m1, m2, hct]
  have cg : ∀ v : Nat → Bool, cnt (fun k => rb (msw s (mfl z bf kf s.2.2.1 34)).2.2.1 k ^^ v k) n = cnt (fun k => (wfl z bb kk u s'.1 n, s'.2).1 k ^^ v k) n := fun v => cnt_congr n (fun k hk => by
    show (rb (mfl z bf kf s.2.2.1 34) k ^^ v k) = (wfl z bb kk u s'.1 n k ^^ v k)
    rw [hWn k hk, hW])
  have hfl : Q.2 = I.2 := by
    cases h1 : Q.2 with
    | true =>
      obtain ⟨a, b⟩ := A1 h1
      rw [cg] at b
      exact (B2 _ a b).symm
    | false =>
      cases h2 : I.2 with
      | false => rfl
      | true =>
        obtain ⟨a, b⟩ := B1 h2
        rw [← cg] at b
        have := A2 _ a b
        rw [h1] at this
        cases this
  have hwd : Q.2 = true → ∀ k, k < 2176 → rb Q.1.2.2.1 k = (decide (k < n) && I.1.1 k) := fun h1 k hk => by
    by_cases hkn : k < n
    · rw [decide_eq_true hkn, Bool.true_and]
      obtain ⟨a, b⟩ := A1 h1
      obtain ⟨a', b'⟩ := B1 (hfl.symm.trans h1)
      rw [cg, cnt_sym] at b
      have ht := cnt_tri (a := rb Q.1.2.2.1) (b := (wfl z bb kk u s'.1 n, s'.2).1) (c := I.1.1) n
      exact Rt.uniq h.1 h.2.1 h.2.2.2.2.2.2.2.2.1 a a' (by omega) k hkn
    · rw [decide_eq_false hkn, Bool.false_and, A3 k (by omega)]
      exact hWo k (by omega) hk
  refine ⟨?_, fun h1 => ?_⟩
  · show (Q.2 && _) = (I.2 && _)
    cases h1 : Q.2 with
    | false => rw [← hfl, h1, Bool.false_and, Bool.false_and]
    | true =>
      rw [← hfl, h1, Bool.true_and, Bool.true_and]
      rw [rones_n (n := n) (E := fun k => (I.1.1 k ^^ bb (2200 * u + k)) && !(kk (2200 * u + k))) (by omega) (fun k hk => by
        rw [rb_and (fun j => Q.1.2.2.1 j ^^^ bf j) (fun j => kf j ^^^ (-1)), rb_xor, rb_not, hwd h1 k hk, (hP k hk).1, (hP k hk).2.2]
        cases decide (k < n) <;> cases I.1.1 k <;> cases bb (2200 * u + k) <;> cases kk (2200 * u + k) <;> rfl)]
  · have h2 : (Q.2 && decide (2 * rones (fun j => (Q.1.2.2.1 j ^^^ bf j) &&& (kf j ^^^ (-1))) 34 + kc ≤ 2 * t)) = true := h1
    rw [Bool.and_eq_true] at h2
    exact hwd h2.1
theorem mend_eq {m t d r n : Nat} {gp : Nat → Bool} {hs ls : Nat → Int64} (h : CK m t d r n gp hs ls) {bf sf kf : Nat → Int64} {bb kk : Nat → Bool} {ss : Nat → Int32} {u : Nat} (hP : PB n bf sf kf bb ss kk u) (s : Ms) (s' : Mi) :
    (mmd ((m, t, d, r, n, hs, ls) : Mp) s bf kf).2 = (mmr m t n s' bb kk u (cnt (fun q => kk (2200 * u + q)) n)).2 ∧ (∀ o, (mmd ((m, t, d, r, n, hs, ls) : Mp) s bf kf).2 = some o → ∀ k, k < 2176 → rb (mmd ((m, t, d, r, n, hs, ls) : Mp) s bf kf).1.2.2.1 k = (decide (k < n) && (mmr m t n s' bb kk u (cnt (fun q => kk (2200 * u + q)) n)).1.1 k)) := by
  have hb := h.b
  obtain ⟨c, hc⟩ : ∃ c : Mp, c = (m, t, d, r, n, hs, ls) := ⟨_, rfl⟩
  have hct : c.2.1 = t := by rw [hc]
  rw [← hc]
  have hk : rones kf 34 = cnt (fun q => kk (2200 * u + q)) n := rones_n (by omega) (fun k hk => (hP k hk).2.2)
  obtain ⟨kc, hkc⟩ : ∃ kc, kc = cnt (fun q => kk (2200 * u + q)) n := ⟨_, rfl⟩
  rw [← hkc] at hk ⊢
  have hout : ∀ (w : Nat → Int64) (w' : Nat → Bool), (∀ k, k < 2176 → rb w k = (decide (k < n) && w' k)) → rones (fun j => w j ^^^ bf j) 34 = cnt (fun k => w' k ^^ bb (2200 * u + k)) n := fun w w' hw => rones_n (by omega) (fun k hk => by
    rw [rb_xor, hw k hk, (hP k hk).1]
    cases decide (k < n) <;> cases w' k <;> cases bb (2200 * u + k) <;> rfl)
  obtain ⟨p1, p2⟩ := pass_eq h hP hc s s' false kc
  obtain ⟨q1, q2⟩ := pass_eq h hP hc (mm1 c s false bf kf kc).1 (mm2 m t n s' false bb kk u kc).1 true kc
  unfold mmd mmr
  rw [hk, hct]
  by_cases h0 : 2 * t < kc
  · rw [if_pos h0, if_pos h0]
    exact ⟨rfl, fun o z => by cases z⟩
  · rw [if_neg h0, if_neg h0]
    by_cases h1 : (mm1 c s false bf kf kc).2 = true
    · rw [if_pos h1, if_pos (p1.symm.trans h1)]
      exact ⟨by show some _ = some _; rw [hout _ _ (p2 h1)], fun o _ => p2 h1⟩
    · rw [if_neg h1, if_neg (fun z => h1 (p1.trans z))]
      by_cases h2 : kc = 0
      · rw [if_pos h2, if_pos h2]
        exact ⟨rfl, fun o z => by cases z⟩
      · rw [if_neg h2, if_neg h2]
        by_cases h4 : (mm1 c (mm1 c s false bf kf kc).1 true bf kf kc).2 = true
        · rw [if_pos h4, if_pos (q1.symm.trans h4)]
          exact ⟨by show some _ = some _; rw [hout _ _ (q2 h4)], fun o _ => q2 h4⟩
        · rw [if_neg h4, if_neg (fun z => h4 (q1.trans z))]
          exact ⟨rfl, fun o z => by cases z⟩
