theorem nin_sp {x : Nat} : ∀ l : List Nat, nin x l = true → ∀ j, j < l.length → x ≠ l.getD j 0
  | [], _, j, hj => absurd hj (Nat.not_lt_zero _)
  | y :: ys, h, j, hj => by
    unfold nin at h
    rw [Bool.and_eq_true, bne_iff_ne] at h
    cases j with
    | zero => exact h.1
    | succ j => exact nin_sp ys h.2 j (by rw [List.length_cons] at hj; omega)
theorem ndp_sp : ∀ l : List Nat, ndp l = true → ∀ i j, i < j → j < l.length → l.getD i 0 ≠ l.getD j 0
  | [], _, i, j, _, hj => absurd hj (Nat.not_lt_zero _)
  | x :: xs, h, i, j, hij, hj => by
    unfold ndp at h
    rw [Bool.and_eq_true] at h
    obtain ⟨k, rfl⟩ : ∃ k, j = k + 1 := ⟨j - 1, by omega⟩
    have hk : k < xs.length := by rw [List.length_cons] at hj; omega
    cases i with
    | zero => exact nin_sp xs h.1 k hk
    | succ i => exact ndp_sp xs h.2 i k (by omega) hk
theorem ndp_app : ∀ a b : List Nat, ndp (a ++ b) = true → ndp b = true
  | [], b, h => h
  | x :: xs, b, h => by
    rw [List.cons_append] at h
    unfold ndp at h
    rw [Bool.and_eq_true] at h
    exact ndp_app xs b h.2
theorem esl_ndt {m t : Nat} : ∀ k, ndp (esl m (t + k)) = true → ndp (esl m t) = true
  | 0, h => h
  | k + 1, h => by
    refine esl_ndt k ?_
    have h' : ndp (if cnew (2 * (t + k) + 1) m then cosL (2 ^ m - 1) ((2 * (t + k) + 1) % (2 ^ m - 1)) (csize (2 * (t + k) + 1) m) ++ esl m (t + k) else esl m (t + k)) = true := h
    cases hc : cnew (2 * (t + k) + 1) m with
    | true => rw [hc] at h'; exact ndp_app _ _ h'
    | false => rw [hc] at h'; exact h'
theorem cosL_len {N : Nat} : ∀ (k e : Nat), (cosL N e k).length = k
  | 0, e => rfl
  | k + 1, e => by unfold cosL; rw [List.length_cons, cosL_len k]
theorem esl_len {m : Nat} : ∀ t, (esl m t).length = (gst m t).2
  | 0 => rfl
  | t + 1 => by
    unfold esl gst
    show _ = (if cnew (2 * t + 1) m then (gst m t).2 + csize (2 * t + 1) m else (gst m t).2)
    cases cnew (2 * t + 1) m with
    | true =>
      show (cosL (2 ^ m - 1) ((2 * t + 1) % (2 ^ m - 1)) (csize (2 * t + 1) m) ++ esl m t).length = (gst m t).2 + csize (2 * t + 1) m
      rw [List.length_append, cosL_len, esl_len t, Nat.add_comm]
    | false => exact esl_len t
/-- what holds of a number and of its doubles holds of all the exponents -/
theorem cosL_all {N : Nat} {Q : Nat → Prop} (hd : ∀ e, e < N → Q e → Q (dbl e N)) : ∀ (k e : Nat), e < N → Q e → ∀ x, x ∈ cosL N e k → x < N ∧ Q x
  | 0, e, _, _, x, hx => absurd hx (by unfold cosL; exact List.not_mem_nil)
  | k + 1, e, he, hq, x, hx => by
    unfold cosL at hx
    rcases List.mem_cons.mp hx with h | h
    · rw [h]; exact ⟨he, hq⟩
    · exact cosL_all hd k (dbl e N) (dbl_lt he) (hd e he hq) x h
theorem esl_all {m : Nat} {Q : Nat → Prop} (hN : 0 < 2 ^ m - 1) (hd : ∀ e, e < 2 ^ m - 1 → Q e → Q (dbl e (2 ^ m - 1))) : ∀ t, (∀ j, j < t → Q ((2 * j + 1) % (2 ^ m - 1))) → ∀ x, x ∈ esl m t → x < 2 ^ m - 1 ∧ Q x
  | 0, _, x, hx => absurd hx (by unfold esl; exact List.not_mem_nil)
  | t + 1, h, x, hx => by
    have ih := esl_all hN hd t (fun j hj => h j (by omega))
    have hx' : x ∈ (if cnew (2 * t + 1) m then cosL (2 ^ m - 1) ((2 * t + 1) % (2 ^ m - 1)) (csize (2 * t + 1) m) ++ esl m t else esl m t) := hx
    cases hc : cnew (2 * t + 1) m with
    | true =>
      rw [hc] at hx'
      have hx2 : x ∈ cosL (2 ^ m - 1) ((2 * t + 1) % (2 ^ m - 1)) (csize (2 * t + 1) m) ++ esl m t := hx'
      rcases List.mem_append.mp hx2 with h1 | h1
      · exact cosL_all hd _ _ (Nat.mod_lt _ hN) (h t (by omega)) x h1
      · exact ih x h1
    | false => rw [hc] at hx'; exact ih x hx'
theorem getD_mem {l : List Nat} {j : Nat} (h : j < l.length) : l.getD j 0 ∈ l := by
  rw [List.getD_eq_getElem?_getD, List.getElem?_eq_getElem h]
  exact List.getElem_mem h
/-- a polynomial over the bits, of degree below the generator's, that is 0 at all its roots, is 0 -/
theorem rest_0 {m t : Nat} (h3 : 3 ≤ m) (h13 : m ≤ 13) (ht8 : t ≤ 8) {K : Type} [R : Lean.Grind.CommRing K] [Ch : Lean.Grind.IsCharP K 2] {iv : K → K} (hv : Iv K iv) {p : Nat → K} (hp : Hm m p) {g : Nat → Bool} (h : ∀ i, 1 ≤ i → i ≤ 2 * t → vK g (p (pwr m i)) (gst m t).2 = 0) : ∀ q, q < (gst m t).2 → g q = false := by
  have ht := two_le h3 h13
  have hall := esl_all (m := m) (Q := fun e => vK g (p (pwr m e)) (gst m t).2 = 0) (by omega) (fun e he h1 => by
    show vK g (p (pwr m (dbl e (2 ^ m - 1)))) (gst m t).2 = 0
    have h1' : vK g (p (pwr m e)) (gst m t).2 = 0 := h1
    rw [dbl_mod he, pwr_mod h3 h13, show 2 * e = e + e by omega, ← fmul_pwr h3 h13, hp.2.1 _ _ (pwr_lt h3 h13 _) (pwr_lt h3 h13 _), vK_sq, h1']
    exact (show (0 : K) * 0 = 0 by grind)) t (fun j hj => by
    show vK g (p (pwr m ((2 * j + 1) % (2 ^ m - 1)))) (gst m t).2 = 0
    rw [pwr_mod h3 h13]
    exact h (2 * j + 1) (by omega) (by omega))
  have hnd : ndp (esl m t) = true := esl_ndt (8 - t) (by rw [show t + (8 - t) = 8 by omega]; exact esl_nd m (by omega) h3)
  have hlen := esl_len (m := m) t
  intro q hq
  have hr := roots hv (X := fun l => p (pwr m ((esl m t).getD l 0))) (n := (gst m t).2) (p := fun j => if g j then (1 : K) else 0) ⟨fun l _ => hp.ne h3 h13 _, fun l k h1 h2 he => by
      have a := hall _ (getD_mem (show l < (esl m t).length by omega))
      have b := hall _ (getD_mem (show k < (esl m t).length by omega))
      exact ndp_sp _ hnd l k h1 (by omega) (pwr_inj h3 h13 a.1 b.1 (hp.in_ (pwr_lt h3 h13 _) (pwr_lt h3 h13 _) he))⟩ (fun l hl => by
      have a := (hall _ (getD_mem (show l < (esl m t).length by omega))).2
      have a' : sm (fun q => if g q then p (pwr m ((esl m t).getD l 0)) ^ q else 0) (gst m t).2 = 0 := a
      refine Eq.trans (sm_congr _ (fun j _ => ?_)) a'
      cases g j with
      | true => exact (show ∀ a : K, (if true = true then (1 : K) else 0) * a = if true = true then a else 0 by intro a; rw [if_pos rfl, if_pos rfl]; grind) _
      | false => exact (show ∀ a : K, (if false = true then (1 : K) else 0) * a = if false = true then a else 0 by intro a; rw [if_neg (by decide), if_neg (by decide)]; grind) _) q hq
  cases hg : g q with
  | false => rfl
  | true =>
    rw [hg] at hr
    exact absurd hr hv.2
/-! THE REST of a word and its values -/
/-- a step of the register at a root of the generator -/
theorem brg_ev {K : Type} [R : Lean.Grind.CommRing K] [Ch : Lean.Grind.IsCharP K 2] {G r : Nat} (hr : 1 ≤ r) (hG : G.testBit r = true) {x : K} (hx : vK (fun j => G.testBit j) x (r + 1) = 0) {w : Nat → Bool} : ∀ k, vK (fun j => brg (pqr (fun j => G.testBit j) r) w k (r - 1 - j)) x r = sm (fun j => if w j then 0 else x ^ (r + (k - 1 - j))) k
  | 0 => sm_zero _ (fun j _ => rfl)
  | k + 1 => by
    have ih := brg_ev hr hG hx (w := w) k
    obtain ⟨B, hB⟩ : ∃ B, B = brg (pqr (fun j => G.testBit j) r) w k := ⟨_, rfl⟩
    obtain ⟨f, hf⟩ : ∃ f, f = (B 0 ^^ !(w k)) := ⟨_, rfl⟩
    obtain ⟨s, hs⟩ : ∃ s, r = s + 1 := ⟨r - 1, by omega⟩
    rw [← hB] at ih
    -- the next register's value
    have e1 : vK (fun j => brg (pqr (fun j => G.testBit j) r) w (k + 1) (r - 1 - j)) x r = sm (fun j => (if j = 0 then 0 else if B (r - j) then x ^ j else 0) + (if f && G.testBit j then x ^ j else 0)) r := by
      unfold vK
      refine sm_congr _ (fun j hj => ?_)
      show (if (brg (pqr (fun j => G.testBit j) r) w k (r - 1 - j + 1) ^^ ((brg (pqr (fun j => G.testBit j) r) w k 0 ^^ !(w k)) && pqr (fun j => G.testBit j) r (r - 1 - j))) then x ^ j else 0) = _
      rw [show pqr (fun j => G.testBit j) r (r - 1 - j) = G.testBit j by unfold pqr; rw [decide_eq_true (by omega), Bool.true_and, show r - 1 - (r - 1 - j) = j by omega], ← hB, ← hf]
      by_cases h0 : j = 0
      · rw [if_pos h0, h0, show r - 1 - 0 + 1 = r by omega, show B r = false by rw [hB]; exact brg_o k r (Nat.le_refl _), Bool.false_xor]
        exact (show ∀ a : K, a = 0 + a by intro a; grind) _
      · rw [if_neg h0, show r - 1 - j + 1 = r - j by omega]
        generalize x ^ j = y
        cases B (r - j) <;> cases (f && G.testBit j)
        · exact (show (0 : K) = 0 + 0 by grind)
        · exact (show y = 0 + y by grind)
        · exact (show y = y + 0 by grind)
        · exact (ad_self y).symm
    -- the shifted register
    have e2 : sm (fun j => if j = 0 then 0 else if B (r - j) then x ^ j else 0) r + (if B 0 then x ^ r else 0) = x * vK (fun j => B (r - 1 - j)) x r := by
      have a1 : sm (fun j => if j = 0 then 0 else if B (r - j) then x ^ j else 0) (r + 1) = x * vK (fun j => B (r - 1 - j)) x r := by
        unfold vK
        rw [sm_cons, if_pos rfl, ← sm_mul, sm_congr (g := fun j => x * (if B (r - 1 - j) then x ^ j else 0)) r (fun j hj => by
          show (if j + 1 = 0 then (0 : K) else if B (r - (j + 1)) then x ^ (j + 1) else 0) = _
          rw [if_neg (by omega), show r - (j + 1) = r - 1 - j by omega, Lean.Grind.Semiring.pow_succ]
          generalize x ^ j = y
          cases B (r - 1 - j)
          · exact (show (0 : K) = x * 0 by grind)
          · exact (show y * x = x * y by grind))]
        exact (show ∀ a : K, 0 + a = a by intro a; grind) _
      rw [← a1]
      show _ = sm (fun j => if j = 0 then 0 else if B (r - j) then x ^ j else 0) r + (if r = 0 then 0 else if B (r - r) then x ^ r else 0)
      rw [if_neg (show ¬ r = 0 by omega), Nat.sub_self]
    have e3 : sm (fun j => if f && G.testBit j then x ^ j else 0) r = if f then x ^ r else 0 := by
      cases f with
      | false => exact sm_zero _ (fun j _ => rfl)
      | true =>
        have hx' : sm (fun j => if G.testBit j then x ^ j else 0) r + (if G.testBit r then x ^ r else 0) = 0 := hx
        rw [hG, if_pos rfl] at hx'
        exact ad_eq hx'
    rw [e1, sm_add, e3]
    have e4 := ad_eq (show sm (fun j => if j = 0 then 0 else if B (r - j) then x ^ j else 0) r + ((if B 0 then x ^ r else 0) + x * vK (fun j => B (r - 1 - j)) x r) = 0 by
      have : ∀ a b c : K, a + b = c → a + (b + c) = 0 := by intro a b c h; grind
      exact this _ _ _ e2)
    rw [e4, ih, ← sm_mul]
    have e5 : sm (fun j => x * (if w j then 0 else x ^ (r + (k - 1 - j)))) k = sm (fun j => if w j then 0 else x ^ (r + (k + 1 - 1 - j))) k := sm_congr _ (fun j hj => by
      rw [show r + (k + 1 - 1 - j) = (r + (k - 1 - j)) + 1 by omega, Lean.Grind.Semiring.pow_succ]
      generalize x ^ (r + (k - 1 - j)) = y
      cases w j
      · exact (show x * y = y * x by grind)
      · exact (show x * 0 = (0 : K) by grind))
    rw [e5]
    show _ = sm (fun j => if w j then 0 else x ^ (r + (k + 1 - 1 - j))) k + (if w k then 0 else x ^ (r + (k + 1 - 1 - k)))
    rw [show r + (k + 1 - 1 - k) = r by omega, hf]
    generalize sm (fun j => if w j then 0 else x ^ (r + (k + 1 - 1 - j))) k = z
    generalize x ^ r = y
    cases B 0 <;> cases w k
    · exact (show (0 : K) + z + y = z + y by grind)
    · exact (show (0 : K) + z + 0 = z + 0 by grind)
    · exact (show y + z + 0 = z + y by grind)
    · exact (show y + z + y = z + 0 by grind)
