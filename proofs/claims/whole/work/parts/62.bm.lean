/-! THE SHORTEST RECURRENCE: Berlekamp and Massey -/
/-- C, of length L, makes the numbers S up to i -/
def Gn {K : Type} [R : Lean.Grind.CommRing K] (S C : Nat → K) (L i : Nat) : Prop := ∀ q, L < q → q ≤ i → sm (fun j => C j * S (q - j)) (L + 1) = 0
theorem massey {K : Type} [R : Lean.Grind.CommRing K] {S C D : Nat → K} {L e i : Nat} (hC : Gn S C L i) (hD : Gn S D e (i + 1)) (hD0 : D 0 = 1) (hd : sm (fun j => C j * S (i + 1 - j)) (L + 1) ≠ 0) : i + 1 ≤ e + L := by
  rcases Nat.lt_or_ge (e + L) (i + 1) with hlt | hge
  · exfalso
    refine hd ?_
    have e1 : sm (fun k => sm (fun j => D k * (C j * S (i + 1 - k - j))) (L + 1)) (e + 1) = sm (fun j => C j * S (i + 1 - j)) (L + 1) := by
      rw [sm_cons, sm_zero e (fun k hk => by
        rw [sm_mul, hC (i + 1 - (k + 1)) (by omega) (by omega)]; grind), sm_mul, hD0, Nat.sub_zero]
      grind
    have e2 : sm (fun k => sm (fun j => D k * (C j * S (i + 1 - k - j))) (L + 1)) (e + 1) = 0 := by
      rw [sm_swap]
      refine sm_zero _ (fun j hj => ?_)
      have e3 : sm (fun k => D k * (C j * S (i + 1 - k - j))) (e + 1) = C j * sm (fun k => D k * S (i + 1 - j - k)) (e + 1) := by
        rw [← sm_mul]
        refine sm_congr _ (fun k _ => ?_)
        rw [show i + 1 - k - j = i + 1 - j - k by omega]
        grind
      rw [e3, hD (i + 1 - j) (by omega) (by omega)]
      grind
    rw [← e1, e2]
  · exact hge
def BV {K : Type} [R : Lean.Grind.CommRing K] (S C B : Nat → K) (i L lag : Nat) (b : K) : Prop :=
  C 0 = 1 ∧ (∀ j, L < j → C j = 0) ∧ Gn S C L i ∧ L ≤ i ∧ b ≠ 0 ∧ ∃ L0 i1, lag + i1 = i + 1 ∧ i1 ≤ i ∧ L + L0 = i1 ∧ (∀ j, L0 < j → B j = 0) ∧ (∀ q, L0 < q → q < i1 → sm (fun j => B j * S (q - j)) (L0 + 1) = 0) ∧ sm (fun j => B j * S (i1 - j)) (L0 + 1) = b
theorem BV.z {K : Type} [R : Lean.Grind.CommRing K] {S C B : Nat → K} {i L lag : Nat} {b : K} (h : BV S C B i L lag b) (hd : sm (fun j => C j * S (i + 1 - j)) (L + 1) = 0) : BV S C B (i + 1) L (lag + 1) b := by
  obtain ⟨h1, h2, h3, h4, h5, L0, i1, h6, h7, h8, h9, h10, h11⟩ := h
  refine ⟨h1, h2, fun q hq hq2 => ?_, by omega, h5, L0, i1, by omega, by omega, h8, h9, h10, h11⟩
  rcases Nat.lt_or_ge i q with h | h
  · rw [show q = i + 1 by omega]; exact hd
  · exact h3 q hq h
theorem BV.gen {K : Type} [R : Lean.Grind.CommRing K] [Ch : Lean.Grind.IsCharP K 2] {S C B C' : Nat → K} {i L lag L' : Nat} {b sc : K} (h : BV S C B i L lag b) (hs : sc * b = sm (fun j => C j * S (i + 1 - j)) (L + 1)) (hC' : ∀ j, C' j = C j + (if lag ≤ j then sc * B (j - lag) else 0)) (hL : L ≤ L') (hL2 : i + 1 - L ≤ L') : C' 0 = 1 ∧ (∀ j, L' < j → C' j = 0) ∧ Gn S C' L' (i + 1) := by
  obtain ⟨h1, h2, h3, h4, h5, L0, i1, h6, h7, h8, h9, h10, h11⟩ := h
  refine ⟨?_, fun j hj => ?_, fun q hq hq2 => ?_⟩
  · rw [hC', if_neg (by omega), h1]; grind
  · rw [hC', h2 j (by omega)]
    split
    · rw [h9 (j - lag) (by omega)]; grind
    · grind
  · have e1 : sm (fun j => C' j * S (q - j)) (L' + 1) = sm (fun j => C j * S (q - j)) (L' + 1) + sm (fun j => (if lag ≤ j then sc * B (j - lag) else 0) * S (q - j)) (L' + 1) := by
      rw [← sm_add]
      refine sm_congr _ (fun j _ => ?_)
      rw [hC']; grind
    have e2 : sm (fun j => C j * S (q - j)) (L' + 1) = sm (fun j => C j * S (q - j)) (L + 1) := by
      have := sm_more (f := fun j => C j * S (q - j)) (n := L + 1) (L' - L) (fun j hj1 hj2 => by rw [h2 j (by omega)]; grind)
      rwa [show L + 1 + (L' - L) = L' + 1 by omega] at this
    have e3 : sm (fun j => (if lag ≤ j then sc * B (j - lag) else 0) * S (q - j)) (L' + 1) = sc * sm (fun j => B j * S (q - lag - j)) (L0 + 1) := by
      have a1 := sm_lag (f := fun j => (if lag ≤ j then sc * B (j - lag) else 0) * S (q - j)) (lag := lag) (L' + 1 - lag) (fun j hj => by rw [if_neg (by omega)]; grind)
      rw [show lag + (L' + 1 - lag) = L' + 1 by omega] at a1
      rw [a1, ← sm_mul]
      have a2 : sm (fun j => (if lag ≤ lag + j then sc * B (lag + j - lag) else 0) * S (q - (lag + j))) (L' + 1 - lag) = sm (fun j => sc * (B j * S (q - lag - j))) (L' + 1 - lag) := sm_congr _ (fun j _ => by
        rw [if_pos (by omega), show lag + j - lag = j by omega, show q - (lag + j) = q - lag - j by omega]; grind)
      have a3 := sm_more (f := fun j => sc * (B j * S (q - lag - j))) (n := L0 + 1) (L' - lag - L0) (fun j hj1 hj2 => by rw [h9 j (by omega)]; grind)
      rw [show L0 + 1 + (L' - lag - L0) = L' + 1 - lag by omega] at a3
      rw [a2, a3]
    rw [e1, e2, e3]
    rcases Nat.lt_or_ge i q with hh | hh
    · rw [show q = i + 1 by omega, show i + 1 - lag = i1 by omega, h11, hs]
      exact ad_self _
    · rw [h3 q (by omega) hh, h10 (q - lag) (by omega) (by omega)]
      grind
theorem BV.s {K : Type} [R : Lean.Grind.CommRing K] [Ch : Lean.Grind.IsCharP K 2] {S C B C' : Nat → K} {i L lag : Nat} {b sc : K} (h : BV S C B i L lag b) (hi : i < 2 * L) (hs : sc * b = sm (fun j => C j * S (i + 1 - j)) (L + 1)) (hC' : ∀ j, C' j = C j + (if lag ≤ j then sc * B (j - lag) else 0)) : BV S C' B (i + 1) L (lag + 1) b := by
  obtain ⟨g1, g2, g3⟩ := h.gen hs hC' (Nat.le_refl L) (by omega)
  obtain ⟨h1, h2, h3, h4, h5, L0, i1, h6, h7, h8, h9, h10, h11⟩ := h
  exact ⟨g1, g2, g3, by omega, h5, L0, i1, by omega, by omega, h8, h9, h10, h11⟩
theorem BV.l {K : Type} [R : Lean.Grind.CommRing K] [Ch : Lean.Grind.IsCharP K 2] {S C B C' B' : Nat → K} {i L lag : Nat} {b sc d : K} (h : BV S C B i L lag b) (hi : ¬ i < 2 * L) (hd : d = sm (fun j => C j * S (i + 1 - j)) (L + 1)) (hd0 : d ≠ 0) (hs : sc * b = d) (hC' : ∀ j, C' j = C j + (if lag ≤ j then sc * B (j - lag) else 0)) (hB' : ∀ j, B' j = C j) : BV S C' B' (i + 1) (i + 1 - L) 1 d := by
  obtain ⟨g1, g2, g3⟩ := h.gen (hs.trans hd) hC' (show L ≤ i + 1 - L by omega) (Nat.le_refl _)
  obtain ⟨h1, h2, h3, h4, h5, L0, i1, h6, h7, h8, h9, h10, h11⟩ := h
  have hBB : B' = C := funext hB'
  subst hBB
  exact ⟨g1, g2, g3, by omega, hd0, L, i + 1, by omega, by omega, by omega, h2, fun q hq hq2 => h3 q hq (by omega), hd.symm⟩
/-- the product of the 1 + X l x, l < e -/
def lam {K : Type} [R : Lean.Grind.CommRing K] (X : Nat → K) : Nat → (Nat → K)
  | 0 => fun j => if j = 0 then 1 else 0
  | e + 1 => fun j => lam X e j + (if j = 0 then 0 else X e * lam X e (j - 1))
theorem lam_0 {K : Type} [R : Lean.Grind.CommRing K] {X : Nat → K} : ∀ e, lam X e 0 = 1
  | 0 => rfl
  | e + 1 => by
    show lam X e 0 + (if 0 = 0 then 0 else X e * lam X e (0 - 1)) = 1
    rw [lam_0 e, if_pos rfl]; grind
theorem lam_hi {K : Type} [R : Lean.Grind.CommRing K] {X : Nat → K} : ∀ e j, e < j → lam X e j = 0
  | 0, j, h => if_neg (by omega)
  | e + 1, j, h => by
    show lam X e j + (if j = 0 then 0 else X e * lam X e (j - 1)) = 0
    rw [lam_hi e j (by omega), if_neg (by omega), lam_hi e (j - 1) (by omega)]; grind
theorem lam_st {K : Type} [R : Lean.Grind.CommRing K] {X : Nat → K} {z : K} {e q : Nat} (hq : e + 1 ≤ q) : sm (fun j => lam X (e + 1) j * z ^ (q - j)) (e + 2) = (z + X e) * sm (fun j => lam X e j * z ^ (q - 1 - j)) (e + 1) := by
  have e1 : sm (fun j => lam X (e + 1) j * z ^ (q - j)) (e + 2) = sm (fun j => lam X e j * z ^ (q - j)) (e + 2) + sm (fun j => (if j = 0 then 0 else X e * lam X e (j - 1)) * z ^ (q - j)) (e + 2) := by
    rw [← sm_add]
    refine sm_congr _ (fun j _ => ?_)
    show (lam X e j + (if j = 0 then 0 else X e * lam X e (j - 1))) * _ = _
    grind
  have e2 : sm (fun j => lam X e j * z ^ (q - j)) (e + 2) = z * sm (fun j => lam X e j * z ^ (q - 1 - j)) (e + 1) := by
    show sm (fun j => lam X e j * z ^ (q - j)) (e + 1) + lam X e (e + 1) * z ^ (q - (e + 1)) = _
    rw [lam_hi e (e + 1) (by omega), ← sm_mul]
    have : sm (fun j => lam X e j * z ^ (q - j)) (e + 1) = sm (fun j => z * (lam X e j * z ^ (q - 1 - j))) (e + 1) := sm_congr _ (fun j hj => by
      rw [show q - j = (q - 1 - j) + 1 by omega, Lean.Grind.Semiring.pow_succ]; grind)
    rw [this]; grind
  have e3 : sm (fun j => (if j = 0 then 0 else X e * lam X e (j - 1)) * z ^ (q - j)) (e + 2) = X e * sm (fun j => lam X e j * z ^ (q - 1 - j)) (e + 1) := by
    rw [sm_cons, if_pos rfl, ← sm_mul]
    have : sm (fun j => (if j + 1 = 0 then 0 else X e * lam X e (j + 1 - 1)) * z ^ (q - (j + 1))) (e + 1) = sm (fun j => X e * (lam X e j * z ^ (q - 1 - j))) (e + 1) := sm_congr _ (fun j hj => by
      rw [if_neg (by omega), show j + 1 - 1 = j by omega, show q - (j + 1) = q - 1 - j by omega]; grind)
    rw [this]; grind
  rw [e1, e2, e3]; grind
theorem lam_rt {K : Type} [R : Lean.Grind.CommRing K] [Ch : Lean.Grind.IsCharP K 2] {X : Nat → K} : ∀ (e l q : Nat), l < e → e ≤ q → sm (fun j => lam X e j * X l ^ (q - j)) (e + 1) = 0
  | 0, l, q, hl, _ => absurd hl (by omega)
  | e + 1, l, q, hl, hq => by
    rw [lam_st hq]
    by_cases h : l = e
    · rw [h, ad_self]; grind
    · rw [lam_rt e l (q - 1) (by omega) (by omega)]; grind
/-- power sums are made by the product -/
theorem lam_gn {K : Type} [R : Lean.Grind.CommRing K] [Ch : Lean.Grind.IsCharP K 2] {X S : Nat → K} {e T : Nat} (hS : ∀ i, 1 ≤ i → i ≤ T → S i = sm (fun l => X l ^ i) e) : Gn S (lam X e) e T := fun q hq hq2 => by
  have e1 : sm (fun j => lam X e j * S (q - j)) (e + 1) = sm (fun j => sm (fun l => lam X e j * X l ^ (q - j)) e) (e + 1) := sm_congr _ (fun j hj => by
    rw [hS (q - j) (by omega) (by omega), ← sm_mul])
  rw [e1, sm_swap]
  exact sm_zero _ (fun l hl => lam_rt e l q hl (by omega))
/-- a recurrence of at most e numbers, where the numbers are e power sums: it has e, and its polynomial's roots are known -/
theorem gn_root {K : Type} [R : Lean.Grind.CommRing K] [Ch : Lean.Grind.IsCharP K 2] {iv : K → K} (hv : Iv K iv) {X S C : Nat → K} {e L T : Nat} (hX : Df X e) (hS : ∀ i, 1 ≤ i → i ≤ T → S i = sm (fun l => X l ^ i) e) (hC : Gn S C L T) (hL : L + e ≤ T) (l : Nat) (hl : l < e) : sm (fun j => C j * iv (X l) ^ j) (L + 1) = 0 := by
  have hp : ∀ x : K, x ≠ 0 → ∀ (q j : Nat), j ≤ q → x ^ (q - j) = x ^ q * iv x ^ j := fun x hx q j => by
    induction j with
    | zero => intro _; rw [Nat.sub_zero, Lean.Grind.Semiring.pow_zero]; grind
    | succ j ih =>
      intro hj
      have h1 := ih (by omega)
      rw [show q - j = (q - (j + 1)) + 1 by omega, Lean.Grind.Semiring.pow_succ] at h1
      have h2 := hv.1 x hx
      rw [Lean.Grind.Semiring.pow_succ, show x ^ q * (iv x ^ j * iv x) = (x ^ q * iv x ^ j) * iv x by grind, ← h1, show x ^ (q - (j + 1)) * x * iv x = x ^ (q - (j + 1)) * (x * iv x) by grind, h2]
      grind
  refine vand hv (a := L + 1) e (fun l => sm (fun j => C j * iv (X l) ^ j) (L + 1)) hX (fun q h1 h2 => ?_) l hl
  have e0 := hC q (by omega) (by omega)
  have e1 : sm (fun j => C j * S (q - j)) (L + 1) = sm (fun j => sm (fun l => C j * X l ^ (q - j)) e) (L + 1) := sm_congr _ (fun j hj => by
    rw [hS (q - j) (by omega) (by omega), ← sm_mul])
  rw [e1, sm_swap] at e0
  rw [← e0]
  refine sm_congr _ (fun l hl => ?_)
  show sm (fun j => C j * iv (X l) ^ j) (L + 1) * X l ^ q = _
  rw [show sm (fun j => C j * iv (X l) ^ j) (L + 1) * X l ^ q = X l ^ q * sm (fun j => C j * iv (X l) ^ j) (L + 1) by grind, ← sm_mul]
  refine sm_congr _ (fun j hj => ?_)
  rw [hp (X l) (hX.1 l hl) q j (by omega)]
  grind
