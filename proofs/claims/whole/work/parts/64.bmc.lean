/-! THE CLASS's recurrence is the shortest -/
/-- the numbers with a 1 at their head -/
def sq {K : Type} [R : Lean.Grind.CommRing K] (p : Nat → K) (sy : Nat → Nat) : Nat → K := fun j => if j = 0 then 1 else p (sy j)
theorem fe_msl {K : Type} [R : Lean.Grind.CommRing K] {m : Nat} {p : Nat → K} (hp : Hm m p) {sy lc : Nat → Nat} {i : Nat} (hs : ∀ j, 1 ≤ j → j ≤ i → sy j < 2 ^ m) (hl : ∀ j, j < 17 → lc j < 2 ^ m) (h0 : p (lc 0) = 1) : ∀ n, n < i → n < 17 → p (msl m sy lc i n) = sm (fun j => p (lc j) * sq p sy (i - j)) (n + 1)
  | 0, h1, _ => by
    show p (sy i) = 0 + p (lc 0) * sq p sy (i - 0)
    rw [h0, Nat.sub_zero]
    unfold sq
    rw [if_neg (by omega)]
    grind
  | n + 1, h1, h2 => by
    show p (msl m sy lc i n ^^^ fmul m (lc (n + 1)) (sy (i - (n + 1)))) = sm (fun j => p (lc j) * sq p sy (i - j)) (n + 1) + p (lc (n + 1)) * sq p sy (i - (n + 1))
    rw [hp.1, fe_msl hp hs hl h0 n (by omega) (by omega), hp.2.1 _ _ (hl _ h2) (hs _ (by omega) (by omega))]
    congr 2
    unfold sq
    rw [if_neg (by omega)]
def BC {K : Type} [R : Lean.Grind.CommRing K] (m T : Nat) (p : Nat → K) (sy : Nat → Nat) (i : Nat) (s : Bs) : Prop :=
  BI m i s ∧ BV (sq p sy) (fun j => p (s.1 j)) (fun j => p (s.2.1 j)) i s.2.2.2.1 s.2.2.2.2.1 (p s.2.2.2.2.2) ∧ ∀ (D : Nat → K) (e : Nat), D 0 = 1 → Gn (sq p sy) D e T → s.2.2.2.1 ≤ e
theorem BC.next {K : Type} [R : Lean.Grind.CommRing K] [Ch : Lean.Grind.IsCharP K 2] {m T : Nat} {p : Nat → K} (hp : Hm m p) (h3 : 3 ≤ m) (h13 : m ≤ 13) {sy : Nat → Nat} {i : Nat} {s : Bs} (hi : i + 1 ≤ T) (hT : T ≤ 16) (hs : ∀ j, 1 ≤ j → j ≤ T → sy j < 2 ^ m) (h : BC m T p sy i s) : BC m T p sy (i + 1) (bms m sy i s) := by
  obtain ⟨hI, hV, hM⟩ := h
  have hI2 := hI.next h3 h13 (hs (i + 1) (by omega) hi)
  obtain ⟨c1, c2, c3, c4, c5, c6⟩ := id hI
  have hmin : min s.2.2.2.1 (i + 1 - 1) = s.2.2.2.1 := by omega
  have hd : p (bmiss m sy i s) = sm (fun j => p (s.1 j) * sq p sy (i + 1 - j)) (s.2.2.2.1 + 1) := by
    unfold bmiss
    rw [hmin]
    exact fe_msl hp (fun j h1 h2 => hs j h1 (by omega)) c5 hV.1 _ (by omega) (by omega)
  have hdl : bmiss m sy i s < 2 ^ m := msl_lt h3 h13 (hs (i + 1) (by omega) hi) _
  refine ⟨hI2, ?_⟩
  by_cases h0 : bmiss m sy i s = 0
  · have e : bms m sy i s = (s.1, s.2.1, s.2.2.1, s.2.2.2.1, s.2.2.2.2.1 + 1, s.2.2.2.2.2) := by unfold bms; rw [if_pos h0]
    rw [e]
    exact ⟨hV.z (by rw [← hd, h0]; exact hp.2.2.1), hM⟩
  · have hd0 : p (bmiss m sy i s) ≠ 0 := fun z => h0 (hp.2.2.2.2 _ hdl z)
    have hsl : bsc m sy i s < 2 ^ m := fmul_lt h3 h13
    have hsc : p (bsc m sy i s) * p s.2.2.2.2.2 = p (bmiss m sy i s) := by
      unfold bsc
      rw [hp.2.1 _ _ hdl (finv_lt h3 h13)]
      have := hp.iv h3 h13 c3 c4
      rw [show p (bmiss m sy i s) * p (finv m s.2.2.2.2.2) * p s.2.2.2.2.2 = p (bmiss m sy i s) * (p s.2.2.2.2.2 * p (finv m s.2.2.2.2.2)) by grind, this]
      grind
    obtain ⟨g1, g2, g3, g4, g5, L0, i1, g6, g7, g8, g9, g10, g11⟩ := id hV
    have hC' : ∀ j, p (adE m s.1 s.2.1 (bsc m sy i s) s.2.2.2.2.1 17 j) = p (s.1 j) + (if s.2.2.2.2.1 ≤ j then p (bsc m sy i s) * p (s.2.1 (j - s.2.2.2.2.1)) else 0) := fun j => by
      unfold adE
      by_cases h1 : s.2.2.2.2.1 ≤ j
      · rw [if_pos h1]
        by_cases h2 : j < 17
        · rw [if_pos ⟨h1, h2⟩, hp.1, hp.2.1 _ _ hsl (c6 _ (by omega))]
        · rw [if_neg (by omega), show p (s.2.1 (j - s.2.2.2.2.1)) = 0 from g9 _ (by omega)]
          grind
      · rw [if_neg h1, if_neg (by omega)]
        grind
    by_cases h1 : i < 2 * s.2.2.2.1
    · have e : bms m sy i s = (adE m s.1 s.2.1 (bsc m sy i s) s.2.2.2.2.1 17, s.2.1, cp17 s.1 s.2.2.1, s.2.2.2.1, s.2.2.2.2.1 + 1, s.2.2.2.2.2) := by unfold bms; rw [if_neg h0, if_pos h1]
      rw [e]
      exact ⟨hV.s h1 (hsc.trans hd) hC', hM⟩
    · have e : bms m sy i s = (adE m s.1 s.2.1 (bsc m sy i s) s.2.2.2.2.1 17, cp17 (cp17 s.1 s.2.2.1) s.2.1, cp17 s.1 s.2.2.1, i + 1 - s.2.2.2.1, 1, bmiss m sy i s) := by unfold bms; rw [if_neg h0, if_neg h1]
      rw [e]
      refine ⟨hV.l h1 hd hd0 hsc hC' (fun j => ?_), fun D e hD0 hD => ?_⟩
      · show p (cp17 (cp17 s.1 s.2.2.1) s.2.1 j) = p (s.1 j)
        unfold cp17
        by_cases h2 : j < 17
        · rw [if_pos h2, if_pos h2]
        · rw [if_neg h2, show p (s.2.1 j) = 0 from g9 _ (by omega), show p (s.1 j) = 0 from g2 _ (by omega)]
      · have := massey g3 (fun q h1 h2 => hD q h1 (by omega)) hD0 (by rw [← hd]; exact hd0)
        show i + 1 - s.2.2.2.1 ≤ e
        omega
theorem BC.st {K : Type} [R : Lean.Grind.CommRing K] {iv : K → K} (hv : Iv K iv) {m T : Nat} {p : Nat → K} (hp : Hm m p) (h3 : 3 ≤ m) (h13 : m ≤ 13) {sy sp : Nat → Nat} : BC m T p sy 0 (d0, d0, sp, 0, 1, 1) := by
  refine ⟨BI.st h3 h13 sp, ⟨hp.2.2.2.1, fun j hj => ?_, fun q h1 h2 => absurd h1 (by omega), Nat.le_refl _, ?_, 0, 0, rfl, Nat.le_refl _, rfl, fun j hj => ?_, fun q h1 h2 => absurd h2 (by omega), ?_⟩, fun D e _ _ => Nat.zero_le _⟩
  · show p (d0 j) = 0
    unfold d0; rw [if_neg (by omega)]; exact hp.2.2.1
  · show p 1 ≠ 0
    rw [hp.2.2.2.1]; exact hv.2
  · show p (d0 j) = 0
    unfold d0; rw [if_neg (by omega)]; exact hp.2.2.1
  · show (0 : K) + p (d0 0) * sq p sy 0 = p 1
    rw [show d0 0 = 1 from rfl, hp.2.2.2.1, show sq p sy 0 = 1 from rfl]
    grind
theorem bml_BC {K : Type} [R : Lean.Grind.CommRing K] [Ch : Lean.Grind.IsCharP K 2] {m T : Nat} {p : Nat → K} (hp : Hm m p) (h3 : 3 ≤ m) (h13 : m ≤ 13) {sy : Nat → Nat} (hT : T ≤ 16) (hs : ∀ j, 1 ≤ j → j ≤ T → sy j < 2 ^ m) : ∀ (f i : Nat) (s : Bs), i + f = T → BC m T p sy i s → BC m T p sy T (bml m sy f i s)
  | 0, i, s, h, hb => Eq.mp (congrArg (fun z => BC m T p sy z s) (show i = T by omega)) hb
  | f + 1, i, s, h, hb => bml_BC hp h3 h13 hT hs f (i + 1) _ (by omega) (hb.next hp h3 h13 (by omega) hT hs)
