/-! THE MODEL's elimination -/
theorem sm_rev {K : Type} [R : Lean.Grind.CommRing K] {f : Nat → K} : ∀ n, sm (fun j => f (n - 1 - j)) n = sm f n
  | 0 => rfl
  | n + 1 => by
    rw [sm_cons, sm_congr (f := fun j => f (n + 1 - 1 - (j + 1))) (g := fun j => f (n - 1 - j)) n (fun j hj => by rw [show n + 1 - 1 - (j + 1) = n - 1 - j by omega]), sm_rev n]
    show f (n + 1 - 1 - 0) + sm f n = sm f n + f n
    rw [show n + 1 - 1 - 0 = n by omega]
    grind
/-- v is sent to 0 by the lines -/
def Kr {K : Type} [R : Lean.Grind.CommRing K] (p : Nat → K) (many : Nat) (A : Nat → Nat → Nat) (v : Nat → K) : Prop := ∀ a, a < many → sm (fun b => p (A a b) * v b) (many + 1) = 0
theorem Kr.sw {K : Type} [R : Lean.Grind.CommRing K] {iv : K → K} (hv : Iv K iv) {m many : Nat} {p : Nat → K} (hp : Hm m p) {A : Nat → Nat → Nat} (hA : Mb m many A) {row c s : Nat} (hr : row < many) (hc : c < many) (hs : s ≠ 0) (hsl : s < 2 ^ m) {v : Nat → K} : Kr p many A v ↔ Kr p many (swp m A row c s (many + 1)) v := by
  have ec : sm (fun b => p (swp m A row c s (many + 1) c b) * v b) (many + 1) = p s * sm (fun b => p (A row b) * v b) (many + 1) := by
    rw [← sm_mul]
    refine sm_congr _ (fun b hb => ?_)
    rw [swp_in hb, if_pos rfl, hp.2.1 _ _ (hA row b hr (by omega)) hsl]
    grind
  have er : row ≠ c → sm (fun b => p (swp m A row c s (many + 1) row b) * v b) (many + 1) = sm (fun b => p (A c b) * v b) (many + 1) := fun h => sm_congr _ (fun b hb => by rw [swp_in hb, if_neg h, if_pos rfl])
  have eo : ∀ a, a ≠ c → a ≠ row → sm (fun b => p (swp m A row c s (many + 1) a b) * v b) (many + 1) = sm (fun b => p (A a b) * v b) (many + 1) := fun a h1 h2 => sm_congr _ (fun b hb => by rw [swp_in hb, if_neg h1, if_neg h2])
  have hps : p s ≠ 0 := fun z => hs (hp.2.2.2.2 _ hsl z)
  refine ⟨fun h a ha => ?_, fun h a ha => ?_⟩
  · by_cases h1 : a = c
    · rw [h1, ec, h row hr]; grind
    · by_cases h2 : a = row
      · rw [h2, er (by rw [← h2]; exact h1), h c hc]
      · rw [eo a h1 h2, h a ha]
  · by_cases h2 : a = row
    · have := h c hc
      rw [ec] at this
      rw [h2]
      exact mu_0 hv this hps
    · by_cases h1 : a = c
      · have := h row hr
        rw [er (by rw [← h1]; exact fun z => h2 z.symm)] at this
        rw [h1]; exact this
      · rw [← eo a h1 h2, h a ha]
theorem Kr.el {K : Type} [R : Lean.Grind.CommRing K] {m many : Nat} {p : Nat → K} (hp : Hm m p) {A : Nat → Nat → Nat} (hA : Mb m many A) {c : Nat} (hc : c < many) {v : Nat → K} : Kr p many A v ↔ Kr p many (elA m A c many many) v := by
  have e : ∀ a, a < many → sm (fun b => p (elA m A c many many a b) * v b) (many + 1) = sm (fun b => p (A a b) * v b) (many + 1) + p (if a = c then 0 else A a c) * sm (fun b => p (A c b) * v b) (many + 1) := fun a ha => by
    rw [← sm_mul, ← sm_add]
    refine sm_congr _ (fun b hb => ?_)
    have h0 : (if a = c then 0 else A a c) < 2 ^ m := by
      split
      · exact Nat.two_pow_pos m
      · exact hA a c ha (by omega)
    rw [elA_in ⟨ha, by omega⟩, hp.1, hp.2.1 _ _ h0 (hA c b hc (by omega))]
    grind
  refine ⟨fun h a ha => ?_, fun h a ha => ?_⟩
  · rw [e a ha, h a ha, h c hc]; grind
  · have h1 := e c hc
    rw [if_pos rfl, hp.2.2.1, h c hc] at h1
    have h2 := e a ha
    rw [h a ha] at h2
    have h3 : sm (fun b => p (A c b) * v b) (many + 1) = 0 := by rw [h1]; grind
    rw [h3] at h2
    rw [h2]; grind
/-- the first c columns are those of the unit -/
def Id_ (many c : Nat) (A : Nat → Nat → Nat) : Prop := ∀ a b, a < many → b < c → A a b = if a = b then 1 else 0
theorem frw_all {A : Nat → Nat → Nat} {c : Nat} : ∀ z row, frw A c z row = row + z → ∀ r, row ≤ r → r < row + z → A r c = 0
  | 0, row, _, r, h1, h2 => absurd h1 (by omega)
  | z + 1, row, h, r, h1, h2 => by
    unfold frw at h
    split at h
    · rename_i h0
      by_cases hr : r = row
      · rw [hr]; exact h0
      · exact frw_all z (row + 1) (by omega) r (by omega) (by omega)
    · omega
theorem Id_.next {m many c row : Nat} {A : Nat → Nat → Nat} (h3 : 3 ≤ m) (h13 : m ≤ 13) (hA : Mb m many A) (hI : Id_ many c A) (hc : c < many) (hr1 : c ≤ row) (hr2 : row < many) (hnz : A row c ≠ 0) : Id_ many (c + 1) (elA m (swp m A row c (finv m (A row c)) (many + 1)) c many many) := fun a b ha hb => by
  have ht := two_le h3 h13
  have hB := hA.sw_ h3 h13 (row := row) (c := c) (s := finv m (A row c)) (k := many + 1) hc
  rw [elA_in ⟨ha, by omega⟩]
  have hcc : swp m A row c (finv m (A row c)) (many + 1) c c = 1 := by rw [swp_in (by omega), if_pos rfl, fmul_inv h3 h13 hnz (hA row c hr2 (by omega))]
  by_cases hbc : b = c
  · subst hbc
    rw [hcc]
    by_cases hab : a = b
    · rw [hab, if_pos rfl, if_pos rfl, hcc, fmul_zl]; rfl
    · rw [if_neg hab, if_neg hab, fmul_one h3 h13 (hB a b ha (by omega)), Nat.xor_self]
  · have hb2 : b < c := by omega
    have e1 : swp m A row c (finv m (A row c)) (many + 1) c b = 0 := by
      rw [swp_in (by omega), if_pos rfl, hI row b hr2 hb2, if_neg (by omega), fmul_zl]
    rw [e1, fmul_z, Nat.xor_zero, swp_in (by omega)]
    by_cases h1 : a = c
    · rw [if_pos h1, hI row b hr2 hb2, if_neg (by omega), fmul_zl, if_neg (by omega)]
    · rw [if_neg h1]
      by_cases h2 : a = row
      · rw [if_pos h2, hI c b hc hb2, if_neg (by omega), if_neg (by omega)]
      · rw [if_neg h2, hI a b ha hb2]
theorem gjl_spec {K : Type} [R : Lean.Grind.CommRing K] [Ch : Lean.Grind.IsCharP K 2] {iv : K → K} (hv : Iv K iv) {m many : Nat} {p : Nat → K} (hp : Hm m p) (h3 : 3 ≤ m) (h13 : m ≤ 13) : ∀ (z c : Nat) (A : Nat → Nat → Nat), c + z = many → Mb m many A → Id_ many c A → ((gjl m many z c A).2 = true → Id_ many many (gjl m many z c A).1 ∧ ∀ v : Nat → K, Kr p many A v ↔ Kr p many (gjl m many z c A).1 v) ∧ ((gjl m many z c A).2 = false → ∃ v : Nat → K, Kr p many A v ∧ v many = 0 ∧ ∃ b, b < many ∧ v b ≠ 0)
  | 0, c, A, hc, hA, hI => ⟨fun _ => ⟨Eq.mp (congrArg (fun z => Id_ many z A) (show c = many by omega)) hI, fun v => Iff.rfl⟩, fun h => absurd h (by show ¬ true = false; decide)⟩
  | z + 1, c, A, hc, hA, hI => by
    have hle := frw_le (A := A) (c := c) (many - c) c
    by_cases hr : frw A c (many - c) c = many
    · have e : gjl m many (z + 1) c A = (A, false) := by unfold gjl; rw [if_pos hr]
      rw [e]
      refine ⟨fun h => absurd h (by show ¬ false = true; decide), fun _ => ?_⟩
      have hz := frw_all (A := A) (c := c) (many - c) c (by omega)
      refine ⟨fun b => if b = c then 1 else if b < c then p (A b c) else 0, fun a ha => ?_, ?_, c, by omega, ?_⟩
      · have e1 := sm_more (f := fun b => p (A a b) * (if b = c then 1 else if b < c then p (A b c) else 0)) (n := c + 1) (many - c) (fun j h1 h2 => by rw [if_neg (by omega), if_neg (by omega)]; grind)
        rw [show c + 1 + (many - c) = many + 1 by omega] at e1
        rw [e1]
        show sm (fun b => p (A a b) * (if b = c then 1 else if b < c then p (A b c) else 0)) c + p (A a c) * (if c = c then 1 else if c < c then p (A c c) else 0) = 0
        rw [if_pos rfl]
        by_cases hac : a < c
        · rw [sm_one hac (fun k hk hka => by rw [hI a k ha hk, if_neg (fun z => hka z.symm), hp.2.2.1]; grind), hI a a ha hac, if_pos rfl, if_neg (by omega), if_pos hac, hp.2.2.2.1]
          grind
        · rw [sm_zero c (fun k hk => by rw [hI a k ha hk, if_neg (by omega), hp.2.2.1]; grind), hz a (by omega) (by omega), hp.2.2.1]
          grind
      · show (if many = c then (1 : K) else if many < c then p (A many c) else 0) = 0
        rw [if_neg (by omega), if_neg (by omega)]
      · show (if c = c then (1 : K) else if c < c then p (A c c) else 0) ≠ 0
        rw [if_pos rfl]; exact hv.2
    · have hnz := frw_nz (A := A) (c := c) (many - c) c (by omega)
      have hrl : frw A c (many - c) c < many := by omega
      have hal := hA _ c hrl (by omega)
      have e : gjl m many (z + 1) c A = gjl m many z (c + 1) (elA m (swp m A (frw A c (many - c) c) c (finv m (A (frw A c (many - c) c) c)) (many + 1)) c many many) := by
        conv => lhs; unfold gjl
        rw [if_neg hr]
      rw [e]
      have hB := hA.sw_ h3 h13 (row := frw A c (many - c) c) (c := c) (s := finv m (A (frw A c (many - c) c) c)) (k := many + 1) (by omega)
      have ih := gjl_spec hv hp h3 h13 z (c + 1) _ (by omega) (hB.eA_ h3 h13 (c := c) (q := many)) (hI.next h3 h13 hA (by omega) hle.1 hrl hnz)
      have hk : ∀ v : Nat → K, Kr p many A v ↔ Kr p many (elA m (swp m A (frw A c (many - c) c) c (finv m (A (frw A c (many - c) c) c)) (many + 1)) c many many) v := fun v => (Kr.sw hv hp hA hrl (by omega) (pwr_pos h3 h13 _) (finv_lt h3 h13)).trans (Kr.el hp hB (by omega))
      refine ⟨fun h => ⟨(ih.1 h).1, fun v => (hk v).trans ((ih.1 h).2 v)⟩, fun h => ?_⟩
      obtain ⟨v, g1, g2, g3⟩ := ih.2 h
      exact ⟨v, (hk v).mpr g1, g2, g3⟩
/-- what the unit's lines say of a vector -/
theorem Kr.un {K : Type} [R : Lean.Grind.CommRing K] {m many : Nat} {p : Nat → K} (hp : Hm m p) {A : Nat → Nat → Nat} (hI : Id_ many many A) {v : Nat → K} {a : Nat} (ha : a < many) : sm (fun b => p (A a b) * v b) (many + 1) = v a + p (A a many) * v many := by
  show sm (fun b => p (A a b) * v b) many + p (A a many) * v many = _
  rw [sm_one ha (fun k hk hka => by rw [hI a k ha hk, if_neg (fun z => hka z.symm), hp.2.2.1]; grind), hI a a ha ha, if_pos rfl, hp.2.2.2.1]
  grind
