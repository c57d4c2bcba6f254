/-! SUMS over a field of characteristic 2; Vandermonde -/
def sm {K : Type} [R : Lean.Grind.CommRing K] (f : Nat → K) : Nat → K
  | 0 => 0
  | n + 1 => sm f n + f n
theorem sm_congr {K : Type} [R : Lean.Grind.CommRing K] {f g : Nat → K} : ∀ n, (∀ j, j < n → f j = g j) → sm f n = sm g n
  | 0, _ => rfl
  | n + 1, h => by
    show sm f n + f n = sm g n + g n
    rw [sm_congr n (fun j hj => h j (by omega)), h n (by omega)]
theorem sm_zero {K : Type} [R : Lean.Grind.CommRing K] {f : Nat → K} : ∀ n, (∀ j, j < n → f j = 0) → sm f n = 0
  | 0, _ => rfl
  | n + 1, h => by
    show sm f n + f n = 0
    rw [sm_zero n (fun j hj => h j (by omega)), h n (by omega)]
    grind
theorem sm_add {K : Type} [R : Lean.Grind.CommRing K] {f g : Nat → K} : ∀ n, sm (fun j => f j + g j) n = sm f n + sm g n
  | 0 => by show (0 : K) = 0 + 0; grind
  | n + 1 => by
    show sm (fun j => f j + g j) n + (f n + g n) = (sm f n + f n) + (sm g n + g n)
    rw [sm_add n]
    grind
theorem sm_mul {K : Type} [R : Lean.Grind.CommRing K] {c : K} {f : Nat → K} : ∀ n, sm (fun j => c * f j) n = c * sm f n
  | 0 => by show (0 : K) = c * 0; grind
  | n + 1 => by
    show sm (fun j => c * f j) n + c * f n = c * (sm f n + f n)
    rw [sm_mul n]
    grind
theorem sm_swap {K : Type} [R : Lean.Grind.CommRing K] {f : Nat → Nat → K} {b : Nat} : ∀ a, sm (fun j => sm (fun k => f j k) b) a = sm (fun k => sm (fun j => f j k) a) b
  | 0 => (sm_zero b (fun _ _ => rfl)).symm
  | a + 1 => by
    show sm (fun j => sm (fun k => f j k) b) a + sm (fun k => f a k) b = _
    rw [sm_swap a, ← sm_add]
    rfl
theorem sm_cons {K : Type} [R : Lean.Grind.CommRing K] {f : Nat → K} : ∀ n, sm f (n + 1) = f 0 + sm (fun j => f (j + 1)) n
  | 0 => by show (0 : K) + f 0 = f 0 + 0; grind
  | n + 1 => by
    show sm f (n + 1) + f (n + 1) = f 0 + (sm (fun j => f (j + 1)) n + f (n + 1))
    rw [sm_cons n]
    grind
theorem sm_more {K : Type} [R : Lean.Grind.CommRing K] {f : Nat → K} {n : Nat} : ∀ k, (∀ j, n ≤ j → j < n + k → f j = 0) → sm f (n + k) = sm f n
  | 0, _ => rfl
  | k + 1, h => by
    show sm f (n + k) + f (n + k) = sm f n
    rw [sm_more k (fun j h1 h2 => h j h1 (by omega)), h (n + k) (by omega) (by omega)]
    grind
/-- a sum whose terms begin at lag -/
theorem sm_lag {K : Type} [R : Lean.Grind.CommRing K] {f : Nat → K} {lag : Nat} : ∀ k, (∀ j, j < lag → f j = 0) → sm f (lag + k) = sm (fun j => f (lag + j)) k
  | 0, h => sm_zero lag h
  | k + 1, h => by
    show sm f (lag + k) + f (lag + k) = _
    rw [sm_lag k h]
    rfl
theorem ad_self {K : Type} [R : Lean.Grind.CommRing K] [C : Lean.Grind.IsCharP K 2] (a : K) : a + a = 0 := by grind
theorem ad_eq {K : Type} [R : Lean.Grind.CommRing K] [C : Lean.Grind.IsCharP K 2] {a b : K} (h : a + b = 0) : a = b := by grind
theorem ad_ne {K : Type} [R : Lean.Grind.CommRing K] [C : Lean.Grind.IsCharP K 2] {a b : K} (h : a ≠ b) : a + b ≠ 0 := fun z => h (ad_eq z)
/-- an inverse -/
abbrev Iv (K : Type) [R : Lean.Grind.CommRing K] (iv : K → K) : Prop := (∀ a : K, a ≠ 0 → a * iv a = 1) ∧ (1 : K) ≠ 0
theorem mu_0 {K : Type} [R : Lean.Grind.CommRing K] {iv : K → K} (hv : Iv K iv) {a b : K} (h : a * b = 0) (ha : a ≠ 0) : b = 0 := by
  have h1 := hv.1 a ha
  have e : b = a * iv a * b := by rw [h1]; grind
  rw [e, show a * iv a * b = iv a * (a * b) by grind, h]
  grind
theorem mu_ne {K : Type} [R : Lean.Grind.CommRing K] {iv : K → K} (hv : Iv K iv) {a b : K} (ha : a ≠ 0) (hb : b ≠ 0) : a * b ≠ 0 := fun h => hb (mu_0 hv h ha)
theorem pw_ne {K : Type} [R : Lean.Grind.CommRing K] {iv : K → K} (hv : Iv K iv) {a : K} (ha : a ≠ 0) : ∀ n : Nat, a ^ n ≠ 0
  | 0 => by rw [Lean.Grind.Semiring.pow_zero]; exact hv.2
  | n + 1 => by rw [Lean.Grind.Semiring.pow_succ]; exact mu_ne hv (pw_ne hv ha n) ha
theorem sq_inj {K : Type} [R : Lean.Grind.CommRing K] [C : Lean.Grind.IsCharP K 2] {iv : K → K} (hv : Iv K iv) {a b : K} (h : a * a = b * b) : a = b := by
  have h1 : (a + b) * (a + b) = 0 := by grind
  by_cases h0 : a + b = 0
  · exact ad_eq h0
  · exact absurd h1 (mu_ne hv h0 h0)
/-- numbers that are different and not 0 -/
def Df {K : Type} [R : Lean.Grind.CommRing K] (X : Nat → K) (e : Nat) : Prop := (∀ l, l < e → X l ≠ 0) ∧ ∀ l k, l < k → k < e → X l ≠ X k
theorem Df.lo {K : Type} [R : Lean.Grind.CommRing K] {X : Nat → K} {e e' : Nat} (h : Df X e) (he : e' ≤ e) : Df X e' := ⟨fun l hl => h.1 l (by omega), fun l k h1 h2 => h.2 l k h1 (by omega)⟩
theorem vand {K : Type} [R : Lean.Grind.CommRing K] [C : Lean.Grind.IsCharP K 2] {iv : K → K} (hv : Iv K iv) {X : Nat → K} {a : Nat} : ∀ (e : Nat) (c : Nat → K), Df X e → (∀ i, a ≤ i → i < a + e → sm (fun l => c l * X l ^ i) e = 0) → ∀ l, l < e → c l = 0
  | 0, c, hX, h, l, hl => absurd hl (by omega)
  | e + 1, c, hX, h, l, hl => by
    have h2 := vand hv (a := a) e (fun l => c l * (X l + X e)) (hX.lo (by omega)) (fun i h1 h2 => by
      have s1 : sm (fun l => c l * X l ^ (i + 1)) e + c e * X e ^ (i + 1) = 0 := h (i + 1) (by omega) (by omega)
      have s0 : sm (fun l => c l * X l ^ i) e + c e * X e ^ i = 0 := h i h1 (by omega)
      have e1 : sm (fun l => c l * (X l + X e) * X l ^ i) e = sm (fun l => c l * X l ^ (i + 1)) e + X e * sm (fun l => c l * X l ^ i) e := by
        rw [← sm_mul, ← sm_add]
        refine sm_congr e (fun j _ => ?_)
        rw [Lean.Grind.Semiring.pow_succ]
        grind
      rw [e1]
      rw [Lean.Grind.Semiring.pow_succ] at s1
      have s2 := ad_eq s1
      have s3 := ad_eq s0
      rw [s2, s3]
      grind)
    have hlo : ∀ k, k < e → c k = 0 := fun k hk => by
      have h3 := h2 k hk
      have h4 := ad_ne (hX.2 k e hk (by omega))
      exact mu_0 hv (show (X k + X e) * c k = 0 by rw [← h3]; grind) h4
    by_cases hle : l = e
    · subst hle
      have s0 : sm (fun l => c l * X l ^ a) l + c l * X l ^ a = 0 := h a (by omega) (by omega)
      rw [sm_zero l (fun j hj => by rw [hlo j hj]; grind)] at s0
      exact mu_0 hv (show X l ^ a * c l = 0 by rw [← s0]; grind) (pw_ne hv (hX.1 l (by omega)) a)
    · exact hlo l (by omega)
theorem solv {K : Type} [R : Lean.Grind.CommRing K] [C : Lean.Grind.IsCharP K 2] {iv : K → K} (hv : Iv K iv) {X : Nat → K} {a : Nat} : ∀ (e : Nat) (S : Nat → K), Df X e → ∃ Y : Nat → K, ∀ i, a ≤ i → i < a + e → sm (fun l => Y l * X l ^ i) e = S i
  | 0, S, hX => ⟨fun _ => 0, fun i h1 h2 => absurd h1 (by omega)⟩
  | e + 1, S, hX => by
    obtain ⟨Z, hZ⟩ := solv hv (a := a) e (fun i => S (i + 1) + X e * S i) (hX.lo (by omega))
    obtain ⟨U, hU⟩ : ∃ U : Nat → K, U = fun i => sm (fun l => Z l * iv (X l + X e) * X l ^ i) e := ⟨_, rfl⟩
    obtain ⟨y, hy⟩ : ∃ y : K, y = (S a + U a) * iv (X e ^ a) := ⟨_, rfl⟩
    have hT : ∀ i, sm (fun l => (if l < e then Z l * iv (X l + X e) else y) * X l ^ i) (e + 1) = U i + y * X e ^ i := fun i => by
      show sm (fun l => (if l < e then Z l * iv (X l + X e) else y) * X l ^ i) e + (if e < e then Z e * iv (X e + X e) else y) * X e ^ i = _
      rw [if_neg (Nat.lt_irrefl e), hU]
      congr 1
      exact sm_congr e (fun j hj => by rw [if_pos hj])
    refine ⟨fun l => if l < e then Z l * iv (X l + X e) else y, fun i h1 h2 => ?_⟩
    rw [hT]
    have hst : ∀ i, a ≤ i → i < a + e → U (i + 1) + X e * U i = S (i + 1) + X e * S i := fun i h1 h2 => by
      rw [← hZ i h1 h2, hU]
      show sm _ e + X e * sm _ e = _
      rw [← sm_mul, ← sm_add]
      refine sm_congr e (fun j hj => ?_)
      have h4 := hv.1 _ (ad_ne (hX.2 j e hj (by omega)))
      rw [Lean.Grind.Semiring.pow_succ, show Z j * iv (X j + X e) * (X j ^ i * X j) + X e * (Z j * iv (X j + X e) * X j ^ i) = Z j * X j ^ i * ((X j + X e) * iv (X j + X e)) by grind, h4]
      grind
    have key : ∀ k, a + k < a + (e + 1) → U (a + k) + y * X e ^ (a + k) = S (a + k) := by
      intro k
      induction k with
      | zero =>
        intro _
        have h5 := hv.1 _ (pw_ne hv (hX.1 e (by omega)) a)
        show U a + y * X e ^ a = S a
        rw [hy, show U a + (S a + U a) * iv (X e ^ a) * X e ^ a = U a + (S a + U a) * (X e ^ a * iv (X e ^ a)) by grind, h5]
        grind
      | succ k ih =>
        intro hk
        have h6 := ih (by omega)
        have h7 := hst (a + k) (by omega) (by omega)
        show U (a + k + 1) + y * X e ^ (a + k + 1) = S (a + k + 1)
        rw [Lean.Grind.Semiring.pow_succ]
        have h8 : U (a + k + 1) = S (a + k + 1) + X e * S (a + k) + X e * U (a + k) := by grind
        rw [h8, ← h6]
        grind
    have := key (i - a) (by omega)
    rwa [show a + (i - a) = i by omega] at this
/-- a polynomial with n coefficients and n roots is 0 -/
theorem roots {K : Type} [R : Lean.Grind.CommRing K] [C : Lean.Grind.IsCharP K 2] {iv : K → K} (hv : Iv K iv) {X : Nat → K} {n : Nat} {p : Nat → K} (hX : Df X n) (h : ∀ l, l < n → sm (fun j => p j * X l ^ j) n = 0) (j : Nat) (hj : j < n) : p j = 0 := by
  obtain ⟨Y, hY⟩ := solv hv (a := 0) n (fun i => if i = j then (1 : K) else 0) hX
  have e1 : sm (fun i => p i * sm (fun l => Y l * X l ^ i) n) n = p j := by
    have e2 : sm (fun i => p i * sm (fun l => Y l * X l ^ i) n) n = sm (fun i => if i = j then p j else 0) n := sm_congr n (fun i hi => by
      rw [hY i (by omega) (by omega)]
      split
      · rename_i h0; rw [h0]; grind
      · grind)
    rw [e2]
    obtain ⟨k, rfl⟩ : ∃ k, n = j + 1 + k := ⟨n - (j + 1), by omega⟩
    rw [sm_more k (fun i h1 h2 => if_neg (by omega))]
    show sm (fun i => if i = j then p j else 0) j + (if j = j then p j else 0) = p j
    rw [sm_zero j (fun i hi => if_neg (by omega)), if_pos rfl]
    grind
  rw [← e1]
  have e3 : sm (fun i => p i * sm (fun l => Y l * X l ^ i) n) n = sm (fun i => sm (fun l => Y l * (p i * X l ^ i)) n) n := sm_congr n (fun i _ => by
    rw [← sm_mul]
    exact sm_congr n (fun l _ => by grind))
  rw [e3, sm_swap]
  exact sm_zero n (fun l hl => by rw [sm_mul, h l hl]; grind)
