/-! PLACES: those of n at which a flag stands, in order; sums over them; words and their values -/
/-- the place of the flag with number l, of the places below n -/
def nth (E : Nat → Bool) : Nat → Nat → Nat
  | 0, _ => 0
  | n + 1, l => if E n = true ∧ l = cnt E n then n else nth E n l
theorem cnt_t {E : Nat → Bool} {n : Nat} (h : E n = true) : cnt E (n + 1) = cnt E n + 1 := by show cnt E n + (if E n then 1 else 0) = _; rw [h]; rfl
theorem cnt_f {E : Nat → Bool} {n : Nat} (h : E n = false) : cnt E (n + 1) = cnt E n := by show cnt E n + (if E n then 1 else 0) = _; rw [h]; rfl
theorem nth_lo {E : Nat → Bool} {n l : Nat} (h : l < cnt E n) : nth E (n + 1) l = nth E n l := if_neg (fun z => by omega)
theorem nth_hi {E : Nat → Bool} {n : Nat} (h : E n = true) : nth E (n + 1) (cnt E n) = n := if_pos ⟨h, rfl⟩
theorem nth_spec {E : Nat → Bool} : ∀ (n l : Nat), l < cnt E n → nth E n l < n ∧ E (nth E n l) = true
  | 0, l, h => absurd h (Nat.not_lt_zero _)
  | n + 1, l, h => by
    by_cases h1 : l < cnt E n
    · rw [nth_lo h1]
      have := nth_spec n l h1
      exact ⟨by omega, this.2⟩
    · cases hE : E n with
      | false => rw [cnt_f hE] at h; exact absurd h h1
      | true =>
        rw [cnt_t hE] at h
        rw [show l = cnt E n by omega, nth_hi hE]
        exact ⟨by omega, hE⟩
theorem nth_mono {E : Nat → Bool} : ∀ (n l k : Nat), l < k → k < cnt E n → nth E n l < nth E n k
  | 0, l, k, _, h => absurd h (Nat.not_lt_zero _)
  | n + 1, l, k, h, hk => by
    by_cases h1 : k < cnt E n
    · rw [nth_lo h1, nth_lo (by omega)]
      exact nth_mono n l k h h1
    · cases hE : E n with
      | false => rw [cnt_f hE] at hk; exact absurd hk h1
      | true =>
        rw [cnt_t hE] at hk
        have e : k = cnt E n := by omega
        rw [e, nth_hi hE, nth_lo (by omega)]
        exact (nth_spec n l (by omega)).1
theorem nth_sur {E : Nat → Bool} : ∀ (n k : Nat), k < n → E k = true → ∃ l, l < cnt E n ∧ nth E n l = k
  | 0, k, h, _ => absurd h (Nat.not_lt_zero _)
  | n + 1, k, h, hE => by
    by_cases h1 : k = n
    · subst h1
      exact ⟨cnt E k, by rw [cnt_t hE]; omega, nth_hi hE⟩
    · obtain ⟨l, h2, h3⟩ := nth_sur n k (by omega) hE
      refine ⟨l, ?_, by rw [nth_lo h2]; exact h3⟩
      show l < cnt E n + _
      omega
theorem nth_sum {K : Type} [R : Lean.Grind.CommRing K] {E : Nat → Bool} {f : Nat → K} : ∀ n, sm (fun k => if E k then f k else 0) n = sm (fun l => f (nth E n l)) (cnt E n)
  | 0 => rfl
  | n + 1 => by
    show sm (fun k => if E k then f k else 0) n + (if E n then f n else 0) = _
    rw [nth_sum n]
    cases hE : E n with
    | false =>
      rw [cnt_f hE, sm_congr (f := fun l => f (nth E (n + 1) l)) (g := fun l => f (nth E n l)) (cnt E n) (fun l hl => by rw [nth_lo hl])]
      show _ + (0 : K) = _
      grind
    | true =>
      rw [cnt_t hE]
      show sm (fun l => f (nth E n l)) (cnt E n) + f n = sm (fun l => f (nth E (n + 1) l)) (cnt E n) + f (nth E (n + 1) (cnt E n))
      rw [nth_hi hE, sm_congr (f := fun l => f (nth E (n + 1) l)) (g := fun l => f (nth E n l)) (cnt E n) (fun l hl => by rw [nth_lo hl])]
theorem cnt_mono {E : Nat → Bool} {a : Nat} : ∀ k, cnt E a ≤ cnt E (a + k)
  | 0 => Nat.le_refl _
  | k + 1 => Nat.le_trans (cnt_mono k) (by show cnt E (a + k) ≤ cnt E (a + k) + _; omega)
theorem cnt_sub {E F : Nat → Bool} : ∀ n, (∀ k, k < n → E k = true → F k = true) → cnt E n ≤ cnt F n
  | 0, _ => Nat.le_refl _
  | n + 1, h => by
    have ih := cnt_sub n (fun k hk => h k (by omega))
    cases hE : E n with
    | false => rw [cnt_f hE]; show _ ≤ cnt F n + _; omega
    | true => rw [cnt_t hE, cnt_t (h n (by omega) hE)]; omega
theorem cnt_zero {E : Nat → Bool} : ∀ n, cnt E n = 0 → ∀ k, k < n → E k = false
  | 0, _, k, hk => absurd hk (by omega)
  | n + 1, h, k, hk => by
    cases hE : E n with
    | true => rw [cnt_t hE] at h; omega
    | false =>
      rw [cnt_f hE] at h
      by_cases h1 : k = n
      · rw [h1]; exact hE
      · exact cnt_zero n h k (by omega)
theorem cnt_tri {a b c : Nat → Bool} : ∀ n, cnt (fun k => a k ^^ c k) n ≤ cnt (fun k => a k ^^ b k) n + cnt (fun k => b k ^^ c k) n
  | 0 => Nat.le_refl _
  | n + 1 => by
    have ih := cnt_tri (a := a) (b := b) (c := c) n
    show cnt (fun k => a k ^^ c k) n + (if (a n ^^ c n) then 1 else 0) ≤ (cnt (fun k => a k ^^ b k) n + (if (a n ^^ b n) then 1 else 0)) + (cnt (fun k => b k ^^ c k) n + (if (b n ^^ c n) then 1 else 0))
    cases a n <;> cases b n <;> cases c n <;> simp <;> omega
theorem cnt_rev {E : Nat → Bool} : ∀ n, cnt (fun k => E (n - 1 - k)) n = cnt E n
  | 0 => rfl
  | n + 1 => by
    have h1 := cnt_add (fun k => E (n + 1 - 1 - k)) 1 n
    rw [show 1 + n = n + 1 by omega] at h1
    rw [h1, cnt_congr (p := fun j => E (n + 1 - 1 - (1 + j))) (q := fun k => E (n - 1 - k)) n (fun j hj => by rw [show n + 1 - 1 - (1 + j) = n - 1 - j by omega]), cnt_rev n]
    show 0 + (if E (n + 1 - 1 - 0) then 1 else 0) + cnt E n = cnt E n + (if E n then 1 else 0)
    rw [show n + 1 - 1 - 0 = n by omega]
    omega
/-- a RIGHT word -/
def Rt (m t n : Nat) (w : Nat → Bool) : Prop := ∀ i, 1 ≤ i → i ≤ 2 * t → wsm m w n i n = 0
theorem fe_wsm {K : Type} [R : Lean.Grind.CommRing K] {m : Nat} {p : Nat → K} (hp : Hm m p) (h3 : 3 ≤ m) (h13 : m ≤ 13) {w : Nat → Bool} {n i : Nat} : ∀ k, p (wsm m w n i k) = sm (fun k => if w k then 0 else p (pwr m (n - 1 - k)) ^ i) k
  | 0 => hp.2.2.1
  | k + 1 => by
    show p (wsm m w n i k ^^^ (if w k then 0 else pwr m ((n - 1 - k) * i))) = sm (fun k => if w k then 0 else p (pwr m (n - 1 - k)) ^ i) k + (if w k then 0 else p (pwr m (n - 1 - k)) ^ i)
    rw [hp.1, fe_wsm hp h3 h13 k]
    congr 1
    cases w k with
    | true => exact hp.2.2.1
    | false => exact hp.pw h3 h13 (n - 1 - k) i
theorem fe_two {K : Type} [R : Lean.Grind.CommRing K] [Ch : Lean.Grind.IsCharP K 2] {m : Nat} {p : Nat → K} (hp : Hm m p) (h3 : 3 ≤ m) (h13 : m ≤ 13) {v w : Nat → Bool} {n i : Nat} : p (wsm m w n i n) + p (wsm m v n i n) = sm (fun l => p (pwr m (n - 1 - nth (fun k => w k ^^ v k) n l)) ^ i) (cnt (fun k => w k ^^ v k) n) := by
  rw [← nth_sum (E := fun k => w k ^^ v k) (f := fun k => p (pwr m (n - 1 - k)) ^ i) n, fe_wsm hp h3 h13, fe_wsm hp h3 h13, ← sm_add]
  refine sm_congr n (fun k _ => ?_)
  cases w k <;> cases v k
  · exact ad_self _
  · show p (pwr m (n - 1 - k)) ^ i + 0 = p (pwr m (n - 1 - k)) ^ i; grind
  · show 0 + p (pwr m (n - 1 - k)) ^ i = p (pwr m (n - 1 - k)) ^ i; grind
  · show (0 : K) + 0 = 0; grind
/-- the numbers of different places are different -/
theorem Df.nth {K : Type} [R : Lean.Grind.CommRing K] [Ch : Lean.Grind.IsCharP K 2] {m : Nat} {p : Nat → K} (hp : Hm m p) (h3 : 3 ≤ m) (h13 : m ≤ 13) {n e : Nat} (hn : n ≤ 2 ^ m - 1) {f : Nat → Nat} (h1 : ∀ l, l < e → f l < n) (h2 : ∀ l k, l < k → k < e → f l ≠ f k) : Df (fun l => p (pwr m (n - 1 - f l))) e :=
  ⟨fun l _ => hp.ne h3 h13 _, fun l k hl hk h => by
    have a := h1 l (by omega)
    have b := h1 k hk
    have e := pwr_inj h3 h13 (show n - 1 - f l < 2 ^ m - 1 by omega) (show n - 1 - f k < 2 ^ m - 1 by omega) (hp.in_ (pwr_lt h3 h13 _) (pwr_lt h3 h13 _) h)
    exact h2 l k hl hk (by omega)⟩
theorem Rt.uniq {m t n : Nat} {u v : Nat → Bool} (h3 : 3 ≤ m) (h13 : m ≤ 13) (hn : n ≤ 2 ^ m - 1) (hu : Rt m t n u) (hv : Rt m t n v) (hd : cnt (fun k => u k ^^ v k) n ≤ 2 * t) : ∀ k, k < n → u k = v k := by
  letI := FF.ring h3 h13
  letI := FF.chr h3 h13
  have hp := FF.hm h3 h13
  have hD : Df (fun l => fe m (pwr m (n - 1 - nth (fun k => u k ^^ v k) n l))) (cnt (fun k => u k ^^ v k) n) := Df.nth hp h3 h13 hn (fun l hl => (nth_spec n l hl).1) (fun l k h1 h2 => Nat.ne_of_lt (nth_mono n l k h1 h2))
  have h0 : cnt (fun k => u k ^^ v k) n = 0 := by
    rcases Nat.eq_zero_or_pos (cnt (fun k => u k ^^ v k) n) with h | h
    · exact h
    · have := vand (FF.iv h3 h13) (a := 1) (cnt (fun k => u k ^^ v k) n) (fun _ => (1 : FF m)) hD (fun i h1 h2 => by
        have e := fe_two hp h3 h13 (v := v) (w := u) (n := n) (i := i)
        rw [hu i h1 (by omega), hv i h1 (by omega), ad_self] at e
        rw [e]
        exact sm_congr _ (fun l _ => by grind)) 0 h
      exact absurd this (FF.iv h3 h13).2
  intro k hk
  have := cnt_zero n h0 k hk
  cases hu : u k <;> cases hv : v k <;> simp_all
