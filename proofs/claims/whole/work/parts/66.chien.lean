/-! THE CLASS's search for the wrong places, and what it finds -/
theorem rg_1 {K : Type} [R : Lean.Grind.CommRing K] (a b : K) : a = a + 0 * b := by grind
theorem mul_pw {K : Type} [R : Lean.Grind.CommRing K] (a b : K) : ∀ k : Nat, (a * b) ^ k = a ^ k * b ^ k
  | 0 => by rw [Lean.Grind.Semiring.pow_zero, Lean.Grind.Semiring.pow_zero, Lean.Grind.Semiring.pow_zero]; grind
  | k + 1 => by rw [Lean.Grind.Semiring.pow_succ, Lean.Grind.Semiring.pow_succ, Lean.Grind.Semiring.pow_succ, mul_pw a b k]; grind
theorem one_pw {K : Type} [R : Lean.Grind.CommRing K] : ∀ k : Nat, (1 : K) ^ k = 1
  | 0 => Lean.Grind.Semiring.pow_zero _
  | k + 1 => by rw [Lean.Grind.Semiring.pow_succ, one_pw k]; grind
theorem iv_eq {K : Type} [R : Lean.Grind.CommRing K] {iv : K → K} (hv : Iv K iv) {x y : K} (hx : x ≠ 0) (h : x * y = 1) : iv x = y := by
  have h1 := hv.1 x hx
  have : iv x = iv x * (x * y) := by rw [h]; grind
  rw [this, show iv x * (x * y) = (x * iv x) * y by grind, h1]; grind
theorem iv_ne {K : Type} [R : Lean.Grind.CommRing K] {iv : K → K} (hv : Iv K iv) {x : K} (hx : x ≠ 0) : iv x ≠ 0 := fun h => by
  have h1 := hv.1 x hx
  rw [h] at h1
  exact hv.2 (by rw [← h1]; grind)
theorem Df.iv {K : Type} [R : Lean.Grind.CommRing K] {iv : K → K} (hv : Iv K iv) {X : Nat → K} {e : Nat} (h : Df X e) : Df (fun l => iv (X l)) e :=
  ⟨fun l hl => iv_ne hv (h.1 l hl), fun l k h1 h2 he => h.2 l k h1 h2 (by
    have a := hv.1 _ (h.1 l (by omega))
    have b := hv.1 _ (h.1 k h2)
    have he' : iv (X l) = iv (X k) := he
    rw [← he'] at b
    have c : X l = X l * (X k * iv (X l)) := by rw [b]; grind
    rw [c, show X l * (X k * iv (X l)) = (X l * iv (X l)) * X k by grind, a]; grind)⟩
/-- logs of the terms of a polynomial at x -/
def LG {K : Type} [R : Lean.Grind.CommRing K] (m : Nat) (p : Nat → K) (lc : Nat → Nat) (x : K) (L : Nat) (lo : Nat → Option Nat) : Prop := ∀ j, 1 ≤ j → j ≤ L → (lo j = none ∧ p (lc j) = 0) ∨ ∃ l, lo j = some l ∧ p (pwr m l) = p (lc j) * x ^ j
theorem LG.sum {K : Type} [R : Lean.Grind.CommRing K] {m : Nat} {p : Nat → K} (hp : Hm m p) {lc : Nat → Nat} {x : K} {lo : Nat → Option Nat} (h0 : p (lc 0) = 1) : ∀ L, LG m p lc x L lo → p (lzs m lo L) = sm (fun j => p (lc j) * x ^ j) (L + 1)
  | 0, _ => by
    show p 1 = 0 + p (lc 0) * x ^ 0
    rw [hp.2.2.2.1, h0, Lean.Grind.Semiring.pow_zero]; grind
  | L + 1, h => by
    have ih := LG.sum hp h0 L (fun j h1 h2 => h j h1 (by omega))
    show p (lzs m lo (L + 1)) = sm (fun j => p (lc j) * x ^ j) (L + 1) + p (lc (L + 1)) * x ^ (L + 1)
    rw [← ih, show lzs m lo (L + 1) = (match lo (L + 1) with
      | none => lzs m lo L
      | some l => lzs m lo L ^^^ pwr m l) from rfl]
    rcases h (L + 1) (by omega) (by omega) with ⟨e1, e2⟩ | ⟨l, e1, e2⟩
    · rw [e1, e2]
      exact rg_1 _ _
    · rw [e1]
      show p (lzs m lo L ^^^ pwr m l) = _
      rw [hp.1, e2]
theorem LG.next {K : Type} [R : Lean.Grind.CommRing K] {m : Nat} {p : Nat → K} (hp : Hm m p) (h3 : 3 ≤ m) (h13 : m ≤ 13) {lc : Nat → Nat} {x : K} {lo : Nat → Option Nat} {L : Nat} (h : LG m p lc x L lo) : LG m p lc (x * p (pwr m 1)) L (lzl (2 ^ m - 1) lo L) := fun j h1 h2 => by
  unfold lzl
  rw [if_pos ⟨h1, h2⟩]
  rcases h j h1 h2 with ⟨e1, e2⟩ | ⟨l, e1, e2⟩
  · exact Or.inl ⟨by rw [e1]; rfl, e2⟩
  · refine Or.inr ⟨if 2 ^ m - 1 ≤ l + j then l + j - (2 ^ m - 1) else l + j, by rw [e1]; rfl, ?_⟩
    have e3 : pwr m (if 2 ^ m - 1 ≤ l + j then l + j - (2 ^ m - 1) else l + j) = pwr m (l + j) := by
      split
      · rename_i hc
        have := pwr_per h3 h13 (l + j - (2 ^ m - 1))
        rw [show l + j - (2 ^ m - 1) + (2 ^ m - 1) = l + j by omega] at this
        exact this.symm
      · rfl
    have e4 := hp.pw h3 h13 1 j
    rw [Nat.one_mul] at e4
    rw [e3, ← fmul_pwr h3 h13, hp.2.1 _ _ (pwr_lt h3 h13 _) (pwr_lt h3 h13 _), e2, e4, mul_pw]
    grind
theorem LG.st {K : Type} [R : Lean.Grind.CommRing K] {iv : K → K} (hv : Iv K iv) {m : Nat} {p : Nat → K} (hp : Hm m p) (h3 : 3 ≤ m) (h13 : m ≤ 13) {lc : Nat → Nat} {L n : Nat} {l0 : Nat → Option Nat} (hl : ∀ j, j < 17 → lc j < 2 ^ m) (hL : L ≤ 16) (hn1 : 1 ≤ n) (hn : n ≤ 2176) : LG m p lc (iv (p (pwr m (n - 1)))) L (fwt m lc n l0 L) := fun j h1 h2 => by
  have ht := two_le h3 h13
  unfold fwt
  rw [if_pos ⟨h1, h2⟩]
  unfold fwl
  by_cases h0 : lc j = 0
  · exact Or.inl ⟨by rw [if_pos h0], by rw [h0]; exact hp.2.2.1⟩
  · obtain ⟨g1, g2⟩ := lgn_spec h3 h13 h0 (hl j (by omega))
    refine Or.inr ⟨_, by rw [if_neg h0], ?_⟩
    obtain ⟨q, hq⟩ : ∃ q, q = j * (n - 1) := ⟨_, rfl⟩
    have hqb : q ≤ 16 * 2175 := by rw [hq]; exact Nat.mul_le_mul (by omega) (by omega)
    have hr : red (nI (lgn m (lc j)) - nI (j * (n - 1))) (2 ^ m - 1) = (((lgn m (lc j) : Int) - (q : Int)) % ((2 ^ m - 1 : Nat) : Int)).toNat := by
      unfold red
      rw [← hq, Int32.toInt_sub, nI_toInt (by omega), nI_toInt (by omega), Int.bmod_eq_of_le (by omega) (by omega)]
    obtain ⟨l, hl2⟩ : ∃ l, l = red (nI (lgn m (lc j)) - nI (j * (n - 1))) (2 ^ m - 1) := ⟨_, rfl⟩
    rw [← hl2]
    rw [← hl2] at hr
    have hN : (0 : Int) < ((2 ^ m - 1 : Nat) : Int) := by omega
    have hlq : (l + q) % (2 ^ m - 1) = lgn m (lc j) := by
      have e1 : (l : Int) = ((lgn m (lc j) : Int) - (q : Int)) % ((2 ^ m - 1 : Nat) : Int) := by
        rw [hr, Int.toNat_of_nonneg (Int.emod_nonneg _ (by omega))]
      have e2 : (((l + q) % (2 ^ m - 1) : Nat) : Int) = ((lgn m (lc j) : Nat) : Int) := by
        rw [Int.natCast_emod, Int.natCast_add, e1, Int.emod_add_emod, Int.sub_add_cancel, ← Int.natCast_emod, Nat.mod_eq_of_lt g1]
      exact Int.ofNat_inj.mp e2
    have e5 : p (pwr m l) * p (pwr m (n - 1)) ^ j = p (lc j) := by
      rw [← hp.pw h3 h13 (n - 1) j, ← hp.2.1 _ _ (pwr_lt h3 h13 _) (pwr_lt h3 h13 _), fmul_pwr h3 h13, Nat.mul_comm, ← hq, ← pwr_mod h3 h13, hlq, g2]
    have e6 : p (pwr m (n - 1)) ^ j * iv (p (pwr m (n - 1))) ^ j = 1 := by rw [← mul_pw, hv.1 _ (hp.ne h3 h13 _), one_pw]
    rw [← e5, show p (pwr m l) * p (pwr m (n - 1)) ^ j * iv (p (pwr m (n - 1))) ^ j = p (pwr m l) * (p (pwr m (n - 1)) ^ j * iv (p (pwr m (n - 1))) ^ j) by grind, e6]
    grind
/-- the logs at place b -/
def lgb (m : Nat) (many : Nat) (l0 : Nat → Option Nat) : Nat → (Nat → Option Nat)
  | 0 => l0
  | b + 1 => lzl (2 ^ m - 1) (lgb m many l0 b) many
def zcb (m many : Nat) (l0 : Nat → Option Nat) (b : Nat) : Bool := lzs m (lgb m many l0 b) many == 0
theorem lgb_LG {K : Type} [R : Lean.Grind.CommRing K] {m : Nat} {p : Nat → K} (hp : Hm m p) (h3 : 3 ≤ m) (h13 : m ≤ 13) {lc : Nat → Nat} {x : K} {l0 : Nat → Option Nat} {L : Nat} (h : LG m p lc x L l0) : ∀ b : Nat, LG m p lc (x * p (pwr m 1) ^ b) L (lgb m L l0 b)
  | 0 => by
    rw [Lean.Grind.Semiring.pow_zero, show x * 1 = x by grind]; exact h
  | b + 1 => by
    rw [Lean.Grind.Semiring.pow_succ, show x * (p (pwr m 1) ^ b * p (pwr m 1)) = x * p (pwr m 1) ^ b * p (pwr m 1) by grind]
    exact (lgb_LG hp h3 h13 h b).next hp h3 h13
/-- a place is found just where the polynomial is 0 -/
theorem zcb_ev {K : Type} [R : Lean.Grind.CommRing K] {iv : K → K} (hv : Iv K iv) {m : Nat} {p : Nat → K} (hp : Hm m p) (h3 : 3 ≤ m) (h13 : m ≤ 13) {lc : Nat → Nat} {L n : Nat} {l0 : Nat → Option Nat} (hl : ∀ j, j < 17 → lc j < 2 ^ m) (hL : L ≤ 16) (hn1 : 1 ≤ n) (hn : n ≤ 2176) (h0 : p (lc 0) = 1) {b : Nat} (hb : b < n) : zcb m L (fwt m lc n l0 L) b = true ↔ sm (fun j => p (lc j) * iv (p (pwr m (n - 1 - b))) ^ j) (L + 1) = 0 := by
  have h := lgb_LG hp h3 h13 (LG.st hv hp h3 h13 (l0 := l0) hl hL hn1 hn) b
  have e1 : iv (p (pwr m (n - 1 - b))) = iv (p (pwr m (n - 1))) * p (pwr m 1) ^ b := by
    refine iv_eq hv (hp.ne h3 h13 _) ?_
    have e2 := hp.pw h3 h13 1 b
    rw [Nat.one_mul] at e2
    have e3 : p (pwr m (n - 1 - b)) * p (pwr m 1) ^ b = p (pwr m (n - 1)) := by
      rw [← e2, ← hp.2.1 _ _ (pwr_lt h3 h13 _) (pwr_lt h3 h13 _), fmul_pwr h3 h13, show n - 1 - b + b = n - 1 by omega]
    rw [show p (pwr m (n - 1 - b)) * (iv (p (pwr m (n - 1))) * p (pwr m 1) ^ b) = (p (pwr m (n - 1 - b)) * p (pwr m 1) ^ b) * iv (p (pwr m (n - 1))) by grind, e3]
    exact hv.1 _ (hp.ne h3 h13 _)
  rw [e1, ← h.sum hp h0]
  unfold zcb
  rw [beq_iff_eq]
  exact ⟨fun z => by rw [z]; exact hp.2.2.1, fun z => hp.2.2.2.2 _ (lzs_lt h3 h13 _) z⟩
theorem fwr_spec {m many n : Nat} {l0 : Nat → Option Nat} : ∀ (f b : Nat) (s : Fs), b + f = n → s.1 = lgb m many l0 b → s.2.1 = cnt (zcb m many l0) b → s.2.1 ≤ many → (∀ l, l < s.2.1 → s.2.2 l = nth (zcb m many l0) b l) → ∃ b', b' ≤ n ∧ (fwr m many f b s).2.1 = cnt (zcb m many l0) b' ∧ cnt (zcb m many l0) b' ≤ many ∧ (∀ l, l < cnt (zcb m many l0) b' → (fwr m many f b s).2.2 l = nth (zcb m many l0) b' l) ∧ (b' = n ∨ many ≤ cnt (zcb m many l0) b')
  | 0, b, s, hb, h1, h2, h3, h4 => ⟨b, by omega, h2, by omega, fun l hl => h4 l (by omega), Or.inl (by omega)⟩
  | f + 1, b, s, hb, h1, h2, h3, h4 => by
    unfold fwr
    by_cases hc : many ≤ s.2.1
    · rw [if_pos hc]
      exact ⟨b, by omega, h2, by omega, fun l hl => h4 l (by omega), Or.inr (by omega)⟩
    · rw [if_neg hc]
      have ez : (lzs m s.1 many == 0) = zcb m many l0 b := by rw [h1]; rfl
      refine fwr_spec f (b + 1) (fwx m many b s) (by omega) (by show lzl _ s.1 many = _; rw [h1]; rfl) ?_ ?_ (fun l hl => ?_)
      · show (if lzs m s.1 many == 0 then s.2.1 + 1 else s.2.1) = _
        rw [ez]
        cases hz : zcb m many l0 b with
        | true => rw [cnt_t hz, h2]; rfl
        | false => rw [cnt_f hz, h2]; rfl
      · show (if lzs m s.1 many == 0 then s.2.1 + 1 else s.2.1) ≤ many
        split <;> omega
      · have hl' : l < (if lzs m s.1 many == 0 then s.2.1 + 1 else s.2.1) := hl
        show (if lzs m s.1 many == 0 then (fun j => if j = s.2.1 then b else s.2.2 j) else s.2.2) l = _
        rw [ez] at hl' ⊢
        cases hz : zcb m many l0 b with
        | true =>
          rw [hz] at hl'
          have hl2 : l < s.2.1 + 1 := hl'
          show (if l = s.2.1 then b else s.2.2 l) = _
          by_cases he : l = s.2.1
          · rw [if_pos he, he, h2, nth_hi hz]
          · rw [if_neg he, nth_lo (by omega)]
            exact h4 l (by omega)
        | false =>
          rw [hz] at hl'
          have hl2 : l < s.2.1 := hl'
          show s.2.2 l = _
          rw [nth_lo (by omega)]
          exact h4 l hl2
