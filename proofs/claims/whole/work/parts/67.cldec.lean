/-! WHAT THE CLASS FINDS is the RIGHT word within t, if there is one -/
theorem pw_add {K : Type} [R : Lean.Grind.CommRing K] (a : K) (i : Nat) : ∀ j : Nat, a ^ (i + j) = a ^ i * a ^ j
  | 0 => by rw [Nat.add_zero, Lean.Grind.Semiring.pow_zero]; grind
  | j + 1 => by rw [show i + (j + 1) = (i + j) + 1 by omega, Lean.Grind.Semiring.pow_succ, pw_add a i j, Lean.Grind.Semiring.pow_succ]; grind
theorem sm_sq {K : Type} [R : Lean.Grind.CommRing K] [Ch : Lean.Grind.IsCharP K 2] {f : Nat → K} : ∀ n, sm f n * sm f n = sm (fun k => f k * f k) n
  | 0 => by show (0 : K) * 0 = 0; grind
  | n + 1 => by
    show (sm f n + f n) * (sm f n + f n) = sm (fun k => f k * f k) n + f n * f n
    rw [← sm_sq n]
    grind
theorem wsm_sq {K : Type} [R : Lean.Grind.CommRing K] [Ch : Lean.Grind.IsCharP K 2] {m : Nat} {p : Nat → K} (hp : Hm m p) (h3 : 3 ≤ m) (h13 : m ≤ 13) {w : Nat → Bool} {n i : Nat} : p (wsm m w n (2 * i) n) = p (wsm m w n i n) * p (wsm m w n i n) := by
  rw [fe_wsm hp h3 h13, fe_wsm hp h3 h13, sm_sq]
  refine sm_congr n (fun k _ => ?_)
  cases w k with
  | true => show (0 : K) = 0 * 0; grind
  | false => show p (pwr m (n - 1 - k)) ^ (2 * i) = _ ^ i * _ ^ i; rw [show 2 * i = i + i by omega, pw_add]
theorem sm_one {K : Type} [R : Lean.Grind.CommRing K] {f : Nat → K} {n a : Nat} (ha : a < n) (h : ∀ k, k < n → k ≠ a → f k = 0) : sm f n = f a := by
  obtain ⟨k, rfl⟩ : ∃ k, n = a + 1 + k := ⟨n - (a + 1), by omega⟩
  rw [sm_more k (fun i h1 h2 => h i h2 (by omega))]
  show sm f a + f a = f a
  rw [sm_zero a (fun i hi => h i (by omega) (by omega))]
  grind
theorem cnt_one {E : Nat → Bool} {a : Nat} : ∀ n, (∀ k, k < n → k ≠ a → E k = false) → cnt E n ≤ 1 ∧ (n ≤ a → cnt E n = 0)
  | 0, _ => ⟨Nat.zero_le _, fun _ => rfl⟩
  | n + 1, h => by
    have ih := cnt_one n (fun k hk => h k (by omega))
    by_cases hn : n = a
    · have := ih.2 (by omega)
      refine ⟨?_, fun z => by omega⟩
      show cnt E n + _ ≤ 1
      rw [this]
      split <;> omega
    · rw [cnt_f (h n (by omega) hn)]
      exact ⟨ih.1, fun z => ih.2 (by omega)⟩
theorem wsm_fl {K : Type} [R : Lean.Grind.CommRing K] [Ch : Lean.Grind.IsCharP K 2] {m : Nat} {p : Nat → K} (hp : Hm m p) (h3 : 3 ≤ m) (h13 : m ≤ 13) {v : Nat → Bool} {n i a : Nat} (ha : a < n) : p (wsm m (bup v a (!(v a))) n i n) = p (wsm m v n i n) + p (pwr m (n - 1 - a)) ^ i := by
  have e : p (wsm m v n i n) + p (wsm m (bup v a (!(v a))) n i n) = p (pwr m (n - 1 - a)) ^ i := by
    rw [fe_wsm hp h3 h13, fe_wsm hp h3 h13, ← sm_add, sm_one ha (fun k hk hka => by
      show (if v k then 0 else p (pwr m (n - 1 - k)) ^ i) + (if bup v a (!(v a)) k then 0 else p (pwr m (n - 1 - k)) ^ i) = 0
      unfold bup
      rw [if_neg hka]
      exact ad_self _)]
    show (if v a then 0 else p (pwr m (n - 1 - a)) ^ i) + (if bup v a (!(v a)) a then 0 else p (pwr m (n - 1 - a)) ^ i) = _
    unfold bup
    rw [if_pos rfl]
    cases v a
    · show p (pwr m (n - 1 - a)) ^ i + 0 = _; grind
    · show 0 + p (pwr m (n - 1 - a)) ^ i = _; grind
  rw [← e]
  grind
def vfl (w : Nat → Bool) (f : Nat → Nat) (Y : Nat → Bool) : Nat → (Nat → Bool)
  | 0 => w
  | l + 1 => if Y l then bup (vfl w f Y l) (f l) (!(vfl w f Y l (f l))) else vfl w f Y l
theorem vfl_sum {K : Type} [R : Lean.Grind.CommRing K] [Ch : Lean.Grind.IsCharP K 2] {m : Nat} {p : Nat → K} (hp : Hm m p) (h3 : 3 ≤ m) (h13 : m ≤ 13) {w Y : Nat → Bool} {f : Nat → Nat} {n i : Nat} : ∀ L, (∀ l, l < L → f l < n) → p (wsm m (vfl w f Y L) n i n) = p (wsm m w n i n) + sm (fun l => (if Y l then 1 else 0) * p (pwr m (n - 1 - f l)) ^ i) L
  | 0, _ => by show _ = _ + (0 : K); rw [show vfl w f Y 0 = w from rfl]; grind
  | L + 1, h => by
    have ih := vfl_sum hp h3 h13 (w := w) (Y := Y) (f := f) (n := n) (i := i) L (fun l hl => h l (by omega))
    show p (wsm m (if Y L then bup (vfl w f Y L) (f L) (!(vfl w f Y L (f L))) else vfl w f Y L) n i n) = p (wsm m w n i n) + (sm (fun l => (if Y l then 1 else 0) * p (pwr m (n - 1 - f l)) ^ i) L + (if Y L then 1 else 0) * p (pwr m (n - 1 - f L)) ^ i)
    cases Y L with
    | true =>
      show p (wsm m (bup (vfl w f Y L) (f L) (!(vfl w f Y L (f L)))) n i n) = p (wsm m w n i n) + (sm (fun l => (if Y l then 1 else 0) * p (pwr m (n - 1 - f l)) ^ i) L + 1 * p (pwr m (n - 1 - f L)) ^ i)
      rw [wsm_fl hp h3 h13 (h L (by omega)), ih]
      grind
    | false =>
      show p (wsm m (vfl w f Y L) n i n) = p (wsm m w n i n) + (sm (fun l => (if Y l then 1 else 0) * p (pwr m (n - 1 - f l)) ^ i) L + 0 * p (pwr m (n - 1 - f L)) ^ i)
      rw [ih]
      grind
theorem vfl_cnt {w Y : Nat → Bool} {f : Nat → Nat} {n : Nat} : ∀ L, cnt (fun k => w k ^^ vfl w f Y L k) n ≤ L
  | 0 => by
    rw [cnt_congr (q := fun _ => false) n (fun j _ => by show (w j ^^ w j) = false; cases w j <;> rfl)]
    have : ∀ n, cnt (fun _ => false) n = 0 := fun n => by
      induction n with
      | zero => rfl
      | succ n ih => rw [cnt_f rfl]; exact ih
    rw [this]; exact Nat.le_refl _
  | L + 1 => by
    have ih := vfl_cnt (w := w) (Y := Y) (f := f) (n := n) L
    have ht := cnt_tri (a := w) (b := vfl w f Y L) (c := vfl w f Y (L + 1)) n
    have h1 : cnt (fun k => vfl w f Y L k ^^ vfl w f Y (L + 1) k) n ≤ 1 := (cnt_one (a := f L) n (fun k _ hk => by
      show (vfl w f Y L k ^^ (if Y L then bup (vfl w f Y L) (f L) (!(vfl w f Y L (f L))) else vfl w f Y L) k) = false
      cases Y L with
      | true =>
        show (vfl w f Y L k ^^ bup (vfl w f Y L) (f L) (!(vfl w f Y L (f L))) k) = false
        unfold bup
        rw [if_neg hk]
        cases vfl w f Y L k <;> rfl
      | false => show (vfl w f Y L k ^^ vfl w f Y L k) = false; cases vfl w f Y L k <;> rfl)).1
    omega
/-- the value at a place's inverse of the polynomial that was found -/
abbrev cev {K : Type} [R : Lean.Grind.CommRing K] (m : Nat) (p : Nat → K) (iv : K → K) (lc : Nat → Nat) (L n b : Nat) : K := sm (fun j => p (lc j) * iv (p (pwr m (n - 1 - b))) ^ j) (L + 1)
theorem cl_comp {K : Type} [R : Lean.Grind.CommRing K] [Ch : Lean.Grind.IsCharP K 2] {iv : K → K} (hv : Iv K iv) {m t n : Nat} {p : Nat → K} (hp : Hm m p) (h3 : 3 ≤ m) (h13 : m ≤ 13) (hn : n ≤ 2 ^ m - 1) {sy : Nat → Nat} {w v : Nat → Bool} {s : Bs} (hsy : ∀ j, 1 ≤ j → j ≤ 2 * t → sy j = wsm m w n j n) (hB : BC m (2 * t) p sy (2 * t) s) (hr : Rt m t n v) (hd : cnt (fun k => w k ^^ v k) n ≤ t) : s.2.2.2.1 = cnt (fun k => w k ^^ v k) n ∧ ∀ b, b < n → (cev m p iv s.1 s.2.2.2.1 n b = 0 ↔ (w b ^^ v b) = true) := by
  obtain ⟨E, hE⟩ : ∃ E : Nat → Bool, E = fun k => w k ^^ v k := ⟨_, rfl⟩
  rw [← hE] at hd ⊢
  obtain ⟨Y, hY⟩ : ∃ Y : Nat → K, Y = fun l => p (pwr m (n - 1 - nth E n l)) := ⟨_, rfl⟩
  have hD : Df Y (cnt E n) := by rw [hY]; exact Df.nth hp h3 h13 hn (fun l hl => (nth_spec n l hl).1) (fun l k h1 h2 => Nat.ne_of_lt (nth_mono n l k h1 h2))
  have hS : ∀ i, 1 ≤ i → i ≤ 2 * t → sq p sy i = sm (fun l => Y l ^ i) (cnt E n) := fun i h1 h2 => by
    have e := fe_two hp h3 h13 (v := v) (w := w) (n := n) (i := i)
    rw [hr i h1 h2, hp.2.2.1, ← hE] at e
    unfold sq
    rw [if_neg (by omega), hsy i h1 h2, hY]
    show _ = sm (fun l => p (pwr m (n - 1 - nth E n l)) ^ i) (cnt E n)
    rw [← e]
    grind
  obtain ⟨hI, hV, hM⟩ := hB
  have hL := hM (lam Y (cnt E n)) (cnt E n) (lam_0 _) (lam_gn hS)
  obtain ⟨g1, g2, g3, _⟩ := hV
  have hz : ∀ l, l < cnt E n → sm (fun j => p (s.1 j) * iv (Y l) ^ j) (s.2.2.2.1 + 1) = 0 := fun l hl => gn_root hv hD hS g3 (by omega) l hl
  have hLe : s.2.2.2.1 = cnt E n := by
    rcases Nat.lt_or_ge s.2.2.2.1 (cnt E n) with h | h
    · have := roots hv (X := fun l => iv (Y l)) (n := s.2.2.2.1 + 1) (p := fun j => p (s.1 j)) ((hD.iv hv).lo (by omega)) (fun l hl => hz l (by omega)) 0 (by omega)
      exact absurd (g1.symm.trans this) hv.2
    · omega
  refine ⟨hLe, fun b hb => ⟨fun h => ?_, fun h => ?_⟩⟩
  · cases hEb : (w b ^^ v b) with
    | true => rfl
    | false =>
      exfalso
      have hEb' : E b = false := by rw [hE]; exact hEb
      have := roots hv (X := fun l => iv (if l < cnt E n then Y l else p (pwr m (n - 1 - b)))) (n := s.2.2.2.1 + 1) (p := fun j => p (s.1 j)) (by
        rw [hLe]
        refine Df.iv hv ?_
        have e : (fun l => if l < cnt E n then Y l else p (pwr m (n - 1 - b))) = fun l => p (pwr m (n - 1 - (if l < cnt E n then nth E n l else b))) := by
          funext l
          by_cases h : l < cnt E n
          · rw [if_pos h, if_pos h, hY]
          · rw [if_neg h, if_neg h]
        rw [e]
        refine Df.nth hp h3 h13 hn (fun l hl => ?_) (fun l k h1 h2 => ?_)
        · split
          · rename_i h; exact (nth_spec n l h).1
          · exact hb
        · rw [if_pos (by omega)]
          split
          · rename_i h; exact Nat.ne_of_lt (nth_mono n l k h1 h)
          · intro z
            have := (nth_spec (E := E) n l (by omega)).2
            rw [z, hEb'] at this
            cases this) (fun l hl => by
          by_cases h' : l < cnt E n
          · show sm (fun j => p (s.1 j) * iv (if l < cnt E n then Y l else p (pwr m (n - 1 - b))) ^ j) (s.2.2.2.1 + 1) = 0
            rw [if_pos h']; exact hz l h'
          · show sm (fun j => p (s.1 j) * iv (if l < cnt E n then Y l else p (pwr m (n - 1 - b))) ^ j) (s.2.2.2.1 + 1) = 0
            rw [if_neg h']; exact h) 0 (by omega)
      exact absurd (g1.symm.trans this) hv.2
  · obtain ⟨l, h1, h2⟩ := nth_sur (E := E) n b hb (by rw [hE]; exact h)
    have := hz l h1
    rw [hY] at this
    have h5 : sm (fun j => p (s.1 j) * iv (p (pwr m (n - 1 - nth E n l))) ^ j) (s.2.2.2.1 + 1) = 0 := this
    rw [h2] at h5
    exact h5
theorem cl_sound {K : Type} [R : Lean.Grind.CommRing K] [Ch : Lean.Grind.IsCharP K 2] {iv : K → K} (hv : Iv K iv) {m t n : Nat} {p : Nat → K} (hp : Hm m p) (h3 : 3 ≤ m) (h13 : m ≤ 13) (hn : n ≤ 2 ^ m - 1) {sy : Nat → Nat} {w : Nat → Bool} {s : Bs} (hsy : ∀ j, 1 ≤ j → j ≤ 2 * t → sy j = wsm m w n j n) (hB : BC m (2 * t) p sy (2 * t) s) (hL : s.2.2.2.1 ≤ t) {f : Nat → Nat} (hf1 : ∀ l, l < s.2.2.2.1 → f l < n) (hf2 : ∀ l k, l < k → k < s.2.2.2.1 → f l ≠ f k) (hz : ∀ l, l < s.2.2.2.1 → cev m p iv s.1 s.2.2.2.1 n (f l) = 0) : ∃ v, Rt m t n v ∧ cnt (fun k => w k ^^ v k) n ≤ t := by
  obtain ⟨hI, hV, hM⟩ := hB
  obtain ⟨g1, g2, g3, _⟩ := hV
  obtain ⟨L, hLL⟩ : ∃ L, L = s.2.2.2.1 := ⟨_, rfl⟩
  rw [← hLL] at hL hf1 hf2 hz g2 g3
  obtain ⟨X, hX⟩ : ∃ X : Nat → K, X = fun l => p (pwr m (n - 1 - f l)) := ⟨_, rfl⟩
  have hD : Df X L := by rw [hX]; exact Df.nth hp h3 h13 hn hf1 hf2
  obtain ⟨Y, hY⟩ := solv hv (a := 1) L (sq p sy) hD
  have hp2 : ∀ x : K, x ≠ 0 → ∀ (q j : Nat), j ≤ q → x ^ (q - j) = x ^ q * iv x ^ j := fun x hx q j hj => by
    have e1 : x ^ q = x ^ (q - j) * x ^ j := by rw [← pw_add, show q - j + j = q by omega]
    have e2 : x ^ j * iv x ^ j = 1 := by rw [← mul_pw, hv.1 x hx, one_pw]
    rw [e1, show x ^ (q - j) * x ^ j * iv x ^ j = x ^ (q - j) * (x ^ j * iv x ^ j) by grind, e2]
    grind
  have hall : ∀ q, 1 ≤ q → q ≤ 2 * t → sm (fun l => Y l * X l ^ q) L = sq p sy q := by
    intro q
    induction q using Nat.strongRecOn with
    | ind q ih =>
      intro h1 h2
      rcases Nat.lt_or_ge L q with hq | hq
      · have e1 : sm (fun j => p (s.1 j) * sm (fun l => Y l * X l ^ (q - j)) L) (L + 1) = 0 := by
          have a1 : sm (fun j => p (s.1 j) * sm (fun l => Y l * X l ^ (q - j)) L) (L + 1) = sm (fun j => sm (fun l => p (s.1 j) * (Y l * X l ^ (q - j))) L) (L + 1) := sm_congr _ (fun j _ => by rw [← sm_mul])
          rw [a1, sm_swap]
          refine sm_zero _ (fun l hl => ?_)
          have a2 : sm (fun j => p (s.1 j) * (Y l * X l ^ (q - j))) (L + 1) = (Y l * X l ^ q) * cev m p iv s.1 L n (f l) := by
            rw [← sm_mul]
            refine sm_congr _ (fun j hj => ?_)
            rw [hp2 (X l) (hD.1 l hl) q j (by omega), hX]
            grind
          rw [a2, hz l hl]
          grind
        have e2 := g3 q hq h2
        rw [sm_cons] at e1 e2
        have e3 : sm (fun j => p (s.1 (j + 1)) * sm (fun l => Y l * X l ^ (q - (j + 1))) L) L = sm (fun j => p (s.1 (j + 1)) * sq p sy (q - (j + 1))) L := sm_congr _ (fun j hj => by rw [ih (q - (j + 1)) (by omega) (by omega) (by omega)])
        have g1' : p (s.1 0) = 1 := g1
        rw [e3, Nat.sub_zero, g1'] at e1
        have e2' : p (s.1 0) * sq p sy (q - 0) + sm (fun j => p (s.1 (j + 1)) * sq p sy (q - (j + 1))) L = 0 := e2
        rw [Nat.sub_zero, g1'] at e2'
        have a3 := ad_eq e1
        have a4 := ad_eq e2'
        rw [← a4] at a3
        rw [show sm (fun l => Y l * X l ^ q) L = 1 * sm (fun l => Y l * X l ^ q) L by grind, a3]
        grind
      · exact hY q h1 (by omega)
  have hYY : ∀ l, l < L → Y l + Y l * Y l = 0 := vand hv (X := fun l => X l * X l) (a := 1) L (fun l => Y l + Y l * Y l) ⟨fun l hl => mu_ne hv (hD.1 l hl) (hD.1 l hl), fun l k h1 h2 h => hD.2 l k h1 h2 (sq_inj hv h)⟩ (fun i h1 h2 => by
    have a1 := hall (2 * i) (by omega) (by omega)
    have a2 := hall i h1 (by omega)
    have a3 : sq p sy (2 * i) = sq p sy i * sq p sy i := by
      unfold sq
      rw [if_neg (by omega), if_neg (by omega), hsy (2 * i) (by omega) (by omega), hsy i h1 (by omega)]
      exact wsm_sq hp h3 h13
    rw [a3, ← a2, sm_sq] at a1
    have a4 : sm (fun l => (Y l + Y l * Y l) * (X l * X l) ^ i) L = sm (fun l => Y l * X l ^ (2 * i)) L + sm (fun l => Y l * X l ^ i * (Y l * X l ^ i)) L := by
      rw [← sm_add]
      refine sm_congr _ (fun l _ => ?_)
      rw [mul_pw, show 2 * i = i + i by omega, pw_add]
      grind
    rw [a4, a1]
    exact ad_self _)
  have hY1 : ∀ l, l < L → Y l = (if (@decide (Y l = 1) (Classical.propDecidable _)) then 1 else 0) := fun l hl => by
    by_cases h : Y l = 1
    · rw [show @decide (Y l = 1) (Classical.propDecidable _) = true from @decide_eq_true _ (Classical.propDecidable _) h]
      exact h
    · rw [show @decide (Y l = 1) (Classical.propDecidable _) = false from @decide_eq_false _ (Classical.propDecidable _) h]
      show Y l = 0
      have h1 : (1 + Y l) * Y l = 0 := by rw [← hYY l hl]; grind
      exact mu_0 hv h1 (fun z => h (ad_eq (show Y l + 1 = 0 by rw [← z]; grind)))
  refine ⟨vfl w f (fun l => @decide (Y l = 1) (Classical.propDecidable _)) L, fun i h1 h2 => ?_, Nat.le_trans (vfl_cnt L) hL⟩
  refine hp.2.2.2.2 _ (wsm_lt h3 h13 n) ?_
  rw [vfl_sum hp h3 h13 L hf1, ← hsy i h1 h2]
  have a5 := hall i h1 h2
  unfold sq at a5
  rw [if_neg (by omega)] at a5
  rw [← a5, sm_congr (f := fun l => (if (@decide (Y l = 1) (Classical.propDecidable _)) then 1 else 0) * p (pwr m (n - 1 - f l)) ^ i) (g := fun l => Y l * X l ^ i) L (fun l hl => by rw [← hY1 l hl, hX])]
  exact ad_self _
