/-! THE GENERATOR: class and model make the same, by kernel -/
theorem xin_sp {g : Nat → Bool} {fac k : Nat} : ∀ n i, xin g fac k n i = (g i ^^ (decide (k ≤ i ∧ i < k + n) && fac.testBit (i - k)))
  | 0, i => by show g i = _; rw [decide_eq_false (by omega), Bool.false_and, Bool.xor_false]
  | n + 1, i => by
    show (if i = k + n then (xin g fac k n i ^^ fac.testBit n) else xin g fac k n i) = _
    rw [xin_sp n i]
    by_cases h : i = k + n
    · rw [if_pos h, h, decide_eq_false (show ¬ (k ≤ k + n ∧ k + n < k + n) by omega), decide_eq_true (show k ≤ k + n ∧ k + n < k + (n + 1) by omega), show k + n - k = n by omega, Bool.false_and, Bool.xor_false, Bool.true_and]
    · rw [if_neg h]
      congr 2
      exact decide_eq_decide.mpr (by omega)
theorem mdown_sp {fac deg : Nat} : ∀ (c : Nat) (g : Nat → Bool) (i : Nat), mdown fac deg c g i = (xsb (fun k => g k && (decide (k ≤ i ∧ i < k + (deg + 1)) && fac.testBit (i - k))) c ^^ (decide (c ≤ i) && g i))
  | 0, g, i => by show g i = (false ^^ (decide (0 ≤ i) && g i)); rw [decide_eq_true (Nat.zero_le i)]; cases g i <;> rfl
  | c + 1, g, i => by
    show mdown fac deg c (mstep g fac deg c) i = _
    have hlo : ∀ k, k < c → mstep g fac deg c k = g k := fun k hk => by
      unfold mstep
      cases g c with
      | false => rfl
      | true =>
        show xin (fun i => if i = c then false else g i) fac c (deg + 1) k = g k
        rw [xin_sp, decide_eq_false (by omega), Bool.false_and, Bool.xor_false, if_neg (by omega)]
    rw [mdown_sp c, xsb_cg (g := fun k => g k && (decide (k ≤ i ∧ i < k + (deg + 1)) && fac.testBit (i - k))) c (fun k hk => by rw [hlo k hk])]
    show (_ ^^ _) = ((xsb (fun k => g k && (decide (k ≤ i ∧ i < k + (deg + 1)) && fac.testBit (i - k))) c ^^ (g c && (decide (c ≤ i ∧ i < c + (deg + 1)) && fac.testBit (i - c)))) ^^ (decide (c + 1 ≤ i) && g i))
    rw [Bool.xor_assoc]
    congr 1
    by_cases hc : c ≤ i
    · rw [decide_eq_true hc, Bool.true_and]
      unfold mstep
      cases hg : g c with
      | false =>
        show g i = _
        by_cases h : i = c
        · rw [h, hg, Bool.and_false]; rfl
        · rw [decide_eq_true (show c + 1 ≤ i by omega)]; cases g i <;> rfl
      | true =>
        show xin (fun i => if i = c then false else g i) fac c (deg + 1) i = _
        rw [xin_sp, Bool.true_and]
        by_cases h : i = c
        · rw [if_pos h, decide_eq_false (show ¬ c + 1 ≤ i by omega)]
          cases (decide (c ≤ i ∧ i < c + (deg + 1)) && fac.testBit (i - c)) <;> rfl
        · rw [if_neg h, decide_eq_true (show c + 1 ≤ i by omega), Bool.true_and, Bool.xor_comm]
    · rw [decide_eq_false hc, decide_eq_false (show ¬ (c ≤ i ∧ i < c + (deg + 1)) by omega), decide_eq_false (show ¬ c + 1 ≤ i by omega)]
      cases g c <;> rfl
/-- a product of polynomials over the bits -/
def clm (a b : Nat) : Nat → Nat
  | 0 => 0
  | k + 1 => clm a b k ^^^ (if a.testBit k then b * 2 ^ k else 0)
theorem clm_bit {a b i : Nat} : ∀ n, (clm a b n).testBit i = xsb (fun k => a.testBit k && (decide (k ≤ i) && b.testBit (i - k))) n
  | 0 => Nat.zero_testBit i
  | n + 1 => by
    show (clm a b n ^^^ (if a.testBit n then b * 2 ^ n else 0)).testBit i = (xsb _ n ^^ _)
    rw [Nat.testBit_xor, clm_bit n]
    congr 1
    show _ = (a.testBit n && (decide (n ≤ i) && b.testBit (i - n)))
    cases a.testBit n with
    | false => exact Nat.zero_testBit i
    | true =>
      show (b * 2 ^ n).testBit i = _
      rw [← Nat.shiftLeft_eq, Nat.testBit_shiftLeft, Bool.true_and]
theorem mdown_clm {fac deg G r : Nat} (hf : fac < 2 ^ (deg + 1)) (hG : G < 2 ^ (r + 1)) {g : Nat → Bool} (hg : ∀ j, g j = G.testBit j) (i : Nat) : mdown fac deg (r + 1) g i = (clm G fac (r + 1)).testBit i := by
  have e0 : (decide (r + 1 ≤ i) && g i) = false := by
    by_cases h : r + 1 ≤ i
    · rw [hg, Nat.testBit_lt_two_pow (Nat.lt_of_lt_of_le hG (Nat.pow_le_pow_right (by decide) h)), Bool.and_false]
    · rw [decide_eq_false h, Bool.false_and]
  rw [mdown_sp, e0, Bool.xor_false, clm_bit]
  refine xsb_cg _ (fun k _ => ?_)
  rw [hg]
  congr 1
  by_cases h : k ≤ i
  · by_cases h2 : i < k + (deg + 1)
    · rw [decide_eq_true ⟨h, h2⟩, decide_eq_true h]
    · rw [decide_eq_false (fun z => h2 z.2), Nat.testBit_lt_two_pow (Nat.lt_of_lt_of_le hf (Nat.pow_le_pow_right (by decide) (by omega))), Bool.and_false, Bool.and_false]
  · rw [decide_eq_false (fun z => h z.1), decide_eq_false h]
theorem gad_sp {g sp : Nat → Bool} {j : Nat} : ∀ n i, gad g sp j n i = (g i ^^ (decide (j ≤ i ∧ i < j + n) && sp (i - j)))
  | 0, i => by show g i = _; rw [decide_eq_false (by omega), Bool.false_and, Bool.xor_false]
  | n + 1, i => by
    show bup (gad g sp j n) (n + j) (gad g sp j n (n + j) ^^ sp n) i = _
    unfold bup
    by_cases h : i = n + j
    · rw [if_pos h, gad_sp n, h, decide_eq_false (by omega), decide_eq_true (by omega), show n + j - j = n by omega, Bool.false_and, Bool.xor_false, Bool.true_and]
    · rw [if_neg h, gad_sp n]
      congr 2
      exact decide_eq_decide.mpr (by omega)
def gtp (v : Nat) : Nat → Nat
  | 0 => 0
  | j + 1 => if v.testBit j then j else gtp v j
theorem gml_sp {g sp : Nat → Bool} {deg v : Nat} : ∀ n, (gml g sp deg v n).2 = gtp v n ∧ ∀ i, (gml g sp deg v n).1 i = (g i ^^ xsb (fun j => v.testBit j && (decide (j ≤ i ∧ i < j + (deg + 1)) && sp (i - j))) n)
  | 0 => ⟨rfl, fun i => by show g i = (g i ^^ false); rw [Bool.xor_false]⟩
  | n + 1 => by
    obtain ⟨h1, h2⟩ := gml_sp (g := g) (sp := sp) (deg := deg) (v := v) n
    unfold gml gtp
    by_cases hv : v.testBit n = true
    · rw [if_pos hv, if_pos hv]
      refine ⟨rfl, fun i => ?_⟩
      show gad (gml g sp deg v n).1 sp n (deg + 1) i = (g i ^^ (xsb (fun j => v.testBit j && (decide (j ≤ i ∧ i < j + (deg + 1)) && sp (i - j))) n ^^ (v.testBit n && (decide (n ≤ i ∧ i < n + (deg + 1)) && sp (i - n)))))
      rw [gad_sp, h2, hv, Bool.true_and, Bool.xor_assoc]
    · rw [if_neg hv, if_neg hv]
      refine ⟨h1, fun i => ?_⟩
      show (gml g sp deg v n).1 i = (g i ^^ (xsb (fun j => v.testBit j && (decide (j ≤ i ∧ i < j + (deg + 1)) && sp (i - j))) n ^^ (v.testBit n && (decide (n ≤ i ∧ i < n + (deg + 1)) && sp (i - n)))))
      rw [h2, Bool.eq_false_iff.mpr hv, Bool.false_and, Bool.xor_false]
theorem gml_clm {v G r : Nat} (hG : G < 2 ^ (r + 1)) {g s0 : Nat → Bool} (hg : ∀ j, g j = G.testBit j) (i : Nat) : (gml (gz g (r + 1)) (scp s0 g (r + 1)) r v 14).1 i = (clm v G 14).testBit i := by
  have e0 : gz g (r + 1) i = false := by
    unfold gz
    by_cases h : i < r + 1
    · rw [if_pos h]
    · rw [if_neg h, hg]
      exact Nat.testBit_lt_two_pow (Nat.lt_of_lt_of_le hG (Nat.pow_le_pow_right (by decide) (by omega)))
  rw [(gml_sp 14).2, e0, Bool.false_xor, clm_bit]
  refine xsb_cg _ (fun k _ => ?_)
  congr 1
  unfold scp
  by_cases h : k ≤ i
  · rw [decide_eq_true h, Bool.true_and]
    by_cases h2 : i < k + (r + 1)
    · rw [decide_eq_true ⟨h, h2⟩, Bool.true_and, if_pos (by omega), hg]
    · rw [decide_eq_false (fun z => h2 z.2), Bool.false_and]
      exact (Nat.testBit_lt_two_pow (Nat.lt_of_lt_of_le hG (Nat.pow_le_pow_right (by decide) (by omega)))).symm
  · rw [decide_eq_false (fun z => h z.1), decide_eq_false h, Bool.false_and, Bool.false_and]
/-- a number first made, then used -/
def frc {α : Type} (n : Nat) (f : Nat → α) : α := match n with
  | 0 => f 0
  | k + 1 => f (k + 1)
theorem frc_eq {α : Type} {n : Nat} {f : Nat → α} : frc n f = f n := by cases n <;> rfl
def mpl (m root : Nat) : List Nat → Nat → List Nat
  | [], prev => [prev]
  | x :: xs, prev => frc (prev ^^^ prh m x root m) (fun y => y :: mpl m root xs x)
theorem mpl_len {m root : Nat} : ∀ (c : List Nat) (prev : Nat), (mpl m root c prev).length = c.length + 1
  | [], prev => rfl
  | x :: xs, prev => by unfold mpl; rw [frc_eq, List.length_cons, mpl_len xs x, List.length_cons]
theorem mpl_at {m root : Nat} (h3 : 3 ≤ m) (h13 : m ≤ 13) (hr : root < 2 ^ m) : ∀ (c : List Nat) (prev : Nat), (∀ j, c.getD j 0 < 2 ^ m) → ∀ j, (mpl m root c prev).getD j 0 = (if j = 0 then prev else c.getD (j - 1) 0) ^^^ fmul m (c.getD j 0) root
  | [], prev, _, j => by
    show [prev].getD j 0 = _
    rw [show ([] : List Nat).getD j 0 = 0 from rfl, fmul_zl, Nat.xor_zero]
    cases j with
    | zero => rfl
    | succ j => rfl
  | x :: xs, prev, hc, j => by
    unfold mpl
    rw [frc_eq]
    have hx : x < 2 ^ m := hc 0
    have hxs : ∀ j, xs.getD j 0 < 2 ^ m := fun j => hc (j + 1)
    cases j with
    | zero =>
      show prev ^^^ prh m x root m = prev ^^^ fmul m x root
      rw [prh_eq h3 h13 hx hr]
    | succ j =>
      show (mpl m root xs x).getD j 0 = (x :: xs).getD j 0 ^^^ fmul m (xs.getD j 0) root
      rw [mpl_at h3 h13 hr xs x hxs j]
      cases j with
      | zero => rfl
      | succ j => rfl
def mpLr (m : Nat) : Nat → Nat → List Nat → List Nat
  | 0, _, c => c
  | k + 1, root, c => frc (prh m root root m) (fun r2 => mpLr m k r2 (mpl m root c 0))
theorem mpLr_at {m s : Nat} (h3 : 3 ≤ m) (h13 : m ≤ 13) (hs : s < 2 ^ m - 1) : ∀ (k r root : Nat) (c : List Nat), (∀ j, c.getD j 0 = mpc m s r j) → c.length = r + 1 → root = pwr m (exq (2 ^ m - 1) s r) → (∀ j, (mpLr m k root c).getD j 0 = mpc m s (r + k) j) ∧ (mpLr m k root c).length = r + k + 1
  | 0, r, root, c, h1, h2, _ => ⟨h1, h2⟩
  | k + 1, r, root, c, h1, h2, h4 => by
    have hrl : root < 2 ^ m := by rw [h4]; exact pwr_lt h3 h13 _
    show (∀ j, (frc (prh m root root m) (fun r2 => mpLr m k r2 (mpl m root c 0))).getD j 0 = _) ∧ (frc (prh m root root m) (fun r2 => mpLr m k r2 (mpl m root c 0))).length = _
    rw [frc_eq, show r + (k + 1) = (r + 1) + k by omega]
    refine mpLr_at h3 h13 hs k (r + 1) _ _ (fun j => ?_) (by rw [mpl_len, h2]) ?_
    · rw [mpl_at h3 h13 hrl c 0 (fun j => by rw [h1]; exact mpc_lt h3 h13 r j), h1 j]
      show _ = mbr m (mpc m s r) (pwr m (exq (2 ^ m - 1) s r)) r j
      rw [← h4]
      unfold mbr
      by_cases h0 : j = 0
      · rw [if_pos h0, if_pos h0, h0, Nat.zero_xor]
      · rw [if_neg h0, if_neg h0, h1 (j - 1)]
        by_cases h5 : j ≤ r + 1
        · rw [if_pos h5]
        · rw [if_neg h5, mpc_hi r j (by omega), mpc_hi r (j - 1) (by omega), fmul_zl]; rfl
    · rw [prh_eq h3 h13 hrl hrl, h4, fmul_pwr h3 h13]
      show _ = pwr m (dbl (exq (2 ^ m - 1) s r) (2 ^ m - 1))
      rw [dbl_mod (exq_lt hs r), pwr_mod h3 h13, show 2 * exq (2 ^ m - 1) s r = exq (2 ^ m - 1) s r + exq (2 ^ m - 1) s r by omega]
def numL : List Nat → Nat
  | [] => 0
  | x :: xs => x ||| (2 * numL xs)
theorem two_or (a b : Nat) : 2 * (a ||| b) = (2 * a) ||| (2 * b) := by
  have := Nat.shiftLeft_or_distrib (i := 1) (a := a) (b := b)
  simpa only [Nat.shiftLeft_eq, Nat.pow_one, Nat.mul_comm _ 2] using this
theorem mnum_cons {f : Nat → Nat} : ∀ n, mnum f (n + 1) = f 0 ||| (2 * mnum (fun j => f (j + 1)) n)
  | 0 => by show 0 ||| (f 0 * 2 ^ 0) = f 0 ||| (2 * 0); rw [Nat.pow_zero, Nat.mul_one, Nat.mul_zero, Nat.zero_or, Nat.or_zero]
  | n + 1 => by
    show mnum f (n + 1) ||| (f (n + 1) * 2 ^ (n + 1)) = f 0 ||| (2 * (mnum (fun j => f (j + 1)) n ||| (f (n + 1) * 2 ^ n)))
    rw [mnum_cons n, two_or, Nat.or_assoc, Nat.pow_succ, show f (n + 1) * (2 ^ n * 2) = 2 * (f (n + 1) * 2 ^ n) by rw [← Nat.mul_assoc, Nat.mul_comm]]
theorem numL_mnum : ∀ l : List Nat, numL l = mnum (fun j => l.getD j 0) l.length
  | [] => rfl
  | x :: xs => by
    show x ||| (2 * numL xs) = _
    rw [numL_mnum xs, List.length_cons, mnum_cons]
    rfl
/-- the minimal polynomial, fast -/
def mpF (m i : Nat) : Nat := numL (mpLr m (csize i m) (pwr m (i % (2 ^ m - 1))) [1])
theorem mpF_eq {m i : Nat} (h3 : 3 ≤ m) (h13 : m ≤ 13) : mpF m i = mpoly m i := by
  have ht := two_le h3 h13
  obtain ⟨h1, h2⟩ := mpLr_at h3 h13 (s := i % (2 ^ m - 1)) (Nat.mod_lt _ (by omega)) (csize i m) 0 (pwr m (i % (2 ^ m - 1))) [1] (fun j => by cases j <;> rfl) rfl rfl
  unfold mpF mpoly
  rw [numL_mnum, h2, Nat.zero_add]
  exact mnum_congr _ (fun j _ => by rw [h1, Nat.zero_add])
/-- the value at A^i of the polynomial with G's bits -/
def evH (m i G : Nat) : Nat → Nat → Nat
  | 0, acc => acc
  | k + 1, acc => frc (mit m i acc ^^^ (G.testBit k).toNat) (fun a => evH m i G k a)
theorem evH_fe {K : Type} [R : Lean.Grind.CommRing K] {m : Nat} {p : Nat → K} (hp : Hm m p) (h3 : 3 ≤ m) (h13 : m ≤ 13) {i G : Nat} : ∀ k acc, acc < 2 ^ m → evH m i G k acc < 2 ^ m ∧ p (evH m i G k acc) = p acc * p (pwr m i) ^ k + sm (fun q => if G.testBit q then p (pwr m i) ^ q else 0) k
  | 0, acc, h => ⟨h, by
    show p acc = p acc * p (pwr m i) ^ 0 + 0
    rw [Lean.Grind.Semiring.pow_zero]; exact (show ∀ a : K, a = a * 1 + 0 by intro a; grind) _⟩
  | k + 1, acc, h => by
    have ht := two_le h3 h13
    have hb : mit m i acc ^^^ (G.testBit k).toNat < 2 ^ m := Nat.xor_lt_two_pow (mit_lt h3 h13 h i) (by cases G.testBit k <;> simp <;> omega)
    obtain ⟨h1, h2⟩ := evH_fe hp h3 h13 (i := i) (G := G) k _ hb
    show frc _ _ < 2 ^ m ∧ p (frc _ _) = _
    rw [frc_eq]
    refine ⟨h1, ?_⟩
    have e1 : p (mit m i acc) = p (pwr m i) * p acc := by rw [← fmul_mit h3 h13 h, hp.2.1 _ _ (pwr_lt h3 h13 _) h]
    rw [h2, hp.1, e1, Lean.Grind.Semiring.pow_succ]
    show _ = p acc * (p (pwr m i) ^ k * p (pwr m i)) + (sm (fun q => if G.testBit q then p (pwr m i) ^ q else 0) k + (if G.testBit k then p (pwr m i) ^ k else 0))
    generalize sm (fun q => if G.testBit q then p (pwr m i) ^ q else 0) k = z
    generalize p (pwr m i) ^ k = y
    generalize p (pwr m i) = x
    generalize p acc = a
    cases G.testBit k with
    | true =>
      rw [show true.toNat = 1 from rfl, hp.2.2.2.1, if_pos rfl]
      exact (show ∀ x y z a : K, (x * a + 1) * y + z = a * (y * x) + (z + y) by intro x y z a; grind) x y z a
    | false =>
      rw [show false.toNat = 0 from rfl, hp.2.2.1, if_neg (by decide)]
      exact (show ∀ x y z a : K, (x * a + 0) * y + z = a * (y * x) + (z + 0) by intro x y z a; grind) x y z a
theorem fe_rsum {K : Type} [R : Lean.Grind.CommRing K] {m : Nat} {p : Nat → K} (hp : Hm m p) (h3 : 3 ≤ m) (h13 : m ≤ 13) {g : Nat → Bool} {s : Nat} : ∀ n, p (rsum m g s n) = sm (fun q => if g q then p (pwr m s) ^ q else 0) n
  | 0 => hp.2.2.1
  | n + 1 => by
    show p (if g n then rsum m g s n ^^^ pwr m (n * s) else rsum m g s n) = sm (fun q => if g q then p (pwr m s) ^ q else 0) n + (if g n then p (pwr m s) ^ n else 0)
    rw [← fe_rsum hp h3 h13 n]
    cases g n with
    | true =>
      show p (rsum m g s n ^^^ pwr m (n * s)) = _ + p (pwr m s) ^ n
      rw [hp.1, Nat.mul_comm, hp.pw h3 h13]
    | false => exact (show ∀ a : K, a = a + 0 by intro a; grind) _
theorem rsum_ev {m i G r : Nat} (h3 : 3 ≤ m) (h13 : m ≤ 13) {g : Nat → Bool} (hg : ∀ j, g j = G.testBit j) : rsum m g (i % (2 ^ m - 1)) (r + 1) = 0 ↔ evH m i G (r + 1) 0 = 0 := by
  letI := FF.ring h3 h13
  letI := FF.chr h3 h13
  have hp := FF.hm h3 h13
  obtain ⟨h1, h2⟩ := evH_fe hp h3 h13 (i := i) (G := G) (r + 1) 0 (Nat.two_pow_pos m)
  have h4 := fe_rsum hp h3 h13 (g := g) (s := i % (2 ^ m - 1)) (r + 1)
  rw [pwr_mod h3 h13, sm_congr (g := fun q => if G.testBit q then fe m (pwr m i) ^ q else 0) _ (fun q _ => by rw [hg])] at h4
  have e : fe m (evH m i G (r + 1) 0) = fe m (rsum m g (i % (2 ^ m - 1)) (r + 1)) := by
    rw [h2, h4, hp.2.2.1]
    grind
  have := hp.in_ h1 (rsum_lt h3 h13 _) e
  rw [this]
