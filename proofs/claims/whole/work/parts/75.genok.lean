/-- the generator and its degree, after t steps of two -/
def gst (m : Nat) : Nat → Nat × Nat
  | 0 => (1, 0)
  | t + 1 => (if cnew (2 * t + 1) m then clm (gst m t).1 (mpF m (2 * t + 1)) ((gst m t).2 + 1) else (gst m t).1, if cnew (2 * t + 1) m then (gst m t).2 + csize (2 * t + 1) m else (gst m t).2)
def GS (m t : Nat) : Prop :=
  (evH m (2 * t + 1) (gst m t).1 ((gst m t).2 + 1) 0 = 0 → (gst m (t + 1)).1 = (gst m t).1 ∧ (gst m (t + 1)).2 = (gst m t).2) ∧
  (¬ evH m (2 * t + 1) (gst m t).1 ((gst m t).2 + 1) 0 = 0 → clm (mpF m (2 * t + 1)) (gst m t).1 14 = (gst m (t + 1)).1 ∧ (gst m t).2 + gtp (mpF m (2 * t + 1)) 14 = (gst m (t + 1)).2) ∧
  evH m (2 * t + 2) (gst m (t + 1)).1 ((gst m (t + 1)).2 + 1) 0 = 0 ∧ (gst m (t + 1)).1 / 2 ^ (gst m (t + 1)).2 = 1 ∧ mpF m (2 * t + 1) < 2 ^ (csize (2 * t + 1) m + 1) ∧ 1 ≤ (gst m (t + 1)).2 ∧ evs m (gst m (t + 1)).1 ((gst m (t + 1)).2 + 1) (t + 1) = true
theorem ckg_sp {m : Nat} : ∀ f t, ckg m f t (gst m t).1 (gst m t).2 = true → ∀ k, k < f → GS m (t + k)
  | 0, t, _, k, hk => absurd hk (by omega)
  | f + 1, t, h, k, hk => by
    unfold ckg at h
    rw [frc_eq, frc_eq, frc_eq] at h
    simp only [Bool.and_eq_true, decide_eq_true_eq] at h
    obtain ⟨⟨⟨⟨⟨⟨h1, h2⟩, h3⟩, h4⟩, h5⟩, h6⟩, h7⟩ := h
    cases k with
    | zero =>
      show GS m t
      refine ⟨fun z => ?_, fun z => ?_, h2, h3, h4, h5, h6⟩
      · rw [if_pos z] at h1
        simp only [Bool.and_eq_true, decide_eq_true_eq] at h1
        exact h1
      · rw [if_neg z] at h1
        simp only [Bool.and_eq_true, decide_eq_true_eq] at h1
        exact h1
    | succ k =>
      have := ckg_sp f (t + 1) h7 k (by omega)
      rwa [show t + 1 + k = t + (k + 1) by omega] at this
theorem GS_all {m t : Nat} (h3 : 3 ≤ m) (h13 : m ≤ 13) (ht : t < 8) : GS m t := by
  have := ckg_sp 8 0 (ckg_all m (by omega) h3) t ht
  rwa [Nat.zero_add] at this
theorem gst_lt {m t : Nat} (h3 : 3 ≤ m) (h13 : m ≤ 13) (ht : t ≤ 8) : (gst m t).1 < 2 ^ ((gst m t).2 + 1) ∧ (gst m t).1.testBit (gst m t).2 = true := by
  cases t with
  | zero => exact ⟨(by decide : (1 : Nat) < 2 ^ (0 + 1)), (by decide : Nat.testBit 1 0 = true)⟩
  | succ t =>
    obtain ⟨_, _, _, h4, _⟩ := GS_all h3 h13 (show t < 8 by omega)
    have hp := Nat.two_pow_pos (gst m (t + 1)).2
    refine ⟨?_, ?_⟩
    · rw [Nat.pow_succ]
      rw [Nat.div_eq_iff hp] at h4
      omega
    · rw [Nat.testBit_eq_decide_div_mod_eq, h4]; rfl
theorem gmk_sp {m t : Nat} (h3 : 3 ≤ m) (h13 : m ≤ 13) (ht : t ≤ 8) : ∀ (f k : Nat) (s : Gs), k + f = t → (∀ j, s.1 j = (gst m k).1.testBit j) → s.2.1 = (gst m k).2 → (∀ j, (gmk m t f (2 * k + 1) s).1 j = (gst m t).1.testBit j) ∧ (gmk m t f (2 * k + 1) s).2.1 = (gst m t).2
  | 0, k, s, hk, h1, h2 => by
    have e : k = t := by omega
    subst e
    exact ⟨h1, h2⟩
  | f + 1, k, s, hk, h1, h2 => by
    show (∀ j, (if 2 * t ≤ 2 * k + 1 then s else gmk m t f (2 * k + 1 + 2) (gnx m (2 * k + 1) s)).1 j = _) ∧ (if 2 * t ≤ 2 * k + 1 then s else gmk m t f (2 * k + 1 + 2) (gnx m (2 * k + 1) s)).2.1 = _
    rw [if_neg (by omega), show 2 * k + 1 + 2 = 2 * (k + 1) + 1 by omega]
    obtain ⟨_, _, _, _, g5, _⟩ := GS_all h3 h13 (show k < 8 by omega)
    have hG := (gst_lt (t := k) h3 h13 (by omega)).1
    refine gmk_sp h3 h13 ht f (k + 1) _ (by omega) (fun j => ?_) ?_
    · unfold gnx
      show _ = (if cnew (2 * k + 1) m then clm (gst m k).1 (mpF m (2 * k + 1)) ((gst m k).2 + 1) else (gst m k).1).testBit j
      cases cnew (2 * k + 1) m with
      | true =>
        show mdown (mpoly m (2 * k + 1)) (csize (2 * k + 1) m) (s.2.1 + 1) s.1 j = (clm (gst m k).1 (mpF m (2 * k + 1)) ((gst m k).2 + 1)).testBit j
        rw [mpF_eq h3 h13] at g5 ⊢
        rw [h2]
        exact mdown_clm g5 hG h1 j
      | false => exact h1 j
    · unfold gnx
      show _ = (if cnew (2 * k + 1) m then (gst m k).2 + csize (2 * k + 1) m else (gst m k).2)
      cases cnew (2 * k + 1) m with
      | true => show s.2.1 + csize (2 * k + 1) m = _; rw [h2]; rfl
      | false => exact h2
theorem gen_ok {m t : Nat} {cf : Nat → Int32} (h3 : 3 ≤ m) (h13 : m ≤ 13) (ht : t ≤ 8) : (∀ j, (gen m t cf).1 j = (gst m t).1.testBit j) ∧ (gen m t cf).2.1 = (gst m t).2 :=
  gmk_sp h3 h13 ht t 0 (g0, 0, cf) (by omega) (fun j => by
    show (j == 0) = Nat.testBit 1 j
    rw [show (1 : Nat) = 2 ^ 0 from rfl, Nat.testBit_two_pow]
    cases j <;> rfl) rfl
theorem tll_sp {m t : Nat} : ∀ (f k : Nat), k ≤ t → t ≤ k + f → tll m t f (2 * k + 1) (gst m k).2 = (gst m t).2
  | 0, k, h1, h2 => by
    have e : k = t := by omega
    subst e
    rfl
  | f + 1, k, h1, h2 => by
    show (if 2 * t ≤ 2 * k + 1 then (gst m k).2 else tll m t f (2 * k + 1 + 2) (if cnew (2 * k + 1) m then (gst m k).2 + csize (2 * k + 1) m else (gst m k).2)) = _
    by_cases h : 2 * t ≤ 2 * k + 1
    · rw [if_pos h]
      have e : k = t := by omega
      rw [e]
    · rw [if_neg h, show 2 * k + 1 + 2 = 2 * (k + 1) + 1 by omega]
      exact tll_sp f (k + 1) (by omega) (by omega)
theorem ctail_gst {m t : Nat} : ctail m t = (gst m t).2 := tll_sp (2 * t) 0 (Nat.zero_le _) (by omega)
theorem mgx_z {m i r : Nat} {s : Gm} (h3 : 3 ≤ m) (h13 : m ≤ 13) {G : Nat} (h1 : ∀ j, s.1 j = G.testBit j) (h2 : s.2.1 = r) (hz : evH m i G (r + 1) 0 = 0) : mgx m i s = s := by
  unfold mgx
  rw [h2, if_pos ((rsum_ev h3 h13 h1).mpr hz)]
theorem mgx_n {m i r : Nat} {s : Gm} (h3 : 3 ≤ m) (h13 : m ≤ 13) {G : Nat} (hG : G < 2 ^ (r + 1)) (h1 : ∀ j, s.1 j = G.testBit j) (h2 : s.2.1 = r) (hz : ¬ evH m i G (r + 1) 0 = 0) : (∀ j, (mgx m i s).1 j = (clm (mpF m i) G 14).testBit j) ∧ (mgx m i s).2.1 = r + gtp (mpF m i) 14 := by
  have hm : mpoly m (i % (2 ^ m - 1)) = mpF m i := by
    rw [mpF_eq h3 h13]
    unfold mpoly csize
    rw [Nat.mod_mod]
  unfold mgx
  rw [h2, if_neg (fun z => hz ((rsum_ev h3 h13 h1).mp z)), hm]
  exact ⟨fun j => gml_clm hG h1 j, by show r + (gml _ _ _ _ 14).2 = _; rw [(gml_sp 14).1]⟩
theorem mgo_sp {m : Nat} (h3 : 3 ≤ m) (h13 : m ≤ 13) : ∀ (f k : Nat) (s : Gm), k + f ≤ 8 → (∀ j, s.1 j = (gst m k).1.testBit j) → s.2.1 = (gst m k).2 → (∀ j, (mgo m (2 * f) (2 * k + 1) s).1 j = (gst m (k + f)).1.testBit j) ∧ (mgo m (2 * f) (2 * k + 1) s).2.1 = (gst m (k + f)).2
  | 0, k, s, hk, h1, h2 => ⟨h1, h2⟩
  | f + 1, k, s, hk, h1, h2 => by
    show (∀ j, (mgo m (2 * f) (2 * k + 1 + 1 + 1) (mgx m (2 * k + 1 + 1) (mgx m (2 * k + 1) s))).1 j = _) ∧ (mgo m (2 * f) (2 * k + 1 + 1 + 1) (mgx m (2 * k + 1 + 1) (mgx m (2 * k + 1) s))).2.1 = _
    obtain ⟨g1, g2, g3, _⟩ := GS_all h3 h13 (show k < 8 by omega)
    have hG := (gst_lt (t := k) h3 h13 (by omega)).1
    have hs : (∀ j, (mgx m (2 * k + 1) s).1 j = (gst m (k + 1)).1.testBit j) ∧ (mgx m (2 * k + 1) s).2.1 = (gst m (k + 1)).2 := by
      by_cases hz : evH m (2 * k + 1) (gst m k).1 ((gst m k).2 + 1) 0 = 0
      · rw [mgx_z h3 h13 h1 h2 hz, (g1 hz).1, (g1 hz).2]
        exact ⟨h1, h2⟩
      · have := mgx_n h3 h13 hG h1 h2 hz
        rw [(g2 hz).1, (g2 hz).2] at this
        exact this
    rw [mgx_z h3 h13 hs.1 hs.2 g3, show 2 * k + 1 + 1 + 1 = 2 * (k + 1) + 1 by omega, show k + (f + 1) = k + 1 + f by omega]
    exact mgo_sp h3 h13 f (k + 1) _ (by omega) hs.1 hs.2
theorem mgo_ok {m t : Nat} {md : Nat → Nat} {sp : Nat → Bool} (h3 : 3 ≤ m) (h13 : m ≤ 13) (ht : t ≤ 8) : (∀ j, (mgo m (2 * t) 1 (g0, 0, md, sp)).1 j = (gst m t).1.testBit j) ∧ (mgo m (2 * t) 1 (g0, 0, md, sp)).2.1 = (gst m t).2 := by
  have := mgo_sp h3 h13 t 0 (g0, 0, md, sp) (by omega) (fun j => by
    show (j == 0) = Nat.testBit 1 j
    rw [show (1 : Nat) = 2 ^ 0 from rfl, Nat.testBit_two_pow]
    cases j <;> rfl) rfl
  rwa [show 0 + t = t from Nat.zero_add t] at this
theorem evs_sp {m G n : Nat} : ∀ k, evs m G n k = true → ∀ j, j < k → evH m (2 * j + 1) G n 0 = 0
  | 0, _, j, hj => absurd hj (by omega)
  | k + 1, h, j, hj => by
    unfold evs at h
    rw [Bool.and_eq_true, decide_eq_true_eq] at h
    by_cases hk : j = k
    · rw [hk]; exact h.2
    · exact evs_sp k h.1 j (by omega)
/-- the value of a polynomial over the bits -/
def vK {K : Type} [R : Lean.Grind.CommRing K] (g : Nat → Bool) (x : K) (n : Nat) : K := sm (fun q => if g q then x ^ q else 0) n
theorem vK_sq {K : Type} [R : Lean.Grind.CommRing K] [Ch : Lean.Grind.IsCharP K 2] {g : Nat → Bool} {x : K} {n : Nat} : vK g (x * x) n = vK g x n * vK g x n := by
  unfold vK
  rw [sm_sq]
  refine sm_congr n (fun q _ => ?_)
  cases g q with
  | true => exact mul_pw x x q
  | false => exact (show (0 : K) = 0 * 0 by grind)
theorem van {K : Type} [R : Lean.Grind.CommRing K] [Ch : Lean.Grind.IsCharP K 2] {m : Nat} {p : Nat → K} (hp : Hm m p) (h3 : 3 ≤ m) (h13 : m ≤ 13) {t : Nat} (ht1 : 1 ≤ t) (ht8 : t ≤ 8) : ∀ i, 1 ≤ i → i ≤ 2 * t → vK (fun j => (gst m t).1.testBit j) (p (pwr m i)) ((gst m t).2 + 1) = 0 := by
  intro i
  induction i using Nat.strongRecOn with
  | ind i ih =>
    intro h1 h2
    rcases Nat.mod_two_eq_zero_or_one i with h | h
    · have e : i = i / 2 + i / 2 := by omega
      have h0 := ih (i / 2) (by omega) (by omega) (by omega)
      rw [e, ← fmul_pwr h3 h13, hp.2.1 _ _ (pwr_lt h3 h13 _) (pwr_lt h3 h13 _), vK_sq, h0]
      exact (show (0 : K) * 0 = 0 by grind)
    · obtain ⟨_, _, _, _, _, _, g7⟩ := GS_all h3 h13 (show t - 1 < 8 by omega)
      rw [show t - 1 + 1 = t by omega] at g7
      have h0 := evs_sp t g7 (i / 2) (by omega)
      rw [show 2 * (i / 2) + 1 = i by omega] at h0
      have h4 := (evH_fe hp h3 h13 (i := i) (G := (gst m t).1) ((gst m t).2 + 1) 0 (Nat.two_pow_pos m)).2
      rw [h0, hp.2.2.1] at h4
      unfold vK
      have : ∀ a b : K, 0 = 0 * a + b → b = 0 := by intro a b h; grind
      exact this _ _ h4
/-! the roots -/
def cosL (N : Nat) : Nat → Nat → List Nat
  | _, 0 => []
  | e, k + 1 => e :: cosL N (dbl e N) k
def esl (m : Nat) : Nat → List Nat
  | 0 => []
  | t + 1 => if cnew (2 * t + 1) m then cosL (2 ^ m - 1) ((2 * t + 1) % (2 ^ m - 1)) (csize (2 * t + 1) m) ++ esl m t else esl m t
def nin (x : Nat) : List Nat → Bool
  | [] => true
  | y :: ys => (x != y) && nin x ys
def ndp : List Nat → Bool
  | [] => true
  | x :: xs => nin x xs && ndp xs
set_option maxRecDepth 100000 in
theorem esl_nd : ∀ m, m < 14 → 3 ≤ m → ndp (esl m 8) = true := by decide +kernel
